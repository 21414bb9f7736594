/-! THE REFERENCE: draw, move -/
def sdn (s : Int32) : Int32 := s * 1103515245 + nI 12345
def sdo (s : Int32) : Nat := (s >>> (nI 16 &&& 31)).toBitVec.toNat % 2 ^ 15
theorem sdo_lt (s : Int32) : sdo s < 32768 := Nat.mod_lt _ (by decide)
/-- rows that a call may use as it likes -/
def scr (A : Nat → Nat → Int32) (F : Nat → Int32) (A' : Nat → Nat → Int32) (F' : Nat → Int32) : Prop := (∀ k, k = 3 ∨ k = 4 ∨ k = 5 → A' k = A k) ∧ F' 6 = F 6 ∧ F' 11 = F 11
theorem scr_r (A : Nat → Nat → Int32) (F : Nat → Int32) : scr A F A F := ⟨fun _ _ => rfl, rfl, rfl⟩
theorem scr_t {A1 A2 A3 : Nat → Nat → Int32} {F1 F2 F3 : Nat → Int32} (h1 : scr A1 F1 A2 F2) (h2 : scr A2 F2 A3 F3) : scr A1 F1 A3 F3 := ⟨fun k hk => (h2.1 k hk).trans (h1.1 k hk), h2.2.1.trans h1.2.1, h2.2.2.trans h1.2.2⟩
theorem scr_B (A : Nat → Nat → Int32) (F : Nat → Int32) (B : Nat → Int32) : scr A F (vf_upd A 1 B) F := ⟨fun k hk => vu_n _ _ _ _ (by omega), rfl, rfl⟩
theorem scr_s (A : Nat → Nat → Int32) (F : Nat → Int32) (x : Int32) : scr A F A (upd F 15 x) := ⟨fun _ _ => rfl, by simp [upd], by simp [upd]⟩
def dd (v : Nat → Nat) (which a b c : Nat) : Int32 × (Nat → Nat) := if which = 0 then s_make v (nI a) (nI (b % 10)) (nI 1) else if which < 3 then (if (s_make v (nI a) (nI (b % 10)) (nI 2)).1 < 0 then s_make v (nI a) (nI (b % 10)) (nI 2) else s_grow (s_make v (nI a) (nI (b % 10)) (nI 2)).2 (s_make v (nI a) (nI (b % 10)) (nI 2)).1 (nI (c % 9 + 1))) else if which < 5 then s_grow v (nI a) (nI (c % 9 + 1)) else s_remove v (nI a)
theorem ivr_dd {v : Nat → Nat} (w : ivr v) (which a b c : Nat) : ivr (dd v which a b c).2 := by
  unfold dd
  split
  · exact ivr_smake w _ _ _
  · split
    · split
      · exact ivr_smake w _ _ _
      · exact ivr_sgrow (ivr_smake w _ _ _) _ _
    · split
      · exact ivr_sgrow w _ _
      · exact ivr_sremove w _
/-- the deeds of a seed: nx the next of it, o what it tells -/
def drw (nx : Int32 → Int32) (o : Int32 → Nat) : Nat → (Nat → Nat) → Int32 → Nat → Nat × (Nat → Nat)
  | 0, v, _, m => (m, v)
  | n + 1, v, s, m => drw nx o n (dd v (o (nx s) % 6) (o (nx (nx s)) % (v 0 * v 2)) (o (nx (nx (nx s)))) (o (nx (nx (nx (nx s)))))).2 (nx (nx (nx (nx s)))) (m + (if 0 ≤ (dd v (o (nx s) % 6) (o (nx (nx s)) % (v 0 * v 2)) (o (nx (nx (nx s)))) (o (nx (nx (nx (nx s)))))).1 then 1 else 0))
def s_draw (v : Nat → Nat) (s n : Int32) : Int32 × (Nat → Nat) := if inR n 1 20 = true then (if spt v = true then (-2, v) else (nI (drw sdn sdo n.toNatClampNeg v s 0).1, (drw sdn sdo n.toNatClampNeg v s 0).2)) else (-1, v)
theorem ivr_drw (nx : Int32 → Int32) (o : Int32 → Nat) : ∀ n v s m, ivr v → ivr (drw nx o n v s m).2 := by
  intro n
  induction n with
  | zero => intro v s m w; exact w
  | succ n ih => intro v s m w; rw [drw]; exact ih _ _ _ (ivr_dd w _ _ _ _)
section R13
variable {h : sg_H} (A : Nat → Nat → Int32) (F : Nat → Int32) (v : Nat → Nat)
theorem mv_uF (hn : 72 ≤ h.1) (x : Int32) : sg_up (mv h A F v) 64 (.inr (8, (mh_f F).set 15 (.int x))) = mv h A (upd F 15 x) v := mh_u15 h _ F x
set_option maxRecDepth 100000 in
theorem c_gets (hn : 72 ≤ h.1) : sg_Kw MX8_gets [.ref 64] (mv h A F v) (some (.int (nI (sdo (sdn (F 15)))))) (mv h A (upd F 15 (sdn (F 15))) v) := by
  show sg_A MX8_gets 0 [some (.ref 64)] [] _ _
  refine at_ld (i := 0) dX8_gets_0 rfl rfl rfl ?_
  refine at_ld (i := 0) dX8_gets_1 rfl rfl rfl ?_
  refine at_get dX8_gets_2 fX8_293 (mv_o hn _ _ _) (by omega) rfl ?_
  refine at_ldcw dX8_gets_5 kX8_296 ?_
  refine at_bin dX8_gets_8 rfl ?_
  refine at_k (nI 12345) dX8_gets_9 rfl (by decide) ?_
  refine at_bin dX8_gets_12 rfl ?_
  refine at_put dX8_gets_13 fX8_293 ⟨_, _, rfl, Or.inl rfl, tyX8_ok 15 (by decide), fun _ => ⟨rfl, rfl⟩⟩ (mv_o hn _ _ _) (by omega) (Nat.le_of_ble_eq_true rfl) (mv_uF A F v hn _) ?_
  refine at_ld (i := 0) dX8_gets_16 rfl rfl rfl ?_
  refine at_get dX8_gets_17 fX8_293 (mv_o hn _ _ _) (by omega) rfl ?_
  refine at_k (nI 16) dX8_gets_20 rfl (by decide) ?_
  refine at_bin dX8_gets_22 rfl ?_
  refine at_k (nI 32767) dX8_gets_23 rfl (by decide) ?_
  refine at_bin dX8_gets_26 rfl ?_
  refine at_ret dX8_gets_27 rfl rfl ?_
  refine ⟨?_, rfl⟩
  have e : upd F 15 (sdn (F 15)) 15 = sdn (F 15) := by simp [upd]
  show some (Value.int ((upd F 15 (sdn (F 15)) 15 >>> (nI 16 &&& 31)) &&& nI 32767)) = _
  rw [e, pk_and _ 15 (by decide)]
  rfl
set_option maxRecDepth 100000 in
set_option maxHeartbeats 4000000 in
theorem c_deed (hn : 72 ≤ h.1) (w : ivr v) (which a b c : Nat) (hw : which < 6) (ha : a < 24) (hb : b < 32768) (hc : c < 32768) : sg_K MX8_deed [.ref 64, .int (nI which), .int (nI a), .int (nI b), .int (nI c)] (mv h A F v) (fun r h' => r = some (.int (dd v which a b c).1) ∧ ∃ A', h' = mv h A' F (dd v which a b c).2 ∧ scr A F A' F) := by
  show sg_A MX8_deed 0 [some (.ref 64), some (.int (nI which)), some (.int (nI a)), some (.int (nI b)), some (.int (nI c)), none] [] _ _
  refine at_ld (i := 1) dX8_deed_0 rfl rfl rfl ?_
  have g1 : sg_A MX8_deed 47 [some (.ref 64), some (.int (nI which)), some (.int (nI a)), some (.int (nI b)), some (.int (nI c)), none] [] (mv h A F v) (fun r h' => r = some (.int (if (s_make v (nI a) (nI (b % 10)) (nI 2)).1 < 0 then s_make v (nI a) (nI (b % 10)) (nI 2) else s_grow (s_make v (nI a) (nI (b % 10)) (nI 2)).2 (s_make v (nI a) (nI (b % 10)) (nI 2)).1 (nI (c % 9 + 1))).1) ∧ ∃ A', h' = mv h A' F (if (s_make v (nI a) (nI (b % 10)) (nI 2)).1 < 0 then s_make v (nI a) (nI (b % 10)) (nI 2) else s_grow (s_make v (nI a) (nI (b % 10)) (nI 2)).2 (s_make v (nI a) (nI (b % 10)) (nI 2)).1 (nI (c % 9 + 1))).2 ∧ scr A F A' F) := by
    refine at_ld (i := 0) dX8_deed_47 rfl rfl rfl ?_
    refine at_ld (i := 2) dX8_deed_48 rfl rfl rfl ?_
    refine at_ld (i := 3) dX8_deed_49 rfl rfl rfl ?_
    refine at_k (nI 10) dX8_deed_50 rfl (by decide) ?_
    refine at_rem dX8_deed_52 (by decide) ?_
    rw [nI_rem (by omega) (by decide)]
    refine at_k (nI 2) dX8_deed_53 rfl (by decide) ?_
    refine at_wv [_, _, _] dX8_deed_54 mX8_make ⟨Nat.le_of_ble_eq_true rfl, Nat.le_of_ble_eq_true rfl⟩ lX8_297 iX8_make rfl rfl (mv_o hn _ _ _) (by omega) rfl (Nat.le_of_ble_eq_true rfl) (Nat.le_of_ble_eq_true rfl) ⟨rfl, rfl⟩ (c_make A F v hn w.1 w.2.1 (nI a) (nI (b % 10)) (nI 2)) ⟨rfl, rfl⟩ ?_
    try dsimp only [Option.toList, List.cons_append, List.nil_append]
    refine at_st (i := 5) dX8_deed_57 rfl rfl (Nat.le_of_ble_eq_true rfl) rfl ?_
    try dsimp only [List.set_cons_succ, List.set_cons_zero]
    refine at_ld (i := 5) dX8_deed_59 rfl rfl rfl ?_
    have w2 := ivr_smake w (nI a) (nI (b % 10)) (nI 2)
    generalize s_make v (nI a) (nI (b % 10)) (nI 2) = r1 at w2
    refine at_zge 69 dX8_deed_61 (by decide) (fun c1 => ?_) (fun c1 => ?_)
    · rw [if_neg (Int32.not_lt.mpr c1)]
      refine at_ld (i := 0) dX8_deed_69 rfl rfl rfl ?_
      refine at_ld (i := 5) dX8_deed_70 rfl rfl rfl ?_
      refine at_ld (i := 4) dX8_deed_72 rfl rfl rfl ?_
      refine at_k (nI 9) dX8_deed_74 rfl (by decide) ?_
      refine at_rem dX8_deed_76 (by decide) ?_
      rw [nI_rem (by omega) (by decide)]
      refine at_k (nI 1) dX8_deed_77 rfl (by decide) ?_
      refine at_bin dX8_deed_78 rfl ?_
      try dsimp only
      rw [nI_add]
      refine at_cv [_, _] dX8_deed_79 mX8_grow ⟨Nat.le_of_ble_eq_true rfl, Nat.le_of_ble_eq_true rfl⟩ lX8_300 iX8_grow rfl rfl (mv_o hn _ _ _) (by omega) rfl (Nat.le_of_ble_eq_true rfl) (Nat.le_of_ble_eq_true rfl) (c_grow A F r1.2 hn w2.1 w2.2.2 r1.1 (nI (c % 9 + 1))) ?_ ?_
      · rintro r h1 ⟨-, B, rfl⟩
        exact ⟨rfl, rfl⟩
      · rintro r h1 ⟨rfl, B, rfl⟩
        refine at_ret dX8_deed_82 rfl rfl ?_
        exact ⟨rfl, _, rfl, scr_B A F B⟩
    · rw [if_pos (Int32.not_le.mp c1)]
      refine at_ld (i := 5) dX8_deed_64 rfl rfl rfl ?_
      refine at_goto 82 dX8_deed_66 (by decide) ?_
      refine at_ret dX8_deed_82 rfl rfl ?_
      exact ⟨rfl, _, rfl, scr_r A F⟩
  have g3 : sg_A MX8_deed 83 [some (.ref 64), some (.int (nI which)), some (.int (nI a)), some (.int (nI b)), some (.int (nI c)), none] [] (mv h A F v) (fun r h' => r = some (.int (s_grow v (nI a) (nI (c % 9 + 1))).1) ∧ ∃ A', h' = mv h A' F (s_grow v (nI a) (nI (c % 9 + 1))).2 ∧ scr A F A' F) := by
    refine at_ld (i := 0) dX8_deed_83 rfl rfl rfl ?_
    refine at_ld (i := 2) dX8_deed_84 rfl rfl rfl ?_
    refine at_ld (i := 4) dX8_deed_85 rfl rfl rfl ?_
    refine at_k (nI 9) dX8_deed_87 rfl (by decide) ?_
    refine at_rem dX8_deed_89 (by decide) ?_
    rw [nI_rem (by omega) (by decide)]
    refine at_k (nI 1) dX8_deed_90 rfl (by decide) ?_
    refine at_bin dX8_deed_91 rfl ?_
    try dsimp only
    rw [nI_add]
    refine at_cv [_, _] dX8_deed_92 mX8_grow ⟨Nat.le_of_ble_eq_true rfl, Nat.le_of_ble_eq_true rfl⟩ lX8_300 iX8_grow rfl rfl (mv_o hn _ _ _) (by omega) rfl (Nat.le_of_ble_eq_true rfl) (Nat.le_of_ble_eq_true rfl) (c_grow A F v hn w.1 w.2.2 (nI a) (nI (c % 9 + 1))) ?_ ?_
    · rintro r h1 ⟨-, B, rfl⟩
      exact ⟨rfl, rfl⟩
    · rintro r h1 ⟨rfl, B, rfl⟩
      refine at_ret dX8_deed_95 rfl rfl ?_
      exact ⟨rfl, _, rfl, scr_B A F B⟩
  rcases (show which = 0 ∨ which = 1 ∨ which = 2 ∨ which = 3 ∨ which = 4 ∨ which = 5 by omega) with rfl | rfl | rfl | rfl | rfl | rfl
  · refine at_tin 36 dX8_deed_1 (by decide) (by decide) rfl (by decide) ?_
    refine at_ld (i := 0) dX8_deed_36 rfl rfl rfl ?_
    refine at_ld (i := 2) dX8_deed_37 rfl rfl rfl ?_
    refine at_ld (i := 3) dX8_deed_38 rfl rfl rfl ?_
    refine at_k (nI 10) dX8_deed_39 rfl (by decide) ?_
    refine at_rem dX8_deed_41 (by decide) ?_
    rw [nI_rem (by omega) (by decide)]
    refine at_k (nI 1) dX8_deed_42 rfl (by decide) ?_
    refine at_wv [_, _, _] dX8_deed_43 mX8_make ⟨Nat.le_of_ble_eq_true rfl, Nat.le_of_ble_eq_true rfl⟩ lX8_297 iX8_make rfl rfl (mv_o hn _ _ _) (by omega) rfl (Nat.le_of_ble_eq_true rfl) (Nat.le_of_ble_eq_true rfl) ⟨rfl, rfl⟩ (c_make A F v hn w.1 w.2.1 (nI a) (nI (b % 10)) (nI 1)) ⟨rfl, rfl⟩ ?_
    try dsimp only [Option.toList, List.cons_append, List.nil_append]
    refine at_ret dX8_deed_46 rfl rfl ?_
    exact ⟨rfl, _, rfl, scr_r A F⟩
  · refine at_tin 47 dX8_deed_1 (by decide) (by decide) rfl (by decide) ?_
    exact g1
  · refine at_tin 47 dX8_deed_1 (by decide) (by decide) rfl (by decide) ?_
    exact g1
  · refine at_tin 83 dX8_deed_1 (by decide) (by decide) rfl (by decide) ?_
    exact g3
  · refine at_tin 83 dX8_deed_1 (by decide) (by decide) rfl (by decide) ?_
    exact g3
  · refine at_tout 96 dX8_deed_1 (by decide) (by decide) ?_
    refine at_ld (i := 0) dX8_deed_96 rfl rfl rfl ?_
    refine at_ld (i := 2) dX8_deed_97 rfl rfl rfl ?_
    refine at_wv [_] dX8_deed_98 mX8_remove ⟨Nat.le_of_ble_eq_true rfl, Nat.le_of_ble_eq_true rfl⟩ lX8_303 iX8_remove rfl rfl (mv_o hn _ _ _) (by omega) rfl (Nat.le_of_ble_eq_true rfl) (Nat.le_of_ble_eq_true rfl) ⟨rfl, rfl⟩ (c_remove A F v hn w.1 w.2.1 w.2.2 (nI a)) ⟨rfl, rfl⟩ ?_
    try dsimp only [Option.toList, List.cons_append, List.nil_append]
    refine at_ret dX8_deed_101 rfl rfl ?_
    exact ⟨rfl, _, rfl, scr_r A F⟩
set_option maxRecDepth 100000 in
set_option maxHeartbeats 4000000 in
theorem c_drawG (nx : Int32 → Int32) (o : Int32 → Nat) (ho : ∀ s, o s < 32768) (hg : ∀ (h : sg_H) (A : Nat → Nat → Int32) (F : Nat → Int32) (v : Nat → Nat), 72 ≤ h.1 → sg_Kw MX8_gets [.ref 64] (mv h A F v) (some (.int (nI (o (nx (F 15)))))) (mv h A (upd F 15 (nx (F 15))) v)) (hn : 72 ≤ h.1) (w : ivr v) (s n : Int32) : sg_K MX8_draw [.ref 64, .int s, .int n] (mv h A F v) (fun r h' => r = some (.int (if inR n 1 20 = true then (if spt v = true then (-2, v) else (nI (drw nx o n.toNatClampNeg v s 0).1, (drw nx o n.toNatClampNeg v s 0).2)) else (-1, v)).1) ∧ ∃ A' F', h' = mv h A' F' (if inR n 1 20 = true then (if spt v = true then (-2, v) else (nI (drw nx o n.toNatClampNeg v s 0).1, (drw nx o n.toNatClampNeg v s 0).2)) else (-1, v)).2 ∧ scr A F A' F') := by
  show sg_A MX8_draw 0 [some (.ref 64), some (.int s), some (.int n), none, none, none, none, none, none] [] _ _
  refine at_ld (i := 2) dX8_draw_0 rfl rfl rfl ?_
  refine at_i2l dX8_draw_1 ?_
  refine at_lconst dX8_draw_2 ?_
  refine at_ldc2 dX8_draw_3 kX8_306 ?_
  refine at_rs [_, _, _] dX8_draw_6 mX8_in ⟨Nat.le_of_ble_eq_true rfl, Nat.le_of_ble_eq_true rfl⟩ lX8_41 tX8_in rfl (Nat.le_of_ble_eq_true rfl) (Nat.le_of_ble_eq_true rfl) ⟨rfl, rfl⟩ (c_inA _ n 1 20 rfl rfl (by decide) (by decide)) ?_
  refine at_zne 14 dX8_draw_9 (by decide) (fun c => ?_) (fun c => ?_)
  · have c1 := bI_1 c
    rw [if_pos c1]
    refine at_ld (i := 0) dX8_draw_14 rfl rfl rfl ?_
    refine at_rv [] dX8_draw_15 mX8_isSpoilt ⟨Nat.le_of_ble_eq_true rfl, Nat.le_of_ble_eq_true rfl⟩ lX8_240 iX8_isSpoilt rfl rfl (mv_o hn _ _ _) (by omega) rfl (Nat.le_of_ble_eq_true rfl) (Nat.le_of_ble_eq_true rfl) ⟨rfl, rfl⟩ (c_isSpoilt A F v hn w.1) ?_
    refine at_zeq 24 dX8_draw_18 (by decide) (fun c2 => ?_) (fun c2 => ?_)
    · have c3 := (bI_0 _).mp c2
      rw [if_neg (by rw [c3]; exact fun z => by cases z)]
      obtain ⟨k, hk1, hk2, rfl⟩ := inR_of (by decide) c1
      rw [nI_clamp (by omega)]
      refine at_ld (i := 0) dX8_draw_24 rfl rfl rfl ?_
      refine at_ld (i := 1) dX8_draw_25 rfl rfl rfl ?_
      refine at_put dX8_draw_26 fX8_293 ⟨_, _, rfl, Or.inl rfl, tyX8_ok 15 (by decide), fun _ => ⟨rfl, rfl⟩⟩ (mv_o hn _ _ _) (by omega) (Nat.le_of_ble_eq_true rfl) (mv_uF A F v hn _) ?_
      refine at_k (nI 0) dX8_draw_29 rfl (by decide) ?_
      refine at_st (i := 3) dX8_draw_30 rfl rfl (Nat.le_of_ble_eq_true rfl) rfl ?_
      try dsimp only [List.set_cons_succ, List.set_cons_zero]
      refine at_k (nI 0) dX8_draw_31 rfl (by decide) ?_
      refine at_st (i := 4) dX8_draw_32 rfl rfl (Nat.le_of_ble_eq_true rfl) rfl ?_
      try dsimp only [List.set_cons_succ, List.set_cons_zero]
      have loop : ∀ m j many (v1 : Nat → Nat) (A1 : Nat → Nat → Int32) (F1 : Nat → Int32) (y5 y6 y7 y8 : Option Value), ivr v1 → scr A F A1 F1 → j + m = k → many ≤ j → sg_A MX8_draw 34 [some (.ref 64), some (.int s), some (.int (nI k)), some (.int (nI many)), some (.int (nI j)), y5, y6, y7, y8] [] (mv h A1 F1 v1) (fun r h' => r = some (.int (nI (drw nx o m v1 (F1 15) many).1)) ∧ ∃ A' F', h' = mv h A' F' (drw nx o m v1 (F1 15) many).2 ∧ scr A F A' F') := by
        intro m
        induction m with
        | zero =>
          intro j many v1 A1 F1 y5 y6 y7 y8 w1 s1 hj hm
          refine at_ld (i := 4) dX8_draw_34 rfl rfl rfl ?_
          refine at_ld (i := 2) dX8_draw_36 rfl rfl rfl ?_
          refine at_ige 104 dX8_draw_37 (by decide) (fun c4 => ?_) (fun c4 => ?_)
          · refine at_ld (i := 3) dX8_draw_104 rfl rfl rfl ?_
            refine at_ret dX8_draw_105 rfl rfl ?_
            exact ⟨rfl, A1, F1, rfl, s1⟩
          · exact absurd (nI_le (by omega) (by omega)) c4
        | succ m ih =>
          intro j many v1 A1 F1 y5 y6 y7 y8 w1 s1 hj hm
          have hgi := wf_gi w1.1.1
          have hge := gb_ge w1.1.1.1.1 w1.1.1.2.2.1.1
          have q1 := ho (nx (F1 15))
          have q2 := ho (nx (nx (F1 15)))
          have q3 := ho (nx (nx (nx (F1 15))))
          have q4 := ho (nx (nx (nx (nx (F1 15)))))
          refine at_ld (i := 4) dX8_draw_34 rfl rfl rfl ?_
          refine at_ld (i := 2) dX8_draw_36 rfl rfl rfl ?_
          refine at_ige 104 dX8_draw_37 (by decide) (fun c4 => ?_) (fun c4 => ?_)
          · exact absurd c4 (nI_ge (by omega) (by omega))
          · refine at_ld (i := 0) dX8_draw_40 rfl rfl rfl ?_
            refine at_wv [] dX8_draw_41 mX8_gets ⟨Nat.le_of_ble_eq_true rfl, Nat.le_of_ble_eq_true rfl⟩ lX8_308 iX8_gets rfl rfl (mv_o hn _ _ _) (by omega) rfl (Nat.le_of_ble_eq_true rfl) (Nat.le_of_ble_eq_true rfl) ⟨rfl, rfl⟩ (hg h A1 F1 v1 hn) ⟨rfl, rfl⟩ ?_
            try dsimp only [Option.toList, List.cons_append, List.nil_append]
            refine at_k (nI 6) dX8_draw_44 rfl (by decide) ?_
            refine at_rem dX8_draw_46 (by decide) ?_
            rw [nI_rem (by omega) (by decide)]
            refine at_st (i := 5) dX8_draw_47 rfl rfl (Nat.le_of_ble_eq_true rfl) rfl ?_
            try dsimp only [List.set_cons_succ, List.set_cons_zero]
            refine at_ld (i := 0) dX8_draw_49 rfl rfl rfl ?_
            refine at_wv [] dX8_draw_50 mX8_gets ⟨Nat.le_of_ble_eq_true rfl, Nat.le_of_ble_eq_true rfl⟩ lX8_308 iX8_gets rfl rfl (mv_o hn _ _ _) (by omega) rfl (Nat.le_of_ble_eq_true rfl) (Nat.le_of_ble_eq_true rfl) ⟨rfl, rfl⟩ (hg h A1 _ v1 hn) ⟨rfl, rfl⟩ ?_
            try dsimp only [Option.toList, List.cons_append, List.nil_append]
            refine at_ld (i := 0) dX8_draw_53 rfl rfl rfl ?_
            refine at_rv [] dX8_draw_54 mX8_inodes ⟨Nat.le_of_ble_eq_true rfl, Nat.le_of_ble_eq_true rfl⟩ lX8_167 iX8_inodes rfl rfl (mv_o hn _ _ _) (by omega) rfl (Nat.le_of_ble_eq_true rfl) (Nat.le_of_ble_eq_true rfl) ⟨rfl, rfl⟩ (c_inodes A1 _ v1 hn) ?_
            refine at_rem dX8_draw_57 (nI_ne0 (by omega) (by omega)) ?_
            have e2 : upd F1 15 (nx (F1 15)) 15 = nx (F1 15) := by simp [upd]
            rw [e2]
            rw [nI_rem (by omega) (by omega)]
            have ha : o (nx (nx (F1 15))) % (v1 0 * v1 2) < v1 0 * v1 2 := Nat.mod_lt _ (by omega)
            refine at_st (i := 6) dX8_draw_58 rfl rfl (Nat.le_of_ble_eq_true rfl) rfl ?_
            try dsimp only [List.set_cons_succ, List.set_cons_zero]
            refine at_ld (i := 0) dX8_draw_60 rfl rfl rfl ?_
            refine at_wv [] dX8_draw_61 mX8_gets ⟨Nat.le_of_ble_eq_true rfl, Nat.le_of_ble_eq_true rfl⟩ lX8_308 iX8_gets rfl rfl (mv_o hn _ _ _) (by omega) rfl (Nat.le_of_ble_eq_true rfl) (Nat.le_of_ble_eq_true rfl) ⟨rfl, rfl⟩ (hg h A1 _ v1 hn) ⟨rfl, rfl⟩ ?_
            try dsimp only [Option.toList, List.cons_append, List.nil_append]
            have e3 : upd (upd F1 15 (nx (F1 15))) 15 (nx (nx (F1 15))) 15 = nx (nx (F1 15)) := by simp [upd]
            rw [e3]
            refine at_st (i := 7) dX8_draw_64 rfl rfl (Nat.le_of_ble_eq_true rfl) rfl ?_
            try dsimp only [List.set_cons_succ, List.set_cons_zero]
            refine at_ld (i := 0) dX8_draw_66 rfl rfl rfl ?_
            refine at_wv [] dX8_draw_67 mX8_gets ⟨Nat.le_of_ble_eq_true rfl, Nat.le_of_ble_eq_true rfl⟩ lX8_308 iX8_gets rfl rfl (mv_o hn _ _ _) (by omega) rfl (Nat.le_of_ble_eq_true rfl) (Nat.le_of_ble_eq_true rfl) ⟨rfl, rfl⟩ (hg h A1 _ v1 hn) ⟨rfl, rfl⟩ ?_
            try dsimp only [Option.toList, List.cons_append, List.nil_append]
            have e4 : upd (upd (upd F1 15 (nx (F1 15))) 15 (nx (nx (F1 15)))) 15 (nx (nx (nx (F1 15)))) 15 = nx (nx (nx (F1 15))) := by simp [upd]
            rw [e4]
            refine at_st (i := 8) dX8_draw_70 rfl rfl (Nat.le_of_ble_eq_true rfl) rfl ?_
            try dsimp only [List.set_cons_succ, List.set_cons_zero]
            refine at_ld (i := 3) dX8_draw_72 rfl rfl rfl ?_
            refine at_ld (i := 0) dX8_draw_73 rfl rfl rfl ?_
            refine at_ld (i := 5) dX8_draw_74 rfl rfl rfl ?_
            refine at_ld (i := 6) dX8_draw_76 rfl rfl rfl ?_
            refine at_ld (i := 7) dX8_draw_78 rfl rfl rfl ?_
            refine at_ld (i := 8) dX8_draw_80 rfl rfl rfl ?_
            refine at_cv [_, _, _, _] dX8_draw_82 mX8_deed ⟨Nat.le_of_ble_eq_true rfl, Nat.le_of_ble_eq_true rfl⟩ lX8_311 iX8_deed rfl rfl (mv_o hn _ _ _) (by omega) rfl (Nat.le_of_ble_eq_true rfl) (Nat.le_of_ble_eq_true rfl) (c_deed A1 _ v1 hn w1 (o (nx (F1 15)) % 6) (o (nx (nx (F1 15))) % (v1 0 * v1 2)) (o (nx (nx (nx (F1 15))))) (o (nx (nx (nx (nx (F1 15)))))) (Nat.mod_lt _ (by decide)) (by omega) (by omega) (by omega)) ?_ ?_
            · rintro r h1 ⟨-, A2, rfl, -⟩
              exact ⟨rfl, rfl⟩
            · rintro r h1 ⟨rfl, A2, rfl, s2⟩
              try dsimp only [Option.toList, List.cons_append, List.nil_append]
              have w2 := ivr_dd w1 (o (nx (F1 15)) % 6) (o (nx (nx (F1 15))) % (v1 0 * v1 2)) (o (nx (nx (nx (F1 15))))) (o (nx (nx (nx (nx (F1 15))))))
              rw [drw]
              generalize dd v1 (o (nx (F1 15)) % 6) (o (nx (nx (F1 15))) % (v1 0 * v1 2)) (o (nx (nx (nx (F1 15))))) (o (nx (nx (nx (nx (F1 15)))))) = r1 at w2
              have s3 := scr_t s1 (scr_t (scr_t (scr_t (scr_t (scr_s A1 F1 (nx (F1 15))) (scr_s A1 _ (nx (nx (F1 15))))) (scr_s A1 _ (nx (nx (nx (F1 15)))))) (scr_s A1 _ (nx (nx (nx (nx (F1 15))))))) s2)
              have e5 : upd (upd (upd (upd F1 15 (nx (F1 15))) 15 (nx (nx (F1 15)))) 15 (nx (nx (nx (F1 15))))) 15 (nx (nx (nx (nx (F1 15))))) 15 = nx (nx (nx (nx (F1 15)))) := by simp [upd]
              have nx : ∀ bb : Bool, bb = decide (0 ≤ r1.1) → ∀ y5 y6 y7 y8, sg_A MX8_draw 93 [some (.ref 64), some (.int s), some (.int (nI k)), some (.int (nI many)), some (.int (nI j)), y5, y6, y7, y8] [.int (bI bb), .int (nI many)] (mv h A2 (upd (upd (upd (upd F1 15 (nx (F1 15))) 15 (nx (nx (F1 15)))) 15 (nx (nx (nx (F1 15))))) 15 (nx (nx (nx (nx (F1 15)))))) r1.2) (fun r h' => r = some (.int (nI (drw nx o m r1.2 (nx (nx (nx (nx (F1 15))))) (many + (if 0 ≤ r1.1 then 1 else 0))).1)) ∧ ∃ A' F', h' = mv h A' F' (drw nx o m r1.2 (nx (nx (nx (nx (F1 15))))) (many + (if 0 ≤ r1.1 then 1 else 0))).2 ∧ scr A F A' F') := by
                intro bb hbb y5 y6 y7 y8
                refine at_rs [_] dX8_draw_93 mX8_flag ⟨Nat.le_of_ble_eq_true rfl, Nat.le_of_ble_eq_true rfl⟩ lX8_133 tX8_flag rfl (Nat.le_of_ble_eq_true rfl) (Nat.le_of_ble_eq_true rfl) ⟨rfl, rfl⟩ (c_flag _ _) ?_
                refine at_bin dX8_draw_96 rfl ?_
                try dsimp only
                have e6 : nI many + bI bb = nI (many + (if 0 ≤ r1.1 then 1 else 0)) := by
                  rw [bI_nI, nI_add, hbb]
                  by_cases z : 0 ≤ r1.1
                  · rw [decide_eq_true z, if_pos rfl, if_pos z]
                  · rw [decide_eq_false z, if_neg (by decide), if_neg z]
                rw [e6]
                refine at_st (i := 3) dX8_draw_97 rfl rfl (Nat.le_of_ble_eq_true rfl) rfl ?_
                try dsimp only [List.set_cons_succ, List.set_cons_zero]
                refine at_iinc (nI 1) dX8_draw_98 rfl rfl (by decide) ?_
                try dsimp only [List.set_cons_succ, List.set_cons_zero]
                refine at_goto 34 dX8_draw_101 (by decide) ?_
                rw [nI_add]
                have := ih (j + 1) (many + (if 0 ≤ r1.1 then 1 else 0)) r1.2 A2 (upd (upd (upd (upd F1 15 (nx (F1 15))) 15 (nx (nx (F1 15)))) 15 (nx (nx (nx (F1 15))))) 15 (nx (nx (nx (nx (F1 15)))))) y5 y6 y7 y8 w2 s3 (by omega) (by split <;> omega)
                rw [e5] at this
                exact this
              refine at_zlt 92 dX8_draw_85 (by decide) (fun c5 => ?_) (fun c5 => ?_)
              · refine at_k (nI 0) dX8_draw_92 rfl (by decide) ?_
                exact nx false (decide_eq_false (Int32.not_le.mpr c5)).symm _ _ _ _
              · refine at_k (nI 1) dX8_draw_88 rfl (by decide) ?_
                refine at_goto 93 dX8_draw_89 (by decide) ?_
                exact nx true (decide_eq_true (Int32.not_lt.mp c5)).symm _ _ _ _
      have := loop k 0 0 v A (upd F 15 s) none none none none w (scr_s A F s) (by omega) (by omega)
      have e0 : upd F 15 s 15 = s := by simp [upd]
      rw [e0] at this
      exact this
    · have c3 := bI_1 c2
      rw [if_pos c3]
      refine at_k (-2) dX8_draw_21 rfl (by decide) ?_
      refine at_ret dX8_draw_23 rfl rfl ?_
      exact ⟨rfl, A, F, rfl, scr_r A F⟩
  · have c1 := (bI_0 _).mp (Classical.not_not.mp c)
    refine at_k (-1) dX8_draw_12 rfl (by decide) ?_
    refine at_ret dX8_draw_13 rfl rfl ?_
    rw [c1]
    exact ⟨rfl, A, F, rfl, scr_r A F⟩
theorem c_draw (hn : 72 ≤ h.1) (w : ivr v) (s n : Int32) : sg_K MX8_draw [.ref 64, .int s, .int n] (mv h A F v) (fun r h' => r = some (.int (s_draw v s n).1) ∧ ∃ A' F', h' = mv h A' F' (s_draw v s n).2 ∧ scr A F A' F') := by
  unfold s_draw
  exact c_drawG A F v sdn sdo sdo_lt (fun h A F v hn => c_gets A F v hn) hn w s n
end R13
