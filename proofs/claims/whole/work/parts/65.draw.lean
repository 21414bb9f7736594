/-! THE CLASS ITSELF: draw -/
def dS (j : Nat) : Prop := 0 < j ∧ j < 64
section K5
variable {g : sg_H} {v t : Nat → Nat} {n fl : Nat} {ib : Nat → Bool} {u : Nat → Nat → Nat}
theorem d_make (hC : CS g v t n fl ib u) (iv : inv v) (x y z : Int32) : sg_K MX0_makeInode [.ref 14, .int x, .int y, .int z] g (fun r h' => r = some (.int (s_make v x y z).1) ∧ CS h' (s_make v x y z).2 t n fl ib u ∧ ag dS g h') := by
  have hC0 := hC
  obtain ⟨c0, -, ⟨b, d, K, eV, hb, hR⟩, hD, -⟩ := hC
  have kc := k_makeInode (g := g) (a := 1) (D := 14) (d := d) (by omega) (by decide) hD hb hR iv x y z
  rw [← eV] at kc
  obtain ⟨r, h', h1, h2, h3⟩ := kc
  exact ⟨r, h', h1, h2, CS_v hC0 h3, ag_w (ag_VS h3) (fun j hj => ⟨by omega, by omega⟩)⟩
theorem d_grow (hC : CS g v t n fl ib u) (iv : inv v) (x y : Int32) : sg_K MX0_growFile [.ref 14, .int x, .int y] g (fun r h' => r = some (.int (s_grow v x y).1) ∧ CS h' (s_grow v x y).2 t n fl ib u ∧ ag dS g h') := by
  have hC0 := hC
  obtain ⟨c0, -, ⟨b, d, K, eV, hb, hR⟩, hD, -⟩ := hC
  have kc := k_growFile (g := g) (a := 1) (D := 14) (d := d) (by omega) (by decide) hD hb hR iv x y
  rw [← eV] at kc
  obtain ⟨r, h', h1, h2, q, h3⟩ := kc
  exact ⟨r, h', h1, h2, CS_v (CS_16 hC0 q) h3, ag_t (ag_w (ag_up g _ _) (fun j hj => ⟨by omega, by omega⟩)) (ag_w (ag_VS h3) (fun j hj => ⟨by omega, by omega⟩))⟩
theorem d_remove (hC : CS g v t n fl ib u) (iv : inv v) (x : Int32) : sg_K MX0_removeInode [.ref 14, .int x] g (fun r h' => r = some (.int (s_remove v x).1) ∧ CS h' (s_remove v x).2 t n fl ib u ∧ ag dS g h') := by
  have hC0 := hC
  obtain ⟨c0, -, ⟨b, d, K, eV, hb, hR⟩, hD, -⟩ := hC
  have kc := k_removeInode (g := g) (a := 1) (D := 14) (d := d) (by omega) (by decide) hD hb hR iv x
  rw [← eV] at kc
  obtain ⟨r, h', h1, h2, h3⟩ := kc
  exact ⟨r, h', h1, h2, CS_v hC0 h3, ag_w (ag_VS h3) (fun j hj => ⟨by omega, by omega⟩)⟩
set_option maxRecDepth 100000 in
theorem k_drawnNumber {tc sd : Int32} {b0 b1 : Bool} (h0 : sg_at g 0 (.inr (7, sgF tc fl b0 b1 sd))) : sg_Kw MX7_drawnNumber [.ref 0] g (some (.int (nI (sdo (sdn sd))))) (sg_up g 0 (.inr (7, sgF tc fl b0 b1 (sdn sd)))) := by
  show sg_A MX7_drawnNumber 0 [some (.ref 0)] [] _ _
  refine at_ld (i := 0) dX7_drawnNumber_0 rfl rfl rfl ?_
  refine at_ld (i := 0) dX7_drawnNumber_1 rfl rfl rfl ?_
  refine at_get dX7_drawnNumber_2 fX7_258 h0 (by omega) rfl ?_
  refine at_ldcw dX7_drawnNumber_5 kX7_270 ?_
  refine at_bin dX7_drawnNumber_8 rfl ?_
  refine at_k (nI 12345) dX7_drawnNumber_9 rfl (by decide) ?_
  refine at_bin dX7_drawnNumber_12 rfl ?_
  refine at_put dX7_drawnNumber_13 fX7_258 ⟨_, _, rfl, Or.inl rfl, tyX7_ok 13 (by decide), fun _ => ⟨rfl, rfl⟩⟩ h0 (by omega) (Nat.le_of_ble_eq_true rfl) (show sg_up g 0 _ = sg_up g 0 (.inr (7, sgF tc fl b0 b1 (sdn sd))) from rfl) ?_
  refine at_ld (i := 0) dX7_drawnNumber_16 rfl rfl rfl ?_
  refine at_get dX7_drawnNumber_17 fX7_258 (up_e h0 _) (by omega) rfl ?_
  refine at_k (nI 16) dX7_drawnNumber_20 rfl (by decide) ?_
  refine at_bin dX7_drawnNumber_22 rfl ?_
  refine at_k (nI 32767) dX7_drawnNumber_23 rfl (by decide) ?_
  refine at_bin dX7_drawnNumber_26 rfl ?_
  refine at_ret dX7_drawnNumber_27 rfl rfl ?_
  refine ⟨?_, rfl⟩
  rw [← pk_ush]
/-- what a deed of a seed is -/
def dds (v : Nat → Nat) (s : Int32) : Int32 × (Nat → Nat) := dd v (sdo (sdn s) % 6) (sdo (sdn (sdn s)) % (v 0 * v 2)) (sdo (sdn (sdn (sdn s)))) (sdo (sdn (sdn (sdn (sdn s)))))
theorem drw_s (nx : Int32 → Int32) (o : Int32 → Nat) (r : Nat) (v : Nat → Nat) (s : Int32) (m : Nat) : drw nx o (r + 1) v s m = drw nx o r (dd v (o (nx s) % 6) (o (nx (nx s)) % (v 0 * v 2)) (o (nx (nx (nx s)))) (o (nx (nx (nx (nx s)))))).2 (nx (nx (nx (nx s)))) (m + (if 0 ≤ (dd v (o (nx s) % 6) (o (nx (nx s)) % (v 0 * v 2)) (o (nx (nx (nx s)))) (o (nx (nx (nx (nx s)))))).1 then 1 else 0)) := rfl
theorem drw_s2 (r : Nat) (v : Nat → Nat) (s : Int32) (m : Nat) : drw sdn sdo (r + 1) v s m = drw sdn sdo r (dds v s).2 (sdn (sdn (sdn (sdn s)))) (m + (if 0 ≤ (dds v s).1 then 1 else 0)) := by
  rw [drw_s]
  unfold dds
  rfl
theorem Inv_dds {v : Nat → Nat} (h : Inv v) (s : Int32) : Inv (dds v s).2 := by
  unfold dds
  exact Inv_dd h _ _ _ _
set_option maxRecDepth 100000 in
theorem k_drawnDeed (hC : CS g v t n fl ib u) (iv : Inv v) {tc sd : Int32} (h0 : sg_at g 0 (.inr (7, sgF tc fl (ib 0) (ib 1) sd))) : sg_K MX7_drawnDeed [.ref 0] g (fun r h' => r = some (.int (dds v sd).1) ∧ CS h' (dds v sd).2 t n fl ib u ∧ ag in64 g h' ∧ sg_at h' 0 (.inr (7, sgF tc fl (ib 0) (ib 1) (sdn (sdn (sdn (sdn sd))))))) := by
  have w := iv.1.1.1
  have hgi := wf_gi w.1
  have hge := gb_ge w.1.1.1 w.1.2.2.1.1
  have hCG : ∀ s, CS (sg_up g 0 (.inr (7, sgF tc fl (ib 0) (ib 1) s))) v t n fl ib u := fun s => CS_0 hC tc s fl ib u (fun q => hC.2.2.2.2.2.2.2.2.2.2.1 q) (fun q => hC.2.2.2.2.2.2.2.2.2.2.2.1 q)
  have hG0 : ∀ s, sg_at (sg_up g 0 (.inr (7, sgF tc fl (ib 0) (ib 1) s))) 0 (.inr (7, sgF tc fl (ib 0) (ib 1) s)) := fun s => up_e h0 _
  have kG : ∀ s, sg_Kw MX7_drawnNumber [.ref 0] (sg_up g 0 (.inr (7, sgF tc fl (ib 0) (ib 1) s))) (some (.int (nI (sdo (sdn s))))) (sg_up g 0 (.inr (7, sgF tc fl (ib 0) (ib 1) (sdn s)))) := fun s => by
    have := k_drawnNumber (hG0 s)
    rw [up_up] at this
    exact this
  have hag : ∀ s, ag in64 g (sg_up g 0 (.inr (7, sgF tc fl (ib 0) (ib 1) s))) := fun s => ag_w (ag_up _ _ _) (fun j hj => by show j < 64; omega)
  have hV : ∀ s, sg_at (sg_up g 0 (.inr (7, sgF tc fl (ib 0) (ib 1) s))) 1 (.inr (6, [.ref (1 + 1), .ref (1 + 2), .ref (1 + 4), .ref (1 + 6), .int (nI (v 6)), .int (nI (v 7))])) := fun s => by
    obtain ⟨c0, -, ⟨b, d, K, eV, -, -⟩, -⟩ := hCG s
    rw [eV]; exact vo_V (by omega)
  have hY : ∀ s, sg_at (sg_up g 0 (.inr (7, sgF tc fl (ib 0) (ib 1) s))) (1 + 1) (.inr (3, lay v)) := fun s => by
    obtain ⟨c0, -, ⟨b, d, K, eV, -, -⟩, -⟩ := hCG s
    rw [eV]; exact vo_Y (by omega)
  have hD : ∀ s, sg_at (sg_up g 0 (.inr (7, sgF tc fl (ib 0) (ib 1) s))) 14 (.inr (0, [.ref 1, .ref (1 + 1), .ref (1 + 2), .ref (1 + 6), .ref (14 + 1)])) := fun s => (hCG s).2.2.2.1.1
  have hk0 := k_drawnNumber h0
  show sg_A MX7_drawnDeed 0 [some (.ref 0), none, none, none, none, none, none] [] _ _
  refine at_ld (i := 0) dX7_drawnDeed_0 rfl rfl rfl ?_
  refine at_wv [] dX7_drawnDeed_1 mX7_drawnNumber ⟨Nat.le_of_ble_eq_true rfl, Nat.le_of_ble_eq_true rfl⟩ lX7_264 iX7_drawnNumber rfl rfl h0 (by omega) rfl (Nat.le_of_ble_eq_true rfl) (Nat.le_of_ble_eq_true rfl) ⟨rfl, rfl⟩ (hk0) ⟨rfl, rfl⟩ ?_
  try dsimp only [Option.toList, List.cons_append, List.nil_append]
  have l1 := sdo_lt (sdn sd)
  have l2 := sdo_lt (sdn (sdn sd))
  have l3 := sdo_lt (sdn (sdn (sdn sd)))
  have l4 := sdo_lt (sdn (sdn (sdn (sdn sd))))
  unfold dds
  generalize hs1 : sdn sd = s1 at *
  generalize hs2 : sdn s1 = s2 at *
  generalize hs3 : sdn s2 = s3 at *
  generalize hs4 : sdn s3 = s4 at *
  have k1 := kG s1
  have k2 := kG s2
  have k3 := kG s3
  rw [hs2] at k1
  rw [hs3] at k2
  rw [hs4] at k3
  refine at_k (nI 6) dX7_drawnDeed_4 rfl (by decide) ?_
  refine at_rem dX7_drawnDeed_6 (by decide) ?_
  try dsimp only
  rw [nI_rem (by omega) (by decide)]
  refine at_st (i := 1) dX7_drawnDeed_7 rfl rfl (Nat.le_of_ble_eq_true rfl) rfl ?_
  try dsimp only [List.set_cons_succ, List.set_cons_zero]
  refine at_ld (i := 0) dX7_drawnDeed_8 rfl rfl rfl ?_
  refine at_get dX7_drawnDeed_9 fX7_10 (hG0 _) (by omega) rfl ?_
  refine at_get dX7_drawnDeed_12 fX7_173 (hV _) (by omega) rfl ?_
  refine at_rv [] dX7_drawnDeed_15 mX3_allInodes ⟨Nat.le_of_ble_eq_true rfl, Nat.le_of_ble_eq_true rfl⟩ lX7_267 iX3_allInodes rfl rfl (hY _) (by omega) rfl (Nat.le_of_ble_eq_true rfl) (Nat.le_of_ble_eq_true rfl) ⟨rfl, rfl⟩ (k_allInodes (hY _) (by decide)) ?_
  refine at_st (i := 2) dX7_drawnDeed_18 rfl rfl (Nat.le_of_ble_eq_true rfl) rfl ?_
  try dsimp only [List.set_cons_succ, List.set_cons_zero]
  refine at_ld (i := 0) dX7_drawnDeed_19 rfl rfl rfl ?_
  refine at_wv [] dX7_drawnDeed_20 mX7_drawnNumber ⟨Nat.le_of_ble_eq_true rfl, Nat.le_of_ble_eq_true rfl⟩ lX7_264 iX7_drawnNumber rfl rfl (hG0 _) (by omega) rfl (Nat.le_of_ble_eq_true rfl) (Nat.le_of_ble_eq_true rfl) ⟨rfl, rfl⟩ (k1) ⟨rfl, rfl⟩ ?_
  try dsimp only [Option.toList, List.cons_append, List.nil_append]
  refine at_st (i := 3) dX7_drawnDeed_23 rfl rfl (Nat.le_of_ble_eq_true rfl) rfl ?_
  try dsimp only [List.set_cons_succ, List.set_cons_zero]
  refine at_ld (i := 2) dX7_drawnDeed_24 rfl rfl rfl ?_
  refine at_zle 34 dX7_drawnDeed_25 (by decide) (fun cz_ => absurd cz_ (nI_nle (by omega) (by omega))) (fun _ => ?_)
  refine at_ld (i := 3) dX7_drawnDeed_28 rfl rfl rfl ?_
  refine at_ld (i := 2) dX7_drawnDeed_29 rfl rfl rfl ?_
  refine at_rem dX7_drawnDeed_30 (nI_ne0 (by omega) (by omega)) ?_
  try dsimp only
  rw [nI_rem (by omega) (by omega)]
  refine at_goto 35 dX7_drawnDeed_31 (by decide) ?_
  refine at_st (i := 3) dX7_drawnDeed_35 rfl rfl (Nat.le_of_ble_eq_true rfl) rfl ?_
  try dsimp only [List.set_cons_succ, List.set_cons_zero]
  refine at_ld (i := 0) dX7_drawnDeed_36 rfl rfl rfl ?_
  refine at_wv [] dX7_drawnDeed_37 mX7_drawnNumber ⟨Nat.le_of_ble_eq_true rfl, Nat.le_of_ble_eq_true rfl⟩ lX7_264 iX7_drawnNumber rfl rfl (hG0 _) (by omega) rfl (Nat.le_of_ble_eq_true rfl) (Nat.le_of_ble_eq_true rfl) ⟨rfl, rfl⟩ (k2) ⟨rfl, rfl⟩ ?_
  try dsimp only [Option.toList, List.cons_append, List.nil_append]
  refine at_k (nI 10) dX7_drawnDeed_40 rfl (by decide) ?_
  refine at_rem dX7_drawnDeed_42 (by decide) ?_
  try dsimp only
  rw [nI_rem (by omega) (by decide)]
  refine at_st (i := 4) dX7_drawnDeed_43 rfl rfl (Nat.le_of_ble_eq_true rfl) rfl ?_
  try dsimp only [List.set_cons_succ, List.set_cons_zero]
  refine at_ld (i := 0) dX7_drawnDeed_45 rfl rfl rfl ?_
  refine at_wv [] dX7_drawnDeed_46 mX7_drawnNumber ⟨Nat.le_of_ble_eq_true rfl, Nat.le_of_ble_eq_true rfl⟩ lX7_264 iX7_drawnNumber rfl rfl (hG0 _) (by omega) rfl (Nat.le_of_ble_eq_true rfl) (Nat.le_of_ble_eq_true rfl) ⟨rfl, rfl⟩ (k3) ⟨rfl, rfl⟩ ?_
  try dsimp only [Option.toList, List.cons_append, List.nil_append]
  refine at_k (nI 9) dX7_drawnDeed_49 rfl (by decide) ?_
  refine at_rem dX7_drawnDeed_51 (by decide) ?_
  try dsimp only
  rw [nI_rem (by omega) (by decide)]
  refine at_k (nI 1) dX7_drawnDeed_52 rfl (by decide) ?_
  refine at_bin dX7_drawnDeed_53 rfl ?_
  try dsimp only
  rw [nI_add]
  refine at_st (i := 5) dX7_drawnDeed_54 rfl rfl (Nat.le_of_ble_eq_true rfl) rfl ?_
  try dsimp only [List.set_cons_succ, List.set_cons_zero]
  generalize hwh : sdo s1 % 6 = wh
  generalize hA : sdo s2 % (v 0 * v 2) = A
  have hwh6 : wh < 6 := by omega
  have hA24 : A < v 0 * v 2 := by rw [← hA]; exact Nat.mod_lt _ (by omega)
  generalize hB : sdo s3 = B
  generalize hCc : sdo s4 = Cc
  have ag2 : ∀ h', ag dS (sg_up g 0 (.inr (7, sgF tc fl (ib 0) (ib 1) s4))) h' → ag in64 g h' ∧ sg_at h' 0 (.inr (7, sgF tc fl (ib 0) (ib 1) s4)) := fun h' q => ⟨ag_t (hag s4) (ag_w q (fun j hj => hj.2)), ag_at q (hG0 s4) (fun z => by have := z.1; omega)⟩
  refine at_ld (i := 1) dX7_drawnDeed_56 rfl rfl rfl ?_
  by_cases e0 : wh = 0
  · have ed : dd v wh A B Cc = s_make v (nI A) (nI (B % 10)) (nI 1) := by unfold dd; rw [if_pos e0]
    rw [ed]
    refine at_zne 72 dX7_drawnDeed_57 (by decide) (fun cz_ => absurd cz_ (fun q => q (by rw [e0]; rfl))) (fun _ => ?_)
    refine at_ld (i := 0) dX7_drawnDeed_60 rfl rfl rfl ?_
    refine at_get dX7_drawnDeed_61 fX7_21 (hG0 _) (by omega) rfl ?_
    refine at_ld (i := 3) dX7_drawnDeed_64 rfl rfl rfl ?_
    refine at_ld (i := 4) dX7_drawnDeed_65 rfl rfl rfl ?_
    refine at_k (nI 1) dX7_drawnDeed_67 rfl (by decide) ?_
    refine at_cv [_, _, _] dX7_drawnDeed_68 mX0_makeInode ⟨Nat.le_of_ble_eq_true rfl, Nat.le_of_ble_eq_true rfl⟩ lX7_130 iX0_makeInode rfl rfl (hD _) (by omega) rfl (Nat.le_of_ble_eq_true rfl) (Nat.le_of_ble_eq_true rfl) (d_make (hCG s4) iv.1 (nI A) (nI (B % 10)) (nI 1)) ?_ ?_
    · rintro r h1 ⟨-, -, q⟩
      exact ⟨q.1, q.2.1⟩
    · rintro r h1 ⟨rfl, q1, q2⟩
      try dsimp only [Option.toList, List.cons_append, List.nil_append]
      refine at_ret dX7_drawnDeed_71 rfl rfl ?_
      exact ⟨rfl, q1, (ag2 _ q2).1, (ag2 _ q2).2⟩
  · refine at_zne 72 dX7_drawnDeed_57 (by decide) (fun _ => ?_) (fun cz_ => absurd (nI_ne0 (by omega) (by omega)) cz_)
    refine at_ld (i := 1) dX7_drawnDeed_72 rfl rfl rfl ?_
    refine at_k (nI 5) dX7_drawnDeed_73 rfl (by decide) ?_
    by_cases e5 : wh = 5
    · have ed : dd v wh A B Cc = s_remove v (nI A) := by unfold dd; rw [if_neg e0, if_neg (by omega), if_neg (by omega)]
      rw [ed]
      refine at_ine 86 dX7_drawnDeed_74 (by decide) (fun cz_ => absurd cz_ (fun q => q (by rw [e5]))) (fun _ => ?_)
      refine at_ld (i := 0) dX7_drawnDeed_77 rfl rfl rfl ?_
      refine at_get dX7_drawnDeed_78 fX7_21 (hG0 _) (by omega) rfl ?_
      refine at_ld (i := 3) dX7_drawnDeed_81 rfl rfl rfl ?_
      refine at_cv [_] dX7_drawnDeed_82 mX0_removeInode ⟨Nat.le_of_ble_eq_true rfl, Nat.le_of_ble_eq_true rfl⟩ lX7_246 iX0_removeInode rfl rfl (hD _) (by omega) rfl (Nat.le_of_ble_eq_true rfl) (Nat.le_of_ble_eq_true rfl) (d_remove (hCG s4) iv.1 (nI A)) ?_ ?_
      · rintro r h1 ⟨-, -, q⟩
        exact ⟨q.1, q.2.1⟩
      · rintro r h1 ⟨rfl, q1, q2⟩
        try dsimp only [Option.toList, List.cons_append, List.nil_append]
        refine at_ret dX7_drawnDeed_85 rfl rfl ?_
        exact ⟨rfl, q1, (ag2 _ q2).1, (ag2 _ q2).2⟩
    · refine at_ine 86 dX7_drawnDeed_74 (by decide) (fun _ => ?_) (fun cz_ => absurd (fun q => e5 ((nI_eq32 (by omega) (by decide)).mp q)) cz_)
      have gr : ∀ h1 v1 (F : Int32), CS h1 v1 t n fl ib u → Inv v1 → ag in64 g h1 → sg_at h1 0 (.inr (7, sgF tc fl (ib 0) (ib 1) s4)) → ¬ F < 0 → dd v wh A B Cc = s_grow v1 F (nI (Cc % 9 + 1)) → sg_A MX7_drawnDeed 106 [some (.ref 0), some (.int (nI wh)), some (.int (nI (v 0 * v 2))), some (.int (nI A)), some (.int (nI (B % 10))), some (.int (nI (Cc % 9 + 1))), none] [.int F] h1 (fun r h' => r = some (.int (dd v wh A B Cc).1) ∧ CS h' (dd v wh A B Cc).2 t n fl ib u ∧ ag in64 g h' ∧ sg_at h' 0 (.inr (7, sgF tc fl (ib 0) (ib 1) s4))) := by
        intro h1 v1 F q1 q2 q3 q4 hF ed
        rw [ed]
        refine at_st (i := 6) dX7_drawnDeed_106 rfl rfl (Nat.le_of_ble_eq_true rfl) rfl ?_
        try dsimp only [List.set_cons_succ, List.set_cons_zero]
        refine at_ld (i := 6) dX7_drawnDeed_108 rfl rfl rfl ?_
        refine at_zge 118 dX7_drawnDeed_110 (by decide) (fun _ => ?_) (fun cz_ => absurd (Int32.not_lt.mp hF) cz_)
        refine at_ld (i := 0) dX7_drawnDeed_118 rfl rfl rfl ?_
        refine at_get dX7_drawnDeed_119 fX7_21 q4 (by omega) rfl ?_
        refine at_ld (i := 6) dX7_drawnDeed_122 rfl rfl rfl ?_
        refine at_ld (i := 5) dX7_drawnDeed_124 rfl rfl rfl ?_
        refine at_cv [_, _] dX7_drawnDeed_126 mX0_growFile ⟨Nat.le_of_ble_eq_true rfl, Nat.le_of_ble_eq_true rfl⟩ lX7_141 iX0_growFile rfl rfl q1.2.2.2.1.1 (by omega) rfl (Nat.le_of_ble_eq_true rfl) (Nat.le_of_ble_eq_true rfl) (d_grow q1 q2.1 F (nI (Cc % 9 + 1))) ?_ ?_
        · rintro r h2 ⟨-, -, q⟩
          exact ⟨q.1, q.2.1⟩
        · rintro r h2 ⟨rfl, z1, z2⟩
          try dsimp only [Option.toList, List.cons_append, List.nil_append]
          refine at_ret dX7_drawnDeed_129 rfl rfl ?_
          exact ⟨rfl, z1, ag_t q3 (ag_w z2 (fun j hj => hj.2)), ag_at z2 q4 (fun z => by have := z.1; omega)⟩
      refine at_ld (i := 1) dX7_drawnDeed_86 rfl rfl rfl ?_
      refine at_k (nI 2) dX7_drawnDeed_87 rfl (by decide) ?_
      by_cases e3 : wh < 3
      · refine at_igt 105 dX7_drawnDeed_88 (by decide) (fun cz_ => absurd cz_ (nI_nlt (by omega) (by omega))) (fun _ => ?_)
        refine at_ld (i := 0) dX7_drawnDeed_91 rfl rfl rfl ?_
        refine at_get dX7_drawnDeed_92 fX7_21 (hG0 _) (by omega) rfl ?_
        refine at_ld (i := 3) dX7_drawnDeed_95 rfl rfl rfl ?_
        refine at_ld (i := 4) dX7_drawnDeed_96 rfl rfl rfl ?_
        refine at_k (nI 2) dX7_drawnDeed_98 rfl (by decide) ?_
        refine at_cv [_, _, _] dX7_drawnDeed_99 mX0_makeInode ⟨Nat.le_of_ble_eq_true rfl, Nat.le_of_ble_eq_true rfl⟩ lX7_130 iX0_makeInode rfl rfl (hD _) (by omega) rfl (Nat.le_of_ble_eq_true rfl) (Nat.le_of_ble_eq_true rfl) (d_make (hCG s4) iv.1 (nI A) (nI (B % 10)) (nI 2)) ?_ ?_
        · rintro r h1 ⟨-, -, q⟩
          exact ⟨q.1, q.2.1⟩
        · rintro r h1 ⟨rfl, q1, q2⟩
          try dsimp only [Option.toList, List.cons_append, List.nil_append]
          obtain ⟨q3, q4⟩ := ag2 _ q2
          refine at_goto 106 dX7_drawnDeed_102 (by decide) ?_
          by_cases eF : (s_make v (nI A) (nI (B % 10)) (nI 2)).1 < 0
          · have ed : dd v wh A B Cc = s_make v (nI A) (nI (B % 10)) (nI 2) := by unfold dd; rw [if_neg e0, if_pos e3, if_pos eF]
            rw [ed]
            refine at_st (i := 6) dX7_drawnDeed_106 rfl rfl (Nat.le_of_ble_eq_true rfl) rfl ?_
            try dsimp only [List.set_cons_succ, List.set_cons_zero]
            refine at_ld (i := 6) dX7_drawnDeed_108 rfl rfl rfl ?_
            refine at_zge 118 dX7_drawnDeed_110 (by decide) (fun cz_ => absurd cz_ (Int32.not_le.mpr eF)) (fun _ => ?_)
            refine at_ld (i := 6) dX7_drawnDeed_113 rfl rfl rfl ?_
            refine at_goto 129 dX7_drawnDeed_115 (by decide) ?_
            refine at_ret dX7_drawnDeed_129 rfl rfl ?_
            exact ⟨rfl, q1, q3, q4⟩
          · exact gr _ _ _ q1 (Inv_make iv _ _ _) q3 q4 eF (by unfold dd; rw [if_neg e0, if_pos e3, if_neg eF])
      · refine at_igt 105 dX7_drawnDeed_88 (by decide) (fun _ => ?_) (fun cz_ => absurd (nI_lt (by omega) (by omega)) cz_)
        refine at_ld (i := 3) dX7_drawnDeed_105 rfl rfl rfl ?_
        exact gr _ _ _ (hCG s4) iv (hag s4) (hG0 s4) (nI_pos (by omega)) (by unfold dd; rw [if_neg e0, if_neg e3, if_pos (by omega)])
set_option maxRecDepth 100000 in
theorem x_draw (hC : CS g v t n fl ib u) (iv : Inv v) (x y : Int32) : sg_K MX7_draw [.ref 0, .int x, .int y] g (fun r h' => r = some (.int (s_draw v x y).1) ∧ CS h' (s_draw v x y).2 t n fl ib u ∧ ag in64 g h') := by
  have w := iv.1.1.1
  have hC0 := hC
  obtain ⟨c0, ⟨tc, sd, h0⟩, ⟨b, d, K, eV, hb, hR⟩, hD, hT, hX, -⟩ := hC
  have hV : sg_at g 1 (.inr (6, [.ref (1 + 1), .ref (1 + 2), .ref (1 + 4), .ref (1 + 6), .int (nI (v 6)), .int (nI (v 7))])) := by rw [eV]; exact vo_V (by omega)
  show sg_A MX7_draw 0 [some (.ref 0), some (.int x), some (.int y), none, none] [] _ _
  generalize hS : s_draw v x y = S
  have bad : ¬ inR y 1 20 = true → sg_A MX7_draw 11 [some (.ref 0), some (.int x), some (.int y), none, none] [] g (fun r h' => r = some (.int S.1) ∧ CS h' S.2 t n fl ib u ∧ ag in64 g h') := by
    intro q
    refine at_k (-1) dX7_draw_11 rfl (by decide) ?_
    refine at_ret dX7_draw_12 rfl rfl ?_
    rw [s_draw, if_neg q] at hS
    subst hS
    exact ⟨rfl, hC0, ag_r _ _⟩
  refine at_ld (i := 2) dX7_draw_0 rfl rfl rfl ?_
  refine at_k (nI 1) dX7_draw_1 rfl (by decide) ?_
  refine at_ilt 11 dX7_draw_2 (by decide) (fun c => ?_) (fun c => ?_)
  · refine bad (fun q => ?_)
    obtain ⟨k, h1, h2, rfl⟩ := inR_of (by decide) q
    exact nI_nlt h1 (by omega) c
  · have c' : ¬ y < 0 := fun q => c (Int32.lt_trans q (by decide))
    obtain ⟨m, hm, rfl⟩ := nI_of c'
    have hm1 : 1 ≤ m := by
      rcases Nat.eq_zero_or_pos m with q | q
      · rw [q] at c; exact absurd (by decide) c
      · exact q
    refine at_ld (i := 2) dX7_draw_5 rfl rfl rfl ?_
    refine at_k (nI 20) dX7_draw_6 rfl (by decide) ?_
    refine at_ile 13 dX7_draw_8 (by decide) (fun c2 => ?_) (fun c2 => bad (fun q => ?_))
    · have hm20 := (nI_leI hm (by decide)).mp c2
      rw [s_draw, if_pos (by rw [inR_nI hm]; exact decide_eq_true ⟨hm1, hm20⟩), nI_clamp hm] at hS
      have ks := k_isSpoilt (g := g) (a := 1) (v := v) (b := b) (d := d) (K := K) (e := nI (v 6)) (m := nI (v 7)) (by omega) (by decide) hb hR w iv.1.1.2.2 iv.1.2.2.1
      rw [← eV] at ks
      refine at_ld (i := 0) dX7_draw_13 rfl rfl rfl ?_
      refine at_get dX7_draw_14 fX7_10 h0 (by omega) rfl ?_
      refine at_cv [] dX7_draw_17 mX6_isSpoilt ⟨Nat.le_of_ble_eq_true rfl, Nat.le_of_ble_eq_true rfl⟩ lX7_255 iX6_isSpoilt rfl rfl hV (by omega) rfl (Nat.le_of_ble_eq_true rfl) (Nat.le_of_ble_eq_true rfl) (ks) ?_ ?_
      · rintro r h1 ⟨-, d', rfl⟩
        exact ⟨rfl, rfl⟩
      · rintro r h1 ⟨rfl, d', rfl⟩
        try dsimp only [Option.toList, List.cons_append, List.nil_append]
        have f1 : VS g 1 v (vo g 1 v b d' K (nI (v 6)) (nI (v 7))) := ⟨b, d', K, rfl, hb, hR⟩
        have q1 := CS_v hC0 f1
        have q2 := ag_v f1
        have q0 : sg_at (vo g 1 v b d' K (nI (v 6)) (nI (v 7))) 0 (.inr (7, sgF tc fl (ib 0) (ib 1) sd)) := vo_O (by omega) h0
        generalize vo g 1 v b d' K (nI (v 6)) (nI (v 7)) = g1 at q1 q2 q0
        cases hsp : spt v with
        | true =>
          rw [if_pos hsp] at hS
          subst hS
          refine at_zeq 26 dX7_draw_20 (by decide) (fun cz_ => absurd cz_ ((by decide))) (fun _ => ?_)
          refine at_k (-2) dX7_draw_23 rfl (by decide) ?_
          refine at_ret dX7_draw_25 rfl rfl ?_
          exact ⟨rfl, q1, q2⟩
        | false =>
          rw [if_neg (by rw [hsp]; decide)] at hS
          refine at_zeq 26 dX7_draw_20 (by decide) (fun _ => ?_) (fun cz_ => absurd (rfl) cz_)
          refine at_ld (i := 0) dX7_draw_26 rfl rfl rfl ?_
          refine at_ld (i := 1) dX7_draw_27 rfl rfl rfl ?_
          refine at_put dX7_draw_28 fX7_258 ⟨_, _, rfl, Or.inl rfl, tyX7_ok 13 (by decide), fun _ => ⟨rfl, rfl⟩⟩ q0 (by omega) (Nat.le_of_ble_eq_true rfl) (show sg_up g1 0 _ = sg_up g1 0 (.inr (7, sgF tc fl (ib 0) (ib 1) x)) from rfl) ?_
          refine at_k (nI 0) dX7_draw_31 rfl (by decide) ?_
          refine at_st (i := 3) dX7_draw_32 rfl rfl (Nat.le_of_ble_eq_true rfl) rfl ?_
          try dsimp only [List.set_cons_succ, List.set_cons_zero]
          refine at_k (nI 0) dX7_draw_33 rfl (by decide) ?_
          refine at_st (i := 4) dX7_draw_34 rfl rfl (Nat.le_of_ble_eq_true rfl) rfl ?_
          try dsimp only [List.set_cons_succ, List.set_cons_zero]
          have loop : ∀ r k v1 s1 mm h1, k + r = m → mm ≤ k → CS h1 v1 t n fl ib u → Inv v1 → ag in64 g h1 → sg_at h1 0 (.inr (7, sgF tc fl (ib 0) (ib 1) s1)) → S = (nI (drw sdn sdo r v1 s1 mm).1, (drw sdn sdo r v1 s1 mm).2) → sg_A MX7_draw 36 [some (.ref 0), some (.int x), some (.int (nI m)), some (.int (nI mm)), some (.int (nI k))] [] h1 (fun r h' => r = some (.int S.1) ∧ CS h' S.2 t n fl ib u ∧ ag in64 g h') := by
            intro r
            induction r with
            | zero =>
              intro k v1 s1 mm h1 hk hmk z1 z2 z3 z4 hS2
              refine at_ld (i := 4) dX7_draw_36 rfl rfl rfl ?_
              refine at_ld (i := 2) dX7_draw_38 rfl rfl rfl ?_
              refine at_ige 58 dX7_draw_39 (by decide) (fun _ => ?_) (fun cz_ => absurd (nI_le (by omega) (by omega)) cz_)
              refine at_ld (i := 3) dX7_draw_58 rfl rfl rfl ?_
              refine at_ret dX7_draw_59 rfl rfl ?_
              subst hS2
              exact ⟨rfl, z1, z3⟩
            | succ r ih =>
              intro k v1 s1 mm h1 hk hmk z1 z2 z3 z4 hS2
              refine at_ld (i := 4) dX7_draw_36 rfl rfl rfl ?_
              refine at_ld (i := 2) dX7_draw_38 rfl rfl rfl ?_
              refine at_ige 58 dX7_draw_39 (by decide) (fun cz_ => absurd cz_ (nI_ge (by omega) (by omega))) (fun _ => ?_)
              refine at_ld (i := 0) dX7_draw_42 rfl rfl rfl ?_
              refine at_cv [] dX7_draw_43 mX7_drawnDeed ⟨Nat.le_of_ble_eq_true rfl, Nat.le_of_ble_eq_true rfl⟩ lX7_261 iX7_drawnDeed rfl rfl z4 (by omega) rfl (Nat.le_of_ble_eq_true rfl) (Nat.le_of_ble_eq_true rfl) (k_drawnDeed z1 z2 z4) ?_ ?_
              · rintro r' h2 ⟨-, -, q, -⟩
                exact ⟨q.1, q.2.1⟩
              · rintro r' h2 ⟨rfl, y1, y2, y3⟩
                try dsimp only [Option.toList, List.cons_append, List.nil_append]
                rw [drw_s2] at hS2
                generalize sdn (sdn (sdn (sdn s1))) = s5 at hS2 y3
                have iv5 := Inv_dds z2 s1
                generalize dds v1 s1 = D5 at *
                refine at_zlt 52 dX7_draw_46 (by decide) (fun c4 => ?_) (fun c4 => ?_)
                · rw [if_neg (Int32.not_le.mpr c4)] at hS2
                  refine at_iinc (nI 1) dX7_draw_52 rfl rfl (by decide) ?_
                  try dsimp only [List.set_cons_succ, List.set_cons_zero]
                  refine at_goto 36 dX7_draw_55 (by decide) ?_
                  rw [nI_add]
                  exact ih (k + 1) _ _ mm h2 (by omega) (by omega) y1 iv5 (ag_t z3 y2) y3 hS2
                · rw [if_pos (Int32.not_lt.mp c4)] at hS2
                  refine at_iinc (nI 1) dX7_draw_49 rfl rfl (by decide) ?_
                  try dsimp only [List.set_cons_succ, List.set_cons_zero]
                  refine at_iinc (nI 1) dX7_draw_52 rfl rfl (by decide) ?_
                  try dsimp only [List.set_cons_succ, List.set_cons_zero]
                  refine at_goto 36 dX7_draw_55 (by decide) ?_
                  rw [nI_add, nI_add]
                  exact ih (k + 1) _ _ (mm + 1) h2 (by omega) (by omega) y1 iv5 (ag_t z3 y2) y3 hS2
          exact loop m 0 v x 0 _ (by omega) (by omega) (CS_0 q1 tc x fl ib u (fun q => q1.2.2.2.2.2.2.2.2.2.2.1 q) (fun q => q1.2.2.2.2.2.2.2.2.2.2.2.1 q)) iv (ag_t q2 (ag_w (ag_up _ _ _) (fun j hj => by show j < 64; omega))) (up_e q0 _) hS.symm
    · rw [inR_nI hm] at q
      exact c2 (nI_le (of_decide_eq_true q).2 (by decide))
end K5
