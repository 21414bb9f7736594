/-! THE REFERENCE: a new start, images -/
/-- the rows of st while they are made anew: those below k are done -/
def an0 (v : Nat → Nat) (k : Nat) : Nat → Nat := fun c => if 6 ≤ c ∧ c < k then (if 8 ≤ c ∧ c < 8 + 4 * v 0 * v 1 then 1 else 0) else v c
def an1 (v : Nat → Nat) : Nat → Nat := vf_upd (vf_upd (vf_upd (vf_upd (vf_upd (vf_upd (an0 v 496) 8 0) 136 1) 137 4294967292) 138 4294967292) 139 1) 140 0
def kpt (v : Nat → Nat) (A : Nat → Nat → Int32) (k : Nat) : Nat → Int32 := fun c => if 496 * k ≤ c ∧ c < 496 * k + 496 then nI (v (c - 496 * k)) else A 3 c
def tdy (v : Nat → Nat) : Prop := ∀ c, 496 ≤ c → v c = 0
section R16
variable {h : sg_H} (A : Nat → Nat → Int32) (F : Nat → Int32) (v : Nat → Nat)
set_option maxRecDepth 100000 in
theorem c_anew (hn : 72 ≤ h.1) (hgb : v 0 * v 1 ≤ 32) : sg_Kw MX8_anew [.ref 64] (mv h A F v) none (mv h A F (an1 v)) := by
  have hfr := fragI (v := v)
  show sg_A MX8_anew 0 [some (.ref 64), none] [] _ _
  refine at_k (nI 6) dX8_anew_0 rfl (by decide) ?_
  refine at_st (i := 1) dX8_anew_2 rfl rfl (Nat.le_of_ble_eq_true rfl) rfl ?_
  try dsimp only [List.set_cons_succ, List.set_cons_zero]
  have e0 : mv h A F v = mv h A F (an0 v 6) := by
    have : v = an0 v 6 := by funext c; simp only [an0]; rw [if_neg (by omega)]
    rw [← this]
  rw [e0]
  refine lpF (fun k => sg_A MX8_anew 3 [some (.ref 64), some (.int (nI k))] [] (mv h A F (an0 v k)) (fun r' h' => r' = none ∧ h' = mv h A F (an1 v))) 6 496 (by decide) ?_ ?_
  · refine at_ld (i := 1) dX8_anew_3 rfl rfl rfl ?_
    refine at_k (nI 496) dX8_anew_4 rfl (by decide) ?_
    refine at_ige 44 dX8_anew_7 (by decide) (fun c => ?_) (fun c => ?_)
    · refine at_ld (i := 0) dX8_anew_44 rfl rfl rfl ?_
      refine at_get dX8_anew_45 fX8_7 (mv_o hn _ _ _) (by omega) rfl ?_
      refine at_k (nI 8) dX8_anew_48 rfl (by decide) ?_
      refine at_k (nI 0) dX8_anew_50 rfl (by decide) ?_
      refine at_ast 8 dX8_anew_51 (mv_a hn _ _ _) (by omega) rfl (by decide) (by decide) (mv_s h A F _ 8 _ 0 rfl) ?_
      refine at_ld (i := 0) dX8_anew_52 rfl rfl rfl ?_
      refine at_get dX8_anew_53 fX8_7 (mv_o hn _ _ _) (by omega) rfl ?_
      refine at_k (nI 136) dX8_anew_56 rfl (by decide) ?_
      refine at_k (nI 1) dX8_anew_59 rfl (by decide) ?_
      refine at_ast 136 dX8_anew_60 (mv_a hn _ _ _) (by omega) rfl (by decide) (by decide) (mv_s h A F _ 136 _ 1 rfl) ?_
      refine at_ld (i := 0) dX8_anew_61 rfl rfl rfl ?_
      refine at_get dX8_anew_62 fX8_7 (mv_o hn _ _ _) (by omega) rfl ?_
      refine at_k (nI 137) dX8_anew_65 rfl (by decide) ?_
      refine at_k (-4) dX8_anew_68 rfl (by decide) ?_
      refine at_ast 137 dX8_anew_70 (mv_a hn _ _ _) (by omega) rfl (by decide) (by decide) (mv_s h A F _ 137 _ 4294967292 (by decide)) ?_
      refine at_ld (i := 0) dX8_anew_71 rfl rfl rfl ?_
      refine at_get dX8_anew_72 fX8_7 (mv_o hn _ _ _) (by omega) rfl ?_
      refine at_k (nI 138) dX8_anew_75 rfl (by decide) ?_
      refine at_k (-4) dX8_anew_78 rfl (by decide) ?_
      refine at_ast 138 dX8_anew_80 (mv_a hn _ _ _) (by omega) rfl (by decide) (by decide) (mv_s h A F _ 138 _ 4294967292 (by decide)) ?_
      refine at_ld (i := 0) dX8_anew_81 rfl rfl rfl ?_
      refine at_get dX8_anew_82 fX8_7 (mv_o hn _ _ _) (by omega) rfl ?_
      refine at_k (nI 139) dX8_anew_85 rfl (by decide) ?_
      refine at_k (nI 1) dX8_anew_88 rfl (by decide) ?_
      refine at_ast 139 dX8_anew_89 (mv_a hn _ _ _) (by omega) rfl (by decide) (by decide) (mv_s h A F _ 139 _ 1 rfl) ?_
      refine at_ld (i := 0) dX8_anew_90 rfl rfl rfl ?_
      refine at_get dX8_anew_91 fX8_7 (mv_o hn _ _ _) (by omega) rfl ?_
      refine at_k (nI 140) dX8_anew_94 rfl (by decide) ?_
      refine at_k (nI 0) dX8_anew_97 rfl (by decide) ?_
      refine at_ast 140 dX8_anew_98 (mv_a hn _ _ _) (by omega) rfl (by decide) (by decide) (mv_s h A F _ 140 _ 0 rfl) ?_
      refine at_vret dX8_anew_99 rfl ?_
      exact ⟨rfl, rfl⟩
    · exact absurd (nI_le (Nat.le_refl _) (by omega)) c
  · intro k hk1 hk ih
    have z0 : an0 v k 0 = v 0 := by simp only [an0]; rw [if_neg (by omega)]
    have z1 : an0 v k 1 = v 1 := by simp only [an0]; rw [if_neg (by omega)]
    have nx : ∀ y, y = (if 8 ≤ k ∧ k < 8 + 4 * v 0 * v 1 then 1 else 0) → sg_A MX8_anew 37 [some (.ref 64), some (.int (nI k))] [.int (nI y), .int (nI k), .ref 65] (mv h A F (an0 v k)) (fun r' h' => r' = none ∧ h' = mv h A F (an1 v)) := by
      intro y hy
      refine at_ast k dX8_anew_37 (mv_a hn _ _ _) (by omega) rfl hk (by decide) (mv_s h A F _ k _ y rfl) ?_
      have e : vf_upd (an0 v k) k y = an0 v (k + 1) := by
        funext c
        simp only [vf_upd, an0]
        by_cases q : c = k
        · rw [if_pos q, if_pos (by omega), hy, q]
        · rw [if_neg q]
          by_cases q2 : 6 ≤ c ∧ c < k
          · have q3 : 6 ≤ c ∧ c < k + 1 := by omega
            rw [if_pos q2, if_pos q3]
          · have q3 : ¬ (6 ≤ c ∧ c < k + 1) := by omega
            rw [if_neg q2, if_neg q3]
      rw [e]
      refine at_iinc (nI 1) dX8_anew_38 rfl rfl (by decide) ?_
      try dsimp only [List.set_cons_succ, List.set_cons_zero]
      refine at_goto 3 dX8_anew_41 (by decide) ?_
      rw [nI_add]
      exact ih
    refine at_ld (i := 1) dX8_anew_3 rfl rfl rfl ?_
    refine at_k (nI 496) dX8_anew_4 rfl (by decide) ?_
    refine at_ige 44 dX8_anew_7 (by decide) (fun c => ?_) (fun c => ?_)
    · exact absurd c (nI_ge hk (by omega))
    · refine at_ld (i := 0) dX8_anew_10 rfl rfl rfl ?_
      refine at_get dX8_anew_11 fX8_7 (mv_o hn _ _ _) (by omega) rfl ?_
      refine at_ld (i := 1) dX8_anew_14 rfl rfl rfl ?_
      refine at_ld (i := 1) dX8_anew_15 rfl rfl rfl ?_
      refine at_k (nI 8) dX8_anew_16 rfl (by decide) ?_
      refine at_ilt 36 dX8_anew_18 (by decide) (fun c1 => ?_) (fun c1 => ?_)
      · have c2 := (nI_ltI (by omega) (by omega)).mp c1
        refine at_k (nI 0) dX8_anew_36 rfl (by decide) ?_
        exact nx 0 (if_neg (by omega)).symm
      · have c2 : 8 ≤ k := by
          rcases Nat.lt_or_ge k 8 with z | z
          · exact absurd (nI_lt z (by omega)) c1
          · exact z
        refine at_ld (i := 1) dX8_anew_21 rfl rfl rfl ?_
        refine at_k (nI 8) dX8_anew_22 rfl (by decide) ?_
        refine at_ld (i := 0) dX8_anew_24 rfl rfl rfl ?_
        refine at_rv [] dX8_anew_25 mX8_fragments ⟨Nat.le_of_ble_eq_true rfl, Nat.le_of_ble_eq_true rfl⟩ lX8_35 iX8_fragments rfl rfl (mv_o hn _ _ _) (by omega) rfl (Nat.le_of_ble_eq_true rfl) (Nat.le_of_ble_eq_true rfl) ⟨rfl, rfl⟩ (c_fragments A F _ hn) ?_
        refine at_bin dX8_anew_28 rfl ?_
        try dsimp only
        rw [nI_add, z0, z1]
        refine at_ige 36 dX8_anew_29 (by decide) (fun c3 => ?_) (fun c3 => ?_)
        · have c4 := (nI_leI (by omega) (by omega)).mp c3
          refine at_k (nI 0) dX8_anew_36 rfl (by decide) ?_
          exact nx 0 (if_neg (by omega)).symm
        · have c4 : k < 8 + 4 * v 0 * v 1 := by
            rcases Nat.lt_or_ge k (8 + 4 * v 0 * v 1) with z | z
            · exact z
            · exact absurd (nI_le z (by omega)) c3
          refine at_k (nI 1) dX8_anew_32 rfl (by decide) ?_
          refine at_goto 37 dX8_anew_33 (by decide) ?_
          exact nx 1 (if_pos ⟨c2, c4⟩).symm
theorem mv_a3 (hn : 72 ≤ h.1) : sg_at (mv h A F v) 68 (.inl (false, 992, A 3)) := by
  have := mh_a3 hn (vf_upd A 0 (fun k => nI (v k))) F
  rw [vu_n _ _ _ _ (by decide)] at this
  exact this
theorem mv_a4 (hn : 72 ≤ h.1) : sg_at (mv h A F v) 69 (.inl (true, 2, A 4)) := by
  have := mh_a4 hn (vf_upd A 0 (fun k => nI (v k))) F
  rw [vu_n _ _ _ _ (by decide)] at this
  exact this
theorem mv_s3 (f : Nat → Int32) : sg_up (mv h A F v) 68 (.inl (false, 992, f)) = mv h (vf_upd A 3 f) F v := by
  rw [mv, mh_s3, vu_comm _ (by decide)]
  rfl
theorem mv_s4 (f : Nat → Int32) : sg_up (mv h A F v) 69 (.inl (true, 2, f)) = mv h (vf_upd A 4 f) F v := by
  rw [mv, mh_s4, vu_comm _ (by decide)]
  rfl
set_option maxRecDepth 100000 in
theorem c_keep (hn : 72 ≤ h.1) (x : Int32) (b : Nat → Bool) (hb : ∀ k, k < 2 → A 4 k = bI (b k)) : sg_Kw MX8_keep [.ref 64, .int x] (mv h A F v) (some (.int (if inR x 0 1 = true then bI (b x.toNatClampNeg) else -1))) (if inR x 0 1 = true then mv h (vf_upd (vf_upd A 4 (upd (A 4) x.toNatClampNeg 1)) 3 (kpt v A x.toNatClampNeg)) F v else mv h A F v) := by
  show sg_A MX8_keep 0 [some (.ref 64), some (.int x), none, none] [] _ _
  refine at_ld (i := 1) dX8_keep_0 rfl rfl rfl ?_
  refine at_i2l dX8_keep_1 ?_
  refine at_lconst dX8_keep_2 ?_
  refine at_lconst dX8_keep_3 ?_
  refine at_rs [_, _, _] dX8_keep_4 mX8_in ⟨Nat.le_of_ble_eq_true rfl, Nat.le_of_ble_eq_true rfl⟩ lX8_41 tX8_in rfl (Nat.le_of_ble_eq_true rfl) (Nat.le_of_ble_eq_true rfl) ⟨rfl, rfl⟩ (c_inA _ x 0 1 rfl rfl (by decide) (by decide)) ?_
  refine at_zne 12 dX8_keep_7 (by decide) (fun c => ?_) (fun c => ?_)
  · have c1 := bI_1 c
    rw [if_pos c1, if_pos c1]
    obtain ⟨k, -, hk, rfl⟩ := inR_of (by decide) c1
    rw [nI_clamp (by omega)]
    refine at_ld (i := 0) dX8_keep_12 rfl rfl rfl ?_
    refine at_get dX8_keep_13 fX8_22 (mv_o hn _ _ _) (by omega) rfl ?_
    refine at_ld (i := 1) dX8_keep_16 rfl rfl rfl ?_
    refine at_bald k dX8_keep_17 (mv_a4 A F v hn) (by omega) rfl (by omega) (by decide) ?_
    rw [hb k (by omega)]
    refine at_rs [_] dX8_keep_18 mX8_flag ⟨Nat.le_of_ble_eq_true rfl, Nat.le_of_ble_eq_true rfl⟩ lX8_133 tX8_flag rfl (Nat.le_of_ble_eq_true rfl) (Nat.le_of_ble_eq_true rfl) ⟨rfl, rfl⟩ (c_flag _ _) ?_
    refine at_st (i := 2) dX8_keep_21 rfl rfl (Nat.le_of_ble_eq_true rfl) rfl ?_
    try dsimp only [List.set_cons_succ, List.set_cons_zero]
    refine at_ld (i := 0) dX8_keep_22 rfl rfl rfl ?_
    refine at_get dX8_keep_23 fX8_22 (mv_o hn _ _ _) (by omega) rfl ?_
    refine at_ld (i := 1) dX8_keep_26 rfl rfl rfl ?_
    refine at_k (nI 1) dX8_keep_27 rfl (by decide) ?_
    refine at_bast k dX8_keep_28 (mv_a4 A F v hn) (by omega) rfl (by omega) (by decide) (by decide) (mv_s4 A F v _) ?_
    rw [show nI 1 = (1 : Int32) from rfl]
    refine at_k (nI 0) dX8_keep_29 rfl (by decide) ?_
    refine at_st (i := 3) dX8_keep_30 rfl rfl (Nat.le_of_ble_eq_true rfl) rfl ?_
    try dsimp only [List.set_cons_succ, List.set_cons_zero]
    have e3 : vf_upd A 4 (upd (A 4) k 1) 3 = A 3 := vu_n _ _ _ _ (by decide)
    have e0 : mv h (vf_upd A 4 (upd (A 4) k 1)) F v = mv h (vf_upd (vf_upd A 4 (upd (A 4) k 1)) 3 (fun c => if 496 * k ≤ c ∧ c < 496 * k + 0 then nI (v (c - 496 * k)) else A 3 c)) F v := by
      have : (fun c => if 496 * k ≤ c ∧ c < 496 * k + 0 then nI (v (c - 496 * k)) else A 3 c) = A 3 := by funext c; rw [if_neg (by omega)]
      rw [this, ← e3, vu_id]
    rw [e0]
    refine lpN (fun j => sg_A MX8_keep 31 [some (.ref 64), some (.int (nI k)), some (.int (bI (b k))), some (.int (nI j))] [] (mv h (vf_upd (vf_upd A 4 (upd (A 4) k 1)) 3 (fun c => if 496 * k ≤ c ∧ c < 496 * k + j then nI (v (c - 496 * k)) else A 3 c)) F v) (fun r' h' => r' = some (.int (bI (b k))) ∧ h' = mv h (vf_upd (vf_upd A 4 (upd (A 4) k 1)) 3 (kpt v A k)) F v)) 496 ?_ ?_
    · refine at_ld (i := 3) dX8_keep_31 rfl rfl rfl ?_
      refine at_k (nI 496) dX8_keep_32 rfl (by decide) ?_
      refine at_ige 62 dX8_keep_35 (by decide) (fun c2 => ?_) (fun c2 => ?_)
      · refine at_ld (i := 2) dX8_keep_62 rfl rfl rfl ?_
        refine at_ret dX8_keep_63 rfl rfl ?_
        exact ⟨rfl, rfl⟩
      · exact absurd (nI_le (Nat.le_refl _) (by omega)) c2
    · intro j hj ih
      refine at_ld (i := 3) dX8_keep_31 rfl rfl rfl ?_
      refine at_k (nI 496) dX8_keep_32 rfl (by decide) ?_
      refine at_ige 62 dX8_keep_35 (by decide) (fun c2 => ?_) (fun c2 => ?_)
      · exact absurd c2 (nI_ge hj (by omega))
      · refine at_ld (i := 0) dX8_keep_38 rfl rfl rfl ?_
        refine at_get dX8_keep_39 fX8_19 (mv_o hn _ _ _) (by omega) rfl ?_
        refine at_k (nI 496) dX8_keep_42 rfl (by decide) ?_
        refine at_ld (i := 1) dX8_keep_45 rfl rfl rfl ?_
        refine at_bin dX8_keep_46 rfl ?_
        try dsimp only
        rw [nI_mul]
        refine at_ld (i := 3) dX8_keep_47 rfl rfl rfl ?_
        refine at_bin dX8_keep_48 rfl ?_
        try dsimp only
        rw [nI_add]
        refine at_ld (i := 0) dX8_keep_49 rfl rfl rfl ?_
        refine at_get dX8_keep_50 fX8_7 (mv_o hn _ _ _) (by omega) rfl ?_
        refine at_ld (i := 3) dX8_keep_53 rfl rfl rfl ?_
        refine at_ald (j) dX8_keep_54 (mv_a hn _ _ _) rfl hj (by decide) ?_
        refine at_ast (496 * k + j) dX8_keep_55 (mv_a3 _ F v hn) (by omega) rfl (by omega) (by decide) (mv_s3 _ F v _) ?_
        rw [vu_vu, vu_s]
        have e : upd (fun c => if 496 * k ≤ c ∧ c < 496 * k + j then nI (v (c - 496 * k)) else A 3 c) (496 * k + j) (nI (v j)) = (fun c => if 496 * k ≤ c ∧ c < 496 * k + (j + 1) then nI (v (c - 496 * k)) else A 3 c) := by
          funext c
          simp only [upd]
          by_cases q : c = 496 * k + j
          · rw [if_pos q, if_pos (by omega), q, Nat.add_sub_cancel_left]
          · rw [if_neg q]
            by_cases q2 : 496 * k ≤ c ∧ c < 496 * k + j
            · rw [if_pos q2, if_pos (by omega)]
            · rw [if_neg q2, if_neg (by omega)]
        rw [e]
        refine at_iinc (nI 1) dX8_keep_56 rfl rfl (by decide) ?_
        try dsimp only [List.set_cons_succ, List.set_cons_zero]
        refine at_goto 31 dX8_keep_59 (by decide) ?_
        rw [nI_add]
        exact ih
  · have c1 := (bI_0 _).mp (Classical.not_not.mp c)
    rw [c1, if_neg (by decide), if_neg (by decide)]
    refine at_k (-1) dX8_keep_10 rfl (by decide) ?_
    refine at_ret dX8_keep_11 rfl rfl ?_
    exact ⟨rfl, rfl⟩
set_option maxRecDepth 100000 in
theorem c_back (hn : 72 ≤ h.1) (x : Int32) (b : Nat → Bool) (u : Nat → Nat → Nat) (hb : ∀ k, k < 2 → A 4 k = bI (b k)) (hu : ∀ k, k < 2 → b k = true → wf (u k) ∧ tdy (u k) ∧ ∀ c, c < 496 → A 3 (496 * k + c) = nI (u k c)) (ht : tdy v) : sg_Kw MX8_back [.ref 64, .int x] (mv h A F v) (some (.int (if inR x 0 1 = true then (if b x.toNatClampNeg = true then nI (nth (u x.toNatClampNeg)) else -2) else -1))) (if inR x 0 1 = true ∧ b x.toNatClampNeg = true then mv h A F (u x.toNatClampNeg) else mv h A F v) := by
  show sg_A MX8_back 0 [some (.ref 64), some (.int x), none] [] _ _
  refine at_ld (i := 1) dX8_back_0 rfl rfl rfl ?_
  refine at_i2l dX8_back_1 ?_
  refine at_lconst dX8_back_2 ?_
  refine at_lconst dX8_back_3 ?_
  refine at_rs [_, _, _] dX8_back_4 mX8_in ⟨Nat.le_of_ble_eq_true rfl, Nat.le_of_ble_eq_true rfl⟩ lX8_41 tX8_in rfl (Nat.le_of_ble_eq_true rfl) (Nat.le_of_ble_eq_true rfl) ⟨rfl, rfl⟩ (c_inA _ x 0 1 rfl rfl (by decide) (by decide)) ?_
  refine at_zne 12 dX8_back_7 (by decide) (fun c => ?_) (fun c => ?_)
  · have c1 := bI_1 c
    rw [if_pos c1]
    obtain ⟨k, -, hk, rfl⟩ := inR_of (by decide) c1
    rw [nI_clamp (by omega)]
    refine at_ld (i := 0) dX8_back_12 rfl rfl rfl ?_
    refine at_get dX8_back_13 fX8_22 (mv_o hn _ _ _) (by omega) rfl ?_
    refine at_ld (i := 1) dX8_back_16 rfl rfl rfl ?_
    refine at_bald k dX8_back_17 (mv_a4 A F v hn) (by omega) rfl (by omega) (by decide) ?_
    rw [hb k (by omega)]
    refine at_zne 24 dX8_back_18 (by decide) (fun c2 => ?_) (fun c2 => ?_)
    · have c3 := bI_1 c2
      rw [if_pos c3, if_pos ⟨c1, c3⟩]
      obtain ⟨wu, tu, eu⟩ := hu k (by omega) c3
      refine at_k (nI 0) dX8_back_24 rfl (by decide) ?_
      refine at_st (i := 2) dX8_back_25 rfl rfl (Nat.le_of_ble_eq_true rfl) rfl ?_
      try dsimp only [List.set_cons_succ, List.set_cons_zero]
      have e0 : mv h A F v = mv h A F (fun c => if c < 0 then u k c else v c) := by
        have : (fun c => if c < 0 then u k c else v c) = v := by funext c; rw [if_neg (by omega)]
        rw [this]
      rw [e0]
      refine lpN (fun j => sg_A MX8_back 26 [some (.ref 64), some (.int (nI k)), some (.int (nI j))] [] (mv h A F (fun c => if c < j then u k c else v c)) (fun r' h' => r' = some (.int (nI (nth (u k)))) ∧ h' = mv h A F (u k))) 496 ?_ ?_
      · have e : (fun c => if c < 496 then u k c else v c) = u k := by
          funext c
          by_cases q : c < 496
          · rw [if_pos q]
          · rw [if_neg q, ht c (by omega), tu c (by omega)]
        rw [e]
        refine at_ld (i := 2) dX8_back_26 rfl rfl rfl ?_
        refine at_k (nI 496) dX8_back_27 rfl (by decide) ?_
        refine at_ige 57 dX8_back_30 (by decide) (fun c4 => ?_) (fun c4 => ?_)
        · refine at_ld (i := 0) dX8_back_57 rfl rfl rfl ?_
          refine at_rv [] dX8_back_58 mX8_inodesThere ⟨Nat.le_of_ble_eq_true rfl, Nat.le_of_ble_eq_true rfl⟩ lX8_130 iX8_inodesThere rfl rfl (mv_o hn _ _ _) (by omega) rfl (Nat.le_of_ble_eq_true rfl) (Nat.le_of_ble_eq_true rfl) ⟨rfl, rfl⟩ (c_inodesThere A F (u k) hn wu) ?_
          refine at_ret dX8_back_61 rfl rfl ?_
          exact ⟨rfl, rfl⟩
        · exact absurd (nI_le (Nat.le_refl _) (by omega)) c4
      · intro j hj ih
        refine at_ld (i := 2) dX8_back_26 rfl rfl rfl ?_
        refine at_k (nI 496) dX8_back_27 rfl (by decide) ?_
        refine at_ige 57 dX8_back_30 (by decide) (fun c4 => ?_) (fun c4 => ?_)
        · exact absurd c4 (nI_ge hj (by omega))
        · refine at_ld (i := 0) dX8_back_33 rfl rfl rfl ?_
          refine at_get dX8_back_34 fX8_7 (mv_o hn _ _ _) (by omega) rfl ?_
          refine at_ld (i := 2) dX8_back_37 rfl rfl rfl ?_
          refine at_ld (i := 0) dX8_back_38 rfl rfl rfl ?_
          refine at_get dX8_back_39 fX8_19 (mv_o hn _ _ _) (by omega) rfl ?_
          refine at_k (nI 496) dX8_back_42 rfl (by decide) ?_
          refine at_ld (i := 1) dX8_back_45 rfl rfl rfl ?_
          refine at_bin dX8_back_46 rfl ?_
          try dsimp only
          rw [nI_mul]
          refine at_ld (i := 2) dX8_back_47 rfl rfl rfl ?_
          refine at_bin dX8_back_48 rfl ?_
          try dsimp only
          rw [nI_add]
          refine at_ald (496 * k + j) dX8_back_49 (mv_a3 A F _ hn) rfl (by omega) (by decide) ?_
          rw [eu j hj]
          refine at_ast j dX8_back_50 (mv_a hn _ _ _) (by omega) rfl hj (by decide) (mv_s h A F _ j _ (u k j) rfl) ?_
          have e : vf_upd (fun c => if c < j then u k c else v c) j (u k j) = (fun c => if c < j + 1 then u k c else v c) := by
            funext c
            simp only [vf_upd]
            by_cases q : c = j
            · rw [if_pos q, if_pos (by omega), q]
            · rw [if_neg q]
              by_cases q2 : c < j
              · rw [if_pos q2, if_pos (by omega)]
              · rw [if_neg q2, if_neg (by omega)]
          rw [e]
          refine at_iinc (nI 1) dX8_back_51 rfl rfl (by decide) ?_
          try dsimp only [List.set_cons_succ, List.set_cons_zero]
          refine at_goto 26 dX8_back_54 (by decide) ?_
          rw [nI_add]
          exact ih
    · have c3 := (bI_0 _).mp (Classical.not_not.mp c2)
      rw [c3, if_neg (by decide), if_neg (fun z => by cases z.2)]
      refine at_k (-2) dX8_back_21 rfl (by decide) ?_
      refine at_ret dX8_back_23 rfl rfl ?_
      exact ⟨rfl, rfl⟩
  · have c1 := (bI_0 _).mp (Classical.not_not.mp c)
    rw [c1, if_neg (by decide), if_neg (fun z => by cases z.1)]
    refine at_k (-1) dX8_back_10 rfl (by decide) ?_
    refine at_ret dX8_back_11 rfl rfl ?_
    exact ⟨rfl, rfl⟩
end R16
