/-! THE CLASS: what stands where, Layout -/
theorem up_e {g : sg_H} {k : Nat} {e : sg_E} (h : sg_at g k e) (e' : sg_E) : sg_at (sg_up g k e') k e' := ⟨h.1, if_pos rfl⟩
theorem up_n {g : sg_H} {k j : Nat} {e : sg_E} (h : sg_at g j e) (e' : sg_E) (hj : j ≠ k) : sg_at (sg_up g k e') j e := ⟨h.1, by show (if j = k then e' else g.2.2 j) = e; rw [if_neg hj]; exact h.2⟩
theorem up_up (g : sg_H) (k : Nat) (e e' : sg_E) : sg_up (sg_up g k e) k e' = sg_up g k e' := by
  refine Prod.ext rfl (Prod.ext rfl ?_)
  funext j
  show (if j = k then e' else if j = k then e else g.2.2 j) = if j = k then e' else g.2.2 j
  split <;> rfl
theorem up_self {g : sg_H} {k : Nat} {e : sg_E} (h : sg_at g k e) : sg_up g k e = g := by
  refine Prod.ext rfl (Prod.ext rfl ?_)
  funext j
  show (if j = k then e else g.2.2 j) = g.2.2 j
  split
  · next q => rw [q, h.2]
  · rfl
theorem up_cm (g : sg_H) (k j : Nat) (e e' : sg_E) (hj : j ≠ k) : sg_up (sg_up g k e) j e' = sg_up (sg_up g j e') k e := by
  refine Prod.ext rfl (Prod.ext rfl ?_)
  funext i
  show (if i = j then e' else if i = k then e else g.2.2 i) = if i = k then e else if i = j then e' else g.2.2 i
  by_cases q : i = j
  · rw [if_pos q, if_neg (by omega), if_pos q]
  · rw [if_neg q, if_neg q]
def lay (v : Nat → Nat) : List Value := [.int (nI (v 0)), .int (nI (v 1)), .int (nI (v 2)), .int (nI (v 3)), .int (nI (v 4)), .int (nI (v 5))]
theorem lay_e {v v' : Nat → Nat} (h : ∀ c, c < 6 → v' c = v c) : lay v' = lay v := by
  unfold lay
  rw [h 0 (by decide), h 1 (by decide), h 2 (by decide), h 3 (by decide), h 4 (by decide), h 5 (by decide)]
theorem mod_lt2 {a n : Nat} (h1 : n ≤ a) (h2 : a < 2 * n) : a % n = a - n := by
  rw [Nat.mod_eq_sub_mod h1, Nat.mod_eq_of_lt (by omega)]
section C1
variable {g : sg_H} {l : Nat} {v : Nat → Nat}
set_option maxRecDepth 100000 in
theorem k_allBlocks (hl : sg_at g l (.inr (3, lay v))) (hl1 : l < 900) : sg_Kr MX3_allBlocks [.ref l] g (.int (nI (v 0 * v 1))) := by
  show sg_A MX3_allBlocks 0 [some (.ref l)] [] _ _
  refine at_ld (i := 0) dX3_allBlocks_0 rfl rfl rfl ?_
  refine at_get dX3_allBlocks_1 fX3_9 hl (by omega) rfl ?_
  refine at_ld (i := 0) dX3_allBlocks_4 rfl rfl rfl ?_
  refine at_get dX3_allBlocks_5 fX3_15 hl (by omega) rfl ?_
  refine at_bin dX3_allBlocks_8 rfl ?_
  refine at_ret dX3_allBlocks_9 rfl rfl ?_
  exact ri (nI_mul _ _)
set_option maxRecDepth 100000 in
theorem k_allInodes (hl : sg_at g l (.inr (3, lay v))) (hl1 : l < 900) : sg_Kr MX3_allInodes [.ref l] g (.int (nI (v 0 * v 2))) := by
  show sg_A MX3_allInodes 0 [some (.ref l)] [] _ _
  refine at_ld (i := 0) dX3_allInodes_0 rfl rfl rfl ?_
  refine at_get dX3_allInodes_1 fX3_9 hl (by omega) rfl ?_
  refine at_ld (i := 0) dX3_allInodes_4 rfl rfl rfl ?_
  refine at_get dX3_allInodes_5 fX3_18 hl (by omega) rfl ?_
  refine at_bin dX3_allInodes_8 rfl ?_
  refine at_ret dX3_allInodes_9 rfl rfl ?_
  exact ri (nI_mul _ _)
set_option maxRecDepth 100000 in
theorem k_isFragment (hl : sg_at g l (.inr (3, lay v))) (hl1 : l < 900) (w : wfg v) (x : Int32) : sg_Kr MX3_isFragment [.ref l, .int x] g (.int (bI (inR x 0 (4 * v 0 * v 1 - 1)))) := by
  have hgb := wf_gb w
  have h1 := gb_ge w.1.1 w.2.1.1
  have hfr : 4 * v 0 * v 1 = v 0 * v 1 * 4 := by rw [Nat.mul_assoc]; omega
  show sg_A MX3_isFragment 0 [some (.ref l), some (.int x)] [] _ _
  refine at_ld (i := 1) dX3_isFragment_0 rfl rfl rfl ?_
  refine at_zlt 23 dX3_isFragment_1 (by decide) (fun c => ?_) (fun c => ?_)
  · refine at_k (nI 0) dX3_isFragment_23 rfl (by decide) ?_
    refine at_ret dX3_isFragment_24 rfl rfl ?_
    refine ⟨?_, rfl⟩
    have : inR x 0 (4 * v 0 * v 1 - 1) = false := by
      refine decide_eq_false (fun z => ?_)
      have := Int32.lt_iff_toInt_lt.mp c
      simp at this
      omega
    rw [this]
    rfl
  · obtain ⟨k, hk, rfl⟩ := nI_of c
    refine at_ld (i := 1) dX3_isFragment_4 rfl rfl rfl ?_
    refine at_ld (i := 0) dX3_isFragment_5 rfl rfl rfl ?_
    refine at_get dX3_isFragment_6 fX3_9 hl (by omega) rfl ?_
    refine at_ld (i := 0) dX3_isFragment_9 rfl rfl rfl ?_
    refine at_get dX3_isFragment_10 fX3_15 hl (by omega) rfl ?_
    refine at_bin dX3_isFragment_13 rfl ?_
    try dsimp only
    rw [nI_mul]
    refine at_k (nI 4) dX3_isFragment_14 rfl (by decide) ?_
    refine at_bin dX3_isFragment_15 rfl ?_
    try dsimp only
    rw [nI_mul]
    refine at_ige 23 dX3_isFragment_16 (by decide) (fun c1 => ?_) (fun c1 => ?_)
    · have c2 := (nI_leI (by omega) (by omega)).mp c1
      refine at_k (nI 0) dX3_isFragment_23 rfl (by decide) ?_
      refine at_ret dX3_isFragment_24 rfl rfl ?_
      refine ⟨?_, rfl⟩
      rw [inR_nI (by omega), decide_eq_false (by omega)]
      rfl
    · have c2 : k < v 0 * v 1 * 4 := by
        rcases Nat.lt_or_ge k (v 0 * v 1 * 4) with z | z
        · exact z
        · exact absurd (nI_le z (by omega)) c1
      refine at_k (nI 1) dX3_isFragment_19 rfl (by decide) ?_
      refine at_goto 24 dX3_isFragment_20 (by decide) ?_
      refine at_ret dX3_isFragment_24 rfl rfl ?_
      refine ⟨?_, rfl⟩
      rw [inR_nI (by omega), decide_eq_true (by omega)]
      rfl
set_option maxRecDepth 100000 in
theorem k_behind (hl : sg_at g l (.inr (3, lay v))) (hl1 : l < 900) (w : wfg v) (a j : Nat) (ha : a < v 0) (hj : j < v 0) : sg_Kr MX3_behind [.ref l, .int (nI a), .int (nI j)] g (.int (nI (bh v a j))) := by
  have h4 := w.1.2
  show sg_A MX3_behind 0 [some (.ref l), some (.int (nI a)), some (.int (nI j)), none] [] _ _
  refine at_ld (i := 1) dX3_behind_0 rfl rfl rfl ?_
  refine at_ld (i := 2) dX3_behind_1 rfl rfl rfl ?_
  refine at_bin dX3_behind_2 rfl ?_
  try dsimp only
  rw [nI_add]
  refine at_st (i := 3) dX3_behind_3 rfl rfl (Nat.le_of_ble_eq_true rfl) rfl ?_
  try dsimp only [List.set_cons_succ, List.set_cons_zero]
  refine at_ld (i := 3) dX3_behind_4 rfl rfl rfl ?_
  refine at_ld (i := 0) dX3_behind_5 rfl rfl rfl ?_
  refine at_get dX3_behind_6 fX3_9 hl (by omega) rfl ?_
  refine at_ige 16 dX3_behind_9 (by decide) (fun c => ?_) (fun c => ?_)
  · have c1 := (nI_leI (by omega) (by omega)).mp c
    refine at_ld (i := 3) dX3_behind_16 rfl rfl rfl ?_
    refine at_ld (i := 0) dX3_behind_17 rfl rfl rfl ?_
    refine at_get dX3_behind_18 fX3_9 hl (by omega) rfl ?_
    refine at_bin dX3_behind_21 rfl ?_
    refine at_ret dX3_behind_22 rfl rfl ?_
    rw [nI_sub c1, bh, mod_lt2 c1 (by omega)]
    exact ⟨rfl, rfl⟩
  · have c1 : a + j < v 0 := by
      rcases Nat.lt_or_ge (a + j) (v 0) with z | z
      · exact z
      · exact absurd (nI_le z (by omega)) c
    refine at_ld (i := 3) dX3_behind_12 rfl rfl rfl ?_
    refine at_goto 22 dX3_behind_13 (by decide) ?_
    refine at_ret dX3_behind_22 rfl rfl ?_
    rw [bh, Nat.mod_eq_of_lt c1]
    exact ⟨rfl, rfl⟩
set_option maxRecDepth 100000 in
theorem k_groupOfInode (hl : sg_at g l (.inr (3, lay v))) (hl1 : l < 900) (w : wfg v) (i : Nat) (hi : i < 2 ^ 31) : sg_Kr MX3_groupOfInode [.ref l, .int (nI i)] g (.int (nI (i / v 2))) := by
  have h2 := w.2.2.1
  show sg_A MX3_groupOfInode 0 [some (.ref l), some (.int (nI i))] [] _ _
  refine at_ld (i := 0) dX3_groupOfInode_0 rfl rfl rfl ?_
  refine at_get dX3_groupOfInode_1 fX3_18 hl (by omega) rfl ?_
  refine at_zle 16 dX3_groupOfInode_4 (by decide) (fun c => ?_) (fun c => ?_)
  · exact absurd c (nI_nle (by omega) (by omega))
  · refine at_ld (i := 1) dX3_groupOfInode_7 rfl rfl rfl ?_
    refine at_ld (i := 0) dX3_groupOfInode_8 rfl rfl rfl ?_
    refine at_get dX3_groupOfInode_9 fX3_18 hl (by omega) rfl ?_
    refine at_div dX3_groupOfInode_12 (nI_ne0 (by omega) (by omega)) ?_
    refine at_goto 17 dX3_groupOfInode_13 (by decide) ?_
    refine at_ret dX3_groupOfInode_17 rfl rfl ?_
    exact ri (nI_div (by omega) (by omega))
set_option maxRecDepth 100000 in
theorem k_groupOfBlock (hl : sg_at g l (.inr (3, lay v))) (hl1 : l < 900) (w : wfg v) (b : Nat) (hb : b < 2 ^ 31) : sg_Kr MX3_groupOfBlock [.ref l, .int (nI b)] g (.int (nI (b / v 1))) := by
  have h2 := w.2.1
  show sg_A MX3_groupOfBlock 0 [some (.ref l), some (.int (nI b))] [] _ _
  refine at_ld (i := 0) dX3_groupOfBlock_0 rfl rfl rfl ?_
  refine at_get dX3_groupOfBlock_1 fX3_15 hl (by omega) rfl ?_
  refine at_zle 16 dX3_groupOfBlock_4 (by decide) (fun c => ?_) (fun c => ?_)
  · exact absurd c (nI_nle (by omega) (by omega))
  · refine at_ld (i := 1) dX3_groupOfBlock_7 rfl rfl rfl ?_
    refine at_ld (i := 0) dX3_groupOfBlock_8 rfl rfl rfl ?_
    refine at_get dX3_groupOfBlock_9 fX3_15 hl (by omega) rfl ?_
    refine at_div dX3_groupOfBlock_12 (nI_ne0 (by omega) (by omega)) ?_
    refine at_goto 17 dX3_groupOfBlock_13 (by decide) ?_
    refine at_ret dX3_groupOfBlock_17 rfl rfl ?_
    exact ri (nI_div (by omega) (by omega))
set_option maxRecDepth 100000 in
theorem k_placeBehind (hl : sg_at g l (.inr (3, lay v))) (hl1 : l < 900) (w : wfg v) (b : Nat) (hb : b < 2 ^ 31) : sg_Kr MX3_placeBehind [.ref l, .int (nI b)] g (.int (nI ((b % v 1 + 1 + v 3) % v 1))) := by
  have h2 := w.2.1
  have h3 := w.2.2.2.1
  have hm := Nat.mod_lt b (show v 1 > 0 by omega)
  show sg_A MX3_placeBehind 0 [some (.ref l), some (.int (nI b))] [] _ _
  refine at_ld (i := 0) dX3_placeBehind_0 rfl rfl rfl ?_
  refine at_get dX3_placeBehind_1 fX3_15 hl (by omega) rfl ?_
  refine at_zle 28 dX3_placeBehind_4 (by decide) (fun c => ?_) (fun c => ?_)
  · exact absurd c (nI_nle (by omega) (by omega))
  · refine at_ld (i := 1) dX3_placeBehind_7 rfl rfl rfl ?_
    refine at_ld (i := 0) dX3_placeBehind_8 rfl rfl rfl ?_
    refine at_get dX3_placeBehind_9 fX3_15 hl (by omega) rfl ?_
    refine at_rem dX3_placeBehind_12 (nI_ne0 (by omega) (by omega)) ?_
    rw [nI_rem (by omega) (by omega)]
    refine at_k (nI 1) dX3_placeBehind_13 rfl (by decide) ?_
    refine at_bin dX3_placeBehind_14 rfl ?_
    try dsimp only
    rw [nI_add]
    refine at_ld (i := 0) dX3_placeBehind_15 rfl rfl rfl ?_
    refine at_get dX3_placeBehind_16 fX3_21 hl (by omega) rfl ?_
    refine at_bin dX3_placeBehind_19 rfl ?_
    try dsimp only
    rw [nI_add]
    refine at_ld (i := 0) dX3_placeBehind_20 rfl rfl rfl ?_
    refine at_get dX3_placeBehind_21 fX3_15 hl (by omega) rfl ?_
    refine at_rem dX3_placeBehind_24 (nI_ne0 (by omega) (by omega)) ?_
    refine at_goto 29 dX3_placeBehind_25 (by decide) ?_
    rw [nI_rem (by omega) (by omega)]
    refine at_ret dX3_placeBehind_29 rfl rfl ?_
    exact ⟨rfl, rfl⟩
set_option maxRecDepth 100000 in
theorem k_leadsOn (hl : sg_at g l (.inr (3, lay v))) (hl1 : l < 900) (w : wfg v) (k : Nat) (hk : k < 2 ^ 31) : sg_Kr MX3_leadsOn [.ref l, .int (nI k)] g (.int (bI (decide (k % v 5 = 0)))) := by
  have h2 := w.2.2.2.2.2
  have hm := Nat.mod_lt k (show v 5 > 0 by omega)
  show sg_A MX3_leadsOn 0 [some (.ref l), some (.int (nI k))] [] _ _
  refine at_ld (i := 0) dX3_leadsOn_0 rfl rfl rfl ?_
  refine at_get dX3_leadsOn_1 fX3_27 hl (by omega) rfl ?_
  refine at_zle 20 dX3_leadsOn_4 (by decide) (fun c => ?_) (fun c => ?_)
  · exact absurd c (nI_nle (by omega) (by omega))
  · refine at_ld (i := 1) dX3_leadsOn_7 rfl rfl rfl ?_
    refine at_ld (i := 0) dX3_leadsOn_8 rfl rfl rfl ?_
    refine at_get dX3_leadsOn_9 fX3_27 hl (by omega) rfl ?_
    refine at_rem dX3_leadsOn_12 (nI_ne0 (by omega) (by omega)) ?_
    rw [nI_rem (by omega) (by omega)]
    refine at_zne 20 dX3_leadsOn_13 (by decide) (fun c1 => ?_) (fun c1 => ?_)
    · have c2 : ¬ k % v 5 = 0 := fun z => c1 (by rw [z]; rfl)
      refine at_k (nI 0) dX3_leadsOn_20 rfl (by decide) ?_
      refine at_ret dX3_leadsOn_21 rfl rfl ?_
      exact ri (bI_f c2)
    · have c2 := (nI_eq32 (b := 0) (by omega) (by decide)).mp (Classical.not_not.mp c1)
      refine at_k (nI 1) dX3_leadsOn_16 rfl (by decide) ?_
      refine at_goto 21 dX3_leadsOn_17 (by decide) ?_
      refine at_ret dX3_leadsOn_21 rfl rfl ?_
      exact ri (bI_t c2)
set_option maxRecDepth 100000 in
theorem k_number (hl : sg_at g l (.inr (3, lay v))) (hl1 : l < 900) (n : Nat) (hn : n < 6) : sg_Kr MX3_number [.ref l, .int (nI n)] g (.int (nI (v n))) := by
  show sg_A MX3_number 0 [some (.ref l), some (.int (nI n))] [] _ _
  refine at_ld (i := 1) dX3_number_0 rfl rfl rfl ?_
  rcases (show n = 0 ∨ n = 1 ∨ n = 2 ∨ n = 3 ∨ n = 4 ∨ n = 5 by omega) with rfl | rfl | rfl | rfl | rfl | rfl
  · refine at_tin 36 dX3_number_1 (by decide) (by decide) rfl (by decide) ?_
    refine at_ld (i := 0) dX3_number_36 rfl rfl rfl ?_
    refine at_get dX3_number_37 fX3_9 hl (by omega) rfl ?_
    refine at_ret dX3_number_40 rfl rfl ?_
    exact ⟨rfl, rfl⟩
  · refine at_tin 41 dX3_number_1 (by decide) (by decide) rfl (by decide) ?_
    refine at_ld (i := 0) dX3_number_41 rfl rfl rfl ?_
    refine at_get dX3_number_42 fX3_15 hl (by omega) rfl ?_
    refine at_ret dX3_number_45 rfl rfl ?_
    exact ⟨rfl, rfl⟩
  · refine at_tin 46 dX3_number_1 (by decide) (by decide) rfl (by decide) ?_
    refine at_ld (i := 0) dX3_number_46 rfl rfl rfl ?_
    refine at_get dX3_number_47 fX3_18 hl (by omega) rfl ?_
    refine at_ret dX3_number_50 rfl rfl ?_
    exact ⟨rfl, rfl⟩
  · refine at_tin 51 dX3_number_1 (by decide) (by decide) rfl (by decide) ?_
    refine at_ld (i := 0) dX3_number_51 rfl rfl rfl ?_
    refine at_get dX3_number_52 fX3_21 hl (by omega) rfl ?_
    refine at_ret dX3_number_55 rfl rfl ?_
    exact ⟨rfl, rfl⟩
  · refine at_tin 56 dX3_number_1 (by decide) (by decide) rfl (by decide) ?_
    refine at_ld (i := 0) dX3_number_56 rfl rfl rfl ?_
    refine at_get dX3_number_57 fX3_24 hl (by omega) rfl ?_
    refine at_ret dX3_number_60 rfl rfl ?_
    exact ⟨rfl, rfl⟩
  · refine at_tout 61 dX3_number_1 (by decide) (by decide) ?_
    refine at_ld (i := 0) dX3_number_61 rfl rfl rfl ?_
    refine at_get dX3_number_62 fX3_27 hl (by omega) rfl ?_
    refine at_ret dX3_number_65 rfl rfl ?_
    exact ⟨rfl, rfl⟩
end C1
set_option maxRecDepth 100000 in
theorem k_lset {g : sg_H} {l r : Nat} {fs : List Value} (hl : sg_at g l (.inr (3, fs))) (h6 : fs.length = 6) (hl1 : l < 900) (f : Nat → Int32) (hr : sg_at g r (.inl (false, 6, f))) (hrl : r ≠ l) (v : Nat → Nat) (hf : ∀ k, k < 6 → f k = nI (v k)) : sg_Kw MX3_set [.ref l, .ref r] g none (sg_up g l (.inr (3, lay v))) := by
  obtain ⟨x0, x1, x2, x3, x4, x5, rfl⟩ : ∃ x0 x1 x2 x3 x4 x5, fs = [x0, x1, x2, x3, x4, x5] := by
    match fs, h6 with
    | [x0, x1, x2, x3, x4, x5], _ => exact ⟨x0, x1, x2, x3, x4, x5, rfl⟩
  show sg_A MX3_set 0 [some (.ref l), some (.ref r)] [] _ _
  refine at_ld (i := 1) dX3_set_0 rfl rfl rfl ?_
  refine at_ifnull dX3_set_1 ?_
  refine at_ld (i := 1) dX3_set_4 rfl rfl rfl ?_
  refine at_alen dX3_set_5 hr ?_
  refine at_k (nI 6) dX3_set_6 rfl (by decide) ?_
  refine at_ige 12 dX3_set_8 (by decide) (fun c => ?_) (fun c => ?_)
  · refine at_ld (i := 0) dX3_set_12 rfl rfl rfl ?_
    refine at_ld (i := 1) dX3_set_13 rfl rfl rfl ?_
    refine at_k (nI 0) dX3_set_14 rfl (by decide) ?_
    refine at_ald 0 dX3_set_15 hr rfl (by decide) (by decide) ?_
    refine at_put dX3_set_16 fX3_9 ⟨_, _, rfl, Or.inl rfl, tyX3_ok 0 (by decide), fun _ => ⟨rfl, rfl⟩⟩ hl (by omega) (Nat.le_of_ble_eq_true rfl) rfl ?_
    refine at_ld (i := 0) dX3_set_19 rfl rfl rfl ?_
    refine at_ld (i := 1) dX3_set_20 rfl rfl rfl ?_
    refine at_k (nI 1) dX3_set_21 rfl (by decide) ?_
    refine at_ald 1 dX3_set_22 (up_n hr _ hrl) rfl (by decide) (by decide) ?_
    refine at_put dX3_set_23 fX3_15 ⟨_, _, rfl, Or.inl rfl, tyX3_ok 1 (by decide), fun _ => ⟨rfl, rfl⟩⟩ (up_e hl _) (by omega) (Nat.le_of_ble_eq_true rfl) (up_up _ _ _ _) ?_
    refine at_ld (i := 0) dX3_set_26 rfl rfl rfl ?_
    refine at_ld (i := 1) dX3_set_27 rfl rfl rfl ?_
    refine at_k (nI 2) dX3_set_28 rfl (by decide) ?_
    refine at_ald 2 dX3_set_29 (up_n hr _ hrl) rfl (by decide) (by decide) ?_
    refine at_put dX3_set_30 fX3_18 ⟨_, _, rfl, Or.inl rfl, tyX3_ok 2 (by decide), fun _ => ⟨rfl, rfl⟩⟩ (up_e hl _) (by omega) (Nat.le_of_ble_eq_true rfl) (up_up _ _ _ _) ?_
    refine at_ld (i := 0) dX3_set_33 rfl rfl rfl ?_
    refine at_ld (i := 1) dX3_set_34 rfl rfl rfl ?_
    refine at_k (nI 3) dX3_set_35 rfl (by decide) ?_
    refine at_ald 3 dX3_set_36 (up_n hr _ hrl) rfl (by decide) (by decide) ?_
    refine at_put dX3_set_37 fX3_21 ⟨_, _, rfl, Or.inl rfl, tyX3_ok 3 (by decide), fun _ => ⟨rfl, rfl⟩⟩ (up_e hl _) (by omega) (Nat.le_of_ble_eq_true rfl) (up_up _ _ _ _) ?_
    refine at_ld (i := 0) dX3_set_40 rfl rfl rfl ?_
    refine at_ld (i := 1) dX3_set_41 rfl rfl rfl ?_
    refine at_k (nI 4) dX3_set_42 rfl (by decide) ?_
    refine at_ald 4 dX3_set_43 (up_n hr _ hrl) rfl (by decide) (by decide) ?_
    refine at_put dX3_set_44 fX3_24 ⟨_, _, rfl, Or.inl rfl, tyX3_ok 4 (by decide), fun _ => ⟨rfl, rfl⟩⟩ (up_e hl _) (by omega) (Nat.le_of_ble_eq_true rfl) (up_up _ _ _ _) ?_
    refine at_ld (i := 0) dX3_set_47 rfl rfl rfl ?_
    refine at_ld (i := 1) dX3_set_48 rfl rfl rfl ?_
    refine at_k (nI 5) dX3_set_49 rfl (by decide) ?_
    refine at_ald 5 dX3_set_50 (up_n hr _ hrl) rfl (by decide) (by decide) ?_
    refine at_put dX3_set_51 fX3_27 ⟨_, _, rfl, Or.inl rfl, tyX3_ok 5 (by decide), fun _ => ⟨rfl, rfl⟩⟩ (up_e hl _) (by omega) (Nat.le_of_ble_eq_true rfl) (up_up _ _ _ _) ?_
    refine at_vret dX3_set_54 rfl ?_
    refine ⟨rfl, ?_⟩
    rw [hf 0 (by decide), hf 1 (by decide), hf 2 (by decide), hf 3 (by decide), hf 4 (by decide), hf 5 (by decide)]
    rfl
  · exact absurd (by decide) c
set_option maxRecDepth 100000 in
theorem k_lcopy {g : sg_H} {l r : Nat} {fs : List Value} (hl : sg_at g l (.inr (3, fs))) (h6 : fs.length = 6) (hl1 : l < 900) (hr1 : r < 900) (v : Nat → Nat) (hr : sg_at g r (.inr (3, lay v))) (hrl : r ≠ l) : sg_Kw MX3_copyFrom [.ref l, .ref r] g none (sg_up g l (.inr (3, lay v))) := by
  obtain ⟨x0, x1, x2, x3, x4, x5, rfl⟩ : ∃ x0 x1 x2 x3 x4 x5, fs = [x0, x1, x2, x3, x4, x5] := by
    match fs, h6 with
    | [x0, x1, x2, x3, x4, x5], _ => exact ⟨x0, x1, x2, x3, x4, x5, rfl⟩
  show sg_A MX3_copyFrom 0 [some (.ref l), some (.ref r)] [] _ _
  refine at_ld (i := 0) dX3_copyFrom_0 rfl rfl rfl ?_
  refine at_ld (i := 1) dX3_copyFrom_1 rfl rfl rfl ?_
  refine at_get dX3_copyFrom_2 fX3_9 hr (by omega) rfl ?_
  refine at_put dX3_copyFrom_5 fX3_9 ⟨_, _, rfl, Or.inl rfl, tyX3_ok 0 (by decide), fun _ => ⟨rfl, rfl⟩⟩ hl (by omega) (Nat.le_of_ble_eq_true rfl) rfl ?_
  refine at_ld (i := 0) dX3_copyFrom_8 rfl rfl rfl ?_
  refine at_ld (i := 1) dX3_copyFrom_9 rfl rfl rfl ?_
  refine at_get dX3_copyFrom_10 fX3_15 (up_n hr _ hrl) (by omega) rfl ?_
  refine at_put dX3_copyFrom_13 fX3_15 ⟨_, _, rfl, Or.inl rfl, tyX3_ok 1 (by decide), fun _ => ⟨rfl, rfl⟩⟩ (up_e hl _) (by omega) (Nat.le_of_ble_eq_true rfl) (up_up _ _ _ _) ?_
  refine at_ld (i := 0) dX3_copyFrom_16 rfl rfl rfl ?_
  refine at_ld (i := 1) dX3_copyFrom_17 rfl rfl rfl ?_
  refine at_get dX3_copyFrom_18 fX3_18 (up_n hr _ hrl) (by omega) rfl ?_
  refine at_put dX3_copyFrom_21 fX3_18 ⟨_, _, rfl, Or.inl rfl, tyX3_ok 2 (by decide), fun _ => ⟨rfl, rfl⟩⟩ (up_e hl _) (by omega) (Nat.le_of_ble_eq_true rfl) (up_up _ _ _ _) ?_
  refine at_ld (i := 0) dX3_copyFrom_24 rfl rfl rfl ?_
  refine at_ld (i := 1) dX3_copyFrom_25 rfl rfl rfl ?_
  refine at_get dX3_copyFrom_26 fX3_21 (up_n hr _ hrl) (by omega) rfl ?_
  refine at_put dX3_copyFrom_29 fX3_21 ⟨_, _, rfl, Or.inl rfl, tyX3_ok 3 (by decide), fun _ => ⟨rfl, rfl⟩⟩ (up_e hl _) (by omega) (Nat.le_of_ble_eq_true rfl) (up_up _ _ _ _) ?_
  refine at_ld (i := 0) dX3_copyFrom_32 rfl rfl rfl ?_
  refine at_ld (i := 1) dX3_copyFrom_33 rfl rfl rfl ?_
  refine at_get dX3_copyFrom_34 fX3_24 (up_n hr _ hrl) (by omega) rfl ?_
  refine at_put dX3_copyFrom_37 fX3_24 ⟨_, _, rfl, Or.inl rfl, tyX3_ok 4 (by decide), fun _ => ⟨rfl, rfl⟩⟩ (up_e hl _) (by omega) (Nat.le_of_ble_eq_true rfl) (up_up _ _ _ _) ?_
  refine at_ld (i := 0) dX3_copyFrom_40 rfl rfl rfl ?_
  refine at_ld (i := 1) dX3_copyFrom_41 rfl rfl rfl ?_
  refine at_get dX3_copyFrom_42 fX3_27 (up_n hr _ hrl) (by omega) rfl ?_
  refine at_put dX3_copyFrom_45 fX3_27 ⟨_, _, rfl, Or.inl rfl, tyX3_ok 5 (by decide), fun _ => ⟨rfl, rfl⟩⟩ (up_e hl _) (by omega) (Nat.le_of_ble_eq_true rfl) (up_up _ _ _ _) ?_
  refine at_vret dX3_copyFrom_48 rfl ?_
  exact ⟨rfl, rfl⟩
