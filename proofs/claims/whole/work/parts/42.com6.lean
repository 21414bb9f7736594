/-! THE CLASS: Inodes, what they tell one by one -/
def IN (g : sg_H) (p l : Nat) (v : Nat → Nat) (K : Nat → Nat → Int32) : Prop := sg_at g p (.inr (2, [.ref l, .ref (p + 1), .ref (p + 2), .ref (p + 3), .ref (p + 4), .ref (p + 5), .ref (p + 6)])) ∧ sg_at g l (.inr (3, lay v)) ∧ sg_at g (p + 1) (.inl (false, 24, K 0)) ∧ sg_at g (p + 2) (.inl (false, 24, K 1)) ∧ sg_at g (p + 3) (.inl (false, 24, K 2)) ∧ sg_at g (p + 4) (.inl (false, 24, K 3)) ∧ sg_at g (p + 5) (.inl (false, 24, K 4)) ∧ sg_at g (p + 6) (.inl (false, 240, K 5)) ∧ p < 900 ∧ l < p
/-- an inode's size, as the class keeps it -/
def sz (v : Nat → Nat) (i : Nat) : Nat := if io v i 0 = 0 then 0 else io v i 3
/-- its tail -/
def tlI (v : Nat → Nat) (i : Nat) : Int32 := if sz v i % 4 = 0 then -4 else nI (io v i 4)
def iR (v : Nat → Nat) (K : Nat → Nat → Int32) : Prop := ∀ i, i < 24 → K 0 i = nI (io v i 0) ∧ K 3 i = nI (sz v i) ∧ K 4 i = tlI v i ∧ (io v i 0 ≠ 0 → K 1 i = nI (io v i 1) ∧ K 2 i = nI (io v i 2)) ∧ ∀ k, k < sz v i / 4 → K 5 (i * 10 + k) = nI (io v i (5 + k))
theorem sz_le {v : Nat → Nat} (w : wf v) {i : Nat} (hi : i < 24) : sz v i ≤ 40 := by
  have := wf_s w hi
  unfold sz
  split <;> omega
theorem sz_t {v : Nat → Nat} {i : Nat} (h : io v i 0 ≠ 0) : sz v i = io v i 3 := if_neg h
section C6
variable {g : sg_H} {p l : Nat} {v : Nat → Nat} {K : Nat → Nat → Int32}
set_option maxRecDepth 100000 in
theorem k_kindOf (hI : IN g p l v K) (hR : iR v K) (i : Nat) (hi : i < 24) : sg_Kr MX2_kindOf [.ref p, .int (nI i)] g (.int (nI (io v i 0))) := by
  have hp := hI.2.2.2.2.2.2.2.2.1
  show sg_A MX2_kindOf 0 [some (.ref p), some (.int (nI i))] [] _ _
  refine at_ld (i := 1) dX2_kindOf_0 rfl rfl rfl ?_
  refine at_zlt 19 dX2_kindOf_1 (by decide) (fun c => ?_) (fun c => ?_)
  · exact absurd c (nI_pos (by omega))
  · refine at_ld (i := 1) dX2_kindOf_4 rfl rfl rfl ?_
    refine at_k (nI 24) dX2_kindOf_5 rfl (by decide) ?_
    refine at_ige 19 dX2_kindOf_7 (by decide) (fun c1 => ?_) (fun c1 => ?_)
    · exact absurd c1 (nI_ge hi (by decide))
    · refine at_ld (i := 0) dX2_kindOf_10 rfl rfl rfl ?_
      refine at_get dX2_kindOf_11 fX2_9 hI.1 (by omega) rfl ?_
      refine at_ld (i := 1) dX2_kindOf_14 rfl rfl rfl ?_
      refine at_ald (i) dX2_kindOf_15 hI.2.2.1 rfl hi (by decide) ?_
      refine at_goto 20 dX2_kindOf_16 (by decide) ?_
      refine at_ret dX2_kindOf_20 rfl rfl ?_
      exact ri (hR i hi).1
set_option maxRecDepth 100000 in
theorem k_kindOut (hI : IN g p l v K) (x : Int32) (hx : x < 0 ∨ nI 24 ≤ x) : sg_Kr MX2_kindOf [.ref p, .int x] g (.int (nI 0)) := by
  have hp := hI.2.2.2.2.2.2.2.2.1
  show sg_A MX2_kindOf 0 [some (.ref p), some (.int x)] [] _ _
  refine at_ld (i := 1) dX2_kindOf_0 rfl rfl rfl ?_
  refine at_zlt 19 dX2_kindOf_1 (by decide) (fun c => ?_) (fun c => ?_)
  · refine at_k (nI 0) dX2_kindOf_19 rfl (by decide) ?_
    refine at_ret dX2_kindOf_20 rfl rfl ?_
    exact ⟨rfl, rfl⟩
  · refine at_ld (i := 1) dX2_kindOf_4 rfl rfl rfl ?_
    refine at_k (nI 24) dX2_kindOf_5 rfl (by decide) ?_
    refine at_ige 19 dX2_kindOf_7 (by decide) (fun c1 => ?_) (fun c1 => ?_)
    · refine at_k (nI 0) dX2_kindOf_19 rfl (by decide) ?_
      refine at_ret dX2_kindOf_20 rfl rfl ?_
      exact ⟨rfl, rfl⟩
    · rcases hx with z | z
      · exact absurd z c
      · exact absurd z c1
set_option maxRecDepth 100000 in
theorem k_parentOf (hI : IN g p l v K) (hR : iR v K) (i : Nat) (hi : i < 24) (ht : io v i 0 ≠ 0) : sg_Kr MX2_parentOf [.ref p, .int (nI i)] g (.int (nI (io v i 1))) := by
  have hp := hI.2.2.2.2.2.2.2.2.1
  show sg_A MX2_parentOf 0 [some (.ref p), some (.int (nI i))] [] _ _
  refine at_ld (i := 1) dX2_parentOf_0 rfl rfl rfl ?_
  refine at_zlt 19 dX2_parentOf_1 (by decide) (fun c => ?_) (fun c => ?_)
  · exact absurd c (nI_pos (by omega))
  · refine at_ld (i := 1) dX2_parentOf_4 rfl rfl rfl ?_
    refine at_k (nI 24) dX2_parentOf_5 rfl (by decide) ?_
    refine at_ige 19 dX2_parentOf_7 (by decide) (fun c1 => ?_) (fun c1 => ?_)
    · exact absurd c1 (nI_ge hi (by decide))
    · refine at_ld (i := 0) dX2_parentOf_10 rfl rfl rfl ?_
      refine at_get dX2_parentOf_11 fX2_15 hI.1 (by omega) rfl ?_
      refine at_ld (i := 1) dX2_parentOf_14 rfl rfl rfl ?_
      refine at_ald (i) dX2_parentOf_15 hI.2.2.2.1 rfl hi (by decide) ?_
      refine at_goto 21 dX2_parentOf_16 (by decide) ?_
      refine at_ret dX2_parentOf_21 rfl rfl ?_
      exact ri ((hR i hi).2.2.2.1 ht).1
set_option maxRecDepth 100000 in
theorem k_nameOf (hI : IN g p l v K) (hR : iR v K) (i : Nat) (hi : i < 24) (ht : io v i 0 ≠ 0) : sg_Kr MX2_nameOf [.ref p, .int (nI i)] g (.int (nI (io v i 2))) := by
  have hp := hI.2.2.2.2.2.2.2.2.1
  show sg_A MX2_nameOf 0 [some (.ref p), some (.int (nI i))] [] _ _
  refine at_ld (i := 1) dX2_nameOf_0 rfl rfl rfl ?_
  refine at_zlt 19 dX2_nameOf_1 (by decide) (fun c => ?_) (fun c => ?_)
  · exact absurd c (nI_pos (by omega))
  · refine at_ld (i := 1) dX2_nameOf_4 rfl rfl rfl ?_
    refine at_k (nI 24) dX2_nameOf_5 rfl (by decide) ?_
    refine at_ige 19 dX2_nameOf_7 (by decide) (fun c1 => ?_) (fun c1 => ?_)
    · exact absurd c1 (nI_ge hi (by decide))
    · refine at_ld (i := 0) dX2_nameOf_10 rfl rfl rfl ?_
      refine at_get dX2_nameOf_11 fX2_18 hI.1 (by omega) rfl ?_
      refine at_ld (i := 1) dX2_nameOf_14 rfl rfl rfl ?_
      refine at_ald (i) dX2_nameOf_15 hI.2.2.2.2.1 rfl hi (by decide) ?_
      refine at_goto 21 dX2_nameOf_16 (by decide) ?_
      refine at_ret dX2_nameOf_21 rfl rfl ?_
      exact ri ((hR i hi).2.2.2.1 ht).2
set_option maxRecDepth 100000 in
theorem k_sizeOf (hI : IN g p l v K) (hR : iR v K) (i : Nat) (hi : i < 24) : sg_Kr MX2_sizeOf [.ref p, .int (nI i)] g (.int (nI (sz v i))) := by
  have hp := hI.2.2.2.2.2.2.2.2.1
  show sg_A MX2_sizeOf 0 [some (.ref p), some (.int (nI i))] [] _ _
  refine at_ld (i := 1) dX2_sizeOf_0 rfl rfl rfl ?_
  refine at_zlt 19 dX2_sizeOf_1 (by decide) (fun c => ?_) (fun c => ?_)
  · exact absurd c (nI_pos (by omega))
  · refine at_ld (i := 1) dX2_sizeOf_4 rfl rfl rfl ?_
    refine at_k (nI 24) dX2_sizeOf_5 rfl (by decide) ?_
    refine at_ige 19 dX2_sizeOf_7 (by decide) (fun c1 => ?_) (fun c1 => ?_)
    · exact absurd c1 (nI_ge hi (by decide))
    · refine at_ld (i := 0) dX2_sizeOf_10 rfl rfl rfl ?_
      refine at_get dX2_sizeOf_11 fX2_21 hI.1 (by omega) rfl ?_
      refine at_ld (i := 1) dX2_sizeOf_14 rfl rfl rfl ?_
      refine at_ald (i) dX2_sizeOf_15 hI.2.2.2.2.2.1 rfl hi (by decide) ?_
      refine at_goto 20 dX2_sizeOf_16 (by decide) ?_
      refine at_ret dX2_sizeOf_20 rfl rfl ?_
      exact ri (hR i hi).2.1
set_option maxRecDepth 100000 in
theorem k_tailOf (hI : IN g p l v K) (hR : iR v K) (i : Nat) (hi : i < 24) : sg_Kr MX2_tailOf [.ref p, .int (nI i)] g (.int (tlI v i)) := by
  have hp := hI.2.2.2.2.2.2.2.2.1
  show sg_A MX2_tailOf 0 [some (.ref p), some (.int (nI i))] [] _ _
  refine at_ld (i := 1) dX2_tailOf_0 rfl rfl rfl ?_
  refine at_zlt 19 dX2_tailOf_1 (by decide) (fun c => ?_) (fun c => ?_)
  · exact absurd c (nI_pos (by omega))
  · refine at_ld (i := 1) dX2_tailOf_4 rfl rfl rfl ?_
    refine at_k (nI 24) dX2_tailOf_5 rfl (by decide) ?_
    refine at_ige 19 dX2_tailOf_7 (by decide) (fun c1 => ?_) (fun c1 => ?_)
    · exact absurd c1 (nI_ge hi (by decide))
    · refine at_ld (i := 0) dX2_tailOf_10 rfl rfl rfl ?_
      refine at_get dX2_tailOf_11 fX2_24 hI.1 (by omega) rfl ?_
      refine at_ld (i := 1) dX2_tailOf_14 rfl rfl rfl ?_
      refine at_ald (i) dX2_tailOf_15 hI.2.2.2.2.2.2.1 rfl hi (by decide) ?_
      refine at_goto 21 dX2_tailOf_16 (by decide) ?_
      refine at_ret dX2_tailOf_21 rfl rfl ?_
      exact ri (hR i hi).2.2.1
set_option maxRecDepth 100000 in
theorem k_blocksOf (hI : IN g p l v K) (hR : iR v K) (w : wf v) (i : Nat) (hi : i < 24) : sg_Kr MX2_blocksOf [.ref p, .int (nI i)] g (.int (nI (sz v i / 4))) := by
  have hp := hI.2.2.2.2.2.2.2.2.1
  have hs := sz_le w hi
  show sg_A MX2_blocksOf 0 [some (.ref p), some (.int (nI i))] [] _ _
  refine at_ld (i := 1) dX2_blocksOf_0 rfl rfl rfl ?_
  refine at_zlt 21 dX2_blocksOf_1 (by decide) (fun c => ?_) (fun c => ?_)
  · exact absurd c (nI_pos (by omega))
  · refine at_ld (i := 1) dX2_blocksOf_4 rfl rfl rfl ?_
    refine at_k (nI 24) dX2_blocksOf_5 rfl (by decide) ?_
    refine at_ige 21 dX2_blocksOf_7 (by decide) (fun c1 => ?_) (fun c1 => ?_)
    · exact absurd c1 (nI_ge hi (by decide))
    · refine at_ld (i := 0) dX2_blocksOf_10 rfl rfl rfl ?_
      refine at_get dX2_blocksOf_11 fX2_21 hI.1 (by omega) rfl ?_
      refine at_ld (i := 1) dX2_blocksOf_14 rfl rfl rfl ?_
      refine at_ald (i) dX2_blocksOf_15 hI.2.2.2.2.2.1 rfl hi (by decide) ?_
      refine at_k (nI 4) dX2_blocksOf_16 rfl (by decide) ?_
      refine at_div dX2_blocksOf_17 (by decide) ?_
      refine at_goto 22 dX2_blocksOf_18 (by decide) ?_
      rw [(hR i hi).2.1, nI_div (by omega) (by decide)]
      refine at_ret dX2_blocksOf_22 rfl rfl ?_
      exact ⟨rfl, rfl⟩
set_option maxRecDepth 100000 in
theorem k_tailLengthOf (hI : IN g p l v K) (hR : iR v K) (w : wf v) (i : Nat) (hi : i < 24) : sg_Kr MX2_tailLengthOf [.ref p, .int (nI i)] g (.int (nI (sz v i % 4))) := by
  have hp := hI.2.2.2.2.2.2.2.2.1
  have hs := sz_le w hi
  show sg_A MX2_tailLengthOf 0 [some (.ref p), some (.int (nI i))] [] _ _
  refine at_ld (i := 1) dX2_tailLengthOf_0 rfl rfl rfl ?_
  refine at_zlt 21 dX2_tailLengthOf_1 (by decide) (fun c => ?_) (fun c => ?_)
  · exact absurd c (nI_pos (by omega))
  · refine at_ld (i := 1) dX2_tailLengthOf_4 rfl rfl rfl ?_
    refine at_k (nI 24) dX2_tailLengthOf_5 rfl (by decide) ?_
    refine at_ige 21 dX2_tailLengthOf_7 (by decide) (fun c1 => ?_) (fun c1 => ?_)
    · exact absurd c1 (nI_ge hi (by decide))
    · refine at_ld (i := 0) dX2_tailLengthOf_10 rfl rfl rfl ?_
      refine at_get dX2_tailLengthOf_11 fX2_21 hI.1 (by omega) rfl ?_
      refine at_ld (i := 1) dX2_tailLengthOf_14 rfl rfl rfl ?_
      refine at_ald (i) dX2_tailLengthOf_15 hI.2.2.2.2.2.1 rfl hi (by decide) ?_
      refine at_k (nI 4) dX2_tailLengthOf_16 rfl (by decide) ?_
      refine at_rem dX2_tailLengthOf_17 (by decide) ?_
      refine at_goto 22 dX2_tailLengthOf_18 (by decide) ?_
      rw [(hR i hi).2.1, nI_rem (by omega) (by decide)]
      refine at_ret dX2_tailLengthOf_22 rfl rfl ?_
      exact ⟨rfl, rfl⟩
set_option maxRecDepth 100000 in
theorem k_blockAtX (hI : IN g p l v K) (i k : Nat) (hi : i < 24) (hk : k < 10) : sg_Kr MX2_blockAt [.ref p, .int (nI i), .int (nI k)] g (.int (K 5 (i * 10 + k))) := by
  have hp := hI.2.2.2.2.2.2.2.2.1
  show sg_A MX2_blockAt 0 [some (.ref p), some (.int (nI i)), some (.int (nI k))] [] _ _
  refine at_ld (i := 1) dX2_blockAt_0 rfl rfl rfl ?_
  refine at_zlt 20 dX2_blockAt_1 (by decide) (fun c => ?_) (fun c => ?_)
  · exact absurd c (nI_pos (by omega))
  · refine at_ld (i := 1) dX2_blockAt_4 rfl rfl rfl ?_
    refine at_k (nI 24) dX2_blockAt_5 rfl (by decide) ?_
    refine at_ige 20 dX2_blockAt_7 (by decide) (fun c1 => ?_) (fun c1 => ?_)
    · exact absurd c1 (nI_ge hi (by decide))
    · refine at_ld (i := 2) dX2_blockAt_10 rfl rfl rfl ?_
      refine at_zlt 20 dX2_blockAt_11 (by decide) (fun c2 => ?_) (fun c2 => ?_)
      · exact absurd c2 (nI_pos (by omega))
      · refine at_ld (i := 2) dX2_blockAt_14 rfl rfl rfl ?_
        refine at_k (nI 10) dX2_blockAt_15 rfl (by decide) ?_
        refine at_ilt 23 dX2_blockAt_17 (by decide) (fun c3 => ?_) (fun c3 => ?_)
        · refine at_ld (i := 0) dX2_blockAt_23 rfl rfl rfl ?_
          refine at_get dX2_blockAt_24 fX2_27 hI.1 (by omega) rfl ?_
          refine at_ld (i := 1) dX2_blockAt_27 rfl rfl rfl ?_
          refine at_k (nI 10) dX2_blockAt_28 rfl (by decide) ?_
          refine at_bin dX2_blockAt_30 rfl ?_
          try dsimp only
          rw [nI_mul]
          refine at_ld (i := 2) dX2_blockAt_31 rfl rfl rfl ?_
          refine at_bin dX2_blockAt_32 rfl ?_
          try dsimp only
          rw [nI_add]
          refine at_ald (i * 10 + k) dX2_blockAt_33 hI.2.2.2.2.2.2.2.1 rfl (by omega) (by decide) ?_
          refine at_ret dX2_blockAt_34 rfl rfl ?_
          exact ⟨rfl, rfl⟩
        · exact absurd (nI_lt hk (by decide)) c3
theorem k_blockAt (hI : IN g p l v K) (hR : iR v K) (i k : Nat) (hi : i < 24) (hk : k < 10) (hk2 : k < sz v i / 4) : sg_Kr MX2_blockAt [.ref p, .int (nI i), .int (nI k)] g (.int (nI (io v i (5 + k)))) := by
  rw [← (hR i hi).2.2.2.2 k hk2]
  exact k_blockAtX hI i k hi hk
set_option maxRecDepth 100000 in
theorem k_blockAtN (hI : IN g p l v K) (i : Nat) (k : Int32) (hi : i < 24) (hk : k < 0) : sg_Kr MX2_blockAt [.ref p, .int (nI i), .int k] g (.int (-4)) := by
  have hp := hI.2.2.2.2.2.2.2.2.1
  show sg_A MX2_blockAt 0 [some (.ref p), some (.int (nI i)), some (.int k)] [] _ _
  refine at_ld (i := 1) dX2_blockAt_0 rfl rfl rfl ?_
  refine at_zlt 20 dX2_blockAt_1 (by decide) (fun c => ?_) (fun c => ?_)
  · exact absurd c (nI_pos (by omega))
  · refine at_ld (i := 1) dX2_blockAt_4 rfl rfl rfl ?_
    refine at_k (nI 24) dX2_blockAt_5 rfl (by decide) ?_
    refine at_ige 20 dX2_blockAt_7 (by decide) (fun c1 => ?_) (fun c1 => ?_)
    · exact absurd c1 (nI_ge hi (by decide))
    · refine at_ld (i := 2) dX2_blockAt_10 rfl rfl rfl ?_
      refine at_zlt 20 dX2_blockAt_11 (by decide) (fun c2 => ?_) (fun c2 => ?_)
      · refine at_k (-4) dX2_blockAt_20 rfl (by decide) ?_
        refine at_ret dX2_blockAt_22 rfl rfl ?_
        exact ⟨rfl, rfl⟩
      · exact absurd hk c2
set_option maxRecDepth 100000 in
theorem k_isNumber (hI : IN g p l v K) (w : wfg v) (x : Int32) : sg_Kr MX2_isNumber [.ref p, .int x] g (.int (bI (isI v x))) := by
  have hp := hI.2.2.2.2.2.2.2.2
  have hgi := wf_gi w
  show sg_A MX2_isNumber 0 [some (.ref p), some (.int x)] [] _ _
  refine at_ld (i := 1) dX2_isNumber_0 rfl rfl rfl ?_
  refine at_zlt 19 dX2_isNumber_1 (by decide) (fun c => ?_) (fun c => ?_)
  · refine at_k (nI 0) dX2_isNumber_19 rfl (by decide) ?_
    refine at_ret dX2_isNumber_20 rfl rfl ?_
    have : isI v x = false := by
      refine decide_eq_false (fun z => ?_)
      have := Int32.lt_iff_toInt_lt.mp c
      simp at this
      omega
    rw [this]
    exact ⟨rfl, rfl⟩
  · obtain ⟨k, hk, rfl⟩ := nI_of c
    rw [isI_nI w hk]
    refine at_ld (i := 1) dX2_isNumber_4 rfl rfl rfl ?_
    refine at_ld (i := 0) dX2_isNumber_5 rfl rfl rfl ?_
    refine at_get dX2_isNumber_6 fX2_30 hI.1 (by omega) rfl ?_
    refine at_rv [] dX2_isNumber_9 mX3_allInodes ⟨Nat.le_of_ble_eq_true rfl, Nat.le_of_ble_eq_true rfl⟩ lX2_51 iX3_allInodes rfl rfl hI.2.1 (by omega) rfl (Nat.le_of_ble_eq_true rfl) (Nat.le_of_ble_eq_true rfl) ⟨rfl, rfl⟩ (k_allInodes hI.2.1 (by omega)) ?_
    refine at_ige 19 dX2_isNumber_12 (by decide) (fun c1 => ?_) (fun c1 => ?_)
    · have c2 := (nI_leI (by omega) (by omega)).mp c1
      refine at_k (nI 0) dX2_isNumber_19 rfl (by decide) ?_
      refine at_ret dX2_isNumber_20 rfl rfl ?_
      exact ri (bI_f (by omega))
    · have c2 : k < v 0 * v 2 := by
        rcases Nat.lt_or_ge k (v 0 * v 2) with z | z
        · exact z
        · exact absurd (nI_le z (by omega)) c1
      refine at_k (nI 1) dX2_isNumber_15 rfl (by decide) ?_
      refine at_goto 20 dX2_isNumber_16 (by decide) ?_
      refine at_ret dX2_isNumber_20 rfl rfl ?_
      exact ri (bI_t c2)
set_option maxRecDepth 100000 in
theorem k_howManyIn (hI : IN g p l v K) (hR : iR v K) (w : wf v) (a n : Nat) (ha : a < v 0) (hn : n < 100) : sg_Kr MX2_howManyIn [.ref p, .int (nI a), .int (nI n)] g (.int (nI (cnt (fun k => decide (io v (v 2 * a + k) 0 = n)) (v 2)))) := by
  have hp := hI.2.2.2.2.2.2.2.2
  have hgi := wf_gi w.1
  have h6 := w.1.2.2.1.2
  show sg_A MX2_howManyIn 0 [some (.ref p), some (.int (nI a)), some (.int (nI n)), none, none] [] _ _
  refine at_k (nI 0) dX2_howManyIn_0 rfl (by decide) ?_
  refine at_st (i := 3) dX2_howManyIn_1 rfl rfl (Nat.le_of_ble_eq_true rfl) rfl ?_
  try dsimp only [List.set_cons_succ, List.set_cons_zero]
  refine at_k (nI 0) dX2_howManyIn_2 rfl (by decide) ?_
  refine at_st (i := 4) dX2_howManyIn_3 rfl rfl (Nat.le_of_ble_eq_true rfl) rfl ?_
  try dsimp only [List.set_cons_succ, List.set_cons_zero]
  refine lpN (fun k => sg_A MX2_howManyIn 5 [some (.ref p), some (.int (nI a)), some (.int (nI n)), some (.int (nI (cnt (fun k => decide (io v (v 2 * a + k) 0 = n)) k))), some (.int (nI k))] [] g _) (v 2) ?_ ?_
  · refine at_ld (i := 4) dX2_howManyIn_5 rfl rfl rfl ?_
    refine at_ld (i := 0) dX2_howManyIn_7 rfl rfl rfl ?_
    refine at_get dX2_howManyIn_8 fX2_30 hI.1 (by omega) rfl ?_
    refine at_get dX2_howManyIn_11 fX2_57 hI.2.1 (by omega) rfl ?_
    refine at_ige 46 dX2_howManyIn_14 (by decide) (fun c => ?_) (fun c => ?_)
    · refine at_ld (i := 3) dX2_howManyIn_46 rfl rfl rfl ?_
      refine at_ret dX2_howManyIn_47 rfl rfl ?_
      exact ⟨rfl, rfl⟩
    · exact absurd (nI_le (Nat.le_refl _) (by omega)) c
  · intro k hk ih
    have hlt := gb_lt ha hk
    have hkd := wf_k w (v 2 * a + k) (by omega)
    refine at_ld (i := 4) dX2_howManyIn_5 rfl rfl rfl ?_
    refine at_ld (i := 0) dX2_howManyIn_7 rfl rfl rfl ?_
    refine at_get dX2_howManyIn_8 fX2_30 hI.1 (by omega) rfl ?_
    refine at_get dX2_howManyIn_11 fX2_57 hI.2.1 (by omega) rfl ?_
    refine at_ige 46 dX2_howManyIn_14 (by decide) (fun c => ?_) (fun c => ?_)
    · exact absurd c (nI_ge hk (by omega))
    · refine at_ld (i := 0) dX2_howManyIn_17 rfl rfl rfl ?_
      refine at_ld (i := 1) dX2_howManyIn_18 rfl rfl rfl ?_
      refine at_ld (i := 0) dX2_howManyIn_19 rfl rfl rfl ?_
      refine at_get dX2_howManyIn_20 fX2_30 hI.1 (by omega) rfl ?_
      refine at_get dX2_howManyIn_23 fX2_57 hI.2.1 (by omega) rfl ?_
      refine at_bin dX2_howManyIn_26 rfl ?_
      try dsimp only
      rw [nI_mul]
      refine at_ld (i := 4) dX2_howManyIn_27 rfl rfl rfl ?_
      refine at_bin dX2_howManyIn_29 rfl ?_
      try dsimp only
      rw [nI_add, Nat.mul_comm a (v 2)]
      refine at_rv [_] dX2_howManyIn_30 mX2_kindOf ⟨Nat.le_of_ble_eq_true rfl, Nat.le_of_ble_eq_true rfl⟩ lX2_61 iX2_kindOf rfl rfl hI.1 (by omega) rfl (Nat.le_of_ble_eq_true rfl) (Nat.le_of_ble_eq_true rfl) ⟨rfl, rfl⟩ (k_kindOf hI hR (v 2 * a + k) (by omega)) ?_
      refine at_ld (i := 2) dX2_howManyIn_33 rfl rfl rfl ?_
      refine at_ine 40 dX2_howManyIn_34 (by decide) (fun c1 => ?_) (fun c1 => ?_)
      · have c2 : ¬ io v (v 2 * a + k) 0 = n := fun z => c1 (by rw [z])
        refine at_iinc (nI 1) dX2_howManyIn_40 rfl rfl (by decide) ?_
        try dsimp only [List.set_cons_succ, List.set_cons_zero]
        refine at_goto 5 dX2_howManyIn_43 (by decide) ?_
        rw [nI_add]
        rw [cnt_f (p := fun k => decide (io v (v 2 * a + k) 0 = n)) (k := k) (decide_eq_false c2)] at ih
        exact ih
      · have c2 : io v (v 2 * a + k) 0 = n := (nI_eq32 (by omega) (by omega)).mp (Classical.not_not.mp c1)
        refine at_iinc (nI 1) dX2_howManyIn_37 rfl rfl (by decide) ?_
        try dsimp only [List.set_cons_succ, List.set_cons_zero]
        refine at_iinc (nI 1) dX2_howManyIn_40 rfl rfl (by decide) ?_
        try dsimp only [List.set_cons_succ, List.set_cons_zero]
        refine at_goto 5 dX2_howManyIn_43 (by decide) ?_
        rw [nI_add, nI_add]
        rw [cnt_t (p := fun k => decide (io v (v 2 * a + k) 0 = n)) (k := k) (decide_eq_true c2)] at ih
        exact ih
set_option maxRecDepth 100000 in
theorem k_howMany (hI : IN g p l v K) (hR : iR v K) (w : wf v) (n : Nat) (hn : n < 100) : sg_Kr MX2_howMany [.ref p, .int (nI n)] g (.int (nI (ofk v n))) := by
  have hp := hI.2.2.2.2.2.2.2.2
  have hgi := wf_gi w.1
  show sg_A MX2_howMany 0 [some (.ref p), some (.int (nI n)), none, none] [] _ _
  refine at_k (nI 0) dX2_howMany_0 rfl (by decide) ?_
  refine at_st (i := 2) dX2_howMany_1 rfl rfl (Nat.le_of_ble_eq_true rfl) rfl ?_
  try dsimp only [List.set_cons_succ, List.set_cons_zero]
  refine at_k (nI 0) dX2_howMany_2 rfl (by decide) ?_
  refine at_st (i := 3) dX2_howMany_3 rfl rfl (Nat.le_of_ble_eq_true rfl) rfl ?_
  try dsimp only [List.set_cons_succ, List.set_cons_zero]
  refine lpN (fun k => sg_A MX2_howMany 4 [some (.ref p), some (.int (nI n)), some (.int (nI (cnt (fun i => decide (io v i 0 = n)) k))), some (.int (nI k))] [] g _) (v 0 * v 2) ?_ ?_
  · refine at_ld (i := 3) dX2_howMany_4 rfl rfl rfl ?_
    refine at_ld (i := 0) dX2_howMany_5 rfl rfl rfl ?_
    refine at_get dX2_howMany_6 fX2_30 hI.1 (by omega) rfl ?_
    refine at_rv [] dX2_howMany_9 mX3_allInodes ⟨Nat.le_of_ble_eq_true rfl, Nat.le_of_ble_eq_true rfl⟩ lX2_51 iX3_allInodes rfl rfl hI.2.1 (by omega) rfl (Nat.le_of_ble_eq_true rfl) (Nat.le_of_ble_eq_true rfl) ⟨rfl, rfl⟩ (k_allInodes hI.2.1 (by omega)) ?_
    refine at_ige 33 dX2_howMany_12 (by decide) (fun c => ?_) (fun c => ?_)
    · refine at_ld (i := 2) dX2_howMany_33 rfl rfl rfl ?_
      refine at_ret dX2_howMany_34 rfl rfl ?_
      exact ⟨rfl, rfl⟩
    · exact absurd (nI_le (Nat.le_refl _) (by omega)) c
  · intro k hk ih
    have hkd := wf_k w k (by omega)
    refine at_ld (i := 3) dX2_howMany_4 rfl rfl rfl ?_
    refine at_ld (i := 0) dX2_howMany_5 rfl rfl rfl ?_
    refine at_get dX2_howMany_6 fX2_30 hI.1 (by omega) rfl ?_
    refine at_rv [] dX2_howMany_9 mX3_allInodes ⟨Nat.le_of_ble_eq_true rfl, Nat.le_of_ble_eq_true rfl⟩ lX2_51 iX3_allInodes rfl rfl hI.2.1 (by omega) rfl (Nat.le_of_ble_eq_true rfl) (Nat.le_of_ble_eq_true rfl) ⟨rfl, rfl⟩ (k_allInodes hI.2.1 (by omega)) ?_
    refine at_ige 33 dX2_howMany_12 (by decide) (fun c => ?_) (fun c => ?_)
    · exact absurd c (nI_ge hk (by omega))
    · refine at_ld (i := 0) dX2_howMany_15 rfl rfl rfl ?_
      refine at_ld (i := 3) dX2_howMany_16 rfl rfl rfl ?_
      refine at_rv [_] dX2_howMany_17 mX2_kindOf ⟨Nat.le_of_ble_eq_true rfl, Nat.le_of_ble_eq_true rfl⟩ lX2_61 iX2_kindOf rfl rfl hI.1 (by omega) rfl (Nat.le_of_ble_eq_true rfl) (Nat.le_of_ble_eq_true rfl) ⟨rfl, rfl⟩ (k_kindOf hI hR k (by omega)) ?_
      refine at_ld (i := 1) dX2_howMany_20 rfl rfl rfl ?_
      refine at_ine 27 dX2_howMany_21 (by decide) (fun c1 => ?_) (fun c1 => ?_)
      · have c2 : ¬ io v k 0 = n := fun z => c1 (by rw [z])
        refine at_iinc (nI 1) dX2_howMany_27 rfl rfl (by decide) ?_
        try dsimp only [List.set_cons_succ, List.set_cons_zero]
        refine at_goto 4 dX2_howMany_30 (by decide) ?_
        rw [nI_add]
        rw [cnt_f (p := fun i => decide (io v i 0 = n)) (k := k) (decide_eq_false c2)] at ih
        exact ih
      · have c2 : io v k 0 = n := (nI_eq32 (by omega) (by omega)).mp (Classical.not_not.mp c1)
        refine at_iinc (nI 1) dX2_howMany_24 rfl rfl (by decide) ?_
        try dsimp only [List.set_cons_succ, List.set_cons_zero]
        refine at_iinc (nI 1) dX2_howMany_27 rfl rfl (by decide) ?_
        try dsimp only [List.set_cons_succ, List.set_cons_zero]
        refine at_goto 4 dX2_howMany_30 (by decide) ?_
        rw [nI_add, nI_add]
        rw [cnt_t (p := fun i => decide (io v i 0 = n)) (k := k) (decide_eq_true c2)] at ih
        exact ih
theorem nth_ofk (v : Nat → Nat) : nth v + ofk v 0 = v 0 * v 2 := by
  unfold nth ofk
  generalize v 0 * v 2 = n
  induction n with
  | zero => rfl
  | succ n ih =>
    by_cases e : io v n 0 = 0
    · rw [cnt_f (p := fun i => decide (io v i 0 ≠ 0)) (k := n) (decide_eq_false (fun z => z e)), cnt_t (p := fun i => decide (io v i 0 = 0)) (k := n) (decide_eq_true e)]
      omega
    · rw [cnt_t (p := fun i => decide (io v i 0 ≠ 0)) (k := n) (decide_eq_true e), cnt_f (p := fun i => decide (io v i 0 = 0)) (k := n) (decide_eq_false e)]
      omega
set_option maxRecDepth 100000 in
theorem k_howManyAreThere (hI : IN g p l v K) (hR : iR v K) (w : wf v) : sg_Kr MX2_howManyAreThere [.ref p] g (.int (nI (nth v))) := by
  have hp := hI.2.2.2.2.2.2.2.2
  have hno := nth_ofk v
  show sg_A MX2_howManyAreThere 0 [some (.ref p)] [] _ _
  refine at_ld (i := 0) dX2_howManyAreThere_0 rfl rfl rfl ?_
  refine at_get dX2_howManyAreThere_1 fX2_30 hI.1 (by omega) rfl ?_
  refine at_rv [] dX2_howManyAreThere_4 mX3_allInodes ⟨Nat.le_of_ble_eq_true rfl, Nat.le_of_ble_eq_true rfl⟩ lX2_51 iX3_allInodes rfl rfl hI.2.1 (by omega) rfl (Nat.le_of_ble_eq_true rfl) (Nat.le_of_ble_eq_true rfl) ⟨rfl, rfl⟩ (k_allInodes hI.2.1 (by omega)) ?_
  refine at_ld (i := 0) dX2_howManyAreThere_7 rfl rfl rfl ?_
  refine at_k (nI 0) dX2_howManyAreThere_8 rfl (by decide) ?_
  refine at_rv [_] dX2_howManyAreThere_9 mX2_howMany ⟨Nat.le_of_ble_eq_true rfl, Nat.le_of_ble_eq_true rfl⟩ lX2_65 iX2_howMany rfl rfl hI.1 (by omega) rfl (Nat.le_of_ble_eq_true rfl) (Nat.le_of_ble_eq_true rfl) ⟨rfl, rfl⟩ (k_howMany hI hR w 0 (by decide)) ?_
  refine at_bin dX2_howManyAreThere_12 rfl ?_
  try dsimp only
  rw [nI_sub (by omega)]
  refine at_ret dX2_howManyAreThere_13 rfl rfl ?_
  rw [show v 0 * v 2 - ofk v 0 = nth v by omega]
  exact ⟨rfl, rfl⟩
theorem smd10 (v : Nat → Nat) : smd v 10 = smN (sz v) (v 0 * v 2) := by
  unfold smd
  congr 1
set_option maxRecDepth 100000 in
theorem k_sizesOfAll (hI : IN g p l v K) (hR : iR v K) (w : wf v) : sg_Kr MX2_sizesOfAll [.ref p] g (.int (nI (smd v 10))) := by
  have hp := hI.2.2.2.2.2.2.2.2
  have hgi := wf_gi w.1
  rw [smd10]
  show sg_A MX2_sizesOfAll 0 [some (.ref p), none, none] [] _ _
  refine at_k (nI 0) dX2_sizesOfAll_0 rfl (by decide) ?_
  refine at_st (i := 1) dX2_sizesOfAll_1 rfl rfl (Nat.le_of_ble_eq_true rfl) rfl ?_
  try dsimp only [List.set_cons_succ, List.set_cons_zero]
  refine at_k (nI 0) dX2_sizesOfAll_2 rfl (by decide) ?_
  refine at_st (i := 2) dX2_sizesOfAll_3 rfl rfl (Nat.le_of_ble_eq_true rfl) rfl ?_
  try dsimp only [List.set_cons_succ, List.set_cons_zero]
  refine lpN (fun k => sg_A MX2_sizesOfAll 4 [some (.ref p), some (.int (nI (smN (sz v) k))), some (.int (nI k))] [] g _) (v 0 * v 2) ?_ ?_
  · refine at_ld (i := 2) dX2_sizesOfAll_4 rfl rfl rfl ?_
    refine at_ld (i := 0) dX2_sizesOfAll_5 rfl rfl rfl ?_
    refine at_get dX2_sizesOfAll_6 fX2_30 hI.1 (by omega) rfl ?_
    refine at_rv [] dX2_sizesOfAll_9 mX3_allInodes ⟨Nat.le_of_ble_eq_true rfl, Nat.le_of_ble_eq_true rfl⟩ lX2_51 iX3_allInodes rfl rfl hI.2.1 (by omega) rfl (Nat.le_of_ble_eq_true rfl) (Nat.le_of_ble_eq_true rfl) ⟨rfl, rfl⟩ (k_allInodes hI.2.1 (by omega)) ?_
    refine at_ige 29 dX2_sizesOfAll_12 (by decide) (fun c => ?_) (fun c => ?_)
    · refine at_ld (i := 1) dX2_sizesOfAll_29 rfl rfl rfl ?_
      refine at_ret dX2_sizesOfAll_30 rfl rfl ?_
      exact ⟨rfl, rfl⟩
    · exact absurd (nI_le (Nat.le_refl _) (by omega)) c
  · intro k hk ih
    refine at_ld (i := 2) dX2_sizesOfAll_4 rfl rfl rfl ?_
    refine at_ld (i := 0) dX2_sizesOfAll_5 rfl rfl rfl ?_
    refine at_get dX2_sizesOfAll_6 fX2_30 hI.1 (by omega) rfl ?_
    refine at_rv [] dX2_sizesOfAll_9 mX3_allInodes ⟨Nat.le_of_ble_eq_true rfl, Nat.le_of_ble_eq_true rfl⟩ lX2_51 iX3_allInodes rfl rfl hI.2.1 (by omega) rfl (Nat.le_of_ble_eq_true rfl) (Nat.le_of_ble_eq_true rfl) ⟨rfl, rfl⟩ (k_allInodes hI.2.1 (by omega)) ?_
    refine at_ige 29 dX2_sizesOfAll_12 (by decide) (fun c => ?_) (fun c => ?_)
    · exact absurd c (nI_ge hk (by omega))
    · refine at_ld (i := 1) dX2_sizesOfAll_15 rfl rfl rfl ?_
      refine at_ld (i := 0) dX2_sizesOfAll_16 rfl rfl rfl ?_
      refine at_ld (i := 2) dX2_sizesOfAll_17 rfl rfl rfl ?_
      refine at_rv [_] dX2_sizesOfAll_18 mX2_sizeOf ⟨Nat.le_of_ble_eq_true rfl, Nat.le_of_ble_eq_true rfl⟩ lX2_68 iX2_sizeOf rfl rfl hI.1 (by omega) rfl (Nat.le_of_ble_eq_true rfl) (Nat.le_of_ble_eq_true rfl) ⟨rfl, rfl⟩ (k_sizeOf hI hR k (by omega)) ?_
      refine at_bin dX2_sizesOfAll_21 rfl ?_
      try dsimp only
      rw [nI_add]
      refine at_st (i := 1) dX2_sizesOfAll_22 rfl rfl (Nat.le_of_ble_eq_true rfl) rfl ?_
      try dsimp only [List.set_cons_succ, List.set_cons_zero]
      refine at_iinc (nI 1) dX2_sizesOfAll_23 rfl rfl (by decide) ?_
      try dsimp only [List.set_cons_succ, List.set_cons_zero]
      refine at_goto 4 dX2_sizesOfAll_26 (by decide) ?_
      rw [nI_add]
      exact ih
set_option maxRecDepth 100000 in
theorem k_firstNothingIn (hI : IN g p l v K) (hR : iR v K) (w : wf v) (a : Nat) (ha : a < v 0) : sg_Kr MX2_firstNothingIn [.ref p, .int (nI a)] g (.int (oI (fni v a))) := by
  have hp := hI.2.2.2.2.2.2.2.2
  have hgi := wf_gi w.1
  have h6 := w.1.2.2.1.2
  show sg_A MX2_firstNothingIn 0 [some (.ref p), some (.int (nI a)), none, none] [] _ _
  refine at_k (nI 0) dX2_firstNothingIn_0 rfl (by decide) ?_
  refine at_st (i := 2) dX2_firstNothingIn_1 rfl rfl (Nat.le_of_ble_eq_true rfl) rfl ?_
  try dsimp only [List.set_cons_succ, List.set_cons_zero]
  have loop : ∀ f k y3, k + f = v 2 → fni v a = srch (fun k => if io v (v 2 * a + k) 0 = 0 then some (v 2 * a + k) else none) k (v 2 - k) → sg_A MX2_firstNothingIn 2 [some (.ref p), some (.int (nI a)), some (.int (nI k)), y3] [] g (fun r h' => r = some (.int (oI (fni v a))) ∧ h' = g) := by
    intro f
    induction f with
    | zero =>
      intro k y3 hk e
      have : k = v 2 := by omega
      subst this
      rw [sr_0] at e
      rw [e]
      refine at_ld (i := 2) dX2_firstNothingIn_2 rfl rfl rfl ?_
      refine at_ld (i := 0) dX2_firstNothingIn_3 rfl rfl rfl ?_
      refine at_get dX2_firstNothingIn_4 fX2_30 hI.1 (by omega) rfl ?_
      refine at_get dX2_firstNothingIn_7 fX2_57 hI.2.1 (by omega) rfl ?_
      refine at_ige 41 dX2_firstNothingIn_10 (by decide) (fun c => ?_) (fun c => ?_)
      · refine at_k (-4) dX2_firstNothingIn_41 rfl (by decide) ?_
        refine at_ret dX2_firstNothingIn_43 rfl rfl ?_
        exact ⟨rfl, rfl⟩
      · exact absurd (nI_le (Nat.le_refl _) (by omega)) c
    | succ f ih =>
      intro k y3 hk e
      have hlt := gb_lt ha (show k < v 2 by omega)
      have hkd := wf_k w (v 2 * a + k) (by omega)
      refine at_ld (i := 2) dX2_firstNothingIn_2 rfl rfl rfl ?_
      refine at_ld (i := 0) dX2_firstNothingIn_3 rfl rfl rfl ?_
      refine at_get dX2_firstNothingIn_4 fX2_30 hI.1 (by omega) rfl ?_
      refine at_get dX2_firstNothingIn_7 fX2_57 hI.2.1 (by omega) rfl ?_
      refine at_ige 41 dX2_firstNothingIn_10 (by decide) (fun c => ?_) (fun c => ?_)
      · exact absurd c (nI_ge (by omega) (by omega))
      · refine at_ld (i := 1) dX2_firstNothingIn_13 rfl rfl rfl ?_
        refine at_ld (i := 0) dX2_firstNothingIn_14 rfl rfl rfl ?_
        refine at_get dX2_firstNothingIn_15 fX2_30 hI.1 (by omega) rfl ?_
        refine at_get dX2_firstNothingIn_18 fX2_57 hI.2.1 (by omega) rfl ?_
        refine at_bin dX2_firstNothingIn_21 rfl ?_
        try dsimp only
        rw [nI_mul]
        refine at_ld (i := 2) dX2_firstNothingIn_22 rfl rfl rfl ?_
        refine at_bin dX2_firstNothingIn_23 rfl ?_
        try dsimp only
        rw [nI_add, Nat.mul_comm a (v 2)]
        refine at_st (i := 3) dX2_firstNothingIn_24 rfl rfl (Nat.le_of_ble_eq_true rfl) rfl ?_
        try dsimp only [List.set_cons_succ, List.set_cons_zero]
        refine at_ld (i := 0) dX2_firstNothingIn_25 rfl rfl rfl ?_
        refine at_ld (i := 3) dX2_firstNothingIn_26 rfl rfl rfl ?_
        refine at_rv [_] dX2_firstNothingIn_27 mX2_kindOf ⟨Nat.le_of_ble_eq_true rfl, Nat.le_of_ble_eq_true rfl⟩ lX2_61 iX2_kindOf rfl rfl hI.1 (by omega) rfl (Nat.le_of_ble_eq_true rfl) (Nat.le_of_ble_eq_true rfl) ⟨rfl, rfl⟩ (k_kindOf hI hR (v 2 * a + k) (by omega)) ?_
        refine at_zne 35 dX2_firstNothingIn_30 (by decide) (fun c1 => ?_) (fun c1 => ?_)
        · have c2 : ¬ io v (v 2 * a + k) 0 = 0 := fun z => c1 (by rw [z]; rfl)
          refine at_iinc (nI 1) dX2_firstNothingIn_35 rfl rfl (by decide) ?_
          try dsimp only [List.set_cons_succ, List.set_cons_zero]
          refine at_goto 2 dX2_firstNothingIn_38 (by decide) ?_
          rw [nI_add]
          refine ih (k + 1) _ (by omega) ?_
          rw [e, sr_n (by omega) (if_neg c2)]
        · have c2 : io v (v 2 * a + k) 0 = 0 := (nI_eq32 (b := 0) (by omega) (by decide)).mp (Classical.not_not.mp c1)
          refine at_ld (i := 3) dX2_firstNothingIn_33 rfl rfl rfl ?_
          refine at_ret dX2_firstNothingIn_34 rfl rfl ?_
          rw [e, sr_s (by omega) (if_pos c2)]
          exact ⟨rfl, rfl⟩
  exact loop (v 2) 0 none (by omega) rfl
end C6
