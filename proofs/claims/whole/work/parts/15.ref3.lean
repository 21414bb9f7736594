/-! THE REFERENCE: searches and sums -/
def wfi (v : Nat → Nat) : Prop := ∀ i, i < 24 → io v i 0 ≤ 2 ∧ io v i 3 ≤ 40 ∧ io v i 4 < 128 ∧ ∀ k, k < 10 → io v i (5 + k) < 32
def wf (v : Nat → Nat) : Prop := wfg v ∧ wfm v ∧ wfi v
theorem wf_k {v : Nat → Nat} (w : wf v) : ∀ i, i < 24 → io v i 0 ≤ 2 := fun i hi => (w.2.2 i hi).1
theorem wf_s {v : Nat → Nat} (w : wf v) {i : Nat} (hi : i < 24) : io v i 3 ≤ 40 := (w.2.2 i hi).2.1
theorem there_nI {v : Nat → Nat} (w : wfg v) {i : Nat} (hi : i < v 0 * v 2) : there v (nI i) = decide (io v i 0 ≠ 0) := by
  have := wf_gi w
  rw [there, isI_nI w (by omega), nI_clamp (by omega), decide_eq_true hi, Bool.true_and]
/-- the first that is found from k on, of m -/
def srch {α : Type} (f : Nat → Option α) : Nat → Nat → Option α
  | _, 0 => none
  | k, m + 1 => match f k with
    | some x => some x
    | none => srch f (k + 1) m
theorem sr_0 {α : Type} (f : Nat → Option α) (n : Nat) : srch f n (n - n) = none := by rw [Nat.sub_self]; rfl
theorem sr_s {α : Type} {f : Nat → Option α} {k n : Nat} {x : α} (hk : k < n) (h : f k = some x) : srch f k (n - k) = some x := by
  rw [show n - k = (n - (k + 1)) + 1 by omega, srch, h]
theorem sr_n {α : Type} {f : Nat → Option α} {k n : Nat} (hk : k < n) (h : f k = none) : srch f k (n - k) = srch f (k + 1) (n - (k + 1)) := by
  rw [show n - k = (n - (k + 1)) + 1 by omega, srch, h]
theorem lpF (P : Nat → Prop) (s n : Nat) (hsn : s ≤ n) (hz : P n) (hs : ∀ k, s ≤ k → k < n → P (k + 1) → P k) : P s := by
  have : ∀ m k, k + m = n → s ≤ k → P k := by
    intro m
    induction m with
    | zero => intro k hk _; have : k = n := by omega
              subst this; exact hz
    | succ m ih => intro k hk hsk; exact hs k hsk (by omega) (ih (k + 1) (by omega) (by omega))
  exact this (n - s) s (by omega) (Nat.le_refl s)
def nts (v : Nat → Nat) (g : Nat) : Nat := cnt (fun k => decide (io v (v 2 * g + k) 0 = 0)) (v 2)
def dcs (v : Nat → Nat) (g : Nat) : Nat := cnt (fun k => decide (io v (v 2 * g + k) 0 = 1)) (v 2)
def ino (v : Nat → Nat) (d nm : Nat) : Option Nat := srch (fun i => if io v i 0 ≠ 0 ∧ io v i 1 = d ∧ io v i 2 = nm then some i else none) 1 (v 0 * v 2 - 1)
def nth (v : Nat → Nat) : Nat := cnt (fun i => decide (io v i 0 ≠ 0)) (v 0 * v 2)
def bh (v : Nat → Nat) (g i : Nat) : Nat := (g + i) % v 0
theorem bh_lt {v : Nat → Nat} (w : wfg v) (g i : Nat) : bh v g i < v 0 := Nat.mod_lt _ w.1.1
section R3
variable {h : sg_H} (A : Nat → Nat → Int32) (F : Nat → Int32) (v : Nat → Nat)
set_option maxRecDepth 100000 in
theorem c_inodesThere (hn : 72 ≤ h.1) (w : wf v) : sg_Kr MX8_inodesThere [.ref 64] (mv h A F v) (.int (nI (nth v))) := by
  have hgi := wf_gi w.1
  show sg_A MX8_inodesThere 0 [some (.ref 64), none, none] [] _ _
  refine at_k (nI 0) dX8_inodesThere_0 rfl (by decide) ?_
  refine at_st (i := 1) dX8_inodesThere_1 rfl rfl (Nat.le_of_ble_eq_true rfl) rfl ?_
  try dsimp only [List.set_cons_succ, List.set_cons_zero]
  refine at_k (nI 0) dX8_inodesThere_2 rfl (by decide) ?_
  refine at_st (i := 2) dX8_inodesThere_3 rfl rfl (Nat.le_of_ble_eq_true rfl) rfl ?_
  try dsimp only [List.set_cons_succ, List.set_cons_zero]
  refine lpN (fun k => sg_A MX8_inodesThere 4 [some (.ref 64), some (.int (nI (cnt (fun i => decide (io v i 0 ≠ 0)) k))), some (.int (nI k))] [] (mv h A F v) _) (v 0 * v 2) ?_ ?_
  · refine at_ld (i := 2) dX8_inodesThere_4 rfl rfl rfl ?_
    refine at_ld (i := 0) dX8_inodesThere_5 rfl rfl rfl ?_
    refine at_rv [] dX8_inodesThere_6 mX8_inodes ⟨Nat.le_of_ble_eq_true rfl, Nat.le_of_ble_eq_true rfl⟩ lX8_167 iX8_inodes rfl rfl (mv_o hn _ _ _) (by omega) rfl (Nat.le_of_ble_eq_true rfl) (Nat.le_of_ble_eq_true rfl) ⟨rfl, rfl⟩ (c_inodes A F v hn) ?_
    refine at_ige 29 dX8_inodesThere_9 (by decide) (fun c => ?_) (fun c => ?_)
    · refine at_ld (i := 1) dX8_inodesThere_29 rfl rfl rfl ?_
      refine at_ret dX8_inodesThere_30 rfl rfl ?_
      exact ⟨rfl, rfl⟩
    · exact absurd (nI_le (Nat.le_refl _) (by omega)) c
  · intro k hk ih
    refine at_ld (i := 2) dX8_inodesThere_4 rfl rfl rfl ?_
    refine at_ld (i := 0) dX8_inodesThere_5 rfl rfl rfl ?_
    refine at_rv [] dX8_inodesThere_6 mX8_inodes ⟨Nat.le_of_ble_eq_true rfl, Nat.le_of_ble_eq_true rfl⟩ lX8_167 iX8_inodes rfl rfl (mv_o hn _ _ _) (by omega) rfl (Nat.le_of_ble_eq_true rfl) (Nat.le_of_ble_eq_true rfl) ⟨rfl, rfl⟩ (c_inodes A F v hn) ?_
    refine at_ige 29 dX8_inodesThere_9 (by decide) (fun c => ?_) (fun c => ?_)
    · exact absurd c (nI_ge hk (by omega))
    · refine at_ld (i := 1) dX8_inodesThere_12 rfl rfl rfl ?_
      refine at_ld (i := 0) dX8_inodesThere_13 rfl rfl rfl ?_
      refine at_ld (i := 2) dX8_inodesThere_14 rfl rfl rfl ?_
      refine at_rv [_] dX8_inodesThere_15 mX8_isThere ⟨Nat.le_of_ble_eq_true rfl, Nat.le_of_ble_eq_true rfl⟩ lX8_176 iX8_isThere rfl rfl (mv_o hn _ _ _) (by omega) rfl (Nat.le_of_ble_eq_true rfl) (Nat.le_of_ble_eq_true rfl) ⟨rfl, rfl⟩ (c_isThere A F v hn w.1 (wf_k w) (nI k)) ?_
      refine at_rs [_] dX8_inodesThere_18 mX8_flag ⟨Nat.le_of_ble_eq_true rfl, Nat.le_of_ble_eq_true rfl⟩ lX8_133 tX8_flag rfl (Nat.le_of_ble_eq_true rfl) (Nat.le_of_ble_eq_true rfl) ⟨rfl, rfl⟩ (c_flag _ _) ?_
      refine at_bin dX8_inodesThere_21 rfl ?_
      try dsimp only
      rw [there_nI w.1 hk, cnt_s (fun i => decide (io v i 0 ≠ 0))]
      refine at_st (i := 1) dX8_inodesThere_22 rfl rfl (Nat.le_of_ble_eq_true rfl) rfl ?_
      try dsimp only [List.set_cons_succ, List.set_cons_zero]
      refine at_iinc (nI 1) dX8_inodesThere_23 rfl rfl (by decide) ?_
      try dsimp only [List.set_cons_succ, List.set_cons_zero]
      refine at_goto 4 dX8_inodesThere_26 (by decide) ?_
      rw [nI_add]
      exact ih
set_option maxRecDepth 100000 in
theorem c_inodeOf (hn : 72 ≤ h.1) (w : wf v) (wp : ∀ i, i < 24 → io v i 1 < 2 ^ 32 ∧ io v i 2 < 2 ^ 32) (d nm : Nat) (hd : d < 2 ^ 32) (hnm : nm < 2 ^ 32) : sg_Kr MX8_inodeOf [.ref 64, .int (nI d), .int (nI nm)] (mv h A F v) (.int (oI (ino v d nm))) := by
  have hgi := wf_gi w.1
  have hge := gb_ge w.1.1.1 w.1.2.2.1.1
  show sg_A MX8_inodeOf 0 [some (.ref 64), some (.int (nI d)), some (.int (nI nm)), none] [] _ _
  refine at_k (nI 1) dX8_inodeOf_0 rfl (by decide) ?_
  refine at_st (i := 3) dX8_inodeOf_1 rfl rfl (Nat.le_of_ble_eq_true rfl) rfl ?_
  try dsimp only [List.set_cons_succ, List.set_cons_zero]
  refine lpF (fun k => sg_A MX8_inodeOf 2 [some (.ref 64), some (.int (nI d)), some (.int (nI nm)), some (.int (nI k))] [] (mv h A F v) (fun r h' => r = some (.int (oI (srch (fun i => if io v i 0 ≠ 0 ∧ io v i 1 = d ∧ io v i 2 = nm then some i else none) k (v 0 * v 2 - k)))) ∧ h' = mv h A F v)) 1 (v 0 * v 2) hge ?_ ?_
  · refine at_ld (i := 3) dX8_inodeOf_2 rfl rfl rfl ?_
    refine at_ld (i := 0) dX8_inodeOf_3 rfl rfl rfl ?_
    refine at_rv [] dX8_inodeOf_4 mX8_inodes ⟨Nat.le_of_ble_eq_true rfl, Nat.le_of_ble_eq_true rfl⟩ lX8_167 iX8_inodes rfl rfl (mv_o hn _ _ _) (by omega) rfl (Nat.le_of_ble_eq_true rfl) (Nat.le_of_ble_eq_true rfl) ⟨rfl, rfl⟩ (c_inodes A F v hn) ?_
    refine at_ige 46 dX8_inodeOf_7 (by decide) (fun c => ?_) (fun c => ?_)
    · refine at_k (-4) dX8_inodeOf_46 rfl (by decide) ?_
      refine at_ret dX8_inodeOf_48 rfl rfl ?_
      rw [sr_0]
      exact ⟨rfl, rfl⟩
    · exact absurd (nI_le (Nat.le_refl _) (by omega)) c
  · intro k hk1 hk ih
    refine at_ld (i := 3) dX8_inodeOf_2 rfl rfl rfl ?_
    refine at_ld (i := 0) dX8_inodeOf_3 rfl rfl rfl ?_
    refine at_rv [] dX8_inodeOf_4 mX8_inodes ⟨Nat.le_of_ble_eq_true rfl, Nat.le_of_ble_eq_true rfl⟩ lX8_167 iX8_inodes rfl rfl (mv_o hn _ _ _) (by omega) rfl (Nat.le_of_ble_eq_true rfl) (Nat.le_of_ble_eq_true rfl) ⟨rfl, rfl⟩ (c_inodes A F v hn) ?_
    have nx : ¬ (io v k 0 ≠ 0 ∧ io v k 1 = d ∧ io v k 2 = nm) → sg_A MX8_inodeOf 40 [some (.ref 64), some (.int (nI d)), some (.int (nI nm)), some (.int (nI k))] [] (mv h A F v) (fun r h' => r = some (.int (oI (srch (fun i => if io v i 0 ≠ 0 ∧ io v i 1 = d ∧ io v i 2 = nm then some i else none) k (v 0 * v 2 - k)))) ∧ h' = mv h A F v) := by
      intro q
      rw [sr_n hk (if_neg q)]
      refine at_iinc (nI 1) dX8_inodeOf_40 rfl rfl (by decide) ?_
      try dsimp only [List.set_cons_succ, List.set_cons_zero]
      refine at_goto 2 dX8_inodeOf_43 (by decide) ?_
      rw [nI_add]
      exact ih
    refine at_ige 46 dX8_inodeOf_7 (by decide) (fun c => ?_) (fun c => ?_)
    · exact absurd c (nI_ge hk (by omega))
    · refine at_ld (i := 0) dX8_inodeOf_10 rfl rfl rfl ?_
      refine at_ld (i := 3) dX8_inodeOf_11 rfl rfl rfl ?_
      refine at_rv [_] dX8_inodeOf_12 mX8_isThere ⟨Nat.le_of_ble_eq_true rfl, Nat.le_of_ble_eq_true rfl⟩ lX8_176 iX8_isThere rfl rfl (mv_o hn _ _ _) (by omega) rfl (Nat.le_of_ble_eq_true rfl) (Nat.le_of_ble_eq_true rfl) ⟨rfl, rfl⟩ (c_isThere A F v hn w.1 (wf_k w) (nI k)) ?_
      rw [there_nI w.1 hk]
      refine at_zeq 40 dX8_inodeOf_15 (by decide) (fun c1 => ?_) (fun c1 => ?_)
      · rw [bI_0, decide_eq_false_iff_not] at c1
        exact nx (fun q => c1 q.1)
      · have e1 : io v k 0 ≠ 0 := by
          cases q : decide (io v k 0 ≠ 0)
          · rw [q] at c1; exact absurd rfl c1
          · exact of_decide_eq_true q
        refine at_ld (i := 0) dX8_inodeOf_18 rfl rfl rfl ?_
        refine at_ld (i := 3) dX8_inodeOf_19 rfl rfl rfl ?_
        refine at_k (nI 1) dX8_inodeOf_20 rfl (by decide) ?_
        refine at_rv [_, _] dX8_inodeOf_21 mX8_of ⟨Nat.le_of_ble_eq_true rfl, Nat.le_of_ble_eq_true rfl⟩ lX8_173 iX8_of rfl rfl (mv_o hn _ _ _) (by omega) rfl (Nat.le_of_ble_eq_true rfl) (Nat.le_of_ble_eq_true rfl) ⟨rfl, rfl⟩ (c_of A F v hn k 1 (by omega)) ?_
        refine at_ld (i := 1) dX8_inodeOf_24 rfl rfl rfl ?_
        refine at_ine 40 dX8_inodeOf_25 (by decide) (fun c2 => ?_) (fun c2 => ?_)
        · exact nx (fun q => c2 (by rw [q.2.1]))
        · have e2 := (nI_eq32 (wp k (by omega)).1 hd).mp (Classical.not_not.mp c2)
          refine at_ld (i := 0) dX8_inodeOf_28 rfl rfl rfl ?_
          refine at_ld (i := 3) dX8_inodeOf_29 rfl rfl rfl ?_
          refine at_k (nI 2) dX8_inodeOf_30 rfl (by decide) ?_
          refine at_rv [_, _] dX8_inodeOf_31 mX8_of ⟨Nat.le_of_ble_eq_true rfl, Nat.le_of_ble_eq_true rfl⟩ lX8_173 iX8_of rfl rfl (mv_o hn _ _ _) (by omega) rfl (Nat.le_of_ble_eq_true rfl) (Nat.le_of_ble_eq_true rfl) ⟨rfl, rfl⟩ (c_of A F v hn k 2 (by omega)) ?_
          refine at_ld (i := 2) dX8_inodeOf_34 rfl rfl rfl ?_
          refine at_ine 40 dX8_inodeOf_35 (by decide) (fun c3 => ?_) (fun c3 => ?_)
          · exact nx (fun q => c3 (by rw [q.2.2]))
          · have e3 := (nI_eq32 (wp k (by omega)).2 hnm).mp (Classical.not_not.mp c3)
            refine at_ld (i := 3) dX8_inodeOf_38 rfl rfl rfl ?_
            refine at_ret dX8_inodeOf_39 rfl rfl ?_
            rw [sr_s hk (if_pos ⟨e1, e2, e3⟩)]
            exact ⟨rfl, rfl⟩
set_option maxRecDepth 100000 in
theorem c_nothings (hn : 72 ≤ h.1) (w : wf v) (g : Nat) (hg : g < v 0) : sg_Kr MX8_nothings [.ref 64, .int (nI g)] (mv h A F v) (.int (nI (nts v g))) := by
  have hgi := wf_gi w.1
  have hi6 := w.1.2.2.1.2
  show sg_A MX8_nothings 0 [some (.ref 64), some (.int (nI g)), none, none] [] _ _
  refine at_k (nI 0) dX8_nothings_0 rfl (by decide) ?_
  refine at_st (i := 2) dX8_nothings_1 rfl rfl (Nat.le_of_ble_eq_true rfl) rfl ?_
  try dsimp only [List.set_cons_succ, List.set_cons_zero]
  refine at_k (nI 0) dX8_nothings_2 rfl (by decide) ?_
  refine at_st (i := 3) dX8_nothings_3 rfl rfl (Nat.le_of_ble_eq_true rfl) rfl ?_
  try dsimp only [List.set_cons_succ, List.set_cons_zero]
  refine lpN (fun k => sg_A MX8_nothings 4 [some (.ref 64), some (.int (nI g)), some (.int (nI (cnt (fun k => decide (io v (v 2 * g + k) 0 = 0)) k))), some (.int (nI k))] [] (mv h A F v) _) (v 2) ?_ ?_
  · refine at_ld (i := 3) dX8_nothings_4 rfl rfl rfl ?_
    refine at_ld (i := 0) dX8_nothings_5 rfl rfl rfl ?_
    refine at_get dX8_nothings_6 fX8_7 (mv_o hn _ _ _) (by omega) rfl ?_
    refine at_k (nI 2) dX8_nothings_9 rfl (by decide) ?_
    refine at_ald 2 dX8_nothings_10 (mv_a hn _ _ _) rfl (by decide) (by decide) ?_
    refine at_ige 49 dX8_nothings_11 (by decide) (fun c => ?_) (fun c => ?_)
    · refine at_ld (i := 2) dX8_nothings_49 rfl rfl rfl ?_
      refine at_ret dX8_nothings_50 rfl rfl ?_
      exact ⟨rfl, rfl⟩
    · exact absurd (nI_le (Nat.le_refl _) (by omega)) c
  · intro k hk ih
    have hlt := gb_lt hg hk
    refine at_ld (i := 3) dX8_nothings_4 rfl rfl rfl ?_
    refine at_ld (i := 0) dX8_nothings_5 rfl rfl rfl ?_
    refine at_get dX8_nothings_6 fX8_7 (mv_o hn _ _ _) (by omega) rfl ?_
    refine at_k (nI 2) dX8_nothings_9 rfl (by decide) ?_
    refine at_ald 2 dX8_nothings_10 (mv_a hn _ _ _) rfl (by decide) (by decide) ?_
    have nx : ∀ b : Bool, b = decide (io v (v 2 * g + k) 0 = 0) → sg_A MX8_nothings 38 [some (.ref 64), some (.int (nI g)), some (.int (nI (cnt (fun k => decide (io v (v 2 * g + k) 0 = 0)) k))), some (.int (nI k))] [.int (bI b), .int (nI (cnt (fun k => decide (io v (v 2 * g + k) 0 = 0)) k))] (mv h A F v) (fun r h' => r = some (.int (nI (nts v g))) ∧ h' = mv h A F v) := by
      intro b hb
      subst hb
      refine at_rs [_] dX8_nothings_38 mX8_flag ⟨Nat.le_of_ble_eq_true rfl, Nat.le_of_ble_eq_true rfl⟩ lX8_133 tX8_flag rfl (Nat.le_of_ble_eq_true rfl) (Nat.le_of_ble_eq_true rfl) ⟨rfl, rfl⟩ (c_flag _ _) ?_
      refine at_bin dX8_nothings_41 rfl ?_
      try dsimp only
      rw [cnt_s (fun k => decide (io v (v 2 * g + k) 0 = 0))]
      refine at_st (i := 2) dX8_nothings_42 rfl rfl (Nat.le_of_ble_eq_true rfl) rfl ?_
      try dsimp only [List.set_cons_succ, List.set_cons_zero]
      refine at_iinc (nI 1) dX8_nothings_43 rfl rfl (by decide) ?_
      try dsimp only [List.set_cons_succ, List.set_cons_zero]
      refine at_goto 4 dX8_nothings_46 (by decide) ?_
      rw [nI_add]
      exact ih
    refine at_ige 49 dX8_nothings_11 (by decide) (fun c => ?_) (fun c => ?_)
    · exact absurd c (nI_ge hk (by omega))
    · refine at_ld (i := 2) dX8_nothings_14 rfl rfl rfl ?_
      refine at_ld (i := 0) dX8_nothings_15 rfl rfl rfl ?_
      refine at_ld (i := 0) dX8_nothings_16 rfl rfl rfl ?_
      refine at_get dX8_nothings_17 fX8_7 (mv_o hn _ _ _) (by omega) rfl ?_
      refine at_k (nI 2) dX8_nothings_20 rfl (by decide) ?_
      refine at_ald 2 dX8_nothings_21 (mv_a hn _ _ _) rfl (by decide) (by decide) ?_
      refine at_ld (i := 1) dX8_nothings_22 rfl rfl rfl ?_
      refine at_bin dX8_nothings_23 rfl ?_
      refine at_ld (i := 3) dX8_nothings_24 rfl rfl rfl ?_
      refine at_bin dX8_nothings_25 rfl ?_
      try dsimp only
      rw [nI_mul, nI_add]
      refine at_k (nI 0) dX8_nothings_26 rfl (by decide) ?_
      refine at_rv [_, _] dX8_nothings_27 mX8_of ⟨Nat.le_of_ble_eq_true rfl, Nat.le_of_ble_eq_true rfl⟩ lX8_173 iX8_of rfl rfl (mv_o hn _ _ _) (by omega) rfl (Nat.le_of_ble_eq_true rfl) (Nat.le_of_ble_eq_true rfl) ⟨rfl, rfl⟩ (c_of A F v hn (v 2 * g + k) 0 (by omega)) ?_
      refine at_zne 37 dX8_nothings_30 (by decide) (fun c1 => ?_) (fun c1 => ?_)
      · refine at_k (nI 0) dX8_nothings_37 rfl (by decide) ?_
        refine nx false (decide_eq_false (fun q => c1 (by rw [q]; rfl))).symm
      · have e1 := (nI_eq32 (b := 0) (by have := wf_k w (v 2 * g + k) (by omega); omega) (by decide)).mp (Classical.not_not.mp c1)
        refine at_k (nI 1) dX8_nothings_33 rfl (by decide) ?_
        refine at_goto 38 dX8_nothings_34 (by decide) ?_
        refine nx true (decide_eq_true e1).symm
set_option maxRecDepth 100000 in
theorem c_directories (hn : 72 ≤ h.1) (w : wf v) (g : Nat) (hg : g < v 0) : sg_Kr MX8_directories [.ref 64, .int (nI g)] (mv h A F v) (.int (nI (dcs v g))) := by
  have hgi := wf_gi w.1
  have hi6 := w.1.2.2.1.2
  show sg_A MX8_directories 0 [some (.ref 64), some (.int (nI g)), none, none] [] _ _
  refine at_k (nI 0) dX8_directories_0 rfl (by decide) ?_
  refine at_st (i := 2) dX8_directories_1 rfl rfl (Nat.le_of_ble_eq_true rfl) rfl ?_
  try dsimp only [List.set_cons_succ, List.set_cons_zero]
  refine at_k (nI 0) dX8_directories_2 rfl (by decide) ?_
  refine at_st (i := 3) dX8_directories_3 rfl rfl (Nat.le_of_ble_eq_true rfl) rfl ?_
  try dsimp only [List.set_cons_succ, List.set_cons_zero]
  refine lpN (fun k => sg_A MX8_directories 4 [some (.ref 64), some (.int (nI g)), some (.int (nI (cnt (fun k => decide (io v (v 2 * g + k) 0 = 1)) k))), some (.int (nI k))] [] (mv h A F v) _) (v 2) ?_ ?_
  · refine at_ld (i := 3) dX8_directories_4 rfl rfl rfl ?_
    refine at_ld (i := 0) dX8_directories_5 rfl rfl rfl ?_
    refine at_get dX8_directories_6 fX8_7 (mv_o hn _ _ _) (by omega) rfl ?_
    refine at_k (nI 2) dX8_directories_9 rfl (by decide) ?_
    refine at_ald 2 dX8_directories_10 (mv_a hn _ _ _) rfl (by decide) (by decide) ?_
    refine at_ige 50 dX8_directories_11 (by decide) (fun c => ?_) (fun c => ?_)
    · refine at_ld (i := 2) dX8_directories_50 rfl rfl rfl ?_
      refine at_ret dX8_directories_51 rfl rfl ?_
      exact ⟨rfl, rfl⟩
    · exact absurd (nI_le (Nat.le_refl _) (by omega)) c
  · intro k hk ih
    have hlt := gb_lt hg hk
    refine at_ld (i := 3) dX8_directories_4 rfl rfl rfl ?_
    refine at_ld (i := 0) dX8_directories_5 rfl rfl rfl ?_
    refine at_get dX8_directories_6 fX8_7 (mv_o hn _ _ _) (by omega) rfl ?_
    refine at_k (nI 2) dX8_directories_9 rfl (by decide) ?_
    refine at_ald 2 dX8_directories_10 (mv_a hn _ _ _) rfl (by decide) (by decide) ?_
    have nx : ∀ b : Bool, b = decide (io v (v 2 * g + k) 0 = 1) → sg_A MX8_directories 39 [some (.ref 64), some (.int (nI g)), some (.int (nI (cnt (fun k => decide (io v (v 2 * g + k) 0 = 1)) k))), some (.int (nI k))] [.int (bI b), .int (nI (cnt (fun k => decide (io v (v 2 * g + k) 0 = 1)) k))] (mv h A F v) (fun r h' => r = some (.int (nI (dcs v g))) ∧ h' = mv h A F v) := by
      intro b hb
      subst hb
      refine at_rs [_] dX8_directories_39 mX8_flag ⟨Nat.le_of_ble_eq_true rfl, Nat.le_of_ble_eq_true rfl⟩ lX8_133 tX8_flag rfl (Nat.le_of_ble_eq_true rfl) (Nat.le_of_ble_eq_true rfl) ⟨rfl, rfl⟩ (c_flag _ _) ?_
      refine at_bin dX8_directories_42 rfl ?_
      try dsimp only
      rw [cnt_s (fun k => decide (io v (v 2 * g + k) 0 = 1))]
      refine at_st (i := 2) dX8_directories_43 rfl rfl (Nat.le_of_ble_eq_true rfl) rfl ?_
      try dsimp only [List.set_cons_succ, List.set_cons_zero]
      refine at_iinc (nI 1) dX8_directories_44 rfl rfl (by decide) ?_
      try dsimp only [List.set_cons_succ, List.set_cons_zero]
      refine at_goto 4 dX8_directories_47 (by decide) ?_
      rw [nI_add]
      exact ih
    refine at_ige 50 dX8_directories_11 (by decide) (fun c => ?_) (fun c => ?_)
    · exact absurd c (nI_ge hk (by omega))
    · refine at_ld (i := 2) dX8_directories_14 rfl rfl rfl ?_
      refine at_ld (i := 0) dX8_directories_15 rfl rfl rfl ?_
      refine at_ld (i := 0) dX8_directories_16 rfl rfl rfl ?_
      refine at_get dX8_directories_17 fX8_7 (mv_o hn _ _ _) (by omega) rfl ?_
      refine at_k (nI 2) dX8_directories_20 rfl (by decide) ?_
      refine at_ald 2 dX8_directories_21 (mv_a hn _ _ _) rfl (by decide) (by decide) ?_
      refine at_ld (i := 1) dX8_directories_22 rfl rfl rfl ?_
      refine at_bin dX8_directories_23 rfl ?_
      refine at_ld (i := 3) dX8_directories_24 rfl rfl rfl ?_
      refine at_bin dX8_directories_25 rfl ?_
      try dsimp only
      rw [nI_mul, nI_add]
      refine at_k (nI 0) dX8_directories_26 rfl (by decide) ?_
      refine at_rv [_, _] dX8_directories_27 mX8_of ⟨Nat.le_of_ble_eq_true rfl, Nat.le_of_ble_eq_true rfl⟩ lX8_173 iX8_of rfl rfl (mv_o hn _ _ _) (by omega) rfl (Nat.le_of_ble_eq_true rfl) (Nat.le_of_ble_eq_true rfl) ⟨rfl, rfl⟩ (c_of A F v hn (v 2 * g + k) 0 (by omega)) ?_
      refine at_k (nI 1) dX8_directories_30 rfl (by decide) ?_
      refine at_ine 38 dX8_directories_31 (by decide) (fun c1 => ?_) (fun c1 => ?_)
      · refine at_k (nI 0) dX8_directories_38 rfl (by decide) ?_
        refine nx false (decide_eq_false (fun q => c1 (by rw [q]))).symm
      · have e1 := (nI_eq32 (b := 1) (by have := wf_k w (v 2 * g + k) (by omega); omega) (by decide)).mp (Classical.not_not.mp c1)
        refine at_k (nI 1) dX8_directories_34 rfl (by decide) ?_
        refine at_goto 39 dX8_directories_35 (by decide) ?_
        refine nx true (decide_eq_true e1).symm
set_option maxRecDepth 100000 in
theorem c_behind (hn : 72 ≤ h.1) (w : wfg v) (g i : Nat) (hg : g < 1000) (hi : i < 1000) : sg_Kr MX8_behind [.ref 64, .int (nI g), .int (nI i)] (mv h A F v) (.int (nI (bh v g i))) := by
  have h0 := w.1
  show sg_A MX8_behind 0 [some (.ref 64), some (.int (nI g)), some (.int (nI i))] [] _ _
  refine at_ld (i := 1) dX8_behind_0 rfl rfl rfl ?_
  refine at_ld (i := 2) dX8_behind_1 rfl rfl rfl ?_
  refine at_bin dX8_behind_2 rfl ?_
  try dsimp only
  rw [nI_add]
  refine at_ld (i := 0) dX8_behind_3 rfl rfl rfl ?_
  refine at_get dX8_behind_4 fX8_7 (mv_o hn _ _ _) (by omega) rfl ?_
  refine at_k (nI 0) dX8_behind_7 rfl (by decide) ?_
  refine at_ald 0 dX8_behind_8 (mv_a hn _ _ _) rfl (by decide) (by decide) ?_
  refine at_rem dX8_behind_9 (nI_ne0 (by omega) (by omega)) ?_
  refine at_ret dX8_behind_10 rfl rfl ?_
  exact ri (nI_rem (by omega) (by omega))
end R3
