/-! THE REFERENCE: counts, inodes -/
def fbs (v : Nat → Nat) (g : Nat) : Nat := cnt (fun b => fbk v (v 1 * g + b)) (v 1)
def fba (v : Nat → Nat) : Nat := smN (fbs v) (v 0)
def frs (v : Nat → Nat) (x n : Nat) : Nat := cnt (fun k => fr v (x + k)) n
def room (v : Nat → Nat) : Nat := frs v 0 (4 * v 0 * v 1)
def inR (x : Int32) (a b : Nat) : Bool := decide ((a : Int) ≤ x.toInt ∧ x.toInt ≤ (b : Int))
def isI (v : Nat → Nat) (x : Int32) : Bool := inR x 0 (v 0 * v 2 - 1)
/-- a number of an inode -/
def io (v : Nat → Nat) (i w : Nat) : Nat := v (136 + 15 * i + w)
def there (v : Nat → Nat) (x : Int32) : Bool := isI v x && decide (io v x.toNatClampNeg 0 ≠ 0)
def isDir (v : Nat → Nat) (x : Int32) : Bool := isI v x && decide (io v x.toNatClampNeg 0 = 1)
def isFil (v : Nat → Nat) (x : Int32) : Bool := isI v x && decide (io v x.toNatClampNeg 0 = 2)
theorem in_ab (x : Int32) {a b : Nat} (ha : a < 2 ^ 31) (hb : b < 2 ^ 31) : decide (lN a ≤ x.toInt64 ∧ x.toInt64 ≤ lN b) = inR x a b := by
  unfold inR
  congr 1
  rw [Int64.le_iff_toInt_le, Int64.le_iff_toInt_le, Int32.toInt_toInt64, lN_toInt ha, lN_toInt hb]
theorem inR_of {x : Int32} {a b : Nat} (hb : b < 2 ^ 31) (h : inR x a b = true) : ∃ k : Nat, a ≤ k ∧ k ≤ b ∧ x = nI k := by
  have h2 := of_decide_eq_true h
  refine ⟨x.toInt.toNat, by omega, by omega, ?_⟩
  apply Int32.toInt_inj.mp
  rw [nI_toInt (by omega)]
  omega
theorem inR_nI {k a b : Nat} (hk : k < 2 ^ 31) : inR (nI k) a b = decide (a ≤ k ∧ k ≤ b) := by
  unfold inR
  rw [nI_toInt hk]
  congr 1
  exact propext ⟨fun h => ⟨by omega, by omega⟩, fun h => ⟨by omega, by omega⟩⟩
theorem isI_of {v : Nat → Nat} (w : wfg v) {x : Int32} (h : isI v x = true) : ∃ k : Nat, k < v 0 * v 2 ∧ x = nI k := by
  have hgi := wf_gi w
  have hge := gb_ge w.1.1 w.2.2.1.1
  obtain ⟨k, -, h2, h3⟩ := inR_of (by omega) h
  exact ⟨k, by omega, h3⟩
theorem isI_nI {v : Nat → Nat} (w : wfg v) {k : Nat} (hk : k < 2 ^ 31) : isI v (nI k) = decide (k < v 0 * v 2) := by
  have hge := gb_ge w.1.1 w.2.2.1.1
  rw [isI, inR_nI hk]
  congr 1
  exact propext ⟨fun h => by omega, fun h => ⟨by omega, by omega⟩⟩
theorem bI_and (a b : Bool) : bI (a && b) = if a then bI b else 0 := by cases a <;> rfl
theorem smN_le {f : Nat → Nat} {c : Nat} (n : Nat) (h : ∀ k, k < n → f k ≤ c) : smN f n ≤ n * c := by
  induction n with
  | zero => exact Nat.zero_le _
  | succ n ih =>
    have h1 := ih (fun k hk => h k (by omega))
    have h2 := h n (by omega)
    simp only [smN]
    rw [Nat.succ_mul]
    omega
section R2
variable {h : sg_H} (A : Nat → Nat → Int32) (F : Nat → Int32) (v : Nat → Nat)
set_option maxRecDepth 100000 in
theorem c_freeBlocks (hn : 72 ≤ h.1) (w : wfg v) (wm : wfm v) (g : Nat) (hg : g < v 0) : sg_Kr MX8_freeBlocks [.ref 64, .int (nI g)] (mv h A F v) (.int (nI (fbs v g))) := by
  have hgb := wf_gb w
  have hb8 := w.2.1.2
  show sg_A MX8_freeBlocks 0 [some (.ref 64), some (.int (nI g)), none, none] [] _ _
  refine at_k (nI 0) dX8_freeBlocks_0 rfl (by decide) ?_
  refine at_st (i := 2) dX8_freeBlocks_1 rfl rfl (Nat.le_of_ble_eq_true rfl) rfl ?_
  try dsimp only [List.set_cons_succ, List.set_cons_zero]
  refine at_k (nI 0) dX8_freeBlocks_2 rfl (by decide) ?_
  refine at_st (i := 3) dX8_freeBlocks_3 rfl rfl (Nat.le_of_ble_eq_true rfl) rfl ?_
  try dsimp only [List.set_cons_succ, List.set_cons_zero]
  refine lpN (fun k => sg_A MX8_freeBlocks 4 [some (.ref 64), some (.int (nI g)), some (.int (nI (cnt (fun b => fbk v (v 1 * g + b)) k))), some (.int (nI k))] [] (mv h A F v) _) (v 1) ?_ ?_
  · refine at_ld (i := 3) dX8_freeBlocks_4 rfl rfl rfl ?_
    refine at_ld (i := 0) dX8_freeBlocks_5 rfl rfl rfl ?_
    refine at_get dX8_freeBlocks_6 fX8_7 (mv_o hn _ _ _) (by omega) rfl ?_
    refine at_k (nI 1) dX8_freeBlocks_9 rfl (by decide) ?_
    refine at_ald 1 dX8_freeBlocks_10 (mv_a hn _ _ _) rfl (by decide) (by decide) ?_
    refine at_ige 40 dX8_freeBlocks_11 (by decide) (fun c => ?_) (fun c => ?_)
    · refine at_ld (i := 2) dX8_freeBlocks_40 rfl rfl rfl ?_
      refine at_ret dX8_freeBlocks_41 rfl rfl ?_
      exact ⟨rfl, rfl⟩
    · exact absurd (nI_le (Nat.le_refl _) (by omega)) c
  · intro k hk ih
    have hlt := gb_lt hg hk
    refine at_ld (i := 3) dX8_freeBlocks_4 rfl rfl rfl ?_
    refine at_ld (i := 0) dX8_freeBlocks_5 rfl rfl rfl ?_
    refine at_get dX8_freeBlocks_6 fX8_7 (mv_o hn _ _ _) (by omega) rfl ?_
    refine at_k (nI 1) dX8_freeBlocks_9 rfl (by decide) ?_
    refine at_ald 1 dX8_freeBlocks_10 (mv_a hn _ _ _) rfl (by decide) (by decide) ?_
    refine at_ige 40 dX8_freeBlocks_11 (by decide) (fun c => ?_) (fun c => ?_)
    · exact absurd c (nI_ge hk (by omega))
    · refine at_ld (i := 2) dX8_freeBlocks_14 rfl rfl rfl ?_
      refine at_ld (i := 0) dX8_freeBlocks_15 rfl rfl rfl ?_
      refine at_ld (i := 0) dX8_freeBlocks_16 rfl rfl rfl ?_
      refine at_get dX8_freeBlocks_17 fX8_7 (mv_o hn _ _ _) (by omega) rfl ?_
      refine at_k (nI 1) dX8_freeBlocks_20 rfl (by decide) ?_
      refine at_ald 1 dX8_freeBlocks_21 (mv_a hn _ _ _) rfl (by decide) (by decide) ?_
      refine at_ld (i := 1) dX8_freeBlocks_22 rfl rfl rfl ?_
      refine at_bin dX8_freeBlocks_23 rfl ?_
      refine at_ld (i := 3) dX8_freeBlocks_24 rfl rfl rfl ?_
      refine at_bin dX8_freeBlocks_25 rfl ?_
      try dsimp only
      rw [nI_mul, nI_add]
      refine at_rv [_] dX8_freeBlocks_26 mX8_isFreeBlock ⟨Nat.le_of_ble_eq_true rfl, Nat.le_of_ble_eq_true rfl⟩ lX8_149 iX8_isFreeBlock rfl rfl (mv_o hn _ _ _) (by omega) rfl (Nat.le_of_ble_eq_true rfl) (Nat.le_of_ble_eq_true rfl) ⟨rfl, rfl⟩ (c_isFreeBlock A F v hn (v 1 * g + k) (by omega) (fun j hj => wm _ (by omega))) ?_
      refine at_rs [_] dX8_freeBlocks_29 mX8_flag ⟨Nat.le_of_ble_eq_true rfl, Nat.le_of_ble_eq_true rfl⟩ lX8_133 tX8_flag rfl (Nat.le_of_ble_eq_true rfl) (Nat.le_of_ble_eq_true rfl) ⟨rfl, rfl⟩ (c_flag _ _) ?_
      refine at_bin dX8_freeBlocks_32 rfl ?_
      try dsimp only
      rw [cnt_s (fun b => fbk v (v 1 * g + b))]
      refine at_st (i := 2) dX8_freeBlocks_33 rfl rfl (Nat.le_of_ble_eq_true rfl) rfl ?_
      try dsimp only [List.set_cons_succ, List.set_cons_zero]
      refine at_iinc (nI 1) dX8_freeBlocks_34 rfl rfl (by decide) ?_
      try dsimp only [List.set_cons_succ, List.set_cons_zero]
      refine at_goto 4 dX8_freeBlocks_37 (by decide) ?_
      rw [nI_add]
      exact ih
theorem fbs_le (g : Nat) : fbs v g ≤ v 1 := cnt_le _ _
theorem fba_le : fba v ≤ v 0 * v 1 := smN_le _ (fun k _ => fbs_le v k)
set_option maxRecDepth 100000 in
theorem c_allFreeBlocks (hn : 72 ≤ h.1) (w : wfg v) (wm : wfm v) : sg_Kr MX8_allFreeBlocks [.ref 64] (mv h A F v) (.int (nI (fba v))) := by
  have hgb := wf_gb w
  show sg_A MX8_allFreeBlocks 0 [some (.ref 64), none, none] [] _ _
  refine at_k (nI 0) dX8_allFreeBlocks_0 rfl (by decide) ?_
  refine at_st (i := 1) dX8_allFreeBlocks_1 rfl rfl (Nat.le_of_ble_eq_true rfl) rfl ?_
  try dsimp only [List.set_cons_succ, List.set_cons_zero]
  refine at_k (nI 0) dX8_allFreeBlocks_2 rfl (by decide) ?_
  refine at_st (i := 2) dX8_allFreeBlocks_3 rfl rfl (Nat.le_of_ble_eq_true rfl) rfl ?_
  try dsimp only [List.set_cons_succ, List.set_cons_zero]
  refine lpN (fun k => sg_A MX8_allFreeBlocks 4 [some (.ref 64), some (.int (nI (smN (fbs v) k))), some (.int (nI k))] [] (mv h A F v) _) (v 0) ?_ ?_
  · refine at_ld (i := 2) dX8_allFreeBlocks_4 rfl rfl rfl ?_
    refine at_ld (i := 0) dX8_allFreeBlocks_5 rfl rfl rfl ?_
    refine at_get dX8_allFreeBlocks_6 fX8_7 (mv_o hn _ _ _) (by omega) rfl ?_
    refine at_k (nI 0) dX8_allFreeBlocks_9 rfl (by decide) ?_
    refine at_ald 0 dX8_allFreeBlocks_10 (mv_a hn _ _ _) rfl (by decide) (by decide) ?_
    refine at_ige 28 dX8_allFreeBlocks_11 (by decide) (fun c => ?_) (fun c => ?_)
    · refine at_ld (i := 1) dX8_allFreeBlocks_28 rfl rfl rfl ?_
      refine at_ret dX8_allFreeBlocks_29 rfl rfl ?_
      exact ⟨rfl, rfl⟩
    · exact absurd (nI_le (Nat.le_refl _) (by have := w.1.2; omega)) c
  · intro k hk ih
    refine at_ld (i := 2) dX8_allFreeBlocks_4 rfl rfl rfl ?_
    refine at_ld (i := 0) dX8_allFreeBlocks_5 rfl rfl rfl ?_
    refine at_get dX8_allFreeBlocks_6 fX8_7 (mv_o hn _ _ _) (by omega) rfl ?_
    refine at_k (nI 0) dX8_allFreeBlocks_9 rfl (by decide) ?_
    refine at_ald 0 dX8_allFreeBlocks_10 (mv_a hn _ _ _) rfl (by decide) (by decide) ?_
    refine at_ige 28 dX8_allFreeBlocks_11 (by decide) (fun c => ?_) (fun c => ?_)
    · exact absurd c (nI_ge hk (by have := w.1.2; omega))
    · refine at_ld (i := 1) dX8_allFreeBlocks_14 rfl rfl rfl ?_
      refine at_ld (i := 0) dX8_allFreeBlocks_15 rfl rfl rfl ?_
      refine at_ld (i := 2) dX8_allFreeBlocks_16 rfl rfl rfl ?_
      refine at_rv [_] dX8_allFreeBlocks_17 mX8_freeBlocks ⟨Nat.le_of_ble_eq_true rfl, Nat.le_of_ble_eq_true rfl⟩ lX8_152 iX8_freeBlocks rfl rfl (mv_o hn _ _ _) (by omega) rfl (Nat.le_of_ble_eq_true rfl) (Nat.le_of_ble_eq_true rfl) ⟨rfl, rfl⟩ (c_freeBlocks A F v hn w wm k hk) ?_
      refine at_bin dX8_allFreeBlocks_20 rfl ?_
      try dsimp only
      rw [nI_add]
      refine at_st (i := 1) dX8_allFreeBlocks_21 rfl rfl (Nat.le_of_ble_eq_true rfl) rfl ?_
      try dsimp only [List.set_cons_succ, List.set_cons_zero]
      refine at_iinc (nI 1) dX8_allFreeBlocks_22 rfl rfl (by decide) ?_
      try dsimp only [List.set_cons_succ, List.set_cons_zero]
      refine at_goto 4 dX8_allFreeBlocks_25 (by decide) ?_
      rw [nI_add]
      exact ih
set_option maxRecDepth 100000 in
theorem c_freeIn (hn : 72 ≤ h.1) (wm : wfm v) (x n : Nat) (hx : x + n ≤ 128) : sg_Kr MX8_freeIn [.ref 64, .int (nI x), .int (nI n)] (mv h A F v) (.int (nI (frs v x n))) := by
  show sg_A MX8_freeIn 0 [some (.ref 64), some (.int (nI x)), some (.int (nI n)), none, none] [] _ _
  refine at_k (nI 0) dX8_freeIn_0 rfl (by decide) ?_
  refine at_st (i := 3) dX8_freeIn_1 rfl rfl (Nat.le_of_ble_eq_true rfl) rfl ?_
  try dsimp only [List.set_cons_succ, List.set_cons_zero]
  refine at_k (nI 0) dX8_freeIn_2 rfl (by decide) ?_
  refine at_st (i := 4) dX8_freeIn_3 rfl rfl (Nat.le_of_ble_eq_true rfl) rfl ?_
  try dsimp only [List.set_cons_succ, List.set_cons_zero]
  refine lpN (fun k => sg_A MX8_freeIn 5 [some (.ref 64), some (.int (nI x)), some (.int (nI n)), some (.int (nI (frs v x k))), some (.int (nI k))] [] (mv h A F v) _) n ?_ ?_
  · refine at_ld (i := 4) dX8_freeIn_5 rfl rfl rfl ?_
    refine at_ld (i := 2) dX8_freeIn_7 rfl rfl rfl ?_
    refine at_ige 31 dX8_freeIn_8 (by decide) (fun c => ?_) (fun c => ?_)
    · refine at_ld (i := 3) dX8_freeIn_31 rfl rfl rfl ?_
      refine at_ret dX8_freeIn_32 rfl rfl ?_
      exact ⟨rfl, rfl⟩
    · exact absurd (nI_le (Nat.le_refl _) (by omega)) c
  · intro k hk ih
    refine at_ld (i := 4) dX8_freeIn_5 rfl rfl rfl ?_
    refine at_ld (i := 2) dX8_freeIn_7 rfl rfl rfl ?_
    refine at_ige 31 dX8_freeIn_8 (by decide) (fun c => ?_) (fun c => ?_)
    · exact absurd c (nI_ge hk (by omega))
    · refine at_ld (i := 3) dX8_freeIn_11 rfl rfl rfl ?_
      refine at_ld (i := 0) dX8_freeIn_12 rfl rfl rfl ?_
      refine at_ld (i := 1) dX8_freeIn_13 rfl rfl rfl ?_
      refine at_ld (i := 4) dX8_freeIn_14 rfl rfl rfl ?_
      refine at_bin dX8_freeIn_16 rfl ?_
      try dsimp only
      rw [nI_add]
      refine at_rv [_] dX8_freeIn_17 mX8_isFree ⟨Nat.le_of_ble_eq_true rfl, Nat.le_of_ble_eq_true rfl⟩ lX8_141 iX8_isFree rfl rfl (mv_o hn _ _ _) (by omega) rfl (Nat.le_of_ble_eq_true rfl) (Nat.le_of_ble_eq_true rfl) ⟨rfl, rfl⟩ (c_isFree A F v hn (x + k) (by omega) (wm _ (by omega))) ?_
      refine at_rs [_] dX8_freeIn_20 mX8_flag ⟨Nat.le_of_ble_eq_true rfl, Nat.le_of_ble_eq_true rfl⟩ lX8_133 tX8_flag rfl (Nat.le_of_ble_eq_true rfl) (Nat.le_of_ble_eq_true rfl) ⟨rfl, rfl⟩ (c_flag _ _) ?_
      refine at_bin dX8_freeIn_23 rfl ?_
      try dsimp only
      rw [frs, cnt_s (fun k => fr v (x + k))]
      refine at_st (i := 3) dX8_freeIn_24 rfl rfl (Nat.le_of_ble_eq_true rfl) rfl ?_
      try dsimp only [List.set_cons_succ, List.set_cons_zero]
      refine at_iinc (nI 1) dX8_freeIn_25 rfl rfl (by decide) ?_
      try dsimp only [List.set_cons_succ, List.set_cons_zero]
      refine at_goto 5 dX8_freeIn_28 (by decide) ?_
      rw [nI_add]
      exact ih
set_option maxRecDepth 100000 in
theorem c_room (hn : 72 ≤ h.1) (w : wfg v) (wm : wfm v) : sg_Kr MX8_room [.ref 64] (mv h A F v) (.int (nI (room v))) := by
  have hgb := wf_gb w
  have e : 4 * v 0 * v 1 = 4 * (v 0 * v 1) := Nat.mul_assoc _ _ _
  show sg_A MX8_room 0 [some (.ref 64)] [] _ _
  refine at_ld (i := 0) dX8_room_0 rfl rfl rfl ?_
  refine at_k (nI 0) dX8_room_1 rfl (by decide) ?_
  refine at_ld (i := 0) dX8_room_2 rfl rfl rfl ?_
  refine at_rv [] dX8_room_3 mX8_fragments ⟨Nat.le_of_ble_eq_true rfl, Nat.le_of_ble_eq_true rfl⟩ lX8_35 iX8_fragments rfl rfl (mv_o hn _ _ _) (by omega) rfl (Nat.le_of_ble_eq_true rfl) (Nat.le_of_ble_eq_true rfl) ⟨rfl, rfl⟩ (c_fragments A F v hn) ?_
  refine at_rv [_, _] dX8_room_6 mX8_freeIn ⟨Nat.le_of_ble_eq_true rfl, Nat.le_of_ble_eq_true rfl⟩ lX8_155 iX8_freeIn rfl rfl (mv_o hn _ _ _) (by omega) rfl (Nat.le_of_ble_eq_true rfl) (Nat.le_of_ble_eq_true rfl) ⟨rfl, rfl⟩ (c_freeIn A F v hn wm 0 (4 * v 0 * v 1) (by omega)) ?_
  refine at_ret dX8_room_9 rfl rfl ?_
  exact ⟨rfl, rfl⟩
set_option maxRecDepth 100000 in
theorem c_of (hn : 72 ≤ h.1) (i w : Nat) (hi : 136 + 15 * i + w < 496) : sg_Kr MX8_of [.ref 64, .int (nI i), .int (nI w)] (mv h A F v) (.int (nI (io v i w))) := by
  show sg_A MX8_of 0 [some (.ref 64), some (.int (nI i)), some (.int (nI w))] [] _ _
  refine at_ld (i := 0) dX8_of_0 rfl rfl rfl ?_
  refine at_get dX8_of_1 fX8_7 (mv_o hn _ _ _) (by omega) rfl ?_
  refine at_k (nI 136) dX8_of_4 rfl (by decide) ?_
  refine at_k (nI 15) dX8_of_7 rfl (by decide) ?_
  refine at_ld (i := 1) dX8_of_9 rfl rfl rfl ?_
  refine at_bin dX8_of_10 rfl ?_
  refine at_bin dX8_of_11 rfl ?_
  refine at_ld (i := 2) dX8_of_12 rfl rfl rfl ?_
  refine at_bin dX8_of_13 rfl ?_
  refine at_ald (136 + 15 * i + w) dX8_of_14 (mv_a hn _ _ _) (by simp only [nI_mul, nI_add]) hi (by decide) ?_
  refine at_ret dX8_of_15 rfl rfl ?_
  exact ⟨rfl, rfl⟩
set_option maxRecDepth 100000 in
theorem c_sets (hn : 72 ≤ h.1) (i w x : Nat) (z : Int32) (hz : z = nI x) (hi : 136 + 15 * i + w < 496) : sg_Kw MX8_sets [.ref 64, .int (nI i), .int (nI w), .int z] (mv h A F v) none (mv h A F (vf_upd v (136 + 15 * i + w) x)) := by
  show sg_A MX8_sets 0 [some (.ref 64), some (.int (nI i)), some (.int (nI w)), some (.int z)] [] _ _
  refine at_ld (i := 0) dX8_sets_0 rfl rfl rfl ?_
  refine at_get dX8_sets_1 fX8_7 (mv_o hn _ _ _) (by omega) rfl ?_
  refine at_k (nI 136) dX8_sets_4 rfl (by decide) ?_
  refine at_k (nI 15) dX8_sets_7 rfl (by decide) ?_
  refine at_ld (i := 1) dX8_sets_9 rfl rfl rfl ?_
  refine at_bin dX8_sets_10 rfl ?_
  refine at_bin dX8_sets_11 rfl ?_
  refine at_ld (i := 2) dX8_sets_12 rfl rfl rfl ?_
  refine at_bin dX8_sets_13 rfl ?_
  refine at_ld (i := 3) dX8_sets_14 rfl rfl rfl ?_
  refine at_ast (136 + 15 * i + w) dX8_sets_15 (mv_a hn _ _ _) (by omega) (by simp only [nI_mul, nI_add]) hi (by decide) (mv_s h A F v _ _ _ hz) ?_
  refine at_vret dX8_sets_16 rfl ?_
  exact ⟨rfl, rfl⟩
set_option maxRecDepth 100000 in
theorem c_inodes (hn : 72 ≤ h.1) : sg_Kr MX8_inodes [.ref 64] (mv h A F v) (.int (nI (v 0 * v 2))) := by
  show sg_A MX8_inodes 0 [some (.ref 64)] [] _ _
  refine at_ld (i := 0) dX8_inodes_0 rfl rfl rfl ?_
  refine at_get dX8_inodes_1 fX8_7 (mv_o hn _ _ _) (by omega) rfl ?_
  refine at_k (nI 0) dX8_inodes_4 rfl (by decide) ?_
  refine at_ald 0 dX8_inodes_5 (mv_a hn _ _ _) rfl (by decide) (by decide) ?_
  refine at_ld (i := 0) dX8_inodes_6 rfl rfl rfl ?_
  refine at_get dX8_inodes_7 fX8_7 (mv_o hn _ _ _) (by omega) rfl ?_
  refine at_k (nI 2) dX8_inodes_10 rfl (by decide) ?_
  refine at_ald 2 dX8_inodes_11 (mv_a hn _ _ _) rfl (by decide) (by decide) ?_
  refine at_bin dX8_inodes_12 rfl ?_
  refine at_ret dX8_inodes_13 rfl rfl ?_
  exact ri (by simp only [nI_mul])
set_option maxRecDepth 100000 in
theorem c_isInode (hn : 72 ≤ h.1) (w : wfg v) (x : Int32) : sg_Kr MX8_isInode [.ref 64, .int x] (mv h A F v) (.int (bI (isI v x))) := by
  have hgi := wf_gi w
  have hge := gb_ge w.1.1 w.2.2.1.1
  show sg_A MX8_isInode 0 [some (.ref 64), some (.int x)] [] _ _
  refine at_ld (i := 1) dX8_isInode_0 rfl rfl rfl ?_
  refine at_i2l dX8_isInode_1 ?_
  refine at_lconst dX8_isInode_2 ?_
  refine at_ld (i := 0) dX8_isInode_3 rfl rfl rfl ?_
  refine at_rv [] dX8_isInode_4 mX8_inodes ⟨Nat.le_of_ble_eq_true rfl, Nat.le_of_ble_eq_true rfl⟩ lX8_167 iX8_inodes rfl rfl (mv_o hn _ _ _) (by omega) rfl (Nat.le_of_ble_eq_true rfl) (Nat.le_of_ble_eq_true rfl) ⟨rfl, rfl⟩ (c_inodes A F v hn) ?_
  refine at_k (nI 1) dX8_isInode_7 rfl (by decide) ?_
  refine at_bin dX8_isInode_8 rfl ?_
  try dsimp only
  rw [nI_sub hge]
  refine at_i2l dX8_isInode_9 ?_
  rw [nI_l (by omega)]
  refine at_rs [_, _, _] dX8_isInode_10 mX8_in ⟨Nat.le_of_ble_eq_true rfl, Nat.le_of_ble_eq_true rfl⟩ lX8_41 tX8_in rfl (Nat.le_of_ble_eq_true rfl) (Nat.le_of_ble_eq_true rfl) ⟨rfl, rfl⟩ (c_in _ _ _ _) ?_
  refine at_ret dX8_isInode_13 rfl (bI_narr _) ?_
  exact ri (congrArg bI (in_ab x (a := 0) (by decide) (by omega)))
theorem io_lt {i w : Nat} (hi : i < 24) (hw : w < 15) : 136 + 15 * i + w < 496 := by omega
set_option maxRecDepth 100000 in
theorem c_isThere (hn : 72 ≤ h.1) (w : wfg v) (wk : ∀ i, i < 24 → io v i 0 ≤ 2) (x : Int32) : sg_Kr MX8_isThere [.ref 64, .int x] (mv h A F v) (.int (bI (there v x))) := by
  have hgi := wf_gi w
  show sg_A MX8_isThere 0 [some (.ref 64), some (.int x)] [] _ _
  refine at_ld (i := 0) dX8_isThere_0 rfl rfl rfl ?_
  refine at_ld (i := 1) dX8_isThere_1 rfl rfl rfl ?_
  refine at_rv [_] dX8_isThere_2 mX8_isInode ⟨Nat.le_of_ble_eq_true rfl, Nat.le_of_ble_eq_true rfl⟩ lX8_170 iX8_isInode rfl rfl (mv_o hn _ _ _) (by omega) rfl (Nat.le_of_ble_eq_true rfl) (Nat.le_of_ble_eq_true rfl) ⟨rfl, rfl⟩ (c_isInode A F v hn w x) ?_
  refine at_zeq 21 dX8_isThere_5 (by decide) (fun c => ?_) (fun c => ?_)
  · rw [bI_0] at c
    refine at_k (nI 0) dX8_isThere_21 rfl (by decide) ?_
    refine at_ret dX8_isThere_22 rfl rfl ?_
    exact ri (by rw [there, c]; rfl)
  · have c1 : isI v x = true := by
      cases q : isI v x
      · rw [q] at c; exact absurd rfl c
      · rfl
    obtain ⟨k, hk, rfl⟩ := isI_of w c1
    have ek : (nI k).toNatClampNeg = k := nI_clamp (by omega)
    refine at_ld (i := 0) dX8_isThere_8 rfl rfl rfl ?_
    refine at_ld (i := 1) dX8_isThere_9 rfl rfl rfl ?_
    refine at_k (nI 0) dX8_isThere_10 rfl (by decide) ?_
    refine at_rv [_, _] dX8_isThere_11 mX8_of ⟨Nat.le_of_ble_eq_true rfl, Nat.le_of_ble_eq_true rfl⟩ lX8_173 iX8_of rfl rfl (mv_o hn _ _ _) (by omega) rfl (Nat.le_of_ble_eq_true rfl) (Nat.le_of_ble_eq_true rfl) ⟨rfl, rfl⟩ (c_of A F v hn k 0 (by omega)) ?_
    refine at_zeq 21 dX8_isThere_14 (by decide) (fun c2 => ?_) (fun c2 => ?_)
    · refine at_k (nI 0) dX8_isThere_21 rfl (by decide) ?_
      refine at_ret dX8_isThere_22 rfl rfl ?_
      refine ri ?_
      have c3 : io v k 0 = 0 := (nI_eq32 (by have := wk k (by omega); omega) (by decide)).mp c2
      rw [there, c1, ek, c3]; rfl
    · refine at_k (nI 1) dX8_isThere_17 rfl (by decide) ?_
      refine at_goto 22 dX8_isThere_18 (by decide) ?_
      refine at_ret dX8_isThere_22 rfl rfl ?_
      refine ri ?_
      have c3 : io v k 0 ≠ 0 := fun q => c2 (by rw [q]; rfl)
      rw [there, c1, ek, Bool.true_and, decide_eq_true c3]; rfl
set_option maxRecDepth 100000 in
theorem c_isDirectory (hn : 72 ≤ h.1) (w : wfg v) (wk : ∀ i, i < 24 → io v i 0 ≤ 2) (x : Int32) : sg_Kr MX8_isDirectory [.ref 64, .int x] (mv h A F v) (.int (bI (isDir v x))) := by
  have hgi := wf_gi w
  show sg_A MX8_isDirectory 0 [some (.ref 64), some (.int x)] [] _ _
  refine at_ld (i := 0) dX8_isDirectory_0 rfl rfl rfl ?_
  refine at_ld (i := 1) dX8_isDirectory_1 rfl rfl rfl ?_
  refine at_rv [_] dX8_isDirectory_2 mX8_isInode ⟨Nat.le_of_ble_eq_true rfl, Nat.le_of_ble_eq_true rfl⟩ lX8_170 iX8_isInode rfl rfl (mv_o hn _ _ _) (by omega) rfl (Nat.le_of_ble_eq_true rfl) (Nat.le_of_ble_eq_true rfl) ⟨rfl, rfl⟩ (c_isInode A F v hn w x) ?_
  refine at_zeq 22 dX8_isDirectory_5 (by decide) (fun c => ?_) (fun c => ?_)
  · rw [bI_0] at c
    refine at_k (nI 0) dX8_isDirectory_22 rfl (by decide) ?_
    refine at_ret dX8_isDirectory_23 rfl rfl ?_
    exact ri (by rw [isDir, c]; rfl)
  · have c1 : isI v x = true := by
      cases q : isI v x
      · rw [q] at c; exact absurd rfl c
      · rfl
    obtain ⟨k, hk, rfl⟩ := isI_of w c1
    have ek : (nI k).toNatClampNeg = k := nI_clamp (by omega)
    refine at_ld (i := 0) dX8_isDirectory_8 rfl rfl rfl ?_
    refine at_ld (i := 1) dX8_isDirectory_9 rfl rfl rfl ?_
    refine at_k (nI 0) dX8_isDirectory_10 rfl (by decide) ?_
    refine at_rv [_, _] dX8_isDirectory_11 mX8_of ⟨Nat.le_of_ble_eq_true rfl, Nat.le_of_ble_eq_true rfl⟩ lX8_173 iX8_of rfl rfl (mv_o hn _ _ _) (by omega) rfl (Nat.le_of_ble_eq_true rfl) (Nat.le_of_ble_eq_true rfl) ⟨rfl, rfl⟩ (c_of A F v hn k 0 (by omega)) ?_
    refine at_k (nI 1) dX8_isDirectory_14 rfl (by decide) ?_
    refine at_ine 22 dX8_isDirectory_15 (by decide) (fun c2 => ?_) (fun c2 => ?_)
    · refine at_k (nI 0) dX8_isDirectory_22 rfl (by decide) ?_
      refine at_ret dX8_isDirectory_23 rfl rfl ?_
      refine ri ?_
      have c3 : io v k 0 ≠ 1 := fun q => c2 (by rw [q])
      rw [isDir, c1, ek, decide_eq_false c3]; rfl
    · refine at_k (nI 1) dX8_isDirectory_18 rfl (by decide) ?_
      refine at_goto 23 dX8_isDirectory_19 (by decide) ?_
      refine at_ret dX8_isDirectory_23 rfl rfl ?_
      refine ri ?_
      have c3 : io v k 0 = 1 := (nI_eq32 (by have := wk k (by omega); omega) (by decide)).mp (Classical.not_not.mp c2)
      rw [isDir, c1, ek, decide_eq_true c3]; rfl
set_option maxRecDepth 100000 in
theorem c_isFile (hn : 72 ≤ h.1) (w : wfg v) (wk : ∀ i, i < 24 → io v i 0 ≤ 2) (x : Int32) : sg_Kr MX8_isFile [.ref 64, .int x] (mv h A F v) (.int (bI (isFil v x))) := by
  have hgi := wf_gi w
  show sg_A MX8_isFile 0 [some (.ref 64), some (.int x)] [] _ _
  refine at_ld (i := 0) dX8_isFile_0 rfl rfl rfl ?_
  refine at_ld (i := 1) dX8_isFile_1 rfl rfl rfl ?_
  refine at_rv [_] dX8_isFile_2 mX8_isInode ⟨Nat.le_of_ble_eq_true rfl, Nat.le_of_ble_eq_true rfl⟩ lX8_170 iX8_isInode rfl rfl (mv_o hn _ _ _) (by omega) rfl (Nat.le_of_ble_eq_true rfl) (Nat.le_of_ble_eq_true rfl) ⟨rfl, rfl⟩ (c_isInode A F v hn w x) ?_
  refine at_zeq 22 dX8_isFile_5 (by decide) (fun c => ?_) (fun c => ?_)
  · rw [bI_0] at c
    refine at_k (nI 0) dX8_isFile_22 rfl (by decide) ?_
    refine at_ret dX8_isFile_23 rfl rfl ?_
    exact ri (by rw [isFil, c]; rfl)
  · have c1 : isI v x = true := by
      cases q : isI v x
      · rw [q] at c; exact absurd rfl c
      · rfl
    obtain ⟨k, hk, rfl⟩ := isI_of w c1
    have ek : (nI k).toNatClampNeg = k := nI_clamp (by omega)
    refine at_ld (i := 0) dX8_isFile_8 rfl rfl rfl ?_
    refine at_ld (i := 1) dX8_isFile_9 rfl rfl rfl ?_
    refine at_k (nI 0) dX8_isFile_10 rfl (by decide) ?_
    refine at_rv [_, _] dX8_isFile_11 mX8_of ⟨Nat.le_of_ble_eq_true rfl, Nat.le_of_ble_eq_true rfl⟩ lX8_173 iX8_of rfl rfl (mv_o hn _ _ _) (by omega) rfl (Nat.le_of_ble_eq_true rfl) (Nat.le_of_ble_eq_true rfl) ⟨rfl, rfl⟩ (c_of A F v hn k 0 (by omega)) ?_
    refine at_k (nI 2) dX8_isFile_14 rfl (by decide) ?_
    refine at_ine 22 dX8_isFile_15 (by decide) (fun c2 => ?_) (fun c2 => ?_)
    · refine at_k (nI 0) dX8_isFile_22 rfl (by decide) ?_
      refine at_ret dX8_isFile_23 rfl rfl ?_
      refine ri ?_
      have c3 : io v k 0 ≠ 2 := fun q => c2 (by rw [q])
      rw [isFil, c1, ek, decide_eq_false c3]; rfl
    · refine at_k (nI 1) dX8_isFile_18 rfl (by decide) ?_
      refine at_goto 23 dX8_isFile_19 (by decide) ?_
      refine at_ret dX8_isFile_23 rfl rfl ?_
      refine ri ?_
      have c3 : io v k 0 = 2 := (nI_eq32 (by have := wk k (by omega); omega) (by decide)).mp (Classical.not_not.mp c2)
      rw [isFil, c1, ek, decide_eq_true c3]; rfl
set_option maxRecDepth 100000 in
theorem c_blocks (hn : 72 ≤ h.1) (i : Nat) (hi : i < 24) (hs : io v i 3 < 2 ^ 31) : sg_Kr MX8_blocks [.ref 64, .int (nI i)] (mv h A F v) (.int (nI (io v i 3 / 4))) := by
  show sg_A MX8_blocks 0 [some (.ref 64), some (.int (nI i))] [] _ _
  refine at_ld (i := 0) dX8_blocks_0 rfl rfl rfl ?_
  refine at_ld (i := 1) dX8_blocks_1 rfl rfl rfl ?_
  refine at_k (nI 3) dX8_blocks_2 rfl (by decide) ?_
  refine at_rv [_, _] dX8_blocks_3 mX8_of ⟨Nat.le_of_ble_eq_true rfl, Nat.le_of_ble_eq_true rfl⟩ lX8_173 iX8_of rfl rfl (mv_o hn _ _ _) (by omega) rfl (Nat.le_of_ble_eq_true rfl) (Nat.le_of_ble_eq_true rfl) ⟨rfl, rfl⟩ (c_of A F v hn i 3 (by omega)) ?_
  refine at_k (nI 4) dX8_blocks_6 rfl (by decide) ?_
  refine at_div dX8_blocks_7 (by decide) ?_
  refine at_ret dX8_blocks_8 rfl rfl ?_
  exact ri (nI_div hs (by decide))
set_option maxRecDepth 100000 in
theorem c_tail (hn : 72 ≤ h.1) (i : Nat) (hi : i < 24) (hs : io v i 3 < 2 ^ 31) : sg_Kr MX8_tail [.ref 64, .int (nI i)] (mv h A F v) (.int (nI (io v i 3 % 4))) := by
  show sg_A MX8_tail 0 [some (.ref 64), some (.int (nI i))] [] _ _
  refine at_ld (i := 0) dX8_tail_0 rfl rfl rfl ?_
  refine at_ld (i := 1) dX8_tail_1 rfl rfl rfl ?_
  refine at_k (nI 3) dX8_tail_2 rfl (by decide) ?_
  refine at_rv [_, _] dX8_tail_3 mX8_of ⟨Nat.le_of_ble_eq_true rfl, Nat.le_of_ble_eq_true rfl⟩ lX8_173 iX8_of rfl rfl (mv_o hn _ _ _) (by omega) rfl (Nat.le_of_ble_eq_true rfl) (Nat.le_of_ble_eq_true rfl) ⟨rfl, rfl⟩ (c_of A F v hn i 3 (by omega)) ?_
  refine at_k (nI 4) dX8_tail_6 rfl (by decide) ?_
  refine at_rem dX8_tail_7 (by decide) ?_
  refine at_ret dX8_tail_8 rfl rfl ?_
  exact ri (nI_rem hs (by decide))
end R2
