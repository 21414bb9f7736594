/-! NUMBERS, the reference's heap, and its smallest methods -/
theorem nI_mul (a b : Nat) : nI a * nI b = nI (a * b) := (Int32.ofNat_mul a b).symm
theorem nI_sub {a b : Nat} (h : b ≤ a) : nI a - nI b = nI (a - b) := by
  have e : nI (a - b) + nI b = nI a := by rw [nI_add, Nat.sub_add_cancel h]
  rw [← e]
  simp
theorem nI_div {a b : Nat} (ha : a < 2 ^ 31) (hb : b < 2 ^ 31) : nI a / nI b = nI (a / b) := by
  have hq : a / b < 2 ^ 31 := Nat.lt_of_le_of_lt (Nat.div_le_self a b) ha
  apply Int32.toInt_inj.mp
  rw [Int32.toInt_div, nI_toInt ha, nI_toInt hb, nI_toInt hq]
  have e : ((a : Int).tdiv (b : Int)) = ((a / b : Nat) : Int) := by
    rw [Int.ofNat_tdiv]
  rw [e]
  generalize a / b = q at hq ⊢
  apply Int.bmod_eq_of_le <;> omega
theorem nI_rem {a b : Nat} (ha : a < 2 ^ 31) (hb : b < 2 ^ 31) : nI a - nI a / nI b * nI b = nI (a % b) := by
  rw [nI_div ha hb, nI_mul, nI_sub (Nat.div_mul_le_self a b)]
  congr 1
  have := Nat.div_add_mod a b
  rw [Nat.mul_comm] at this
  omega
def bI (b : Bool) : Int32 := if b then 1 else 0
theorem bI_nar (b : Bool) : vp_nar .boolean (bI b) = bI b := by cases b <;> rfl
theorem bI_narr (b : Bool) : narrow .boolean (.int (bI b)) = .int (bI b) := by cases b <;> rfl
theorem bI_0 (b : Bool) : bI b = 0 ↔ b = false := by cases b <;> decide
theorem bI_nI (b : Bool) : bI b = nI (if b then 1 else 0) := by cases b <;> decide
/-- how many of the numbers below n are such -/
def cnt (p : Nat → Bool) : Nat → Nat
  | 0 => 0
  | n + 1 => cnt p n + (if p n then 1 else 0)
theorem cnt_le (p : Nat → Bool) (n : Nat) : cnt p n ≤ n := by
  induction n with
  | zero => exact Nat.le_refl 0
  | succ n ih => simp only [cnt]; split <;> omega
/-- all numbers below n are such -/
def allB (p : Nat → Bool) : Nat → Bool
  | 0 => true
  | n + 1 => allB p n && p n
/-- the sum of the numbers of those below n -/
def smN (f : Nat → Nat) : Nat → Nat
  | 0 => 0
  | n + 1 => smN f n + f n
/-- the first number from k on, of m, that is such -/
def fst (p : Nat → Bool) : Nat → Nat → Option Nat
  | _, 0 => none
  | k, m + 1 => if p k then some k else fst p (k + 1) m
def oI (o : Option Nat) : Int32 := match o with
  | some n => nI n
  | none => -4
-- the reference's places: 64 the object, 65 st, 66 before, 67 told, 68 kept, 69 isKept, 70 tape, 71 dirs
def mh_f (F : Nat → Int32) : List Value := [.ref 65, .ref 66, .ref 67, .ref 68, .ref 69, .ref 70, .int (F 6), .int (F 7), .int (F 8), .int (F 9), .int (F 10), .int (F 11), .int (F 12), .ref 71, .int (F 14), .int (F 15)]
def mh_n : Nat → Nat
  | 0 => 496
  | 1 => 496
  | 2 => 496
  | 3 => 992
  | 4 => 2
  | 5 => 200
  | _ => 40
def mh_z : Nat → Bool
  | 4 => true
  | _ => false
def mh (h : sg_H) (A : Nat → Nat → Int32) (F : Nat → Int32) : sg_H := (h.1, h.2.1, fun j => if j = 64 then .inr (8, mh_f F) else if 65 ≤ j ∧ j < 72 then .inl (mh_z (j - 65), mh_n (j - 65), A (j - 65)) else h.2.2 j)
theorem mh_o {h : sg_H} (hn : 72 ≤ h.1) (A : Nat → Nat → Int32) (F : Nat → Int32) : sg_at (mh h A F) 64 (.inr (8, mh_f F)) := ⟨Or.inl (show 64 < h.1 by omega), rfl⟩
theorem mh_a {h : sg_H} (hn : 72 ≤ h.1) (A : Nat → Nat → Int32) (F : Nat → Int32) (k : Nat) (hk : k < 7) : sg_at (mh h A F) (65 + k) (.inl (mh_z k, mh_n k, A k)) := by
  refine ⟨Or.inl (show 65 + k < h.1 by omega), ?_⟩
  show (if 65 + k = 64 then _ else if 65 ≤ 65 + k ∧ 65 + k < 72 then _ else _) = _
  rw [if_neg (by omega), if_pos (by omega), show 65 + k - 65 = k by omega]
theorem mh_ua (h : sg_H) (A : Nat → Nat → Int32) (F : Nat → Int32) (k : Nat) (hk : k < 7) (f : Nat → Int32) : sg_up (mh h A F) (65 + k) (.inl (mh_z k, mh_n k, f)) = mh h (vf_upd A k f) F := by
  refine Prod.ext rfl (Prod.ext rfl ?_)
  funext j
  show (if j = 65 + k then _ else (if j = 64 then _ else if 65 ≤ j ∧ j < 72 then _ else _)) = (if j = 64 then _ else if 65 ≤ j ∧ j < 72 then _ else _)
  by_cases e1 : j = 65 + k
  · subst e1
    rw [if_pos rfl, if_neg (by omega), if_pos (by omega), show 65 + k - 65 = k by omega]
    simp [vf_upd]
  · rw [if_neg e1]
    by_cases e2 : j = 64
    · rw [if_pos e2, if_pos e2]
    · rw [if_neg e2, if_neg e2]
      by_cases e3 : 65 ≤ j ∧ j < 72
      · rw [if_pos e3, if_pos e3]
        have e4 : j - 65 ≠ k := by omega
        simp [vf_upd, e4]
      · rw [if_neg e3, if_neg e3]
theorem mh_uo (h : sg_H) (A : Nat → Nat → Int32) (F F' : Nat → Int32) (fs : List Value) (e : fs = mh_f F') : sg_up (mh h A F) 64 (.inr (8, fs)) = mh h A F' := by
  subst e
  refine Prod.ext rfl (Prod.ext rfl ?_)
  funext j
  show (if j = 64 then _ else (if j = 64 then _ else if 65 ≤ j ∧ j < 72 then _ else _)) = (if j = 64 then _ else if 65 ≤ j ∧ j < 72 then _ else _)
  by_cases e2 : j = 64
  · rw [if_pos e2, if_pos e2]
  · rw [if_neg e2, if_neg e2, if_neg e2]
theorem mh_u6 (h : sg_H) (A : Nat → Nat → Int32) (F : Nat → Int32) (x : Int32) : sg_up (mh h A F) 64 (.inr (8, (mh_f F).set 6 (.int x))) = mh h A (upd F 6 x) := mh_uo h A F _ _ (by simp [mh_f, upd])
theorem mh_u7 (h : sg_H) (A : Nat → Nat → Int32) (F : Nat → Int32) (x : Int32) : sg_up (mh h A F) 64 (.inr (8, (mh_f F).set 7 (.int x))) = mh h A (upd F 7 x) := mh_uo h A F _ _ (by simp [mh_f, upd])
theorem mh_u8 (h : sg_H) (A : Nat → Nat → Int32) (F : Nat → Int32) (x : Int32) : sg_up (mh h A F) 64 (.inr (8, (mh_f F).set 8 (.int x))) = mh h A (upd F 8 x) := mh_uo h A F _ _ (by simp [mh_f, upd])
theorem mh_u9 (h : sg_H) (A : Nat → Nat → Int32) (F : Nat → Int32) (x : Int32) : sg_up (mh h A F) 64 (.inr (8, (mh_f F).set 9 (.int x))) = mh h A (upd F 9 x) := mh_uo h A F _ _ (by simp [mh_f, upd])
theorem mh_u10 (h : sg_H) (A : Nat → Nat → Int32) (F : Nat → Int32) (x : Int32) : sg_up (mh h A F) 64 (.inr (8, (mh_f F).set 10 (.int x))) = mh h A (upd F 10 x) := mh_uo h A F _ _ (by simp [mh_f, upd])
theorem mh_u11 (h : sg_H) (A : Nat → Nat → Int32) (F : Nat → Int32) (x : Int32) : sg_up (mh h A F) 64 (.inr (8, (mh_f F).set 11 (.int x))) = mh h A (upd F 11 x) := mh_uo h A F _ _ (by simp [mh_f, upd])
theorem mh_u12 (h : sg_H) (A : Nat → Nat → Int32) (F : Nat → Int32) (x : Int32) : sg_up (mh h A F) 64 (.inr (8, (mh_f F).set 12 (.int x))) = mh h A (upd F 12 x) := mh_uo h A F _ _ (by simp [mh_f, upd])
theorem mh_u14 (h : sg_H) (A : Nat → Nat → Int32) (F : Nat → Int32) (x : Int32) : sg_up (mh h A F) 64 (.inr (8, (mh_f F).set 14 (.int x))) = mh h A (upd F 14 x) := mh_uo h A F _ _ (by simp [mh_f, upd])
theorem mh_u15 (h : sg_H) (A : Nat → Nat → Int32) (F : Nat → Int32) (x : Int32) : sg_up (mh h A F) 64 (.inr (8, (mh_f F).set 15 (.int x))) = mh h A (upd F 15 x) := mh_uo h A F _ _ (by simp [mh_f, upd])
theorem mh_a0 {h : sg_H} (hn : 72 ≤ h.1) (A : Nat → Nat → Int32) (F : Nat → Int32) : sg_at (mh h A F) 65 (.inl (false, 496, A 0)) := mh_a hn A F 0 (by decide)
theorem mh_s0 (h : sg_H) (A : Nat → Nat → Int32) (F : Nat → Int32) (f : Nat → Int32) : sg_up (mh h A F) 65 (.inl (false, 496, f)) = mh h (vf_upd A 0 f) F := mh_ua h A F 0 (by decide) f
theorem mh_a1 {h : sg_H} (hn : 72 ≤ h.1) (A : Nat → Nat → Int32) (F : Nat → Int32) : sg_at (mh h A F) 66 (.inl (false, 496, A 1)) := mh_a hn A F 1 (by decide)
theorem mh_s1 (h : sg_H) (A : Nat → Nat → Int32) (F : Nat → Int32) (f : Nat → Int32) : sg_up (mh h A F) 66 (.inl (false, 496, f)) = mh h (vf_upd A 1 f) F := mh_ua h A F 1 (by decide) f
theorem mh_a2 {h : sg_H} (hn : 72 ≤ h.1) (A : Nat → Nat → Int32) (F : Nat → Int32) : sg_at (mh h A F) 67 (.inl (false, 496, A 2)) := mh_a hn A F 2 (by decide)
theorem mh_s2 (h : sg_H) (A : Nat → Nat → Int32) (F : Nat → Int32) (f : Nat → Int32) : sg_up (mh h A F) 67 (.inl (false, 496, f)) = mh h (vf_upd A 2 f) F := mh_ua h A F 2 (by decide) f
theorem mh_a3 {h : sg_H} (hn : 72 ≤ h.1) (A : Nat → Nat → Int32) (F : Nat → Int32) : sg_at (mh h A F) 68 (.inl (false, 992, A 3)) := mh_a hn A F 3 (by decide)
theorem mh_s3 (h : sg_H) (A : Nat → Nat → Int32) (F : Nat → Int32) (f : Nat → Int32) : sg_up (mh h A F) 68 (.inl (false, 992, f)) = mh h (vf_upd A 3 f) F := mh_ua h A F 3 (by decide) f
theorem mh_a5 {h : sg_H} (hn : 72 ≤ h.1) (A : Nat → Nat → Int32) (F : Nat → Int32) : sg_at (mh h A F) 70 (.inl (false, 200, A 5)) := mh_a hn A F 5 (by decide)
theorem mh_s5 (h : sg_H) (A : Nat → Nat → Int32) (F : Nat → Int32) (f : Nat → Int32) : sg_up (mh h A F) 70 (.inl (false, 200, f)) = mh h (vf_upd A 5 f) F := mh_ua h A F 5 (by decide) f
theorem mh_a6 {h : sg_H} (hn : 72 ≤ h.1) (A : Nat → Nat → Int32) (F : Nat → Int32) : sg_at (mh h A F) 71 (.inl (false, 40, A 6)) := mh_a hn A F 6 (by decide)
theorem mh_s6 (h : sg_H) (A : Nat → Nat → Int32) (F : Nat → Int32) (f : Nat → Int32) : sg_up (mh h A F) 71 (.inl (false, 40, f)) = mh h (vf_upd A 6 f) F := mh_ua h A F 6 (by decide) f
theorem mh_a4 {h : sg_H} (hn : 72 ≤ h.1) (A : Nat → Nat → Int32) (F : Nat → Int32) : sg_at (mh h A F) 69 (.inl (true, 2, A 4)) := mh_a hn A F 4 (by decide)
theorem mh_s4 (h : sg_H) (A : Nat → Nat → Int32) (F : Nat → Int32) (f : Nat → Int32) : sg_up (mh h A F) 69 (.inl (true, 2, f)) = mh h (vf_upd A 4 f) F := mh_ua h A F 4 (by decide) f
theorem vu_s {α : Type} (A : Nat → α) (k : Nat) (x : α) : vf_upd A k x k = x := by simp [vf_upd]
theorem vu_n {α : Type} (A : Nat → α) (k j : Nat) (x : α) (h : j ≠ k) : vf_upd A k x j = A j := by simp [vf_upd, h]
theorem vu_vu {α : Type} (A : Nat → α) (k : Nat) (x y : α) : vf_upd (vf_upd A k x) k y = vf_upd A k y := by
  funext j
  simp only [vf_upd]
  split <;> rfl
theorem vu_id {α : Type} (A : Nat → α) (k : Nat) : vf_upd A k (A k) = A := by
  funext j
  simp only [vf_upd]
  split
  · next e => rw [e]
  · rfl
set_option maxRecDepth 100000 in
theorem c_flag (h : sg_H) (b : Bool) : sg_Kr MX8_flag [.int (bI b)] h (.int (bI b)) := by
  show sg_A MX8_flag 0 [some (.int (bI b))] [] _ _
  refine at_ld (i := 0) dX8_flag_0 rfl rfl rfl ?_
  refine at_zeq 8 dX8_flag_1 (by decide) (fun c => ?_) (fun c => ?_)
  · refine at_k (nI 0) dX8_flag_8 rfl (by decide) ?_
    refine at_ret dX8_flag_9 rfl rfl ?_
    cases b
    · exact ⟨rfl, rfl⟩
    · exact absurd c (by decide)
  · refine at_k (nI 1) dX8_flag_4 rfl (by decide) ?_
    refine at_goto 9 dX8_flag_5 (by decide) ?_
    refine at_ret dX8_flag_9 rfl rfl ?_
    cases b
    · exact absurd rfl c
    · exact ⟨rfl, rfl⟩
set_option maxRecDepth 100000 in
theorem c_in (h : sg_H) (v a b : Int64) : sg_Kr MX8_in [.long v, .long a, .long b] h (.int (bI (decide (a ≤ v ∧ v ≤ b)))) := by
  show sg_A MX8_in 0 [some (.long v), none, some (.long a), none, some (.long b), none] [] _ _
  refine at_ld (i := 0) dX8_in_0 rfl rfl rfl ?_
  refine at_ld (i := 2) dX8_in_1 rfl rfl rfl ?_
  refine at_lcmp dX8_in_2 ?_
  refine at_zlt 17 dX8_in_3 (by decide) (fun c => ?_) (fun c => ?_)
  · refine at_k (nI 0) dX8_in_17 rfl (by decide) ?_
    refine at_ret dX8_in_18 rfl rfl ?_
    rw [lg_cmp_lt] at c
    refine ⟨?_, rfl⟩
    rw [decide_eq_false (fun q => absurd q.1 (Int64.not_le.mpr c))]
    rfl
  · refine at_ld (i := 0) dX8_in_6 rfl rfl rfl ?_
    refine at_ld (i := 4) dX8_in_7 rfl rfl rfl ?_
    refine at_lcmp dX8_in_9 ?_
    rw [lg_cmp_lt] at c
    refine at_zgt 17 dX8_in_10 (by decide) (fun c2 => ?_) (fun c2 => ?_)
    · refine at_k (nI 0) dX8_in_17 rfl (by decide) ?_
      refine at_ret dX8_in_18 rfl rfl ?_
      rw [lg_cmp_gt] at c2
      refine ⟨?_, rfl⟩
      rw [decide_eq_false (fun q => absurd q.2 (Int64.not_le.mpr c2))]
      rfl
    · refine at_k (nI 1) dX8_in_13 rfl (by decide) ?_
      refine at_goto 18 dX8_in_14 (by decide) ?_
      refine at_ret dX8_in_18 rfl rfl ?_
      rw [lg_cmp_gt] at c2
      refine ⟨?_, rfl⟩
      rw [decide_eq_true ⟨Int64.not_lt.mp c, Int64.not_lt.mp c2⟩]
      rfl
