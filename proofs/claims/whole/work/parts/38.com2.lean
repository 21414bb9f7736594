/-! THE CLASS: FreeMap, a block's bits -/
def b4 (a b c d : Bool) : Nat := (if a then 1 else 0) + (if b then 2 else 0) + (if c then 4 else 0) + (if d then 8 else 0)
def bq (q : Nat → Bool) (k : Nat) : Nat := b4 (q (4 * k)) (q (4 * k + 1)) (q (4 * k + 2)) (q (4 * k + 3))
def msk (n r : Nat) : Int32 := (nI 1 <<< (nI n &&& 31) - nI 1) <<< (nI r &&& 31)
def setq (q : Nat → Bool) (x n : Nat) (f : Bool) : Nat → Bool := fun y => if x ≤ y ∧ y < x + n then f else q y
/-- the bits tell what is free -/
def mbq (q : Nat → Bool) (b : Nat → Int32) : Prop := ∀ k, k < 32 → b k = nI (bq q k)
theorem b4_lt (a b c d : Bool) : b4 a b c d < 16 := by cases a <;> cases b <;> cases c <;> cases d <;> decide
theorem bq_lt (q : Nat → Bool) (k : Nat) : bq q k < 16 := b4_lt _ _ _ _
def pk4 (n r : Nat) : Prop := r < 4 ∧ r + n ≤ 4
theorem pk4_c {n r : Nat} (h1 : r < 4) (h2 : r + n ≤ 4) {P : Nat → Nat → Prop} (h : ∀ r n : Fin 5, r.val < 4 → r.val + n.val ≤ 4 → P n.val r.val) : P n r := h ⟨r, by omega⟩ ⟨n, by omega⟩ h1 h2
def s4 (a b c d : Bool) (j : Nat) : Bool := if j = 0 then a else if j = 1 then b else if j = 2 then c else d
theorem s4_q (q : Nat → Bool) (k j : Nat) (hj : j < 4) : s4 (q (4 * k)) (q (4 * k + 1)) (q (4 * k + 2)) (q (4 * k + 3)) j = q (4 * k + j) := by
  rcases (show j = 0 ∨ j = 1 ∨ j = 2 ∨ j = 3 by omega) with rfl | rfl | rfl | rfl <;> rfl
set_option maxRecDepth 100000 in
theorem msk_a : ∀ r n : Fin 5, r.val < 4 → r.val + n.val ≤ 4 → ∀ a b c d : Bool, (nI (b4 a b c d) &&& msk n.val r.val = msk n.val r.val) = (allB (fun k => s4 a b c d (r.val + k)) n.val = true) := by
  intro r n h1 h2 a b c d
  apply propext
  revert r n h1 h2 a b c d
  decide +kernel
def s5 (a : Bool) (x n j : Nat) (f : Bool) : Bool := if x ≤ j ∧ j < x + n then f else a
set_option maxRecDepth 100000 in
theorem msk_t : ∀ r n : Fin 5, r.val < 4 → r.val + n.val ≤ 4 → ∀ a b c d : Bool, nI (b4 a b c d) ||| msk n.val r.val = nI (b4 (s5 a r.val n.val 0 true) (s5 b r.val n.val 1 true) (s5 c r.val n.val 2 true) (s5 d r.val n.val 3 true)) := by
  decide +kernel
set_option maxRecDepth 100000 in
theorem msk_f : ∀ r n : Fin 5, r.val < 4 → r.val + n.val ≤ 4 → ∀ a b c d : Bool, nI (b4 a b c d) &&& (msk n.val r.val ^^^ -1) = nI (b4 (s5 a r.val n.val 0 false) (s5 b r.val n.val 1 false) (s5 c r.val n.val 2 false) (s5 d r.val n.val 3 false)) := by
  decide +kernel
theorem allB_eq {p q : Nat → Bool} : ∀ n, (∀ k, k < n → p k = q k) → allB p n = allB q n := by
  intro n
  induction n with
  | zero => intro _; rfl
  | succ n ih => intro h; simp only [allB]; rw [ih (fun k hk => h k (by omega)), h n (by omega)]
theorem bq_a {q : Nat → Bool} {k n r : Nat} (h1 : r < 4) (h2 : r + n ≤ 4) : (nI (bq q k) &&& msk n r = msk n r) ↔ allB (fun j => q (4 * k + r + j)) n = true := by
  have := pk4_c h1 h2 (P := fun n r => (nI (bq q k) &&& msk n r = msk n r) = (allB (fun j => s4 (q (4 * k)) (q (4 * k + 1)) (q (4 * k + 2)) (q (4 * k + 3)) (r + j)) n = true)) (fun r n a b => msk_a r n a b _ _ _ _)
  rw [this, allB_eq n (fun j hj => by rw [s4_q q k _ (by omega), ← Nat.add_assoc])]
theorem setq_s (q : Nat → Bool) (k r n j : Nat) (f : Bool) : setq q (4 * k + r) n f (4 * k + j) = s5 (q (4 * k + j)) r n j f := by
  unfold setq s5
  by_cases h : r ≤ j ∧ j < r + n
  · rw [if_pos h, if_pos (by omega)]
  · rw [if_neg h, if_neg (by omega)]
theorem bq_s {q : Nat → Bool} {k n r : Nat} {f : Bool} : bq (setq q (4 * k + r) n f) k = b4 (s5 (q (4 * k)) r n 0 f) (s5 (q (4 * k + 1)) r n 1 f) (s5 (q (4 * k + 2)) r n 2 f) (s5 (q (4 * k + 3)) r n 3 f) := by
  unfold bq
  rw [setq_s q k r n 1, setq_s q k r n 2, setq_s q k r n 3]
  have := setq_s q k r n 0 f
  rw [Nat.add_zero] at this
  rw [this]
theorem bq_t {q : Nat → Bool} {k n r : Nat} (h1 : r < 4) (h2 : r + n ≤ 4) : nI (bq q k) ||| msk n r = nI (bq (setq q (4 * k + r) n true) k) := by
  rw [bq_s]
  exact pk4_c h1 h2 (P := fun n r => nI (b4 (q (4 * k)) (q (4 * k + 1)) (q (4 * k + 2)) (q (4 * k + 3))) ||| msk n r = nI (b4 (s5 (q (4 * k)) r n 0 true) (s5 (q (4 * k + 1)) r n 1 true) (s5 (q (4 * k + 2)) r n 2 true) (s5 (q (4 * k + 3)) r n 3 true))) (fun r n a b => msk_t r n a b _ _ _ _)
theorem bq_f {q : Nat → Bool} {k n r : Nat} (h1 : r < 4) (h2 : r + n ≤ 4) : nI (bq q k) &&& (msk n r ^^^ -1) = nI (bq (setq q (4 * k + r) n false) k) := by
  rw [bq_s]
  exact pk4_c h1 h2 (P := fun n r => nI (b4 (q (4 * k)) (q (4 * k + 1)) (q (4 * k + 2)) (q (4 * k + 3))) &&& (msk n r ^^^ -1) = nI (b4 (s5 (q (4 * k)) r n 0 false) (s5 (q (4 * k + 1)) r n 1 false) (s5 (q (4 * k + 2)) r n 2 false) (s5 (q (4 * k + 3)) r n 3 false))) (fun r n a b => msk_f r n a b _ _ _ _)
theorem bq_e {p q : Nat → Bool} {k : Nat} (h : ∀ j, j < 4 → p (4 * k + j) = q (4 * k + j)) : bq p k = bq q k := by
  unfold bq
  rw [h 1 (by decide), h 2 (by decide), h 3 (by decide)]
  have := h 0 (by decide)
  rw [Nat.add_zero] at this
  rw [this]
theorem mbq_e {p q : Nat → Bool} {b : Nat → Int32} (h : ∀ x, x < 128 → p x = q x) (hb : mbq p b) : mbq q b := fun k hk => by
  rw [hb k hk, bq_e (fun j hj => h _ (by omega))]
def bput (b : Nat → Int32) (x n : Nat) (f : Bool) : Nat → Int32 := upd b (x / 4) (if f = true then b (x / 4) ||| msk n (x % 4) else b (x / 4) &&& (msk n (x % 4) ^^^ -1))
theorem mbq_put {q : Nat → Bool} {b : Nat → Int32} (h : mbq q b) {x n : Nat} (hx : x < 128) (hn : x % 4 + n ≤ 4) (f : Bool) : mbq (setq q x n f) (bput b x n f) := by
  intro k hk
  have hd : 4 * (x / 4) + x % 4 = x := Nat.div_add_mod x 4
  have hm : x % 4 < 4 := Nat.mod_lt _ (by decide)
  unfold bput upd
  by_cases e : k = x / 4
  · rw [if_pos e, e, h (x / 4) (by omega)]
    cases f with
    | true => rw [if_pos rfl, bq_t hm hn, hd]
    | false => rw [if_neg (by decide), bq_f hm hn, hd]
  · rw [if_neg e, h k hk]
    congr 1
    refine bq_e (fun j hj => ?_)
    unfold setq
    rw [if_neg (by omega)]
/-- four bits' count -/
theorem bc_a : ∀ a b c d : Bool, b4 a b c d = b4 a b c d := fun _ _ _ _ => rfl
def bcf (x : Int32) : Int32 := x
/-- a FreeMap at m, its Layout at l -/
def FM (g : sg_H) (m l : Nat) (v : Nat → Nat) (b : Nat → Int32) : Prop := sg_at g m (.inr (1, [.ref l, .ref (m + 1)])) ∧ sg_at g l (.inr (3, lay v)) ∧ sg_at g (m + 1) (.inl (false, 32, b)) ∧ m < 900 ∧ l < 900 ∧ l ≠ m + 1
theorem FM_u {g : sg_H} {m l : Nat} {v : Nat → Nat} {b : Nat → Int32} (h : FM g m l v b) (b' : Nat → Int32) : FM (sg_up g (m + 1) (.inl (false, 32, b'))) m l v b' := ⟨up_n h.1 _ (by omega), up_n h.2.1 _ h.2.2.2.2.2, up_e h.2.2.1 _, h.2.2.2⟩
section C2
variable {g : sg_H} {m l : Nat} {v : Nat → Nat} {b : Nat → Int32} {q : Nat → Bool}
set_option maxRecDepth 100000 in
theorem k_bitCount (x : Nat) (hx : x < 16) : sg_Kr MJ6_bitCount_0f7a4 [.int (nI x)] g (.int (nI (cnt (fun j => x.testBit j) 4))) := by
  show sg_A MJ6_bitCount_0f7a4 0 [some (.int (nI x))] [] _ _
  refine at_ld (i := 0) dJ6_bitCount_0f7a4_0 rfl rfl rfl ?_
  refine at_ld (i := 0) dJ6_bitCount_0f7a4_1 rfl rfl rfl ?_
  refine at_k (nI 1) dJ6_bitCount_0f7a4_2 rfl (by decide) ?_
  refine at_bin dJ6_bitCount_0f7a4_3 rfl ?_
  refine at_ldcw dJ6_bitCount_0f7a4_4 kJ6_265 ?_
  refine at_bin dJ6_bitCount_0f7a4_7 rfl ?_
  refine at_bin dJ6_bitCount_0f7a4_8 rfl ?_
  refine at_st (i := 0) dJ6_bitCount_0f7a4_9 rfl rfl (Nat.le_of_ble_eq_true rfl) rfl ?_
  try dsimp only [List.set_cons_succ, List.set_cons_zero]
  refine at_ld (i := 0) dJ6_bitCount_0f7a4_10 rfl rfl rfl ?_
  refine at_ldcw dJ6_bitCount_0f7a4_11 kJ6_266 ?_
  refine at_bin dJ6_bitCount_0f7a4_14 rfl ?_
  refine at_ld (i := 0) dJ6_bitCount_0f7a4_15 rfl rfl rfl ?_
  refine at_k (nI 2) dJ6_bitCount_0f7a4_16 rfl (by decide) ?_
  refine at_bin dJ6_bitCount_0f7a4_17 rfl ?_
  refine at_ldcw dJ6_bitCount_0f7a4_18 kJ6_266 ?_
  refine at_bin dJ6_bitCount_0f7a4_21 rfl ?_
  refine at_bin dJ6_bitCount_0f7a4_22 rfl ?_
  refine at_st (i := 0) dJ6_bitCount_0f7a4_23 rfl rfl (Nat.le_of_ble_eq_true rfl) rfl ?_
  try dsimp only [List.set_cons_succ, List.set_cons_zero]
  refine at_ld (i := 0) dJ6_bitCount_0f7a4_24 rfl rfl rfl ?_
  refine at_ld (i := 0) dJ6_bitCount_0f7a4_25 rfl rfl rfl ?_
  refine at_k (nI 4) dJ6_bitCount_0f7a4_26 rfl (by decide) ?_
  refine at_bin dJ6_bitCount_0f7a4_27 rfl ?_
  refine at_bin dJ6_bitCount_0f7a4_28 rfl ?_
  refine at_ldcw dJ6_bitCount_0f7a4_29 kJ6_267 ?_
  refine at_bin dJ6_bitCount_0f7a4_32 rfl ?_
  refine at_st (i := 0) dJ6_bitCount_0f7a4_33 rfl rfl (Nat.le_of_ble_eq_true rfl) rfl ?_
  try dsimp only [List.set_cons_succ, List.set_cons_zero]
  refine at_ld (i := 0) dJ6_bitCount_0f7a4_34 rfl rfl rfl ?_
  refine at_ld (i := 0) dJ6_bitCount_0f7a4_35 rfl rfl rfl ?_
  refine at_k (nI 8) dJ6_bitCount_0f7a4_36 rfl (by decide) ?_
  refine at_bin dJ6_bitCount_0f7a4_38 rfl ?_
  refine at_bin dJ6_bitCount_0f7a4_39 rfl ?_
  refine at_st (i := 0) dJ6_bitCount_0f7a4_40 rfl rfl (Nat.le_of_ble_eq_true rfl) rfl ?_
  try dsimp only [List.set_cons_succ, List.set_cons_zero]
  refine at_ld (i := 0) dJ6_bitCount_0f7a4_41 rfl rfl rfl ?_
  refine at_ld (i := 0) dJ6_bitCount_0f7a4_42 rfl rfl rfl ?_
  refine at_k (nI 16) dJ6_bitCount_0f7a4_43 rfl (by decide) ?_
  refine at_bin dJ6_bitCount_0f7a4_45 rfl ?_
  refine at_bin dJ6_bitCount_0f7a4_46 rfl ?_
  refine at_st (i := 0) dJ6_bitCount_0f7a4_47 rfl rfl (Nat.le_of_ble_eq_true rfl) rfl ?_
  try dsimp only [List.set_cons_succ, List.set_cons_zero]
  refine at_ld (i := 0) dJ6_bitCount_0f7a4_48 rfl rfl rfl ?_
  refine at_k (nI 63) dJ6_bitCount_0f7a4_49 rfl (by decide) ?_
  refine at_bin dJ6_bitCount_0f7a4_51 rfl ?_
  refine at_ret dJ6_bitCount_0f7a4_52 rfl rfl ?_
  refine ri ?_
  rcases (show x = 0 ∨ x = 1 ∨ x = 2 ∨ x = 3 ∨ x = 4 ∨ x = 5 ∨ x = 6 ∨ x = 7 ∨ x = 8 ∨ x = 9 ∨ x = 10 ∨ x = 11 ∨ x = 12 ∨ x = 13 ∨ x = 14 ∨ x = 15 by omega) with rfl | rfl | rfl | rfl | rfl | rfl | rfl | rfl | rfl | rfl | rfl | rfl | rfl | rfl | rfl | rfl <;> decide +kernel
theorem b4_cnt : ∀ a b c d : Bool, cnt (fun j => (b4 a b c d).testBit j) 4 = cnt (fun j => s4 a b c d j) 4 := by decide +kernel
theorem k_bitCountQ (q : Nat → Bool) (k : Nat) : sg_Kr MJ6_bitCount_0f7a4 [.int (nI (bq q k))] g (.int (nI (cnt (fun j => q (4 * k + j)) 4))) := by
  have := k_bitCount (g := g) (bq q k) (bq_lt q k)
  rw [show cnt (fun j => (bq q k).testBit j) 4 = cnt (fun j => q (4 * k + j)) 4 from (b4_cnt _ _ _ _).trans (cnt_eq 4 (fun j hj => s4_q q k j hj))] at this
  exact this
set_option maxRecDepth 100000 in
theorem k_bitsOf (hF : FM g m l v b) (hb : mbq q b) (k : Nat) (hk : k < 32) : sg_Kr MX1_bitsOf [.ref m, .int (nI k)] g (.int (nI (bq q k))) := by
  have hm1 := hF.2.2.2.1
  show sg_A MX1_bitsOf 0 [some (.ref m), some (.int (nI k))] [] _ _
  refine at_ld (i := 1) dX1_bitsOf_0 rfl rfl rfl ?_
  refine at_zlt 22 dX1_bitsOf_1 (by decide) (fun c => ?_) (fun c => ?_)
  · exact absurd c (nI_pos (by omega))
  · refine at_ld (i := 1) dX1_bitsOf_4 rfl rfl rfl ?_
    refine at_ld (i := 0) dX1_bitsOf_5 rfl rfl rfl ?_
    refine at_get dX1_bitsOf_6 fX1_9 hF.1 (by omega) rfl ?_
    refine at_alen dX1_bitsOf_9 hF.2.2.1 ?_
    refine at_ige 22 dX1_bitsOf_10 (by decide) (fun c1 => ?_) (fun c1 => ?_)
    · exact absurd c1 (nI_ge hk (by decide))
    · refine at_ld (i := 0) dX1_bitsOf_13 rfl rfl rfl ?_
      refine at_get dX1_bitsOf_14 fX1_9 hF.1 (by omega) rfl ?_
      refine at_ld (i := 1) dX1_bitsOf_17 rfl rfl rfl ?_
      refine at_ald (k) dX1_bitsOf_18 hF.2.2.1 rfl hk (by decide) ?_
      refine at_goto 23 dX1_bitsOf_19 (by decide) ?_
      refine at_ret dX1_bitsOf_23 rfl rfl ?_
      exact ri (hb k hk)
theorem b4_15 : ∀ a b c d : Bool, (nI (b4 a b c d) = nI 15) = (allB (fun j => s4 a b c d j) 4 = true) := by
  intro a b c d
  apply propext
  revert a b c d
  decide +kernel
theorem bq_15 (q : Nat → Bool) (k : Nat) : (nI (bq q k) = nI 15) ↔ allB (fun j => q (4 * k + j)) 4 = true := by
  rw [show (nI (bq q k) = nI 15) = _ from b4_15 _ _ _ _, allB_eq 4 (fun j hj => s4_q q k j hj)]
set_option maxRecDepth 100000 in
theorem k_isFreeBlock (hF : FM g m l v b) (hb : mbq q b) (k : Nat) (hk : k < 32) : sg_Kr MX1_isFreeBlock [.ref m, .int (nI k)] g (.int (bI (allB (fun j => q (4 * k + j)) 4))) := by
  have hm1 := hF.2.2.2.1
  show sg_A MX1_isFreeBlock 0 [some (.ref m), some (.int (nI k))] [] _ _
  refine at_ld (i := 1) dX1_isFreeBlock_0 rfl rfl rfl ?_
  refine at_zlt 28 dX1_isFreeBlock_1 (by decide) (fun c => ?_) (fun c => ?_)
  · exact absurd c (nI_pos (by omega))
  · refine at_ld (i := 1) dX1_isFreeBlock_4 rfl rfl rfl ?_
    refine at_ld (i := 0) dX1_isFreeBlock_5 rfl rfl rfl ?_
    refine at_get dX1_isFreeBlock_6 fX1_9 hF.1 (by omega) rfl ?_
    refine at_alen dX1_isFreeBlock_9 hF.2.2.1 ?_
    refine at_ige 28 dX1_isFreeBlock_10 (by decide) (fun c1 => ?_) (fun c1 => ?_)
    · exact absurd c1 (nI_ge hk (by decide))
    · refine at_ld (i := 0) dX1_isFreeBlock_13 rfl rfl rfl ?_
      refine at_get dX1_isFreeBlock_14 fX1_9 hF.1 (by omega) rfl ?_
      refine at_ld (i := 1) dX1_isFreeBlock_17 rfl rfl rfl ?_
      refine at_ald (k) dX1_isFreeBlock_18 hF.2.2.1 rfl hk (by decide) ?_
      refine at_k (nI 15) dX1_isFreeBlock_19 rfl (by decide) ?_
      rw [hb k hk]
      refine at_ine 28 dX1_isFreeBlock_21 (by decide) (fun c2 => ?_) (fun c2 => ?_)
      · rw [bq_15] at c2
        refine at_k (nI 0) dX1_isFreeBlock_28 rfl (by decide) ?_
        refine at_ret dX1_isFreeBlock_29 rfl rfl ?_
        refine ri ?_
        cases e : allB (fun j => q (4 * k + j)) 4
        · rfl
        · exact absurd e c2
      · have c3 := (bq_15 q k).mp (Classical.not_not.mp c2)
        refine at_k (nI 1) dX1_isFreeBlock_24 rfl (by decide) ?_
        refine at_goto 29 dX1_isFreeBlock_25 (by decide) ?_
        refine at_ret dX1_isFreeBlock_29 rfl rfl ?_
        rw [c3]
        exact ⟨rfl, rfl⟩
set_option maxRecDepth 100000 in
theorem k_areFree (hF : FM g m l v b) (hb : mbq q b) (x n : Nat) (hx : x < 128) (hn : n ≤ 4) : sg_Kr MX1_areFree [.ref m, .int (nI x), .int (nI n)] g (.int (bI (decide (x % 4 + n ≤ 4) && allB (fun j => q (x + j)) n))) := by
  have hm1 := hF.2.2.2.1
  have hd : 4 * (x / 4) + x % 4 = x := Nat.div_add_mod x 4
  have hm : x % 4 < 4 := Nat.mod_lt _ (by decide)
  show sg_A MX1_areFree 0 [some (.ref m), some (.int (nI x)), some (.int (nI n)), none] [] _ _
  refine at_ld (i := 1) dX1_areFree_0 rfl rfl rfl ?_
  refine at_zlt 17 dX1_areFree_1 (by decide) (fun c => ?_) (fun c => ?_)
  · exact absurd c (nI_pos (by omega))
  · refine at_ld (i := 2) dX1_areFree_4 rfl rfl rfl ?_
    refine at_zlt 17 dX1_areFree_5 (by decide) (fun c1 => ?_) (fun c1 => ?_)
    · exact absurd c1 (nI_pos (by omega))
    · refine at_ld (i := 1) dX1_areFree_8 rfl rfl rfl ?_
      refine at_k (nI 4) dX1_areFree_9 rfl (by decide) ?_
      refine at_rem dX1_areFree_10 (by decide) ?_
      rw [nI_rem (by omega) (by decide)]
      refine at_ld (i := 2) dX1_areFree_11 rfl rfl rfl ?_
      refine at_bin dX1_areFree_12 rfl ?_
      try dsimp only
      rw [nI_add]
      refine at_k (nI 4) dX1_areFree_13 rfl (by decide) ?_
      refine at_ile 19 dX1_areFree_14 (by decide) (fun c2 => ?_) (fun c2 => ?_)
      · have c3 := (nI_leI (by omega) (by decide)).mp c2
        rw [decide_eq_true c3]
        refine at_k (nI 1) dX1_areFree_19 rfl (by decide) ?_
        refine at_ld (i := 2) dX1_areFree_20 rfl rfl rfl ?_
        refine at_bin dX1_areFree_21 rfl ?_
        refine at_k (nI 1) dX1_areFree_22 rfl (by decide) ?_
        refine at_bin dX1_areFree_23 rfl ?_
        refine at_ld (i := 1) dX1_areFree_24 rfl rfl rfl ?_
        refine at_k (nI 4) dX1_areFree_25 rfl (by decide) ?_
        refine at_rem dX1_areFree_26 (by decide) ?_
        rw [nI_rem (by omega) (by decide)]
        refine at_bin dX1_areFree_27 rfl ?_
        refine at_st (i := 3) dX1_areFree_28 rfl rfl (Nat.le_of_ble_eq_true rfl) rfl ?_
        try dsimp only [List.set_cons_succ, List.set_cons_zero]
        refine at_ld (i := 0) dX1_areFree_29 rfl rfl rfl ?_
        refine at_ld (i := 1) dX1_areFree_30 rfl rfl rfl ?_
        refine at_k (nI 4) dX1_areFree_31 rfl (by decide) ?_
        refine at_div dX1_areFree_32 (by decide) ?_
        rw [nI_div (by omega) (by decide)]
        refine at_rv [_] dX1_areFree_33 mX1_bitsOf ⟨Nat.le_of_ble_eq_true rfl, Nat.le_of_ble_eq_true rfl⟩ lX1_35 iX1_bitsOf rfl rfl hF.1 (by omega) rfl (Nat.le_of_ble_eq_true rfl) (Nat.le_of_ble_eq_true rfl) ⟨rfl, rfl⟩ (k_bitsOf hF hb (x / 4) (by omega)) ?_
        refine at_ld (i := 3) dX1_areFree_36 rfl rfl rfl ?_
        refine at_bin dX1_areFree_37 rfl ?_
        refine at_ld (i := 3) dX1_areFree_38 rfl rfl rfl ?_
        rw [show (nI 1 <<< (nI n &&& 31) - nI 1) <<< (nI (x % 4) &&& 31) = msk n (x % 4) from rfl]
        have hi := bq_a (q := q) (k := x / 4) hm c3
        rw [hd] at hi
        refine at_ine 46 dX1_areFree_39 (by decide) (fun c4 => ?_) (fun c4 => ?_)
        · rw [hi] at c4
          refine at_k (nI 0) dX1_areFree_46 rfl (by decide) ?_
          refine at_ret dX1_areFree_47 rfl rfl ?_
          refine ri ?_
          cases e : allB (fun j => q (x + j)) n
          · rfl
          · exact absurd e c4
        · have c5 := hi.mp (Classical.not_not.mp c4)
          refine at_k (nI 1) dX1_areFree_42 rfl (by decide) ?_
          refine at_goto 47 dX1_areFree_43 (by decide) ?_
          refine at_ret dX1_areFree_47 rfl rfl ?_
          rw [c5]
          exact ⟨rfl, rfl⟩
      · have c3 : ¬ x % 4 + n ≤ 4 := fun z => c2 (nI_le z (by decide))
        rw [decide_eq_false c3]
        refine at_k (nI 0) dX1_areFree_17 rfl (by decide) ?_
        refine at_ret dX1_areFree_18 rfl rfl ?_
        exact ⟨rfl, rfl⟩
set_option maxRecDepth 100000 in
theorem k_isFree (hF : FM g m l v b) (hb : mbq q b) (x : Nat) (hx : x < 128) : sg_Kr MX1_isFree [.ref m, .int (nI x)] g (.int (bI (q x))) := by
  have hm1 := hF.2.2.2.1
  have hm : x % 4 < 4 := Nat.mod_lt _ (by decide)
  show sg_A MX1_isFree 0 [some (.ref m), some (.int (nI x))] [] _ _
  refine at_ld (i := 0) dX1_isFree_0 rfl rfl rfl ?_
  refine at_ld (i := 1) dX1_isFree_1 rfl rfl rfl ?_
  refine at_k (nI 1) dX1_isFree_2 rfl (by decide) ?_
  refine at_rv [_, _] dX1_isFree_3 mX1_areFree ⟨Nat.le_of_ble_eq_true rfl, Nat.le_of_ble_eq_true rfl⟩ lX1_31 iX1_areFree rfl rfl hF.1 (by omega) rfl (Nat.le_of_ble_eq_true rfl) (Nat.le_of_ble_eq_true rfl) ⟨rfl, rfl⟩ (k_areFree hF hb x 1 hx (by decide)) ?_
  refine at_ret dX1_isFree_6 rfl (bI_narr _) ?_
  rw [decide_eq_true (by omega)]
  refine ri ?_
  show bI (true && (true && q (x + 0))) = _
  rw [Bool.true_and, Bool.true_and, Nat.add_zero]
set_option maxRecDepth 100000 in
theorem k_put (hF : FM g m l v b) (x n : Nat) (f : Bool) (hx : x < 128) (hn : x % 4 + n ≤ 4) : sg_Kw MX1_put [.ref m, .int (nI x), .int (nI n), .int (bI f)] g none (sg_up g (m + 1) (.inl (false, 32, bput b x n f))) := by
  have hm1 := hF.2.2.2.1
  have hd : 4 * (x / 4) + x % 4 = x := Nat.div_add_mod x 4
  have hm : x % 4 < 4 := Nat.mod_lt _ (by decide)
  show sg_A MX1_put 0 [some (.ref m), some (.int (nI x)), some (.int (nI n)), some (.int (bI f)), none, none] [] _ _
  refine at_ld (i := 1) dX1_put_0 rfl rfl rfl ?_
  refine at_zlt 28 dX1_put_1 (by decide) (fun c => ?_) (fun c => ?_)
  · exact absurd c (nI_pos (by omega))
  · refine at_ld (i := 2) dX1_put_4 rfl rfl rfl ?_
    refine at_zlt 28 dX1_put_5 (by decide) (fun c1 => ?_) (fun c1 => ?_)
    · exact absurd c1 (nI_pos (by omega))
    · refine at_ld (i := 1) dX1_put_8 rfl rfl rfl ?_
      refine at_k (nI 4) dX1_put_9 rfl (by decide) ?_
      refine at_rem dX1_put_10 (by decide) ?_
      rw [nI_rem (by omega) (by decide)]
      refine at_ld (i := 2) dX1_put_11 rfl rfl rfl ?_
      refine at_bin dX1_put_12 rfl ?_
      try dsimp only
      rw [nI_add]
      refine at_k (nI 4) dX1_put_13 rfl (by decide) ?_
      refine at_igt 28 dX1_put_14 (by decide) (fun c2 => ?_) (fun c2 => ?_)
      · exact absurd c2 (nI_nlt hn (by decide))
      · refine at_ld (i := 1) dX1_put_17 rfl rfl rfl ?_
        refine at_k (nI 4) dX1_put_18 rfl (by decide) ?_
        refine at_div dX1_put_19 (by decide) ?_
        rw [nI_div (by omega) (by decide)]
        refine at_ld (i := 0) dX1_put_20 rfl rfl rfl ?_
        refine at_get dX1_put_21 fX1_9 hF.1 (by omega) rfl ?_
        refine at_alen dX1_put_24 hF.2.2.1 ?_
        refine at_ilt 29 dX1_put_25 (by decide) (fun c3 => ?_) (fun c3 => ?_)
        · refine at_k (nI 1) dX1_put_29 rfl (by decide) ?_
          refine at_ld (i := 2) dX1_put_30 rfl rfl rfl ?_
          refine at_bin dX1_put_31 rfl ?_
          refine at_k (nI 1) dX1_put_32 rfl (by decide) ?_
          refine at_bin dX1_put_33 rfl ?_
          refine at_ld (i := 1) dX1_put_34 rfl rfl rfl ?_
          refine at_k (nI 4) dX1_put_35 rfl (by decide) ?_
          refine at_rem dX1_put_36 (by decide) ?_
          rw [nI_rem (by omega) (by decide)]
          refine at_bin dX1_put_37 rfl ?_
          refine at_st (i := 4) dX1_put_38 rfl rfl (Nat.le_of_ble_eq_true rfl) rfl ?_
          try dsimp only [List.set_cons_succ, List.set_cons_zero]
          refine at_ld (i := 1) dX1_put_40 rfl rfl rfl ?_
          refine at_k (nI 4) dX1_put_41 rfl (by decide) ?_
          refine at_div dX1_put_42 (by decide) ?_
          rw [nI_div (by omega) (by decide), show (nI 1 <<< (nI n &&& 31) - nI 1) <<< (nI (x % 4) &&& 31) = msk n (x % 4) from rfl]
          refine at_st (i := 5) dX1_put_43 rfl rfl (Nat.le_of_ble_eq_true rfl) rfl ?_
          try dsimp only [List.set_cons_succ, List.set_cons_zero]
          refine at_ld (i := 0) dX1_put_45 rfl rfl rfl ?_
          refine at_get dX1_put_46 fX1_9 hF.1 (by omega) rfl ?_
          refine at_ld (i := 5) dX1_put_49 rfl rfl rfl ?_
          refine at_ld (i := 3) dX1_put_51 rfl rfl rfl ?_
          cases f with
          | true =>
            refine at_zeq 68 dX1_put_52 (by decide) (fun c4 => ?_) (fun c4 => ?_)
            · exact absurd c4 (by decide)
            · refine at_ld (i := 0) dX1_put_55 rfl rfl rfl ?_
              refine at_get dX1_put_56 fX1_9 hF.1 (by omega) rfl ?_
              refine at_ld (i := 5) dX1_put_59 rfl rfl rfl ?_
              refine at_ald (x / 4) dX1_put_61 hF.2.2.1 rfl (by omega) (by decide) ?_
              refine at_ld (i := 4) dX1_put_62 rfl rfl rfl ?_
              refine at_bin dX1_put_64 rfl ?_
              refine at_goto 80 dX1_put_65 (by decide) ?_
              refine at_ast (x / 4) dX1_put_80 hF.2.2.1 (by omega) rfl (by omega) (by decide) rfl ?_
              refine at_vret dX1_put_81 rfl ?_
              refine ⟨rfl, ?_⟩
              unfold bput
              rw [if_pos rfl]
          | false =>
            refine at_zeq 68 dX1_put_52 (by decide) (fun c4 => ?_) (fun c4 => ?_)
            · refine at_ld (i := 0) dX1_put_68 rfl rfl rfl ?_
              refine at_get dX1_put_69 fX1_9 hF.1 (by omega) rfl ?_
              refine at_ld (i := 5) dX1_put_72 rfl rfl rfl ?_
              refine at_ald (x / 4) dX1_put_74 hF.2.2.1 rfl (by omega) (by decide) ?_
              refine at_ld (i := 4) dX1_put_75 rfl rfl rfl ?_
              refine at_k (-1) dX1_put_77 rfl (by decide) ?_
              refine at_bin dX1_put_78 rfl ?_
              refine at_bin dX1_put_79 rfl ?_
              refine at_ast (x / 4) dX1_put_80 hF.2.2.1 (by omega) rfl (by omega) (by decide) rfl ?_
              refine at_vret dX1_put_81 rfl ?_
              refine ⟨rfl, ?_⟩
              unfold bput
              rw [if_neg (by decide)]
            · exact absurd rfl c4
        · exact absurd (nI_lt (by omega) (by decide)) c3
set_option maxRecDepth 100000 in
theorem k_putN (hF : FM g m l v b) (x : Int32) (n : Int32) (f : Bool) (hx : x < 0) : sg_Kw MX1_put [.ref m, .int x, .int n, .int (bI f)] g none g := by
  have hm1 := hF.2.2.2.1
  show sg_A MX1_put 0 [some (.ref m), some (.int x), some (.int n), some (.int (bI f)), none, none] [] _ _
  refine at_ld (i := 1) dX1_put_0 rfl rfl rfl ?_
  refine at_zlt 28 dX1_put_1 (by decide) (fun c => ?_) (fun c => ?_)
  · refine at_vret dX1_put_28 rfl ?_
    exact ⟨rfl, rfl⟩
  · exact absurd hx c
set_option maxRecDepth 100000 in
theorem k_mcopy {m2 l2 : Nat} {v2 : Nat → Nat} {b2 : Nat → Int32} (hF : FM g m l v b) (h2 : FM g m2 l2 v2 b2) : sg_Kw MX1_copyFrom [.ref m, .ref m2] g none (sg_up g (m + 1) (.inl (false, 32, va_cpy b2 b 0 0 32))) := by
  have hm1 := hF.2.2.2.1
  have hm2 := h2.2.2.2.1
  show sg_A MX1_copyFrom 0 [some (.ref m), some (.ref m2)] [] _ _
  refine at_ld (i := 1) dX1_copyFrom_0 rfl rfl rfl ?_
  refine at_get dX1_copyFrom_1 fX1_9 h2.1 (by omega) rfl ?_
  refine at_k (nI 0) dX1_copyFrom_4 rfl (by decide) ?_
  refine at_ld (i := 0) dX1_copyFrom_5 rfl rfl rfl ?_
  refine at_get dX1_copyFrom_6 fX1_9 hF.1 (by omega) rfl ?_
  refine at_k (nI 0) dX1_copyFrom_9 rfl (by decide) ?_
  refine at_k (nI 32) dX1_copyFrom_10 rfl (by decide) ?_
  refine at_copy 32 dX1_copyFrom_12 aX1_19 h2.2.2.1 hF.2.2.1 (by omega) (by omega) rfl (by decide) (by decide) (by decide) ⟨by decide, by decide⟩ (by decide) rfl ?_
  refine at_vret dX1_copyFrom_15 rfl ?_
  exact ⟨rfl, rfl⟩
end C2
