/-! THE REFERENCE: its state as numbers v (st k = nI (v k)), its readers -/
def mv (h : sg_H) (A : Nat → Nat → Int32) (F : Nat → Int32) (v : Nat → Nat) : sg_H := mh h (vf_upd A 0 (fun k => nI (v k))) F
theorem mv_o {h : sg_H} (hn : 72 ≤ h.1) (A : Nat → Nat → Int32) (F : Nat → Int32) (v : Nat → Nat) : sg_at (mv h A F v) 64 (.inr (8, mh_f F)) := mh_o hn _ _
theorem mv_a {h : sg_H} (hn : 72 ≤ h.1) (A : Nat → Nat → Int32) (F : Nat → Int32) (v : Nat → Nat) : sg_at (mv h A F v) 65 (.inl (false, 496, fun k => nI (v k))) := by
  have := mh_a0 hn (vf_upd A 0 (fun k => nI (v k))) F
  rw [vu_s] at this
  exact this
theorem mv_s (h : sg_H) (A : Nat → Nat → Int32) (F : Nat → Int32) (v : Nat → Nat) (j : Nat) (x : Int32) (y : Nat) (e : x = nI y) : sg_up (mv h A F v) 65 (.inl (false, 496, upd (fun k => nI (v k)) j x)) = mv h A F (vf_upd v j y) := by
  subst e
  rw [mv, mh_s0, vu_vu, mv]
  congr 2
  funext k
  simp only [upd, vf_upd]
  split <;> rfl
theorem ri {x y : Int32} {h : sg_H} (e : x = y) : some (Value.int x) = some (Value.int y) ∧ h = h := ⟨by rw [e], rfl⟩
theorem bI_f {p : Prop} [Decidable p] (h : ¬ p) : nI 0 = bI (decide p) := by rw [decide_eq_false h]; rfl
theorem bI_t {p : Prop} [Decidable p] (h : p) : nI 1 = bI (decide p) := by rw [decide_eq_true h]; rfl
theorem nI_eq32 {a b : Nat} (ha : a < 2 ^ 32) (hb : b < 2 ^ 32) : nI a = nI b ↔ a = b := by
  constructor
  · intro h
    have h2 := congrArg (fun z : Int32 => z.toBitVec.toNat) h
    simp only [nI, Int32.toBitVec_ofNat', BitVec.toNat_ofNat] at h2
    omega
  · intro h; rw [h]
theorem cnt_s (p : Nat → Bool) (k : Nat) : nI (cnt p k) + bI (p k) = nI (cnt p (k + 1)) := by
  rw [bI_nI, nI_add]; rfl
def fr (v : Nat → Nat) (x : Nat) : Bool := decide (v (8 + x) = 1)
def fbk (v : Nat → Nat) (b : Nat) : Bool := allB (fun k => fr v (4 * b + k)) 4
/-- a loop that counts up to n -/
theorem lpN (P : Nat → Prop) (n : Nat) (hz : P n) (hs : ∀ k, k < n → P (k + 1) → P k) : P 0 := by
  have : ∀ m k, k + m = n → P k := by
    intro m
    induction m with
    | zero => intro k hk; have : k = n := by omega
              subst this; exact hz
    | succ m ih => intro k hk; exact hs k (by omega) (ih (k + 1) (by omega))
  exact this n 0 (by omega)
theorem sg_Ac {M : sg_M} {pc : Nat} {ls ls' : sg_L} {st : List Value} {h : sg_H} {Q : Option Value → sg_H → Prop} (e : ls = ls') (k : sg_A M pc ls' st h Q) : sg_A M pc ls st h Q := e ▸ k
def wfg (v : Nat → Nat) : Prop := (1 ≤ v 0 ∧ v 0 ≤ 4) ∧ (1 ≤ v 1 ∧ v 1 ≤ 8) ∧ (1 ≤ v 2 ∧ v 2 ≤ 6) ∧ v 3 ≤ 3 ∧ v 4 ≤ 99 ∧ (1 ≤ v 5 ∧ v 5 ≤ 8)
def wfm (v : Nat → Nat) : Prop := ∀ x, x < 128 → v (8 + x) ≤ 1
theorem wf_gb {v : Nat → Nat} (w : wfg v) : v 0 * v 1 ≤ 32 := Nat.le_trans (Nat.mul_le_mul w.1.2 w.2.1.2) (by decide)
theorem wf_gi {v : Nat → Nat} (w : wfg v) : v 0 * v 2 ≤ 24 := Nat.le_trans (Nat.mul_le_mul w.1.2 w.2.2.1.2) (by decide)
theorem gb_lt {G B g b : Nat} (hg : g < G) (hb : b < B) : B * g + b < G * B := by
  have h1 : B * (g + 1) ≤ B * G := Nat.mul_le_mul_left B hg
  rw [Nat.mul_succ] at h1
  rw [Nat.mul_comm G B]
  omega
theorem gb_ge {G B : Nat} (hG : 1 ≤ G) (hB : 1 ≤ B) : 1 ≤ G * B := Nat.mul_pos hG hB
section R1
variable {h : sg_H} (hn : 72 ≤ h.1) (A : Nat → Nat → Int32) (F : Nat → Int32) (v : Nat → Nat)
set_option maxRecDepth 100000 in
theorem c_fragments (hn : 72 ≤ h.1) : sg_Kr MX8_fragments [.ref 64] (mv h A F v) (.int (nI (4 * v 0 * v 1))) := by
  show sg_A MX8_fragments 0 [some (.ref 64)] [] _ _
  refine at_k (nI 4) dX8_fragments_0 rfl (by decide) ?_
  refine at_ld (i := 0) dX8_fragments_1 rfl rfl rfl ?_
  refine at_get dX8_fragments_2 fX8_7 (mv_o hn _ _ _) (by omega) rfl ?_
  refine at_k (nI 0) dX8_fragments_5 rfl (by decide) ?_
  refine at_ald 0 dX8_fragments_6 (mv_a hn _ _ _) rfl (by decide) (by decide) ?_
  refine at_bin dX8_fragments_7 rfl ?_
  refine at_ld (i := 0) dX8_fragments_8 rfl rfl rfl ?_
  refine at_get dX8_fragments_9 fX8_7 (mv_o hn _ _ _) (by omega) rfl ?_
  refine at_k (nI 1) dX8_fragments_12 rfl (by decide) ?_
  refine at_ald 1 dX8_fragments_13 (mv_a hn _ _ _) rfl (by decide) (by decide) ?_
  refine at_bin dX8_fragments_14 rfl ?_
  refine at_ret dX8_fragments_15 rfl rfl ?_
  exact ri (by simp only [nI_mul])
set_option maxRecDepth 100000 in
theorem c_isFree (hn : 72 ≤ h.1) (x : Nat) (hx : x < 488) (hm : v (8 + x) ≤ 1) : sg_Kr MX8_isFree [.ref 64, .int (nI x)] (mv h A F v) (.int (bI (fr v x))) := by
  show sg_A MX8_isFree 0 [some (.ref 64), some (.int (nI x))] [] _ _
  refine at_ld (i := 0) dX8_isFree_0 rfl rfl rfl ?_
  refine at_get dX8_isFree_1 fX8_7 (mv_o hn _ _ _) (by omega) rfl ?_
  refine at_k (nI 8) dX8_isFree_4 rfl (by decide) ?_
  refine at_ld (i := 1) dX8_isFree_6 rfl rfl rfl ?_
  refine at_bin dX8_isFree_7 rfl ?_
  refine at_ald (8 + x) dX8_isFree_8 (mv_a hn _ _ _) (nI_add 8 x) (by omega) (by decide) ?_
  refine at_k (nI 1) dX8_isFree_9 rfl (by decide) ?_
  refine at_ine 17 dX8_isFree_10 (by decide) (fun c => ?_) (fun c => ?_)
  · refine at_k (nI 0) dX8_isFree_17 rfl (by decide) ?_
    refine at_ret dX8_isFree_18 rfl rfl ?_
    refine ri (bI_f (fun q => c ?_))
    show nI (v (8 + x)) = nI 1
    rw [q]
  · refine at_k (nI 1) dX8_isFree_13 rfl (by decide) ?_
    refine at_goto 18 dX8_isFree_14 (by decide) ?_
    refine at_ret dX8_isFree_18 rfl rfl ?_
    refine ri (bI_t ?_)
    have c2 : nI (v (8 + x)) = nI 1 := Classical.not_not.mp c
    exact (nI_eq32 (by omega) (by omega)).mp c2
set_option maxRecDepth 100000 in
theorem c_lets (hn : 72 ≤ h.1) (x : Nat) (hx : x < 488) (b : Bool) : sg_Kw MX8_lets [.ref 64, .int (nI x), .int (bI b)] (mv h A F v) none (mv h A F (vf_upd v (8 + x) (if b then 1 else 0))) := by
  show sg_A MX8_lets 0 [some (.ref 64), some (.int (nI x)), some (.int (bI b))] [] _ _
  refine at_ld (i := 0) dX8_lets_0 rfl rfl rfl ?_
  refine at_get dX8_lets_1 fX8_7 (mv_o hn _ _ _) (by omega) rfl ?_
  refine at_k (nI 8) dX8_lets_4 rfl (by decide) ?_
  refine at_ld (i := 1) dX8_lets_6 rfl rfl rfl ?_
  refine at_bin dX8_lets_7 rfl ?_
  refine at_ld (i := 2) dX8_lets_8 rfl rfl rfl ?_
  refine at_rs [_] dX8_lets_9 mX8_flag ⟨Nat.le_of_ble_eq_true rfl, Nat.le_of_ble_eq_true rfl⟩ lX8_133 tX8_flag rfl (Nat.le_of_ble_eq_true rfl) (Nat.le_of_ble_eq_true rfl) ⟨rfl, rfl⟩ (c_flag _ b) ?_
  refine at_ast (8 + x) dX8_lets_12 (mv_a hn _ _ _) (by omega) (nI_add 8 x) (by omega) (by decide) (mv_s h A F v _ _ _ (bI_nI b)) ?_
  refine at_vret dX8_lets_13 rfl ?_
  exact ⟨rfl, rfl⟩
/-- n cells of the map from one on are let -/
def lta (v : Nat → Nat) (x : Nat) (b : Bool) : Nat → Nat → Nat
  | 0 => v
  | n + 1 => vf_upd (lta v x b n) (8 + (x + n)) (if b then 1 else 0)
set_option maxRecDepth 100000 in
theorem c_letsAll (hn : 72 ≤ h.1) (x n : Nat) (hx : x + n ≤ 488) (b : Bool) : sg_Kw MX8_letsAll [.ref 64, .int (nI x), .int (nI n), .int (bI b)] (mv h A F v) none (mv h A F (lta v x b n)) := by
  show sg_A MX8_letsAll 0 [some (.ref 64), some (.int (nI x)), some (.int (nI n)), some (.int (bI b)), none] [] _ _
  refine at_k (nI 0) dX8_letsAll_0 rfl (by decide) ?_
  refine at_st (i := 4) dX8_letsAll_1 rfl rfl (Nat.le_of_ble_eq_true rfl) rfl ?_
  try dsimp only [List.set_cons_succ, List.set_cons_zero]
  have loop : ∀ m k, k + m = n → sg_A MX8_letsAll 3 [some (.ref 64), some (.int (nI x)), some (.int (nI n)), some (.int (bI b)), some (.int (nI k))] [] (mv h A F (lta v x b k)) (fun r' h' => r' = none ∧ h' = mv h A F (lta v x b n)) := by
    intro m
    induction m with
    | zero =>
      intro k hk
      refine at_ld (i := 4) dX8_letsAll_3 rfl rfl rfl ?_
      refine at_ld (i := 2) dX8_letsAll_5 rfl rfl rfl ?_
      refine at_ige 24 dX8_letsAll_6 (by decide) (fun c => ?_) (fun c => ?_)
      · refine at_vret dX8_letsAll_24 rfl ?_
        have : k = n := by omega
        subst this
        exact ⟨rfl, rfl⟩
      · exact absurd (nI_le (by omega) (by omega)) c
    | succ m ih =>
      intro k hk
      refine at_ld (i := 4) dX8_letsAll_3 rfl rfl rfl ?_
      refine at_ld (i := 2) dX8_letsAll_5 rfl rfl rfl ?_
      refine at_ige 24 dX8_letsAll_6 (by decide) (fun c => ?_) (fun c => ?_)
      · exact absurd c (nI_ge (by omega) (by omega))
      · refine at_ld dX8_letsAll_9 rfl rfl rfl ?_
        refine at_ld (i := 1) dX8_letsAll_10 rfl rfl rfl ?_
        refine at_ld (i := 4) dX8_letsAll_11 rfl rfl rfl ?_
        refine at_bin dX8_letsAll_13 rfl ?_
        try dsimp only
        rw [nI_add]
        refine at_ld (i := 3) dX8_letsAll_14 rfl rfl rfl ?_
        refine at_wv [_, _] dX8_letsAll_15 mX8_lets ⟨Nat.le_of_ble_eq_true rfl, Nat.le_of_ble_eq_true rfl⟩ lX8_137 iX8_lets rfl rfl (mv_o hn _ _ _) (by omega) rfl (Nat.le_of_ble_eq_true rfl) (Nat.le_of_ble_eq_true rfl) ⟨rfl, rfl⟩ (c_lets A F _ hn (x + k) (by omega) b) ⟨rfl, rfl⟩ ?_
        try dsimp only [Option.toList, List.cons_append, List.nil_append]
        refine at_iinc (nI 1) dX8_letsAll_18 rfl rfl (by decide) ?_
        try dsimp only [List.set_cons_succ, List.set_cons_zero]
        refine at_goto 3 dX8_letsAll_21 (by decide) ?_
        rw [nI_add]
        exact ih (k + 1) (by omega)
  exact loop n 0 (by omega)
set_option maxRecDepth 100000 in
theorem c_areFree (hn : 72 ≤ h.1) (x n : Nat) (hx : x + n ≤ 488) (hm : ∀ k, k < n → v (8 + (x + k)) ≤ 1) : sg_Kr MX8_areFree [.ref 64, .int (nI x), .int (nI n)] (mv h A F v) (.int (bI (allB (fun k => fr v (x + k)) n))) := by
  show sg_A MX8_areFree 0 [some (.ref 64), some (.int (nI x)), some (.int (nI n)), none, none] [] _ _
  refine at_k (nI 1) dX8_areFree_0 rfl (by decide) ?_
  refine at_st (i := 3) dX8_areFree_1 rfl rfl (Nat.le_of_ble_eq_true rfl) rfl ?_
  try dsimp only [List.set_cons_succ, List.set_cons_zero]
  refine at_k (nI 0) dX8_areFree_2 rfl (by decide) ?_
  refine at_st (i := 4) dX8_areFree_3 rfl rfl (Nat.le_of_ble_eq_true rfl) rfl ?_
  try dsimp only [List.set_cons_succ, List.set_cons_zero]
  have loop : ∀ m k, k + m = n → sg_A MX8_areFree 5 [some (.ref 64), some (.int (nI x)), some (.int (nI n)), some (.int (bI (allB (fun k => fr v (x + k)) k))), some (.int (nI k))] [] (mv h A F v) (fun r' h' => r' = some (.int (bI (allB (fun k => fr v (x + k)) n))) ∧ h' = mv h A F v) := by
    intro m
    induction m with
    | zero =>
      intro k hk
      refine at_ld (i := 4) dX8_areFree_5 rfl rfl rfl ?_
      refine at_ld (i := 2) dX8_areFree_7 rfl rfl rfl ?_
      refine at_ige 38 dX8_areFree_8 (by decide) (fun c => ?_) (fun c => ?_)
      · refine at_ld (i := 3) dX8_areFree_38 rfl rfl rfl ?_
        refine at_ret dX8_areFree_39 rfl (bI_narr _) ?_
        have : k = n := by omega
        subst this
        exact ⟨rfl, rfl⟩
      · exact absurd (nI_le (by omega) (by omega)) c
    | succ m ih =>
      intro k hk
      refine at_ld (i := 4) dX8_areFree_5 rfl rfl rfl ?_
      refine at_ld (i := 2) dX8_areFree_7 rfl rfl rfl ?_
      refine at_ige 38 dX8_areFree_8 (by decide) (fun c => ?_) (fun c => ?_)
      · exact absurd c (nI_ge (by omega) (by omega))
      · refine at_ld (i := 3) dX8_areFree_11 rfl rfl rfl ?_
        refine at_zeq 30 dX8_areFree_12 (by decide) (fun c2 => ?_) (fun c2 => ?_)
        · refine at_k (nI 0) dX8_areFree_30 rfl (by decide) ?_
          refine at_st (i := 3) dX8_areFree_31 rfl rfl (Nat.le_of_ble_eq_true rfl) rfl ?_
          try dsimp only [List.set_cons_succ, List.set_cons_zero]
          refine at_iinc (nI 1) dX8_areFree_32 rfl rfl (by decide) ?_
          try dsimp only [List.set_cons_succ, List.set_cons_zero]
          refine at_goto 5 dX8_areFree_35 (by decide) ?_
          rw [bI_0] at c2
          have e : nI 0 = bI (allB (fun k => fr v (x + k)) (k + 1)) := by simp only [allB, c2, Bool.false_and]; rfl
          rw [nI_add, e]
          exact ih (k + 1) (by omega)
        · have c3 : allB (fun k => fr v (x + k)) k = true := by
            cases q : allB (fun k => fr v (x + k)) k
            · rw [q] at c2; exact absurd rfl c2
            · rfl
          refine at_ld (i := 0) dX8_areFree_15 rfl rfl rfl ?_
          refine at_ld (i := 1) dX8_areFree_16 rfl rfl rfl ?_
          refine at_ld (i := 4) dX8_areFree_17 rfl rfl rfl ?_
          refine at_bin dX8_areFree_19 rfl ?_
          try dsimp only
          rw [nI_add]
          refine at_rv [_] dX8_areFree_20 mX8_isFree ⟨Nat.le_of_ble_eq_true rfl, Nat.le_of_ble_eq_true rfl⟩ lX8_141 iX8_isFree rfl rfl (mv_o hn _ _ _) (by omega) rfl (Nat.le_of_ble_eq_true rfl) (Nat.le_of_ble_eq_true rfl) ⟨rfl, rfl⟩ (c_isFree A F v hn (x + k) (by omega) (hm k (by omega))) ?_
          refine at_zeq 30 dX8_areFree_23 (by decide) (fun c4 => ?_) (fun c4 => ?_)
          · refine at_k (nI 0) dX8_areFree_30 rfl (by decide) ?_
            refine at_st (i := 3) dX8_areFree_31 rfl rfl (Nat.le_of_ble_eq_true rfl) rfl ?_
            try dsimp only [List.set_cons_succ, List.set_cons_zero]
            refine at_iinc (nI 1) dX8_areFree_32 rfl rfl (by decide) ?_
            try dsimp only [List.set_cons_succ, List.set_cons_zero]
            refine at_goto 5 dX8_areFree_35 (by decide) ?_
            rw [bI_0] at c4
            have e : nI 0 = bI (allB (fun k => fr v (x + k)) (k + 1)) := by simp only [allB, c4, Bool.and_false]; rfl
            rw [nI_add, e]
            exact ih (k + 1) (by omega)
          · refine at_k (nI 1) dX8_areFree_26 rfl (by decide) ?_
            refine at_goto 31 dX8_areFree_27 (by decide) ?_
            refine at_st (i := 3) dX8_areFree_31 rfl rfl (Nat.le_of_ble_eq_true rfl) rfl ?_
            try dsimp only [List.set_cons_succ, List.set_cons_zero]
            refine at_iinc (nI 1) dX8_areFree_32 rfl rfl (by decide) ?_
            try dsimp only [List.set_cons_succ, List.set_cons_zero]
            refine at_goto 5 dX8_areFree_35 (by decide) ?_
            have c5 : fr v (x + k) = true := by
              cases q : fr v (x + k)
              · rw [q] at c4; exact absurd rfl c4
              · rfl
            have e : nI 1 = bI (allB (fun k => fr v (x + k)) (k + 1)) := by simp only [allB, c3, c5, Bool.and_true]; rfl
            rw [nI_add, e]
            exact ih (k + 1) (by omega)
  exact loop n 0 (by omega)
set_option maxRecDepth 100000 in
theorem c_isFreeBlock (hn : 72 ≤ h.1) (b : Nat) (hb : b < 122) (hm : ∀ k, k < 4 → v (8 + (4 * b + k)) ≤ 1) : sg_Kr MX8_isFreeBlock [.ref 64, .int (nI b)] (mv h A F v) (.int (bI (fbk v b))) := by
  show sg_A MX8_isFreeBlock 0 [some (.ref 64), some (.int (nI b))] [] _ _
  refine at_ld (i := 0) dX8_isFreeBlock_0 rfl rfl rfl ?_
  refine at_k (nI 4) dX8_isFreeBlock_1 rfl (by decide) ?_
  refine at_ld (i := 1) dX8_isFreeBlock_2 rfl rfl rfl ?_
  refine at_bin dX8_isFreeBlock_3 rfl ?_
  try dsimp only
  rw [nI_mul]
  refine at_k (nI 4) dX8_isFreeBlock_4 rfl (by decide) ?_
  refine at_rv [_, _] dX8_isFreeBlock_5 mX8_areFree ⟨Nat.le_of_ble_eq_true rfl, Nat.le_of_ble_eq_true rfl⟩ lX8_145 iX8_areFree rfl rfl (mv_o hn _ _ _) (by omega) rfl (Nat.le_of_ble_eq_true rfl) (Nat.le_of_ble_eq_true rfl) ⟨rfl, rfl⟩ (c_areFree A F v hn (4 * b) 4 (by omega) hm) ?_
  refine at_ret dX8_isFreeBlock_8 rfl (bI_narr _) ?_
  exact ⟨rfl, rfl⟩
end R1
