/-! THE CLASS: FreeMap, counts and runs -/
theorem cnt_t {p : Nat → Bool} {k : Nat} (h : p k = true) : cnt p (k + 1) = cnt p k + 1 := by simp only [cnt]; rw [h]; rfl
theorem cnt_f {p : Nat → Bool} {k : Nat} (h : p k = false) : cnt p (k + 1) = cnt p k := by simp only [cnt]; rw [h]; rfl
theorem cnt_add (p : Nat → Bool) (a : Nat) : ∀ b, cnt p (a + b) = cnt p a + cnt (fun k => p (a + k)) b := by
  intro b
  induction b with
  | zero => rfl
  | succ b ih => rw [← Nat.add_assoc]; simp only [cnt]; rw [ih]; omega
theorem fba_c (v : Nat → Nat) : ∀ n, cnt (fbk v) (v 1 * n) = smN (fbs v) n := by
  intro n
  induction n with
  | zero => rfl
  | succ n ih =>
    rw [Nat.mul_succ, cnt_add, ih]
    rfl
theorem b4_bit : ∀ (k : Fin 4) (a b c d : Bool), ((nI (b4 a b c d) >>> (nI k.val &&& 31)) &&& nI 1 = nI 1) = (s4 a b c d k.val = true) := by
  intro k a b c d
  apply propext
  revert k a b c d
  decide +kernel
theorem bq_bit (q : Nat → Bool) (k j : Nat) (hj : j < 4) : ((nI (bq q k) >>> (nI j &&& 31)) &&& nI 1 = nI 1) ↔ q (4 * k + j) = true := by
  rw [show ((nI (bq q k) >>> (nI j &&& 31)) &&& nI 1 = nI 1) = _ from b4_bit ⟨j, hj⟩ _ _ _ _, s4_q q k j hj]
/-- a run's length is the one that fits -/
theorem rl_u (v : Nat → Nat) (x e : Nat) : ∀ f n N, n ≤ N → N ≤ n + f → (∀ j, n ≤ j → j < N → fr v (x + j) = true) → x + N ≤ e → (x + N = e ∨ fr v (x + N) = false) → rl v x e f n = N := by
  intro f
  induction f with
  | zero => intro n N h1 h2 _ _ _; simp only [rl]; omega
  | succ f ih =>
    intro n N h1 h2 h3 h4 h5
    simp only [rl]
    rcases Nat.eq_or_lt_of_le h1 with z | z
    · subst z
      rw [if_neg]
      rintro ⟨a, b⟩
      rcases h5 with h5 | h5
      · omega
      · rw [h5] at b; cases b
    · rw [if_pos ⟨by omega, h3 n (Nat.le_refl _) z⟩]
      exact ih (n + 1) N z (by omega) (fun j hj => h3 j (by omega)) h4 h5
theorem rn_0 {v : Nat → Nat} {x : Nat} (h : (x / 4 * 4 < x ∧ fr v (x - 1) = true) ∨ fbk v (x / 4) = true) : rn v x = 0 := by
  unfold rn
  rw [if_pos (Or.inr h)]
theorem rn_u {v : Nat → Nat} {x N : Nat} (h : ¬ ((x / 4 * 4 < x ∧ fr v (x - 1) = true) ∨ fbk v (x / 4) = true)) (h3 : ∀ j, j < N → fr v (x + j) = true) (h4 : x % 4 + N ≤ 4) (h5 : x % 4 + N = 4 ∨ fr v (x + N) = false) : rn v x = N := by
  unfold rn
  have hd := Nat.div_add_mod x 4
  have hm := Nat.mod_lt x (show 4 > 0 by decide)
  rcases Nat.eq_zero_or_pos N with z | z
  · subst z
    have : fr v x = false := by
      rcases h5 with h5 | h5
      · omega
      · exact h5
    rw [if_pos (Or.inl this)]
  · have h0 := h3 0 z
    rw [Nat.add_zero] at h0
    rw [if_neg (by rintro (y | y); rw [h0] at y; cases y; exact h y)]
    refine rl_u v x _ 3 1 N z (by omega) (fun j _ hj => h3 j hj) (by omega) ?_
    rcases h5 with h5 | h5
    · exact Or.inl (by omega)
    · exact Or.inr h5
section C3
variable {g : sg_H} {m l : Nat} {v : Nat → Nat} {b : Nat → Int32}
set_option maxRecDepth 100000 in
theorem k_freeFragmentsIn (hF : FM g m l v b) (hb : mbq (fr v) b) (w : wfg v) (a : Nat) (ha : a < v 0) : sg_Kr MX1_freeFragmentsIn [.ref m, .int (nI a)] g (.int (nI (frs v (4 * v 1 * a) (4 * v 1)))) := by
  have hm1 := hF.2.2.2.1
  have hl1 := hF.2.2.2.2.1
  have h8 := w.2.1.2
  have hgb := wf_gb w
  show sg_A MX1_freeFragmentsIn 0 [some (.ref m), some (.int (nI a)), none, none] [] _ _
  refine at_k (nI 0) dX1_freeFragmentsIn_0 rfl (by decide) ?_
  refine at_st (i := 2) dX1_freeFragmentsIn_1 rfl rfl (Nat.le_of_ble_eq_true rfl) rfl ?_
  try dsimp only [List.set_cons_succ, List.set_cons_zero]
  refine at_k (nI 0) dX1_freeFragmentsIn_2 rfl (by decide) ?_
  refine at_st (i := 3) dX1_freeFragmentsIn_3 rfl rfl (Nat.le_of_ble_eq_true rfl) rfl ?_
  try dsimp only [List.set_cons_succ, List.set_cons_zero]
  refine lpN (fun k => sg_A MX1_freeFragmentsIn 4 [some (.ref m), some (.int (nI a)), some (.int (nI (frs v (4 * v 1 * a) (4 * k)))), some (.int (nI k))] [] g _) (v 1) ?_ ?_
  · refine at_ld (i := 3) dX1_freeFragmentsIn_4 rfl rfl rfl ?_
    refine at_ld (i := 0) dX1_freeFragmentsIn_5 rfl rfl rfl ?_
    refine at_get dX1_freeFragmentsIn_6 fX1_15 hF.1 (by omega) rfl ?_
    refine at_get dX1_freeFragmentsIn_9 fX1_39 hF.2.1 (by omega) rfl ?_
    refine at_ige 42 dX1_freeFragmentsIn_12 (by decide) (fun c => ?_) (fun c => ?_)
    · refine at_ld (i := 2) dX1_freeFragmentsIn_42 rfl rfl rfl ?_
      refine at_ret dX1_freeFragmentsIn_43 rfl rfl ?_
      exact ⟨rfl, rfl⟩
    · exact absurd (nI_le (Nat.le_refl _) (by omega)) c
  · intro k hk ih
    have hlt := gb_lt ha hk
    refine at_ld (i := 3) dX1_freeFragmentsIn_4 rfl rfl rfl ?_
    refine at_ld (i := 0) dX1_freeFragmentsIn_5 rfl rfl rfl ?_
    refine at_get dX1_freeFragmentsIn_6 fX1_15 hF.1 (by omega) rfl ?_
    refine at_get dX1_freeFragmentsIn_9 fX1_39 hF.2.1 (by omega) rfl ?_
    refine at_ige 42 dX1_freeFragmentsIn_12 (by decide) (fun c => ?_) (fun c => ?_)
    · exact absurd c (nI_ge hk (by omega))
    · refine at_ld (i := 2) dX1_freeFragmentsIn_15 rfl rfl rfl ?_
      refine at_ld (i := 0) dX1_freeFragmentsIn_16 rfl rfl rfl ?_
      refine at_ld (i := 1) dX1_freeFragmentsIn_17 rfl rfl rfl ?_
      refine at_ld (i := 0) dX1_freeFragmentsIn_18 rfl rfl rfl ?_
      refine at_get dX1_freeFragmentsIn_19 fX1_15 hF.1 (by omega) rfl ?_
      refine at_get dX1_freeFragmentsIn_22 fX1_39 hF.2.1 (by omega) rfl ?_
      refine at_bin dX1_freeFragmentsIn_25 rfl ?_
      try dsimp only
      rw [nI_mul]
      refine at_ld (i := 3) dX1_freeFragmentsIn_26 rfl rfl rfl ?_
      refine at_bin dX1_freeFragmentsIn_27 rfl ?_
      try dsimp only
      rw [nI_add, Nat.mul_comm a (v 1)]
      refine at_rv [_] dX1_freeFragmentsIn_28 mX1_bitsOf ⟨Nat.le_of_ble_eq_true rfl, Nat.le_of_ble_eq_true rfl⟩ lX1_35 iX1_bitsOf rfl rfl hF.1 (by omega) rfl (Nat.le_of_ble_eq_true rfl) (Nat.le_of_ble_eq_true rfl) ⟨rfl, rfl⟩ (k_bitsOf hF hb (v 1 * a + k) (by omega)) ?_
      refine at_rs [_] dX1_freeFragmentsIn_31 mJ6_bitCount_0f7a4 ⟨Nat.le_of_ble_eq_true rfl, Nat.le_of_ble_eq_true rfl⟩ lX1_43 tJ6_bitCount_0f7a4 rfl (Nat.le_of_ble_eq_true rfl) (Nat.le_of_ble_eq_true rfl) ⟨rfl, rfl⟩ (k_bitCountQ (fr v) (v 1 * a + k)) ?_
      refine at_bin dX1_freeFragmentsIn_34 rfl ?_
      try dsimp only
      rw [nI_add]
      refine at_st (i := 2) dX1_freeFragmentsIn_35 rfl rfl (Nat.le_of_ble_eq_true rfl) rfl ?_
      try dsimp only [List.set_cons_succ, List.set_cons_zero]
      refine at_iinc (nI 1) dX1_freeFragmentsIn_36 rfl rfl (by decide) ?_
      try dsimp only [List.set_cons_succ, List.set_cons_zero]
      refine at_goto 4 dX1_freeFragmentsIn_39 (by decide) ?_
      rw [nI_add, show frs v (4 * v 1 * a) (4 * k) + cnt (fun j => fr v (4 * (v 1 * a + k) + j)) 4 = frs v (4 * v 1 * a) (4 * (k + 1)) by
        unfold frs
        rw [Nat.mul_succ, cnt_add]
        congr 1
        refine cnt_eq 4 (fun j _ => ?_)
        congr 1
        rw [Nat.mul_add, ← Nat.mul_assoc]
        omega]
      exact ih
set_option maxRecDepth 100000 in
theorem k_freeFragments (hF : FM g m l v b) (hb : mbq (fr v) b) (w : wfg v) : sg_Kr MX1_freeFragments [.ref m] g (.int (nI (room v))) := by
  have hm1 := hF.2.2.2.1
  have hl1 := hF.2.2.2.2.1
  have h4 := w.1.2
  show sg_A MX1_freeFragments 0 [some (.ref m), none, none] [] _ _
  refine at_k (nI 0) dX1_freeFragments_0 rfl (by decide) ?_
  refine at_st (i := 1) dX1_freeFragments_1 rfl rfl (Nat.le_of_ble_eq_true rfl) rfl ?_
  try dsimp only [List.set_cons_succ, List.set_cons_zero]
  refine at_k (nI 0) dX1_freeFragments_2 rfl (by decide) ?_
  refine at_st (i := 2) dX1_freeFragments_3 rfl rfl (Nat.le_of_ble_eq_true rfl) rfl ?_
  try dsimp only [List.set_cons_succ, List.set_cons_zero]
  refine lpN (fun k => sg_A MX1_freeFragments 4 [some (.ref m), some (.int (nI (frs v 0 (4 * v 1 * k)))), some (.int (nI k))] [] g _) (v 0) ?_ ?_
  · refine at_ld (i := 2) dX1_freeFragments_4 rfl rfl rfl ?_
    refine at_ld (i := 0) dX1_freeFragments_5 rfl rfl rfl ?_
    refine at_get dX1_freeFragments_6 fX1_15 hF.1 (by omega) rfl ?_
    refine at_get dX1_freeFragments_9 fX1_48 hF.2.1 (by omega) rfl ?_
    refine at_ige 29 dX1_freeFragments_12 (by decide) (fun c => ?_) (fun c => ?_)
    · refine at_ld (i := 1) dX1_freeFragments_29 rfl rfl rfl ?_
      refine at_ret dX1_freeFragments_30 rfl rfl ?_
      refine ri ?_
      unfold room
      rw [show 4 * v 1 * v 0 = 4 * v 0 * v 1 by rw [Nat.mul_assoc, Nat.mul_assoc, Nat.mul_comm (v 1)]]
    · exact absurd (nI_le (Nat.le_refl _) (by omega)) c
  · intro k hk ih
    refine at_ld (i := 2) dX1_freeFragments_4 rfl rfl rfl ?_
    refine at_ld (i := 0) dX1_freeFragments_5 rfl rfl rfl ?_
    refine at_get dX1_freeFragments_6 fX1_15 hF.1 (by omega) rfl ?_
    refine at_get dX1_freeFragments_9 fX1_48 hF.2.1 (by omega) rfl ?_
    refine at_ige 29 dX1_freeFragments_12 (by decide) (fun c => ?_) (fun c => ?_)
    · exact absurd c (nI_ge hk (by omega))
    · refine at_ld (i := 1) dX1_freeFragments_15 rfl rfl rfl ?_
      refine at_ld (i := 0) dX1_freeFragments_16 rfl rfl rfl ?_
      refine at_ld (i := 2) dX1_freeFragments_17 rfl rfl rfl ?_
      refine at_rv [_] dX1_freeFragments_18 mX1_freeFragmentsIn ⟨Nat.le_of_ble_eq_true rfl, Nat.le_of_ble_eq_true rfl⟩ lX1_51 iX1_freeFragmentsIn rfl rfl hF.1 (by omega) rfl (Nat.le_of_ble_eq_true rfl) (Nat.le_of_ble_eq_true rfl) ⟨rfl, rfl⟩ (k_freeFragmentsIn hF hb w k hk) ?_
      refine at_bin dX1_freeFragments_21 rfl ?_
      try dsimp only
      rw [nI_add]
      refine at_st (i := 1) dX1_freeFragments_22 rfl rfl (Nat.le_of_ble_eq_true rfl) rfl ?_
      try dsimp only [List.set_cons_succ, List.set_cons_zero]
      refine at_iinc (nI 1) dX1_freeFragments_23 rfl rfl (by decide) ?_
      try dsimp only [List.set_cons_succ, List.set_cons_zero]
      refine at_goto 4 dX1_freeFragments_26 (by decide) ?_
      rw [nI_add, show frs v 0 (4 * v 1 * k) + frs v (4 * v 1 * k) (4 * v 1) = frs v 0 (4 * v 1 * (k + 1)) by
        unfold frs
        rw [Nat.mul_succ, cnt_add]
        congr 1
        refine cnt_eq _ (fun j _ => ?_)
        congr 1
        omega]
      exact ih
set_option maxRecDepth 100000 in
theorem k_freeBlocksIn (hF : FM g m l v b) (hb : mbq (fr v) b) (w : wfg v) (a : Nat) (ha : a < v 0) : sg_Kr MX1_freeBlocksIn [.ref m, .int (nI a)] g (.int (nI (fbs v a))) := by
  have hm1 := hF.2.2.2.1
  have hl1 := hF.2.2.2.2.1
  have h8 := w.2.1.2
  have hgb := wf_gb w
  show sg_A MX1_freeBlocksIn 0 [some (.ref m), some (.int (nI a)), none, none] [] _ _
  refine at_k (nI 0) dX1_freeBlocksIn_0 rfl (by decide) ?_
  refine at_st (i := 2) dX1_freeBlocksIn_1 rfl rfl (Nat.le_of_ble_eq_true rfl) rfl ?_
  try dsimp only [List.set_cons_succ, List.set_cons_zero]
  refine at_k (nI 0) dX1_freeBlocksIn_2 rfl (by decide) ?_
  refine at_st (i := 3) dX1_freeBlocksIn_3 rfl rfl (Nat.le_of_ble_eq_true rfl) rfl ?_
  try dsimp only [List.set_cons_succ, List.set_cons_zero]
  refine lpN (fun k => sg_A MX1_freeBlocksIn 4 [some (.ref m), some (.int (nI a)), some (.int (nI (cnt (fun j => fbk v (v 1 * a + j)) k))), some (.int (nI k))] [] g _) (v 1) ?_ ?_
  · refine at_ld (i := 3) dX1_freeBlocksIn_4 rfl rfl rfl ?_
    refine at_ld (i := 0) dX1_freeBlocksIn_5 rfl rfl rfl ?_
    refine at_get dX1_freeBlocksIn_6 fX1_15 hF.1 (by omega) rfl ?_
    refine at_get dX1_freeBlocksIn_9 fX1_39 hF.2.1 (by omega) rfl ?_
    refine at_ige 42 dX1_freeBlocksIn_12 (by decide) (fun c => ?_) (fun c => ?_)
    · refine at_ld (i := 2) dX1_freeBlocksIn_42 rfl rfl rfl ?_
      refine at_ret dX1_freeBlocksIn_43 rfl rfl ?_
      exact ⟨rfl, rfl⟩
    · exact absurd (nI_le (Nat.le_refl _) (by omega)) c
  · intro k hk ih
    have hlt := gb_lt ha hk
    refine at_ld (i := 3) dX1_freeBlocksIn_4 rfl rfl rfl ?_
    refine at_ld (i := 0) dX1_freeBlocksIn_5 rfl rfl rfl ?_
    refine at_get dX1_freeBlocksIn_6 fX1_15 hF.1 (by omega) rfl ?_
    refine at_get dX1_freeBlocksIn_9 fX1_39 hF.2.1 (by omega) rfl ?_
    refine at_ige 42 dX1_freeBlocksIn_12 (by decide) (fun c => ?_) (fun c => ?_)
    · exact absurd c (nI_ge hk (by omega))
    · refine at_ld (i := 0) dX1_freeBlocksIn_15 rfl rfl rfl ?_
      refine at_ld (i := 1) dX1_freeBlocksIn_16 rfl rfl rfl ?_
      refine at_ld (i := 0) dX1_freeBlocksIn_17 rfl rfl rfl ?_
      refine at_get dX1_freeBlocksIn_18 fX1_15 hF.1 (by omega) rfl ?_
      refine at_get dX1_freeBlocksIn_21 fX1_39 hF.2.1 (by omega) rfl ?_
      refine at_bin dX1_freeBlocksIn_24 rfl ?_
      try dsimp only
      rw [nI_mul]
      refine at_ld (i := 3) dX1_freeBlocksIn_25 rfl rfl rfl ?_
      refine at_bin dX1_freeBlocksIn_26 rfl ?_
      try dsimp only
      rw [nI_add, Nat.mul_comm a (v 1)]
      refine at_rv [_] dX1_freeBlocksIn_27 mX1_isFreeBlock ⟨Nat.le_of_ble_eq_true rfl, Nat.le_of_ble_eq_true rfl⟩ lX1_54 iX1_isFreeBlock rfl rfl hF.1 (by omega) rfl (Nat.le_of_ble_eq_true rfl) (Nat.le_of_ble_eq_true rfl) ⟨rfl, rfl⟩ (k_isFreeBlock hF hb (v 1 * a + k) (by omega)) ?_
      refine at_zeq 36 dX1_freeBlocksIn_30 (by decide) (fun c1 => ?_) (fun c1 => ?_)
      · have c2 : fbk v (v 1 * a + k) = false := (bI_0 _).mp c1
        refine at_iinc (nI 1) dX1_freeBlocksIn_36 rfl rfl (by decide) ?_
        try dsimp only [List.set_cons_succ, List.set_cons_zero]
        refine at_goto 4 dX1_freeBlocksIn_39 (by decide) ?_
        rw [nI_add]
        rw [cnt_f (p := (fun j => fbk v (v 1 * a + j))) (k := k) (c2)] at ih
        exact ih
      · have c2 : fbk v (v 1 * a + k) = true := bI_1 c1
        refine at_iinc (nI 1) dX1_freeBlocksIn_33 rfl rfl (by decide) ?_
        try dsimp only [List.set_cons_succ, List.set_cons_zero]
        refine at_iinc (nI 1) dX1_freeBlocksIn_36 rfl rfl (by decide) ?_
        try dsimp only [List.set_cons_succ, List.set_cons_zero]
        refine at_goto 4 dX1_freeBlocksIn_39 (by decide) ?_
        rw [nI_add, nI_add]
        rw [cnt_t (p := (fun j => fbk v (v 1 * a + j))) (k := k) (c2)] at ih
        exact ih
set_option maxRecDepth 100000 in
theorem k_freeBlocks (hF : FM g m l v b) (hb : mbq (fr v) b) (w : wfg v) : sg_Kr MX1_freeBlocks [.ref m] g (.int (nI (fba v))) := by
  have hm1 := hF.2.2.2.1
  have hl1 := hF.2.2.2.2.1
  have hgb := wf_gb w
  show sg_A MX1_freeBlocks 0 [some (.ref m), none, none] [] _ _
  refine at_k (nI 0) dX1_freeBlocks_0 rfl (by decide) ?_
  refine at_st (i := 1) dX1_freeBlocks_1 rfl rfl (Nat.le_of_ble_eq_true rfl) rfl ?_
  try dsimp only [List.set_cons_succ, List.set_cons_zero]
  refine at_k (nI 0) dX1_freeBlocks_2 rfl (by decide) ?_
  refine at_st (i := 2) dX1_freeBlocks_3 rfl rfl (Nat.le_of_ble_eq_true rfl) rfl ?_
  try dsimp only [List.set_cons_succ, List.set_cons_zero]
  refine lpN (fun k => sg_A MX1_freeBlocks 4 [some (.ref m), some (.int (nI (cnt (fbk v) k))), some (.int (nI k))] [] g _) (v 0 * v 1) ?_ ?_
  · refine at_ld (i := 2) dX1_freeBlocks_4 rfl rfl rfl ?_
    refine at_ld (i := 0) dX1_freeBlocks_5 rfl rfl rfl ?_
    refine at_get dX1_freeBlocks_6 fX1_15 hF.1 (by omega) rfl ?_
    refine at_rv [] dX1_freeBlocks_9 mX3_allBlocks ⟨Nat.le_of_ble_eq_true rfl, Nat.le_of_ble_eq_true rfl⟩ lX1_25 iX3_allBlocks rfl rfl hF.2.1 (by omega) rfl (Nat.le_of_ble_eq_true rfl) (Nat.le_of_ble_eq_true rfl) ⟨rfl, rfl⟩ (k_allBlocks hF.2.1 hl1) ?_
    refine at_ige 32 dX1_freeBlocks_12 (by decide) (fun c => ?_) (fun c => ?_)
    · refine at_ld (i := 1) dX1_freeBlocks_32 rfl rfl rfl ?_
      refine at_ret dX1_freeBlocks_33 rfl rfl ?_
      refine ri ?_
      rw [Nat.mul_comm (v 0), fba_c]
      rfl
    · exact absurd (nI_le (Nat.le_refl _) (by omega)) c
  · intro k hk ih
    refine at_ld (i := 2) dX1_freeBlocks_4 rfl rfl rfl ?_
    refine at_ld (i := 0) dX1_freeBlocks_5 rfl rfl rfl ?_
    refine at_get dX1_freeBlocks_6 fX1_15 hF.1 (by omega) rfl ?_
    refine at_rv [] dX1_freeBlocks_9 mX3_allBlocks ⟨Nat.le_of_ble_eq_true rfl, Nat.le_of_ble_eq_true rfl⟩ lX1_25 iX3_allBlocks rfl rfl hF.2.1 (by omega) rfl (Nat.le_of_ble_eq_true rfl) (Nat.le_of_ble_eq_true rfl) ⟨rfl, rfl⟩ (k_allBlocks hF.2.1 hl1) ?_
    refine at_ige 32 dX1_freeBlocks_12 (by decide) (fun c => ?_) (fun c => ?_)
    · exact absurd c (nI_ge hk (by omega))
    · refine at_ld (i := 0) dX1_freeBlocks_15 rfl rfl rfl ?_
      refine at_ld (i := 2) dX1_freeBlocks_16 rfl rfl rfl ?_
      refine at_rv [_] dX1_freeBlocks_17 mX1_isFreeBlock ⟨Nat.le_of_ble_eq_true rfl, Nat.le_of_ble_eq_true rfl⟩ lX1_54 iX1_isFreeBlock rfl rfl hF.1 (by omega) rfl (Nat.le_of_ble_eq_true rfl) (Nat.le_of_ble_eq_true rfl) ⟨rfl, rfl⟩ (k_isFreeBlock hF hb k (by omega)) ?_
      refine at_zeq 26 dX1_freeBlocks_20 (by decide) (fun c1 => ?_) (fun c1 => ?_)
      · have c2 : fbk v k = false := (bI_0 _).mp c1
        refine at_iinc (nI 1) dX1_freeBlocks_26 rfl rfl (by decide) ?_
        try dsimp only [List.set_cons_succ, List.set_cons_zero]
        refine at_goto 4 dX1_freeBlocks_29 (by decide) ?_
        rw [nI_add]
        rw [cnt_f (p := (fbk v)) (k := k) (c2)] at ih
        exact ih
      · have c2 : fbk v k = true := bI_1 c1
        refine at_iinc (nI 1) dX1_freeBlocks_23 rfl rfl (by decide) ?_
        try dsimp only [List.set_cons_succ, List.set_cons_zero]
        refine at_iinc (nI 1) dX1_freeBlocks_26 rfl rfl (by decide) ?_
        try dsimp only [List.set_cons_succ, List.set_cons_zero]
        refine at_goto 4 dX1_freeBlocks_29 (by decide) ?_
        rw [nI_add, nI_add]
        rw [cnt_t (p := (fbk v)) (k := k) (c2)] at ih
        exact ih
set_option maxRecDepth 100000 in
theorem k_runAt (hF : FM g m l v b) (hb : mbq (fr v) b) (x : Nat) (hx : x < 128) : sg_Kr MX1_runAt [.ref m, .int (nI x)] g (.int (nI (rn v x))) := by
  have hm1 := hF.2.2.2.1
  have hd : 4 * (x / 4) + x % 4 = x := Nat.div_add_mod x 4
  have hm : x % 4 < 4 := Nat.mod_lt _ (by decide)
  show sg_A MX1_runAt 0 [some (.ref m), some (.int (nI x)), none, none, none, none] [] _ _
  refine at_ld (i := 1) dX1_runAt_0 rfl rfl rfl ?_
  refine at_zlt 15 dX1_runAt_1 (by decide) (fun c => ?_) (fun c => ?_)
  · exact absurd c (nI_pos (by omega))
  · refine at_ld (i := 1) dX1_runAt_4 rfl rfl rfl ?_
    refine at_k (nI 4) dX1_runAt_5 rfl (by decide) ?_
    refine at_div dX1_runAt_6 (by decide) ?_
    rw [nI_div (by omega) (by decide)]
    refine at_ld (i := 0) dX1_runAt_7 rfl rfl rfl ?_
    refine at_get dX1_runAt_8 fX1_9 hF.1 (by omega) rfl ?_
    refine at_alen dX1_runAt_11 hF.2.2.1 ?_
    refine at_ilt 17 dX1_runAt_12 (by decide) (fun c1 => ?_) (fun c1 => ?_)
    · refine at_ld (i := 0) dX1_runAt_17 rfl rfl rfl ?_
      refine at_get dX1_runAt_18 fX1_9 hF.1 (by omega) rfl ?_
      refine at_ld (i := 1) dX1_runAt_21 rfl rfl rfl ?_
      refine at_k (nI 4) dX1_runAt_22 rfl (by decide) ?_
      refine at_div dX1_runAt_23 (by decide) ?_
      rw [nI_div (by omega) (by decide)]
      refine at_ald (x / 4) dX1_runAt_24 hF.2.2.1 rfl (by omega) (by decide) ?_
      refine at_st (i := 2) dX1_runAt_25 rfl rfl (Nat.le_of_ble_eq_true rfl) rfl ?_
      try dsimp only [List.set_cons_succ, List.set_cons_zero]
      refine at_ld (i := 1) dX1_runAt_26 rfl rfl rfl ?_
      refine at_k (nI 4) dX1_runAt_27 rfl (by decide) ?_
      refine at_rem dX1_runAt_28 (by decide) ?_
      rw [nI_rem (by omega) (by decide), hb (x / 4) (by omega)]
      refine at_st (i := 3) dX1_runAt_29 rfl rfl (Nat.le_of_ble_eq_true rfl) rfl ?_
      try dsimp only [List.set_cons_succ, List.set_cons_zero]
      refine at_ld (i := 3) dX1_runAt_30 rfl rfl rfl ?_
      have go : ∀ d : Bool, d = decide (x / 4 * 4 < x ∧ fr v (x - 1) = true) → sg_A MX1_runAt 50 [some (.ref m), some (.int (nI x)), some (.int (nI (bq (fr v) (x / 4)))), some (.int (nI (x % 4))), none, none] [.int (bI d)] g (fun r h' => r = some (.int (nI (rn v x))) ∧ h' = g) := by
        intro d hd1
        have zero : rn v x = 0 → sg_A MX1_runAt 63 [some (.ref m), some (.int (nI x)), some (.int (nI (bq (fr v) (x / 4)))), some (.int (nI (x % 4))), some (.int (bI d)), none] [] g (fun r h' => r = some (.int (nI (rn v x))) ∧ h' = g) := by
          intro z
          rw [z]
          refine at_k (nI 0) dX1_runAt_63 rfl (by decide) ?_
          refine at_ret dX1_runAt_64 rfl rfl ?_
          exact ⟨rfl, rfl⟩
        refine at_st (i := 4) dX1_runAt_50 rfl rfl (Nat.le_of_ble_eq_true rfl) rfl ?_
        try dsimp only [List.set_cons_succ, List.set_cons_zero]
        refine at_ld (i := 2) dX1_runAt_52 rfl rfl rfl ?_
        refine at_k (nI 15) dX1_runAt_53 rfl (by decide) ?_
        refine at_ieq 63 dX1_runAt_55 (by decide) (fun c2 => ?_) (fun c2 => ?_)
        · exact zero (rn_0 (Or.inr ((bq_15 _ _).mp c2)))
        · have c3 : ¬ fbk v (x / 4) = true := fun z => c2 ((bq_15 (fr v) (x / 4)).mpr z)
          refine at_ld (i := 4) dX1_runAt_58 rfl rfl rfl ?_
          refine at_zeq 65 dX1_runAt_60 (by decide) (fun c4 => ?_) (fun c4 => ?_)
          · have c5 : ¬ (x / 4 * 4 < x ∧ fr v (x - 1) = true) := by
              have := (bI_0 _).mp c4
              rw [hd1] at this
              exact of_decide_eq_false this
            have hno : ¬ ((x / 4 * 4 < x ∧ fr v (x - 1) = true) ∨ fbk v (x / 4) = true) := by
              rintro (y | y)
              · exact c5 y
              · exact c3 y
            refine at_k (nI 0) dX1_runAt_65 rfl (by decide) ?_
            refine at_st (i := 5) dX1_runAt_66 rfl rfl (Nat.le_of_ble_eq_true rfl) rfl ?_
            try dsimp only [List.set_cons_succ, List.set_cons_zero]
            have loop : ∀ f N, x % 4 + N + f = 4 → (∀ j, j < N → fr v (x + j) = true) → sg_A MX1_runAt 68 [some (.ref m), some (.int (nI x)), some (.int (nI (bq (fr v) (x / 4)))), some (.int (nI (x % 4))), some (.int (bI d)), some (.int (nI N))] [] g (fun r h' => r = some (.int (nI (rn v x))) ∧ h' = g) := by
              intro f
              induction f with
              | zero =>
                intro N hN hall
                refine at_ld (i := 3) dX1_runAt_68 rfl rfl rfl ?_
                refine at_ld (i := 5) dX1_runAt_69 rfl rfl rfl ?_
                refine at_bin dX1_runAt_71 rfl ?_
                try dsimp only
                rw [nI_add]
                refine at_k (nI 4) dX1_runAt_72 rfl (by decide) ?_
                refine at_ige 94 dX1_runAt_73 (by decide) (fun c6 => ?_) (fun c6 => ?_)
                · refine at_ld (i := 5) dX1_runAt_94 rfl rfl rfl ?_
                  refine at_ret dX1_runAt_96 rfl rfl ?_
                  rw [rn_u hno hall (by omega) (Or.inl (by omega))]
                  exact ⟨rfl, rfl⟩
                · exact absurd (nI_le (by omega) (by omega)) c6
              | succ f ih =>
                intro N hN hall
                refine at_ld (i := 3) dX1_runAt_68 rfl rfl rfl ?_
                refine at_ld (i := 5) dX1_runAt_69 rfl rfl rfl ?_
                refine at_bin dX1_runAt_71 rfl ?_
                try dsimp only
                rw [nI_add]
                refine at_k (nI 4) dX1_runAt_72 rfl (by decide) ?_
                refine at_ige 94 dX1_runAt_73 (by decide) (fun c6 => ?_) (fun c6 => ?_)
                · exact absurd c6 (nI_ge (by omega) (by decide))
                · refine at_ld (i := 2) dX1_runAt_76 rfl rfl rfl ?_
                  refine at_ld (i := 3) dX1_runAt_77 rfl rfl rfl ?_
                  refine at_ld (i := 5) dX1_runAt_78 rfl rfl rfl ?_
                  refine at_bin dX1_runAt_80 rfl ?_
                  try dsimp only
                  rw [nI_add]
                  refine at_bin dX1_runAt_81 rfl ?_
                  refine at_k (nI 1) dX1_runAt_82 rfl (by decide) ?_
                  refine at_bin dX1_runAt_83 rfl ?_
                  refine at_k (nI 1) dX1_runAt_84 rfl (by decide) ?_
                  have hbit := bq_bit (fr v) (x / 4) (x % 4 + N) (by omega)
                  rw [← Nat.add_assoc, hd] at hbit
                  refine at_ine 94 dX1_runAt_85 (by decide) (fun c7 => ?_) (fun c7 => ?_)
                  · rw [hbit] at c7
                    refine at_ld (i := 5) dX1_runAt_94 rfl rfl rfl ?_
                    refine at_ret dX1_runAt_96 rfl rfl ?_
                    rw [rn_u hno hall (by omega) (Or.inr (by cases e : fr v (x + N); rfl; exact absurd e c7))]
                    exact ⟨rfl, rfl⟩
                  · have c8 := hbit.mp (Classical.not_not.mp c7)
                    refine at_iinc (nI 1) dX1_runAt_88 rfl rfl (by decide) ?_
                    try dsimp only [List.set_cons_succ, List.set_cons_zero]
                    refine at_goto 68 dX1_runAt_91 (by decide) ?_
                    rw [nI_add]
                    refine ih (N + 1) (by omega) (fun j hj => ?_)
                    by_cases e : j = N
                    · rw [e]; exact c8
                    · exact hall j (by omega)
            exact loop (4 - x % 4) 0 (by omega) (fun j hj => by omega)
          · have c5 : d = true := bI_1 c4
            rw [hd1] at c5
            exact zero (rn_0 (Or.inl (of_decide_eq_true c5)))
      refine at_zle 49 dX1_runAt_31 (by decide) (fun c2 => ?_) (fun c2 => ?_)
      · have c3 : x % 4 = 0 := by
          rcases Nat.eq_zero_or_pos (x % 4) with z | z
          · exact z
          · exact absurd c2 (nI_nle z (by omega))
        refine at_k (nI 0) dX1_runAt_49 rfl (by decide) ?_
        exact go false (decide_eq_false (by omega)).symm
      · have c3 : 0 < x % 4 := by
          rcases Nat.eq_zero_or_pos (x % 4) with z | z
          · rw [z] at c2; exact absurd (by decide) c2
          · exact z
        refine at_ld (i := 2) dX1_runAt_34 rfl rfl rfl ?_
        refine at_ld (i := 3) dX1_runAt_35 rfl rfl rfl ?_
        refine at_k (nI 1) dX1_runAt_36 rfl (by decide) ?_
        refine at_bin dX1_runAt_37 rfl ?_
        try dsimp only
        rw [nI_sub (by omega)]
        refine at_bin dX1_runAt_38 rfl ?_
        refine at_k (nI 1) dX1_runAt_39 rfl (by decide) ?_
        refine at_bin dX1_runAt_40 rfl ?_
        refine at_k (nI 1) dX1_runAt_41 rfl (by decide) ?_
        have hbit := bq_bit (fr v) (x / 4) (x % 4 - 1) (by omega)
        rw [show 4 * (x / 4) + (x % 4 - 1) = x - 1 by omega] at hbit
        refine at_ine 49 dX1_runAt_42 (by decide) (fun c4 => ?_) (fun c4 => ?_)
        · rw [hbit] at c4
          refine at_k (nI 0) dX1_runAt_49 rfl (by decide) ?_
          exact go false (decide_eq_false (fun z => c4 z.2)).symm
        · have c5 := hbit.mp (Classical.not_not.mp c4)
          refine at_k (nI 1) dX1_runAt_45 rfl (by decide) ?_
          refine at_goto 50 dX1_runAt_46 (by decide) ?_
          exact go true (decide_eq_true ⟨by omega, c5⟩).symm
    · exact absurd (nI_lt (by omega) (by decide)) c1
set_option maxRecDepth 100000 in
theorem k_runsIn (hF : FM g m l v b) (hb : mbq (fr v) b) (w : wfg v) (a n : Nat) (ha : a < v 0) (hn : n < 100) : sg_Kr MX1_runsIn [.ref m, .int (nI a), .int (nI n)] g (.int (nI (rns v a n))) := by
  have hm1 := hF.2.2.2.1
  have hl1 := hF.2.2.2.2.1
  have h8 := w.2.1.2
  have hgb := wf_gb w
  have hga : 4 * v 1 * a + 4 * v 1 ≤ 128 := by
    have : v 1 * (a + 1) ≤ v 1 * v 0 := Nat.mul_le_mul_left _ ha
    rw [Nat.mul_succ, Nat.mul_comm _ (v 0)] at this
    rw [Nat.mul_assoc]
    omega
  show sg_A MX1_runsIn 0 [some (.ref m), some (.int (nI a)), some (.int (nI n)), none, none, none] [] _ _
  refine at_k (nI 0) dX1_runsIn_0 rfl (by decide) ?_
  refine at_st (i := 3) dX1_runsIn_1 rfl rfl (Nat.le_of_ble_eq_true rfl) rfl ?_
  try dsimp only [List.set_cons_succ, List.set_cons_zero]
  refine at_ld (i := 1) dX1_runsIn_2 rfl rfl rfl ?_
  refine at_ld (i := 0) dX1_runsIn_3 rfl rfl rfl ?_
  refine at_get dX1_runsIn_4 fX1_15 hF.1 (by omega) rfl ?_
  refine at_get dX1_runsIn_7 fX1_39 hF.2.1 (by omega) rfl ?_
  refine at_bin dX1_runsIn_10 rfl ?_
  try dsimp only
  rw [nI_mul]
  refine at_k (nI 4) dX1_runsIn_11 rfl (by decide) ?_
  refine at_bin dX1_runsIn_12 rfl ?_
  try dsimp only
  rw [nI_mul, show a * v 1 * 4 = 4 * v 1 * a by rw [Nat.mul_comm a, Nat.mul_comm _ 4, Nat.mul_assoc]]
  refine at_st (i := 4) dX1_runsIn_13 rfl rfl (Nat.le_of_ble_eq_true rfl) rfl ?_
  try dsimp only [List.set_cons_succ, List.set_cons_zero]
  refine at_ld (i := 4) dX1_runsIn_15 rfl rfl rfl ?_
  refine at_st (i := 5) dX1_runsIn_17 rfl rfl (Nat.le_of_ble_eq_true rfl) rfl ?_
  try dsimp only [List.set_cons_succ, List.set_cons_zero]
  refine lpN (fun k => sg_A MX1_runsIn 19 [some (.ref m), some (.int (nI a)), some (.int (nI n)), some (.int (nI (cnt (fun k => decide (rn v (4 * v 1 * a + k) = n)) k))), some (.int (nI (4 * v 1 * a))), some (.int (nI (4 * v 1 * a + k)))] [] g _) (4 * v 1) ?_ ?_
  · refine at_ld (i := 5) dX1_runsIn_19 rfl rfl rfl ?_
    refine at_ld (i := 4) dX1_runsIn_21 rfl rfl rfl ?_
    refine at_ld (i := 0) dX1_runsIn_23 rfl rfl rfl ?_
    refine at_get dX1_runsIn_24 fX1_15 hF.1 (by omega) rfl ?_
    refine at_get dX1_runsIn_27 fX1_39 hF.2.1 (by omega) rfl ?_
    refine at_k (nI 4) dX1_runsIn_30 rfl (by decide) ?_
    refine at_bin dX1_runsIn_31 rfl ?_
    try dsimp only
    rw [nI_mul]
    refine at_bin dX1_runsIn_32 rfl ?_
    try dsimp only
    rw [nI_add, Nat.mul_comm (v 1) 4]
    refine at_ige 55 dX1_runsIn_33 (by decide) (fun c => ?_) (fun c => ?_)
    · refine at_ld (i := 3) dX1_runsIn_55 rfl rfl rfl ?_
      refine at_ret dX1_runsIn_56 rfl rfl ?_
      exact ⟨rfl, rfl⟩
    · exact absurd (nI_le (Nat.le_refl _) (by omega)) c
  · intro k hk ih
    refine at_ld (i := 5) dX1_runsIn_19 rfl rfl rfl ?_
    refine at_ld (i := 4) dX1_runsIn_21 rfl rfl rfl ?_
    refine at_ld (i := 0) dX1_runsIn_23 rfl rfl rfl ?_
    refine at_get dX1_runsIn_24 fX1_15 hF.1 (by omega) rfl ?_
    refine at_get dX1_runsIn_27 fX1_39 hF.2.1 (by omega) rfl ?_
    refine at_k (nI 4) dX1_runsIn_30 rfl (by decide) ?_
    refine at_bin dX1_runsIn_31 rfl ?_
    try dsimp only
    rw [nI_mul]
    refine at_bin dX1_runsIn_32 rfl ?_
    try dsimp only
    rw [nI_add, Nat.mul_comm (v 1) 4]
    refine at_ige 55 dX1_runsIn_33 (by decide) (fun c => ?_) (fun c => ?_)
    · exact absurd c (nI_ge (by omega) (by omega))
    · refine at_ld (i := 0) dX1_runsIn_36 rfl rfl rfl ?_
      refine at_ld (i := 5) dX1_runsIn_37 rfl rfl rfl ?_
      refine at_rv [_] dX1_runsIn_39 mX1_runAt ⟨Nat.le_of_ble_eq_true rfl, Nat.le_of_ble_eq_true rfl⟩ lX1_58 iX1_runAt rfl rfl hF.1 (by omega) rfl (Nat.le_of_ble_eq_true rfl) (Nat.le_of_ble_eq_true rfl) ⟨rfl, rfl⟩ (k_runAt hF hb (4 * v 1 * a + k) (by omega)) ?_
      refine at_ld (i := 2) dX1_runsIn_42 rfl rfl rfl ?_
      have hr := rn_le v (4 * v 1 * a + k)
      refine at_ine 49 dX1_runsIn_43 (by decide) (fun c1 => ?_) (fun c1 => ?_)
      · have c2 : ¬ rn v (4 * v 1 * a + k) = n := fun z => c1 (by rw [z])
        refine at_iinc (nI 1) dX1_runsIn_49 rfl rfl (by decide) ?_
        try dsimp only [List.set_cons_succ, List.set_cons_zero]
        refine at_goto 19 dX1_runsIn_52 (by decide) ?_
        rw [nI_add, Nat.add_assoc]
        rw [cnt_f (p := (fun k => decide (rn v (4 * v 1 * a + k) = n))) (k := k) (decide_eq_false c2)] at ih
        exact ih
      · have c2 : rn v (4 * v 1 * a + k) = n := (nI_eq32 (by omega) (by omega)).mp (Classical.not_not.mp c1)
        refine at_iinc (nI 1) dX1_runsIn_46 rfl rfl (by decide) ?_
        try dsimp only [List.set_cons_succ, List.set_cons_zero]
        refine at_iinc (nI 1) dX1_runsIn_49 rfl rfl (by decide) ?_
        try dsimp only [List.set_cons_succ, List.set_cons_zero]
        refine at_goto 19 dX1_runsIn_52 (by decide) ?_
        rw [nI_add, nI_add, Nat.add_assoc]
        rw [cnt_t (p := (fun k => decide (rn v (4 * v 1 * a + k) = n))) (k := k) (decide_eq_true c2)] at ih
        exact ih
end C3
