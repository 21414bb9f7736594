/-! THE CLASS: FreeMap, searches and takings -/
def fbi (v : Nat → Nat) (a p : Nat) : Option Nat := srch (fun k => if fbk v (v 1 * a + (p + k) % v 1) = true then some (v 1 * a + (p + k) % v 1) else none) 0 (v 1)
theorem srch_e {α : Type} {f f' : Nat → Option α} : ∀ m k, (∀ j, k ≤ j → j < k + m → f j = f' j) → srch f k m = srch f' k m := by
  intro m
  induction m with
  | zero => intro k _; rfl
  | succ m ih => intro k h; simp only [srch]; rw [h k (by omega) (by omega), ih (k + 1) (fun j h1 h2 => h j (by omega) (by omega))]
theorem srch_none {α : Type} {f : Nat → Option α} : ∀ m k, (∀ j, k ≤ j → j < k + m → f j = none) → srch f k m = none := by
  intro m
  induction m with
  | zero => intro k _; rfl
  | succ m ih => intro k h; simp only [srch]; rw [h k (by omega) (by omega)]; exact ih (k + 1) (fun j h1 h2 => h j (by omega) (by omega))
theorem srch_some {α : Type} {f : Nat → Option α} {x : α} : ∀ m k j, k ≤ j → j < k + m → f j = some x → (∀ i, k ≤ i → i < j → f i = none) → srch f k m = some x := by
  intro m
  induction m with
  | zero => intro k j h1 h2; omega
  | succ m ih =>
    intro k j h1 h2 h3 h4
    simp only [srch]
    by_cases e : j = k
    · subst e; rw [h3]
    · rw [h4 k (Nat.le_refl _) (by omega)]
      exact ih (k + 1) j (by omega) (by omega) h3 (fun i a b => h4 i (by omega) b)
theorem srch_no {α : Type} {f : Nat → Option α} : ∀ m k, srch f k m = none → ∀ j, k ≤ j → j < k + m → f j = none := by
  intro m
  induction m with
  | zero => intro k _ j h1 h2; omega
  | succ m ih =>
    intro k h j h1 h2
    simp only [srch] at h
    split at h
    · cases h
    · next e =>
      by_cases q : j = k
      · rw [q]; exact e
      · exact ih (k + 1) h j (by omega) (by omega)
/-- the shortest run that fits in a group -/
def shr1 (v : Nat → Nat) (a n : Nat) : Option Nat := srch (fun l => srch (fun k => if rn v (4 * v 1 * a + k) = l then some (4 * v 1 * a + k) else none) 0 (4 * v 1)) n (4 - n)
/-- what is known of the shortest one up to k: its length s (4: none), its place -/
def shI (v : Nat → Nat) (a n k s : Nat) (o : Option Nat) : Prop := (∀ j, j < k → n ≤ rn v (4 * v 1 * a + j) → s ≤ rn v (4 * v 1 * a + j)) ∧ ((s = 4 ∧ o = none) ∨ (n ≤ s ∧ s < 4 ∧ ∃ j, j < k ∧ o = some (4 * v 1 * a + j) ∧ rn v (4 * v 1 * a + j) = s ∧ ∀ i, i < j → rn v (4 * v 1 * a + i) ≠ s))
theorem shI_end {v : Nat → Nat} {a n s : Nat} {o : Option Nat} (hn : n ≤ 4) (h : shI v a n (4 * v 1) s o) : o = shr1 v a n := by
  obtain ⟨h1, h2⟩ := h
  unfold shr1
  rcases h2 with ⟨h2, rfl⟩ | ⟨h2, h3, j, h4, rfl, h5, h6⟩
  · symm
    refine srch_none _ _ (fun l hl1 hl2 => srch_none _ _ (fun k _ hk => ?_))
    rw [if_neg]
    intro e
    have := h1 k (by omega) (by omega)
    omega
  · symm
    refine srch_some _ _ s h2 (by omega) (srch_some _ _ j (Nat.zero_le _) (by omega) (if_pos h5) (fun i _ hi => if_neg (h6 i hi))) (fun l hl1 hl2 => srch_none _ _ (fun k _ hk => ?_))
    rw [if_neg]
    intro e
    have := h1 k (by omega) (by omega)
    omega
theorem rin_e (v : Nat → Nat) (a n : Nat) : rin v a n = match shr1 v a n with
    | some x => some x
    | none => (fbi v a 0).map (fun k => 4 * k) := by
  have e0 : rin v a n = match shr1 v a n with
      | some x => some x
      | none => srch (fun k => if fbk v (v 1 * a + k) = true then some (4 * (v 1 * a + k)) else none) 0 (v 1) := rfl
  rw [e0]
  cases shr1 v a n with
  | some x => rfl
  | none =>
    unfold fbi
    have : ∀ m k, k + m = v 1 → srch (fun k => if fbk v (v 1 * a + k) = true then some (4 * (v 1 * a + k)) else none) k m = Option.map (fun k => 4 * k) (srch (fun k => if fbk v (v 1 * a + (0 + k) % v 1) = true then some (v 1 * a + (0 + k) % v 1) else none) k m) := by
      intro m
      induction m with
      | zero => intro k _; rfl
      | succ m ih =>
        intro k hk
        simp only [srch]
        rw [Nat.zero_add, Nat.mod_eq_of_lt (by omega)]
        by_cases e : fbk v (v 1 * a + k) = true
        · rw [if_pos e, if_pos e]; rfl
        · rw [if_neg e, if_neg e]
          exact ih (k + 1) (by omega)
    exact this (v 1) 0 (by omega)
theorem bnr_e (v : Nat → Nat) (a p : Nat) : bnr v a p = srch (fun i => fbi v (bh v a i) (if i = 0 then p else 0)) 0 (v 0) := by
  unfold bnr fbi
  refine srch_e _ _ (fun i _ _ => srch_e _ _ (fun k _ hk => ?_))
  by_cases e : i = 0
  · rw [if_pos e, if_pos e]
  · rw [if_neg e, if_neg e, Nat.zero_add, Nat.mod_eq_of_lt (by omega)]
theorem fbi_lt {v : Nat → Nat} (w : wfg v) {a p x : Nat} (ha : a < v 0) (h : fbi v a p = some x) : x < v 0 * v 1 := by
  obtain ⟨j, -, -, e⟩ := sr_ge _ _ h
  split at e
  · cases e
    exact gb_lt ha (Nat.mod_lt _ (by have := w.2.1.1; omega))
  · cases e
theorem shr1_lt {v : Nat → Nat} {a n x : Nat} (h : shr1 v a n = some x) : ∃ k, k < 4 * v 1 ∧ x = 4 * v 1 * a + k ∧ n ≤ rn v x ∧ rn v x < 4 := by
  obtain ⟨l, h1, h2, e⟩ := sr_ge _ _ h
  obtain ⟨k, h3, h4, e2⟩ := sr_ge _ _ e
  split at e2
  · next q => cases e2; exact ⟨k, by omega, rfl, by omega, by omega⟩
  · cases e2
section C4
variable {g : sg_H} {m l : Nat} {v : Nat → Nat} {b : Nat → Int32}
set_option maxRecDepth 100000 in
theorem k_shortestRunIn (hF : FM g m l v b) (hb : mbq (fr v) b) (w : wfg v) (a n : Nat) (ha : a < v 0) (hn : n ≤ 4) : sg_Kr MX1_shortestRunIn [.ref m, .int (nI a), .int (nI n)] g (.int (oI (shr1 v a n))) := by
  have hm1 := hF.2.2.2.1
  have hl1 := hF.2.2.2.2.1
  have h8 := w.2.1.2
  have hgb := wf_gb w
  have hga : 4 * v 1 * a + 4 * v 1 ≤ 128 := by
    have : v 1 * (a + 1) ≤ v 1 * v 0 := Nat.mul_le_mul_left _ ha
    rw [Nat.mul_succ, Nat.mul_comm _ (v 0)] at this
    rw [Nat.mul_assoc]
    omega
  show sg_A MX1_shortestRunIn 0 [some (.ref m), some (.int (nI a)), some (.int (nI n)), none, none, none, none, none] [] _ _
  refine at_k (-4) dX1_shortestRunIn_0 rfl (by decide) ?_
  refine at_st (i := 3) dX1_shortestRunIn_2 rfl rfl (Nat.le_of_ble_eq_true rfl) rfl ?_
  try dsimp only [List.set_cons_succ, List.set_cons_zero]
  refine at_k (nI 4) dX1_shortestRunIn_3 rfl (by decide) ?_
  refine at_st (i := 4) dX1_shortestRunIn_4 rfl rfl (Nat.le_of_ble_eq_true rfl) rfl ?_
  try dsimp only [List.set_cons_succ, List.set_cons_zero]
  refine at_ld (i := 1) dX1_shortestRunIn_6 rfl rfl rfl ?_
  refine at_ld (i := 0) dX1_shortestRunIn_7 rfl rfl rfl ?_
  refine at_get dX1_shortestRunIn_8 fX1_15 hF.1 (by omega) rfl ?_
  refine at_get dX1_shortestRunIn_11 fX1_39 hF.2.1 (by omega) rfl ?_
  refine at_bin dX1_shortestRunIn_14 rfl ?_
  try dsimp only
  rw [nI_mul]
  refine at_k (nI 4) dX1_shortestRunIn_15 rfl (by decide) ?_
  refine at_bin dX1_shortestRunIn_16 rfl ?_
  try dsimp only
  rw [nI_mul, show a * v 1 * 4 = 4 * v 1 * a by rw [Nat.mul_comm a, Nat.mul_comm _ 4, Nat.mul_assoc]]
  refine at_st (i := 5) dX1_shortestRunIn_17 rfl rfl (Nat.le_of_ble_eq_true rfl) rfl ?_
  try dsimp only [List.set_cons_succ, List.set_cons_zero]
  refine at_ld (i := 5) dX1_shortestRunIn_19 rfl rfl rfl ?_
  refine at_st (i := 6) dX1_shortestRunIn_21 rfl rfl (Nat.le_of_ble_eq_true rfl) rfl ?_
  try dsimp only [List.set_cons_succ, List.set_cons_zero]
  have loop : ∀ f k s o y7, k + f = 4 * v 1 → s ≤ 4 → shI v a n k s o → sg_A MX1_shortestRunIn 23 [some (.ref m), some (.int (nI a)), some (.int (nI n)), some (.int (oI o)), some (.int (nI s)), some (.int (nI (4 * v 1 * a))), some (.int (nI (4 * v 1 * a + k))), y7] [] g (fun r h' => r = some (.int (oI (shr1 v a n))) ∧ h' = g) := by
    intro f
    induction f with
    | zero =>
      intro k s o y7 hk hs hI
      have : k = 4 * v 1 := by omega
      subst this
      refine at_ld (i := 6) dX1_shortestRunIn_23 rfl rfl rfl ?_
      refine at_ld (i := 5) dX1_shortestRunIn_25 rfl rfl rfl ?_
      refine at_ld (i := 0) dX1_shortestRunIn_27 rfl rfl rfl ?_
      refine at_get dX1_shortestRunIn_28 fX1_15 hF.1 (by omega) rfl ?_
      refine at_get dX1_shortestRunIn_31 fX1_39 hF.2.1 (by omega) rfl ?_
      refine at_k (nI 4) dX1_shortestRunIn_34 rfl (by decide) ?_
      refine at_bin dX1_shortestRunIn_35 rfl ?_
      try dsimp only
      rw [nI_mul]
      refine at_bin dX1_shortestRunIn_36 rfl ?_
      try dsimp only
      rw [nI_add, Nat.mul_comm (v 1) 4]
      refine at_ige 74 dX1_shortestRunIn_37 (by decide) (fun c => ?_) (fun c => ?_)
      · refine at_ld (i := 3) dX1_shortestRunIn_74 rfl rfl rfl ?_
        refine at_ret dX1_shortestRunIn_75 rfl rfl ?_
        rw [shI_end hn hI]
        exact ⟨rfl, rfl⟩
      · exact absurd (nI_le (Nat.le_refl _) (by omega)) c
    | succ f ih =>
      intro k s o y7 hk hs hI
      have hr := rn_le v (4 * v 1 * a + k)
      refine at_ld (i := 6) dX1_shortestRunIn_23 rfl rfl rfl ?_
      refine at_ld (i := 5) dX1_shortestRunIn_25 rfl rfl rfl ?_
      refine at_ld (i := 0) dX1_shortestRunIn_27 rfl rfl rfl ?_
      refine at_get dX1_shortestRunIn_28 fX1_15 hF.1 (by omega) rfl ?_
      refine at_get dX1_shortestRunIn_31 fX1_39 hF.2.1 (by omega) rfl ?_
      refine at_k (nI 4) dX1_shortestRunIn_34 rfl (by decide) ?_
      refine at_bin dX1_shortestRunIn_35 rfl ?_
      try dsimp only
      rw [nI_mul]
      refine at_bin dX1_shortestRunIn_36 rfl ?_
      try dsimp only
      rw [nI_add, Nat.mul_comm (v 1) 4]
      refine at_ige 74 dX1_shortestRunIn_37 (by decide) (fun c => ?_) (fun c => ?_)
      · exact absurd c (nI_ge (by omega) (by omega))
      · have no : ¬ (n ≤ rn v (4 * v 1 * a + k) ∧ rn v (4 * v 1 * a + k) < s) → sg_A MX1_shortestRunIn 68 [some (.ref m), some (.int (nI a)), some (.int (nI n)), some (.int (oI o)), some (.int (nI s)), some (.int (nI (4 * v 1 * a))), some (.int (nI (4 * v 1 * a + k))), some (.int (nI (rn v (4 * v 1 * a + k))))] [] g (fun r h' => r = some (.int (oI (shr1 v a n))) ∧ h' = g) := by
          intro hno
          refine at_iinc (nI 1) dX1_shortestRunIn_68 rfl rfl (by decide) ?_
          try dsimp only [List.set_cons_succ, List.set_cons_zero]
          refine at_goto 23 dX1_shortestRunIn_71 (by decide) ?_
          rw [nI_add, Nat.add_assoc]
          refine ih (k + 1) s o _ (by omega) hs ⟨fun j hj hj2 => ?_, ?_⟩
          · by_cases e : j = k
            · subst e; omega
            · exact hI.1 j (by omega) hj2
          · rcases hI.2 with h2 | ⟨h2, h3, j, h4, h5⟩
            · exact Or.inl h2
            · exact Or.inr ⟨h2, h3, j, by omega, h5⟩
        refine at_ld (i := 0) dX1_shortestRunIn_40 rfl rfl rfl ?_
        refine at_ld (i := 6) dX1_shortestRunIn_41 rfl rfl rfl ?_
        refine at_rv [_] dX1_shortestRunIn_43 mX1_runAt ⟨Nat.le_of_ble_eq_true rfl, Nat.le_of_ble_eq_true rfl⟩ lX1_58 iX1_runAt rfl rfl hF.1 (by omega) rfl (Nat.le_of_ble_eq_true rfl) (Nat.le_of_ble_eq_true rfl) ⟨rfl, rfl⟩ (k_runAt hF hb (4 * v 1 * a + k) (by omega)) ?_
        refine at_st (i := 7) dX1_shortestRunIn_46 rfl rfl (Nat.le_of_ble_eq_true rfl) rfl ?_
        try dsimp only [List.set_cons_succ, List.set_cons_zero]
        refine at_ld (i := 7) dX1_shortestRunIn_48 rfl rfl rfl ?_
        refine at_ld (i := 2) dX1_shortestRunIn_50 rfl rfl rfl ?_
        refine at_ilt 68 dX1_shortestRunIn_51 (by decide) (fun c1 => ?_) (fun c1 => ?_)
        · have c2 := (nI_ltI (by omega) (by omega)).mp c1
          exact no (by omega)
        · have c2 : n ≤ rn v (4 * v 1 * a + k) := by
            rcases Nat.lt_or_ge (rn v (4 * v 1 * a + k)) n with z | z
            · exact absurd (nI_lt z (by omega)) c1
            · exact z
          refine at_ld (i := 7) dX1_shortestRunIn_54 rfl rfl rfl ?_
          refine at_ld (i := 4) dX1_shortestRunIn_56 rfl rfl rfl ?_
          refine at_ige 68 dX1_shortestRunIn_58 (by decide) (fun c3 => ?_) (fun c3 => ?_)
          · have c4 := (nI_leI (by omega) (by omega)).mp c3
            exact no (by omega)
          · have c4 : rn v (4 * v 1 * a + k) < s := by
              rcases Nat.lt_or_ge (rn v (4 * v 1 * a + k)) s with z | z
              · exact z
              · exact absurd (nI_le z (by omega)) c3
            refine at_ld (i := 6) dX1_shortestRunIn_61 rfl rfl rfl ?_
            refine at_st (i := 3) dX1_shortestRunIn_63 rfl rfl (Nat.le_of_ble_eq_true rfl) rfl ?_
            try dsimp only [List.set_cons_succ, List.set_cons_zero]
            refine at_ld (i := 7) dX1_shortestRunIn_64 rfl rfl rfl ?_
            refine at_st (i := 4) dX1_shortestRunIn_66 rfl rfl (Nat.le_of_ble_eq_true rfl) rfl ?_
            try dsimp only [List.set_cons_succ, List.set_cons_zero]
            refine at_iinc (nI 1) dX1_shortestRunIn_68 rfl rfl (by decide) ?_
            try dsimp only [List.set_cons_succ, List.set_cons_zero]
            refine at_goto 23 dX1_shortestRunIn_71 (by decide) ?_
            rw [nI_add, Nat.add_assoc]
            refine ih (k + 1) _ (some (4 * v 1 * a + k)) _ (by omega) (by omega) ⟨fun j hj hj2 => ?_, Or.inr ⟨c2, by omega, k, by omega, rfl, rfl, fun i hi e => ?_⟩⟩
            · by_cases e : j = k
              · subst e; exact Nat.le_refl _
              · have := hI.1 j (by omega) hj2
                omega
            · have := hI.1 i hi (by omega)
              omega
  exact loop (4 * v 1) 0 4 none none (by omega) (by decide) ⟨fun j hj => by omega, Or.inl ⟨rfl, rfl⟩⟩
set_option maxRecDepth 100000 in
theorem k_freeBlockIn (hF : FM g m l v b) (hb : mbq (fr v) b) (w : wfg v) (a p : Nat) (ha : a < v 0) (hp : p < v 1) : sg_Kr MX1_freeBlockIn [.ref m, .int (nI a), .int (nI p)] g (.int (oI (fbi v a p))) := by
  have hm1 := hF.2.2.2.1
  have hl1 := hF.2.2.2.2.1
  have h8 := w.2.1.2
  have hgb := wf_gb w
  show sg_A MX1_freeBlockIn 0 [some (.ref m), some (.int (nI a)), some (.int (nI p)), none, none, none] [] _ _
  refine at_k (nI 0) dX1_freeBlockIn_0 rfl (by decide) ?_
  refine at_st (i := 3) dX1_freeBlockIn_1 rfl rfl (Nat.le_of_ble_eq_true rfl) rfl ?_
  try dsimp only [List.set_cons_succ, List.set_cons_zero]
  have loop : ∀ f k y4 y5, k + f = v 1 → fbi v a p = srch (fun k => if fbk v (v 1 * a + (p + k) % v 1) = true then some (v 1 * a + (p + k) % v 1) else none) k (v 1 - k) → sg_A MX1_freeBlockIn 2 [some (.ref m), some (.int (nI a)), some (.int (nI p)), some (.int (nI k)), y4, y5] [] g (fun r h' => r = some (.int (oI (fbi v a p))) ∧ h' = g) := by
    intro f
    induction f with
    | zero =>
      intro k y4 y5 hk e
      have : k = v 1 := by omega
      subst this
      rw [sr_0] at e
      rw [e]
      refine at_ld (i := 3) dX1_freeBlockIn_2 rfl rfl rfl ?_
      refine at_ld (i := 0) dX1_freeBlockIn_3 rfl rfl rfl ?_
      refine at_get dX1_freeBlockIn_4 fX1_15 hF.1 (by omega) rfl ?_
      refine at_get dX1_freeBlockIn_7 fX1_39 hF.2.1 (by omega) rfl ?_
      refine at_ige 77 dX1_freeBlockIn_10 (by decide) (fun c => ?_) (fun c => ?_)
      · refine at_k (-4) dX1_freeBlockIn_77 rfl (by decide) ?_
        refine at_ret dX1_freeBlockIn_79 rfl rfl ?_
        exact ⟨rfl, rfl⟩
      · exact absurd (nI_le (Nat.le_refl _) (by omega)) c
    | succ f ih =>
      intro k y4 y5 hk e
      have hmod := Nat.mod_lt (p + k) (show v 1 > 0 by omega)
      have hlt := gb_lt ha hmod
      have go : ∀ x, x = (p + k) % v 1 → sg_A MX1_freeBlockIn 43 [some (.ref m), some (.int (nI a)), some (.int (nI p)), some (.int (nI k)), y4, y5] [.int (nI x)] g (fun r h' => r = some (.int (oI (fbi v a p))) ∧ h' = g) := by
        intro x hx
        subst hx
        refine at_st (i := 4) dX1_freeBlockIn_43 rfl rfl (Nat.le_of_ble_eq_true rfl) rfl ?_
        try dsimp only [List.set_cons_succ, List.set_cons_zero]
        refine at_ld (i := 1) dX1_freeBlockIn_45 rfl rfl rfl ?_
        refine at_ld (i := 0) dX1_freeBlockIn_46 rfl rfl rfl ?_
        refine at_get dX1_freeBlockIn_47 fX1_15 hF.1 (by omega) rfl ?_
        refine at_get dX1_freeBlockIn_50 fX1_39 hF.2.1 (by omega) rfl ?_
        refine at_bin dX1_freeBlockIn_53 rfl ?_
        try dsimp only
        rw [nI_mul]
        refine at_ld (i := 4) dX1_freeBlockIn_54 rfl rfl rfl ?_
        refine at_bin dX1_freeBlockIn_56 rfl ?_
        try dsimp only
        rw [nI_add, Nat.mul_comm a (v 1)]
        refine at_st (i := 5) dX1_freeBlockIn_57 rfl rfl (Nat.le_of_ble_eq_true rfl) rfl ?_
        try dsimp only [List.set_cons_succ, List.set_cons_zero]
        refine at_ld (i := 0) dX1_freeBlockIn_59 rfl rfl rfl ?_
        refine at_ld (i := 5) dX1_freeBlockIn_60 rfl rfl rfl ?_
        refine at_rv [_] dX1_freeBlockIn_62 mX1_isFreeBlock ⟨Nat.le_of_ble_eq_true rfl, Nat.le_of_ble_eq_true rfl⟩ lX1_54 iX1_isFreeBlock rfl rfl hF.1 (by omega) rfl (Nat.le_of_ble_eq_true rfl) (Nat.le_of_ble_eq_true rfl) ⟨rfl, rfl⟩ (k_isFreeBlock hF hb (v 1 * a + (p + k) % v 1) (by omega)) ?_
        refine at_zeq 71 dX1_freeBlockIn_65 (by decide) (fun c1 => ?_) (fun c1 => ?_)
        · have c2 : ¬ fbk v (v 1 * a + (p + k) % v 1) = true := fun z => by
            have : fbk v (v 1 * a + (p + k) % v 1) = false := (bI_0 _).mp c1
            rw [this] at z; cases z
          refine at_iinc (nI 1) dX1_freeBlockIn_71 rfl rfl (by decide) ?_
          try dsimp only [List.set_cons_succ, List.set_cons_zero]
          refine at_goto 2 dX1_freeBlockIn_74 (by decide) ?_
          rw [nI_add]
          refine ih (k + 1) _ _ (by omega) ?_
          rw [e, sr_n (by omega) (if_neg c2)]
        · have c2 : fbk v (v 1 * a + (p + k) % v 1) = true := bI_1 c1
          refine at_ld (i := 5) dX1_freeBlockIn_68 rfl rfl rfl ?_
          refine at_ret dX1_freeBlockIn_70 rfl rfl ?_
          rw [e, sr_s (by omega) (if_pos c2)]
          exact ⟨rfl, rfl⟩
      refine at_ld (i := 3) dX1_freeBlockIn_2 rfl rfl rfl ?_
      refine at_ld (i := 0) dX1_freeBlockIn_3 rfl rfl rfl ?_
      refine at_get dX1_freeBlockIn_4 fX1_15 hF.1 (by omega) rfl ?_
      refine at_get dX1_freeBlockIn_7 fX1_39 hF.2.1 (by omega) rfl ?_
      refine at_ige 77 dX1_freeBlockIn_10 (by decide) (fun c => ?_) (fun c => ?_)
      · exact absurd c (nI_ge (by omega) (by omega))
      · refine at_ld (i := 2) dX1_freeBlockIn_13 rfl rfl rfl ?_
        refine at_ld (i := 3) dX1_freeBlockIn_14 rfl rfl rfl ?_
        refine at_bin dX1_freeBlockIn_15 rfl ?_
        try dsimp only
        rw [nI_add]
        refine at_ld (i := 0) dX1_freeBlockIn_16 rfl rfl rfl ?_
        refine at_get dX1_freeBlockIn_17 fX1_15 hF.1 (by omega) rfl ?_
        refine at_get dX1_freeBlockIn_20 fX1_39 hF.2.1 (by omega) rfl ?_
        refine at_ige 32 dX1_freeBlockIn_23 (by decide) (fun c1 => ?_) (fun c1 => ?_)
        · have c2 := (nI_leI (by omega) (by omega)).mp c1
          refine at_ld (i := 2) dX1_freeBlockIn_32 rfl rfl rfl ?_
          refine at_ld (i := 3) dX1_freeBlockIn_33 rfl rfl rfl ?_
          refine at_bin dX1_freeBlockIn_34 rfl ?_
          try dsimp only
          rw [nI_add]
          refine at_ld (i := 0) dX1_freeBlockIn_35 rfl rfl rfl ?_
          refine at_get dX1_freeBlockIn_36 fX1_15 hF.1 (by omega) rfl ?_
          refine at_get dX1_freeBlockIn_39 fX1_39 hF.2.1 (by omega) rfl ?_
          refine at_bin dX1_freeBlockIn_42 rfl ?_
          try dsimp only
          rw [nI_sub c2]
          exact go _ (mod_lt2 c2 (by omega)).symm
        · have c2 : p + k < v 1 := by
            rcases Nat.lt_or_ge (p + k) (v 1) with z | z
            · exact z
            · exact absurd (nI_le z (by omega)) c1
          refine at_ld (i := 2) dX1_freeBlockIn_26 rfl rfl rfl ?_
          refine at_ld (i := 3) dX1_freeBlockIn_27 rfl rfl rfl ?_
          refine at_bin dX1_freeBlockIn_28 rfl ?_
          try dsimp only
          rw [nI_add]
          refine at_goto 43 dX1_freeBlockIn_29 (by decide) ?_
          exact go _ (Nat.mod_eq_of_lt c2).symm
  exact loop (v 1) 0 none none (by omega) rfl
set_option maxRecDepth 100000 in
theorem k_takeBlock (hF : FM g m l v b) (hb : mbq (fr v) b) (w : wfg v) (a p : Nat) (ha : a < v 0) (hp : p < v 1) : sg_Kw MX1_takeBlock [.ref m, .int (nI a), .int (nI p)] g (some (.int (oI (bnr v a p)))) (match bnr v a p with | some x => sg_up g (m + 1) (.inl (false, 32, bput b (4 * x) 4 false)) | none => g) := by
  have hm1 := hF.2.2.2.1
  have hl1 := hF.2.2.2.2.1
  have h4 := w.1.2
  have hgb := wf_gb w
  show sg_A MX1_takeBlock 0 [some (.ref m), some (.int (nI a)), some (.int (nI p)), none, none] [] _ _
  refine at_k (nI 0) dX1_takeBlock_0 rfl (by decide) ?_
  refine at_st (i := 3) dX1_takeBlock_1 rfl rfl (Nat.le_of_ble_eq_true rfl) rfl ?_
  try dsimp only [List.set_cons_succ, List.set_cons_zero]
  have loop : ∀ f k y4, k + f = v 0 → bnr v a p = srch (fun i => fbi v (bh v a i) (if i = 0 then p else 0)) k (v 0 - k) → sg_A MX1_takeBlock 2 [some (.ref m), some (.int (nI a)), some (.int (nI p)), some (.int (nI k)), y4] [] g (fun r h' => r = some (.int (oI (bnr v a p))) ∧ h' = (match bnr v a p with | some x => sg_up g (m + 1) (.inl (false, 32, bput b (4 * x) 4 false)) | none => g)) := by
    intro f
    induction f with
    | zero =>
      intro k y4 hk e
      have : k = v 0 := by omega
      subst this
      rw [sr_0] at e
      rw [e]
      refine at_ld (i := 3) dX1_takeBlock_2 rfl rfl rfl ?_
      refine at_ld (i := 0) dX1_takeBlock_3 rfl rfl rfl ?_
      refine at_get dX1_takeBlock_4 fX1_15 hF.1 (by omega) rfl ?_
      refine at_get dX1_takeBlock_7 fX1_48 hF.2.1 (by omega) rfl ?_
      refine at_ige 63 dX1_takeBlock_10 (by decide) (fun c => ?_) (fun c => ?_)
      · refine at_k (-4) dX1_takeBlock_63 rfl (by decide) ?_
        refine at_ret dX1_takeBlock_65 rfl rfl ?_
        exact ⟨rfl, rfl⟩
      · exact absurd (nI_le (Nat.le_refl _) (by omega)) c
    | succ f ih =>
      intro k y4 hk e
      have hbl := bh_lt w a k
      have go : ∀ x, x = (if k = 0 then p else 0) → sg_A MX1_takeBlock 32 [some (.ref m), some (.int (nI a)), some (.int (nI p)), some (.int (nI k)), y4] [.int (nI x), .int (nI (bh v a k)), .ref m] g (fun r h' => r = some (.int (oI (bnr v a p))) ∧ h' = (match bnr v a p with | some x => sg_up g (m + 1) (.inl (false, 32, bput b (4 * x) 4 false)) | none => g)) := by
        intro x hx
        have hx1 : x < v 1 := by rw [hx]; split <;> omega
        refine at_rv [_, _] dX1_takeBlock_32 mX1_freeBlockIn ⟨Nat.le_of_ble_eq_true rfl, Nat.le_of_ble_eq_true rfl⟩ lX1_65 iX1_freeBlockIn rfl rfl hF.1 (by omega) rfl (Nat.le_of_ble_eq_true rfl) (Nat.le_of_ble_eq_true rfl) ⟨rfl, rfl⟩ (k_freeBlockIn hF hb w (bh v a k) x hbl hx1) ?_
        refine at_st (i := 4) dX1_takeBlock_35 rfl rfl (Nat.le_of_ble_eq_true rfl) rfl ?_
        try dsimp only [List.set_cons_succ, List.set_cons_zero]
        refine at_ld (i := 4) dX1_takeBlock_37 rfl rfl rfl ?_
        refine at_k (-4) dX1_takeBlock_39 rfl (by decide) ?_
        cases q : fbi v (bh v a k) x with
        | none =>
          refine at_ieq 57 dX1_takeBlock_41 (by decide) (fun c => ?_) (fun c => ?_)
          · refine at_iinc (nI 1) dX1_takeBlock_57 rfl rfl (by decide) ?_
            try dsimp only [List.set_cons_succ, List.set_cons_zero]
            refine at_goto 2 dX1_takeBlock_60 (by decide) ?_
            rw [nI_add]
            refine ih (k + 1) _ (by omega) ?_
            rw [e, sr_n (by omega) (by rw [← hx]; exact q)]
          · exact absurd rfl c
        | some y =>
          have hy := fbi_lt w hbl q
          refine at_ieq 57 dX1_takeBlock_41 (by decide) (fun c => ?_) (fun c => ?_)
          · exact absurd c (oI_n (by omega))
          · refine at_ld (i := 0) dX1_takeBlock_44 rfl rfl rfl ?_
            refine at_ld (i := 4) dX1_takeBlock_45 rfl rfl rfl ?_
            refine at_k (nI 4) dX1_takeBlock_47 rfl (by decide) ?_
            refine at_bin dX1_takeBlock_48 rfl ?_
            try dsimp only
            rw [show oI (some y) = nI y from rfl, nI_mul, Nat.mul_comm y 4]
            refine at_k (nI 4) dX1_takeBlock_49 rfl (by decide) ?_
            refine at_k (nI 0) dX1_takeBlock_50 rfl (by decide) ?_
            refine at_wv [_, _, _] dX1_takeBlock_51 mX1_put ⟨Nat.le_of_ble_eq_true rfl, Nat.le_of_ble_eq_true rfl⟩ lX1_68 iX1_put rfl rfl hF.1 (by omega) rfl (Nat.le_of_ble_eq_true rfl) (Nat.le_of_ble_eq_true rfl) ⟨rfl, rfl⟩ (k_put hF (4 * y) 4 false (by omega) (by omega)) ⟨rfl, rfl⟩ ?_
            try dsimp only [Option.toList, List.cons_append, List.nil_append]
            refine at_ld (i := 4) dX1_takeBlock_54 rfl rfl rfl ?_
            refine at_ret dX1_takeBlock_56 rfl rfl ?_
            rw [e, sr_s (by omega) (by rw [← hx]; exact q)]
            exact ⟨rfl, rfl⟩
      refine at_ld (i := 3) dX1_takeBlock_2 rfl rfl rfl ?_
      refine at_ld (i := 0) dX1_takeBlock_3 rfl rfl rfl ?_
      refine at_get dX1_takeBlock_4 fX1_15 hF.1 (by omega) rfl ?_
      refine at_get dX1_takeBlock_7 fX1_48 hF.2.1 (by omega) rfl ?_
      refine at_ige 63 dX1_takeBlock_10 (by decide) (fun c => ?_) (fun c => ?_)
      · exact absurd c (nI_ge (by omega) (by omega))
      · refine at_ld (i := 0) dX1_takeBlock_13 rfl rfl rfl ?_
        refine at_ld (i := 0) dX1_takeBlock_14 rfl rfl rfl ?_
        refine at_get dX1_takeBlock_15 fX1_15 hF.1 (by omega) rfl ?_
        refine at_ld (i := 1) dX1_takeBlock_18 rfl rfl rfl ?_
        refine at_ld (i := 3) dX1_takeBlock_19 rfl rfl rfl ?_
        refine at_rv [_, _] dX1_takeBlock_20 mX3_behind ⟨Nat.le_of_ble_eq_true rfl, Nat.le_of_ble_eq_true rfl⟩ lX1_61 iX3_behind rfl rfl hF.2.1 (by omega) rfl (Nat.le_of_ble_eq_true rfl) (Nat.le_of_ble_eq_true rfl) ⟨rfl, rfl⟩ (k_behind hF.2.1 hl1 w a k ha (by omega)) ?_
        refine at_ld (i := 3) dX1_takeBlock_23 rfl rfl rfl ?_
        refine at_zne 31 dX1_takeBlock_24 (by decide) (fun c1 => ?_) (fun c1 => ?_)
        · have c2 : ¬ k = 0 := fun z => c1 (by rw [z]; rfl)
          refine at_k (nI 0) dX1_takeBlock_31 rfl (by decide) ?_
          exact go 0 (if_neg c2).symm
        · have c2 : k = 0 := (nI_eq32 (b := 0) (by omega) (by decide)).mp (Classical.not_not.mp c1)
          refine at_ld (i := 2) dX1_takeBlock_27 rfl rfl rfl ?_
          refine at_goto 32 dX1_takeBlock_28 (by decide) ?_
          exact go p (if_pos c2).symm
  exact loop (v 0) 0 none (by omega) (bnr_e v a p)
set_option maxRecDepth 100000 in
theorem k_takeRun (hF : FM g m l v b) (hb : mbq (fr v) b) (w : wfg v) (a n : Nat) (ha : a < v 0) (hn1 : 1 ≤ n) (hn : n < 4) (hr : ∀ x, rnr v a n = some x → x < 128 ∧ x % 4 + n ≤ 4) : sg_Kw MX1_takeRun [.ref m, .int (nI a), .int (nI n)] g (some (.int (oI (rnr v a n)))) (match rnr v a n with | some x => sg_up g (m + 1) (.inl (false, 32, bput b x n false)) | none => g) := by
  have hm1 := hF.2.2.2.1
  have hl1 := hF.2.2.2.2.1
  have h4 := w.1.2
  have h81 := w.2.1.1
  have hgb := wf_gb w
  show sg_A MX1_takeRun 0 [some (.ref m), some (.int (nI a)), some (.int (nI n)), none, none, none, none] [] _ _
  refine at_k (nI 0) dX1_takeRun_0 rfl (by decide) ?_
  refine at_st (i := 3) dX1_takeRun_1 rfl rfl (Nat.le_of_ble_eq_true rfl) rfl ?_
  try dsimp only [List.set_cons_succ, List.set_cons_zero]
  have loop : ∀ f k y4 y5 y6, k + f = v 0 → rnr v a n = srch (fun i => rin v (bh v a i) n) k (v 0 - k) → sg_A MX1_takeRun 2 [some (.ref m), some (.int (nI a)), some (.int (nI n)), some (.int (nI k)), y4, y5, y6] [] g (fun r h' => r = some (.int (oI (rnr v a n))) ∧ h' = (match rnr v a n with | some x => sg_up g (m + 1) (.inl (false, 32, bput b x n false)) | none => g)) := by
    intro f
    induction f with
    | zero =>
      intro k y4 y5 y6 hk e
      have : k = v 0 := by omega
      subst this
      rw [sr_0] at e
      rw [e]
      refine at_ld (i := 3) dX1_takeRun_2 rfl rfl rfl ?_
      refine at_ld (i := 0) dX1_takeRun_3 rfl rfl rfl ?_
      refine at_get dX1_takeRun_4 fX1_15 hF.1 (by omega) rfl ?_
      refine at_get dX1_takeRun_7 fX1_48 hF.2.1 (by omega) rfl ?_
      refine at_ige 91 dX1_takeRun_10 (by decide) (fun c => ?_) (fun c => ?_)
      · refine at_k (-4) dX1_takeRun_91 rfl (by decide) ?_
        refine at_ret dX1_takeRun_93 rfl rfl ?_
        exact ⟨rfl, rfl⟩
      · exact absurd (nI_le (Nat.le_refl _) (by omega)) c
    | succ f ih =>
      intro k y4 y5 y6 hk e
      have hbl := bh_lt w a k
      have go : ∀ o y6, o = rin v (bh v a k) n → (∀ x, o = some x → x < 2 ^ 31) → sg_A MX1_takeRun 67 [some (.ref m), some (.int (nI a)), some (.int (nI n)), some (.int (nI k)), some (.int (nI (bh v a k))), some (.int (oI o)), y6] [] g (fun r h' => r = some (.int (oI (rnr v a n))) ∧ h' = (match rnr v a n with | some x => sg_up g (m + 1) (.inl (false, 32, bput b x n false)) | none => g)) := by
        intro o y6 ho hlt
        refine at_ld (i := 5) dX1_takeRun_67 rfl rfl rfl ?_
        refine at_k (-4) dX1_takeRun_69 rfl (by decide) ?_
        cases o with
        | none =>
          refine at_ieq 85 dX1_takeRun_71 (by decide) (fun c => ?_) (fun c => ?_)
          · refine at_iinc (nI 1) dX1_takeRun_85 rfl rfl (by decide) ?_
            try dsimp only [List.set_cons_succ, List.set_cons_zero]
            refine at_goto 2 dX1_takeRun_88 (by decide) ?_
            rw [nI_add]
            refine ih (k + 1) _ _ _ (by omega) ?_
            rw [e, sr_n (f := fun i => rin v (bh v a i) n) (by omega) ho.symm]
          · exact absurd rfl c
        | some x =>
          have hlt := hlt x rfl
          rw [e, sr_s (f := fun i => rin v (bh v a i) n) (by omega) ho.symm] at hr
          obtain ⟨hx1, hx2⟩ := hr x rfl
          refine at_ieq 85 dX1_takeRun_71 (by decide) (fun c => ?_) (fun c => ?_)
          · exact absurd c (oI_n (by omega))
          · rw [show oI (some x) = nI x from rfl]
            refine at_ld (i := 0) dX1_takeRun_74 rfl rfl rfl ?_
            refine at_ld (i := 5) dX1_takeRun_75 rfl rfl rfl ?_
            refine at_ld (i := 2) dX1_takeRun_77 rfl rfl rfl ?_
            refine at_k (nI 0) dX1_takeRun_78 rfl (by decide) ?_
            refine at_wv [_, _, _] dX1_takeRun_79 mX1_put ⟨Nat.le_of_ble_eq_true rfl, Nat.le_of_ble_eq_true rfl⟩ lX1_68 iX1_put rfl rfl hF.1 (by omega) rfl (Nat.le_of_ble_eq_true rfl) (Nat.le_of_ble_eq_true rfl) ⟨rfl, rfl⟩ (k_put hF x n false hx1 hx2) ⟨rfl, rfl⟩ ?_
            try dsimp only [Option.toList, List.cons_append, List.nil_append]
            refine at_ld (i := 5) dX1_takeRun_82 rfl rfl rfl ?_
            refine at_ret dX1_takeRun_84 rfl rfl ?_
            rw [e, sr_s (f := fun i => rin v (bh v a i) n) (by omega) ho.symm]
            exact ⟨rfl, rfl⟩
      refine at_ld (i := 3) dX1_takeRun_2 rfl rfl rfl ?_
      refine at_ld (i := 0) dX1_takeRun_3 rfl rfl rfl ?_
      refine at_get dX1_takeRun_4 fX1_15 hF.1 (by omega) rfl ?_
      refine at_get dX1_takeRun_7 fX1_48 hF.2.1 (by omega) rfl ?_
      refine at_ige 91 dX1_takeRun_10 (by decide) (fun c => ?_) (fun c => ?_)
      · exact absurd c (nI_ge (by omega) (by omega))
      · refine at_ld (i := 0) dX1_takeRun_13 rfl rfl rfl ?_
        refine at_get dX1_takeRun_14 fX1_15 hF.1 (by omega) rfl ?_
        refine at_ld (i := 1) dX1_takeRun_17 rfl rfl rfl ?_
        refine at_ld (i := 3) dX1_takeRun_18 rfl rfl rfl ?_
        refine at_rv [_, _] dX1_takeRun_19 mX3_behind ⟨Nat.le_of_ble_eq_true rfl, Nat.le_of_ble_eq_true rfl⟩ lX1_61 iX3_behind rfl rfl hF.2.1 (by omega) rfl (Nat.le_of_ble_eq_true rfl) (Nat.le_of_ble_eq_true rfl) ⟨rfl, rfl⟩ (k_behind hF.2.1 hl1 w a k ha (by omega)) ?_
        refine at_st (i := 4) dX1_takeRun_22 rfl rfl (Nat.le_of_ble_eq_true rfl) rfl ?_
        try dsimp only [List.set_cons_succ, List.set_cons_zero]
        refine at_ld (i := 0) dX1_takeRun_24 rfl rfl rfl ?_
        refine at_ld (i := 4) dX1_takeRun_25 rfl rfl rfl ?_
        refine at_ld (i := 2) dX1_takeRun_27 rfl rfl rfl ?_
        refine at_rv [_, _] dX1_takeRun_28 mX1_shortestRunIn ⟨Nat.le_of_ble_eq_true rfl, Nat.le_of_ble_eq_true rfl⟩ lX1_72 iX1_shortestRunIn rfl rfl hF.1 (by omega) rfl (Nat.le_of_ble_eq_true rfl) (Nat.le_of_ble_eq_true rfl) ⟨rfl, rfl⟩ (k_shortestRunIn hF hb w (bh v a k) n hbl (by omega)) ?_
        refine at_st (i := 5) dX1_takeRun_31 rfl rfl (Nat.le_of_ble_eq_true rfl) rfl ?_
        try dsimp only [List.set_cons_succ, List.set_cons_zero]
        refine at_ld (i := 5) dX1_takeRun_33 rfl rfl rfl ?_
        refine at_k (-4) dX1_takeRun_35 rfl (by decide) ?_
        have hre := rin_e v (bh v a k) n
        cases q : shr1 v (bh v a k) n with
        | some x =>
          rw [q] at hre
          obtain ⟨j, hj1, hj2, -, -⟩ := shr1_lt q
          have hxl : x < 2 ^ 31 := by
            have := gb_lt hbl (show v 1 - 1 < v 1 by omega)
            rw [hj2, Nat.mul_assoc]
            omega
          refine at_ine 67 dX1_takeRun_37 (by decide) (fun c1 => ?_) (fun c1 => ?_)
          · exact go (some x) y6 hre.symm (fun y hy => by cases hy; exact hxl)
          · exact absurd (Classical.not_not.mp c1) (oI_n hxl)
        | none =>
          rw [q] at hre
          refine at_ine 67 dX1_takeRun_37 (by decide) (fun c1 => ?_) (fun c1 => ?_)
          · exact absurd rfl c1
          · refine at_ld (i := 0) dX1_takeRun_40 rfl rfl rfl ?_
            refine at_ld (i := 4) dX1_takeRun_41 rfl rfl rfl ?_
            refine at_k (nI 0) dX1_takeRun_43 rfl (by decide) ?_
            refine at_rv [_, _] dX1_takeRun_44 mX1_freeBlockIn ⟨Nat.le_of_ble_eq_true rfl, Nat.le_of_ble_eq_true rfl⟩ lX1_65 iX1_freeBlockIn rfl rfl hF.1 (by omega) rfl (Nat.le_of_ble_eq_true rfl) (Nat.le_of_ble_eq_true rfl) ⟨rfl, rfl⟩ (k_freeBlockIn hF hb w (bh v a k) 0 hbl (by omega)) ?_
            refine at_st (i := 6) dX1_takeRun_47 rfl rfl (Nat.le_of_ble_eq_true rfl) rfl ?_
            try dsimp only [List.set_cons_succ, List.set_cons_zero]
            refine at_ld (i := 6) dX1_takeRun_49 rfl rfl rfl ?_
            refine at_k (-4) dX1_takeRun_51 rfl (by decide) ?_
            cases q2 : fbi v (bh v a k) 0 with
            | none =>
              rw [q2] at hre
              refine at_ine 61 dX1_takeRun_53 (by decide) (fun c2 => ?_) (fun c2 => ?_)
              · exact absurd rfl c2
              · refine at_k (-4) dX1_takeRun_56 rfl (by decide) ?_
                refine at_goto 65 dX1_takeRun_58 (by decide) ?_
                refine at_st (i := 5) dX1_takeRun_65 rfl rfl (Nat.le_of_ble_eq_true rfl) rfl ?_
                try dsimp only [List.set_cons_succ, List.set_cons_zero]
                exact go none _ hre.symm (fun y hy => by cases hy)
            | some y =>
              rw [q2] at hre
              have hy := fbi_lt w hbl q2
              refine at_ine 61 dX1_takeRun_53 (by decide) (fun c2 => ?_) (fun c2 => ?_)
              · refine at_ld (i := 6) dX1_takeRun_61 rfl rfl rfl ?_
                refine at_k (nI 4) dX1_takeRun_63 rfl (by decide) ?_
                refine at_bin dX1_takeRun_64 rfl ?_
                try dsimp only
                rw [show oI (some y) = nI y from rfl, nI_mul, Nat.mul_comm y 4]
                refine at_st (i := 5) dX1_takeRun_65 rfl rfl (Nat.le_of_ble_eq_true rfl) rfl ?_
                try dsimp only [List.set_cons_succ, List.set_cons_zero]
                exact go (some (4 * y)) _ hre.symm (fun z hz => by cases hz; omega)
              · exact absurd (Classical.not_not.mp c2) (oI_n (by omega))
  exact loop (v 0) 0 none none none (by omega) rfl
end C4
