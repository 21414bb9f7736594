/-! THE CLASS: Inodes, searches -/
theorem anyB_t {p : Nat → Bool} : ∀ n k, k < n → p k = true → anyB p n = true := by
  intro n
  induction n with
  | zero => intro k h; omega
  | succ n ih =>
    intro k h hp
    simp only [anyB]
    by_cases e : k = n
    · rw [← e, hp, Bool.or_true]
    · rw [ih k (by omega) hp, Bool.true_or]
theorem anyB_f {p : Nat → Bool} : ∀ n, (∀ k, k < n → p k = false) → anyB p n = false := by
  intro n
  induction n with
  | zero => intro _; rfl
  | succ n ih => intro h; simp only [anyB]; rw [ih (fun k hk => h k (by omega)), h n (by omega)]; rfl
theorem anyB_ex {p : Nat → Bool} : ∀ n, anyB p n = true → ∃ k, k < n ∧ p k = true := by
  intro n
  induction n with
  | zero => intro h; cases h
  | succ n ih =>
    intro h
    simp only [anyB, Bool.or_eq_true] at h
    rcases h with h | h
    · obtain ⟨k, a, b⟩ := ih h
      exact ⟨k, by omega, b⟩
    · exact ⟨n, by omega, h⟩
/-- how far below -/
def dpB (v : Nat → Nat) (i : Nat) : Nat → Nat → Option Nat
  | 0, up => if up = i then some 0 else none
  | n + 1, up => if up = i then some 0 else (dpB v i n (io v up 1)).map (fun k => k + 1)
theorem dpB_w (v : Nat → Nat) (i : Nat) : ∀ n up, (dpB v i n up).isSome = wth v i n up := by
  intro n
  induction n with
  | zero =>
    intro up
    simp only [dpB, wth]
    by_cases e : up = i
    · rw [if_pos e, decide_eq_true e]; rfl
    · rw [if_neg e, decide_eq_false e]; rfl
  | succ n ih =>
    intro up
    simp only [dpB, wth]
    by_cases e : up = i
    · rw [if_pos e, decide_eq_true e, Bool.true_or]; rfl
    · rw [if_neg e, decide_eq_false e, Bool.false_or, ← ih]
      cases dpB v i n (io v up 1) <;> rfl
theorem dpB_0 (v : Nat → Nat) : ∀ n k, chn v n k → dpB v 0 n k = some n := by
  intro n
  induction n with
  | zero => intro k h; simp only [dpB]; rw [if_pos (show k = 0 from h)]
  | succ n ih =>
    intro k h
    simp only [dpB]
    rw [if_neg h.1, ih _ h.2.2.2]
    rfl
theorem dpB_le (v : Nat → Nat) (i : Nat) : ∀ n k x, dpB v i n k = some x → x ≤ n := by
  intro n
  induction n with
  | zero => intro k x h; simp only [dpB] at h; split at h <;> cases h; exact Nat.le_refl _
  | succ n ih =>
    intro k x h
    simp only [dpB] at h
    split at h
    · cases h; exact Nat.zero_le _
    · cases e : dpB v i n (io v k 1) with
      | none => rw [e] at h; cases h
      | some y => rw [e] at h; cases h; have := ih _ _ e; show y + 1 ≤ n + 1; omega
section C7
variable {g : sg_H} {p l : Nat} {v : Nat → Nat} {K : Nat → Nat → Int32}
set_option maxRecDepth 100000 in
theorem k_named (hI : IN g p l v K) (hR : iR v K) (w : wf v) (wp : wfp v) (h0 : io v 0 1 = 4294967292) (d nm : Nat) (hd : d < 2 ^ 31) (hnm : nm < 2 ^ 32) : sg_Kr MX2_named [.ref p, .int (nI d), .int (nI nm)] g (.int (oI (ino v d nm))) := by
  have hp := hI.2.2.2.2.2.2.2.2
  have hgi := wf_gi w.1
  have hg1 := gb_ge w.1.1.1 w.1.2.2.1.1
  show sg_A MX2_named 0 [some (.ref p), some (.int (nI d)), some (.int (nI nm)), none] [] _ _
  refine at_k (nI 0) dX2_named_0 rfl (by decide) ?_
  refine at_st (i := 3) dX2_named_1 rfl rfl (Nat.le_of_ble_eq_true rfl) rfl ?_
  try dsimp only [List.set_cons_succ, List.set_cons_zero]
  have loop : ∀ f k, k + f = v 0 * v 2 → (1 ≤ k → ino v d nm = srch (fun i => if io v i 0 ≠ 0 ∧ io v i 1 = d ∧ io v i 2 = nm then some i else none) k (v 0 * v 2 - k)) → sg_A MX2_named 2 [some (.ref p), some (.int (nI d)), some (.int (nI nm)), some (.int (nI k))] [] g (fun r h' => r = some (.int (oI (ino v d nm))) ∧ h' = g) := by
    intro f
    induction f with
    | zero =>
      intro k hk e
      have : k = v 0 * v 2 := by omega
      subst this
      have e := e hg1
      rw [sr_0] at e
      rw [e]
      refine at_ld (i := 3) dX2_named_2 rfl rfl rfl ?_
      refine at_ld (i := 0) dX2_named_3 rfl rfl rfl ?_
      refine at_get dX2_named_4 fX2_30 hI.1 (by omega) rfl ?_
      refine at_rv [] dX2_named_7 mX3_allInodes ⟨Nat.le_of_ble_eq_true rfl, Nat.le_of_ble_eq_true rfl⟩ lX2_51 iX3_allInodes rfl rfl hI.2.1 (by omega) rfl (Nat.le_of_ble_eq_true rfl) (Nat.le_of_ble_eq_true rfl) ⟨rfl, rfl⟩ (k_allInodes hI.2.1 (by omega)) ?_
      refine at_ige 47 dX2_named_10 (by decide) (fun c => ?_) (fun c => ?_)
      · refine at_k (-4) dX2_named_47 rfl (by decide) ?_
        refine at_ret dX2_named_49 rfl rfl ?_
        exact ⟨rfl, rfl⟩
      · exact absurd (nI_le (Nat.le_refl _) (by omega)) c
    | succ f ih =>
      intro k hk e
      have hkd := wf_k w k (by omega)
      obtain ⟨w1, w2⟩ := wp k (by omega)
      have no : ¬ (io v k 0 ≠ 0 ∧ io v k 1 = d ∧ io v k 2 = nm) → sg_A MX2_named 41 [some (.ref p), some (.int (nI d)), some (.int (nI nm)), some (.int (nI k))] [] g (fun r h' => r = some (.int (oI (ino v d nm))) ∧ h' = g) := by
        intro hno
        refine at_iinc (nI 1) dX2_named_41 rfl rfl (by decide) ?_
        try dsimp only [List.set_cons_succ, List.set_cons_zero]
        refine at_goto 2 dX2_named_44 (by decide) ?_
        rw [nI_add]
        refine ih (k + 1) (by omega) (fun _ => ?_)
        rcases Nat.eq_zero_or_pos k with z | z
        · subst z; rfl
        · rw [e z, sr_n (by omega) (if_neg hno)]
      refine at_ld (i := 3) dX2_named_2 rfl rfl rfl ?_
      refine at_ld (i := 0) dX2_named_3 rfl rfl rfl ?_
      refine at_get dX2_named_4 fX2_30 hI.1 (by omega) rfl ?_
      refine at_rv [] dX2_named_7 mX3_allInodes ⟨Nat.le_of_ble_eq_true rfl, Nat.le_of_ble_eq_true rfl⟩ lX2_51 iX3_allInodes rfl rfl hI.2.1 (by omega) rfl (Nat.le_of_ble_eq_true rfl) (Nat.le_of_ble_eq_true rfl) ⟨rfl, rfl⟩ (k_allInodes hI.2.1 (by omega)) ?_
      refine at_ige 47 dX2_named_10 (by decide) (fun c => ?_) (fun c => ?_)
      · exact absurd c (nI_ge (by omega) (by omega))
      · refine at_ld (i := 0) dX2_named_13 rfl rfl rfl ?_
        refine at_ld (i := 3) dX2_named_14 rfl rfl rfl ?_
        refine at_rv [_] dX2_named_15 mX2_kindOf ⟨Nat.le_of_ble_eq_true rfl, Nat.le_of_ble_eq_true rfl⟩ lX2_61 iX2_kindOf rfl rfl hI.1 (by omega) rfl (Nat.le_of_ble_eq_true rfl) (Nat.le_of_ble_eq_true rfl) ⟨rfl, rfl⟩ (k_kindOf hI hR k (by omega)) ?_
        refine at_zeq 41 dX2_named_18 (by decide) (fun c1 => ?_) (fun c1 => ?_)
        · have c2 : io v k 0 = 0 := (nI_eq32 (b := 0) (by omega) (by decide)).mp c1
          exact no (fun z => z.1 c2)
        · have c2 : io v k 0 ≠ 0 := fun z => c1 (by rw [z]; rfl)
          refine at_ld (i := 0) dX2_named_21 rfl rfl rfl ?_
          refine at_ld (i := 3) dX2_named_22 rfl rfl rfl ?_
          refine at_rv [_] dX2_named_23 mX2_parentOf ⟨Nat.le_of_ble_eq_true rfl, Nat.le_of_ble_eq_true rfl⟩ lX2_71 iX2_parentOf rfl rfl hI.1 (by omega) rfl (Nat.le_of_ble_eq_true rfl) (Nat.le_of_ble_eq_true rfl) ⟨rfl, rfl⟩ (k_parentOf hI hR k (by omega) c2) ?_
          refine at_ld (i := 1) dX2_named_26 rfl rfl rfl ?_
          refine at_ine 41 dX2_named_27 (by decide) (fun c3 => ?_) (fun c3 => ?_)
          · exact no (fun z => c3 (by rw [z.2.1]))
          · have c4 : io v k 1 = d := (nI_eq32 w1 (by omega)).mp (Classical.not_not.mp c3)
            refine at_ld (i := 0) dX2_named_30 rfl rfl rfl ?_
            refine at_ld (i := 3) dX2_named_31 rfl rfl rfl ?_
            refine at_rv [_] dX2_named_32 mX2_nameOf ⟨Nat.le_of_ble_eq_true rfl, Nat.le_of_ble_eq_true rfl⟩ lX2_74 iX2_nameOf rfl rfl hI.1 (by omega) rfl (Nat.le_of_ble_eq_true rfl) (Nat.le_of_ble_eq_true rfl) ⟨rfl, rfl⟩ (k_nameOf hI hR k (by omega) c2) ?_
            refine at_ld (i := 2) dX2_named_35 rfl rfl rfl ?_
            refine at_ine 41 dX2_named_36 (by decide) (fun c5 => ?_) (fun c5 => ?_)
            · exact no (fun z => c5 (by rw [z.2.2]))
            · have c6 : io v k 2 = nm := (nI_eq32 w2 hnm).mp (Classical.not_not.mp c5)
              have hk1 : 1 ≤ k := by
                rcases Nat.eq_zero_or_pos k with z | z
                · rw [z, h0] at c4; omega
                · exact z
              refine at_ld (i := 3) dX2_named_39 rfl rfl rfl ?_
              refine at_ret dX2_named_40 rfl rfl ?_
              rw [e hk1, sr_s (by omega) (if_pos ⟨c2, c4, c6⟩)]
              exact ⟨rfl, rfl⟩
  exact loop (v 0 * v 2) 0 (by omega) (fun z => by omega)
set_option maxRecDepth 100000 in
theorem k_hasOthers (hI : IN g p l v K) (hR : iR v K) (w : wf v) (wp : wfp v) (h0 : io v 0 1 = 4294967292) (d : Nat) (hd : d < 2 ^ 31) : sg_Kr MX2_hasOthers [.ref p, .int (nI d)] g (.int (bI (hso v d))) := by
  have hp := hI.2.2.2.2.2.2.2.2
  have hgi := wf_gi w.1
  show sg_A MX2_hasOthers 0 [some (.ref p), some (.int (nI d)), none] [] _ _
  refine at_k (nI 0) dX2_hasOthers_0 rfl (by decide) ?_
  refine at_st (i := 2) dX2_hasOthers_1 rfl rfl (Nat.le_of_ble_eq_true rfl) rfl ?_
  try dsimp only [List.set_cons_succ, List.set_cons_zero]
  have loop : ∀ f k, k + f = v 0 * v 2 → (∀ j, j < k → decide (1 ≤ j ∧ io v j 0 ≠ 0 ∧ io v j 1 = d) = false) → sg_A MX2_hasOthers 2 [some (.ref p), some (.int (nI d)), some (.int (nI k))] [] g (fun r h' => r = some (.int (bI (hso v d))) ∧ h' = g) := by
    intro f
    induction f with
    | zero =>
      intro k hk e
      have : k = v 0 * v 2 := by omega
      subst this
      refine at_ld (i := 2) dX2_hasOthers_2 rfl rfl rfl ?_
      refine at_ld (i := 0) dX2_hasOthers_3 rfl rfl rfl ?_
      refine at_get dX2_hasOthers_4 fX2_30 hI.1 (by omega) rfl ?_
      refine at_rv [] dX2_hasOthers_7 mX3_allInodes ⟨Nat.le_of_ble_eq_true rfl, Nat.le_of_ble_eq_true rfl⟩ lX2_51 iX3_allInodes rfl rfl hI.2.1 (by omega) rfl (Nat.le_of_ble_eq_true rfl) (Nat.le_of_ble_eq_true rfl) ⟨rfl, rfl⟩ (k_allInodes hI.2.1 (by omega)) ?_
      refine at_ige 38 dX2_hasOthers_10 (by decide) (fun c => ?_) (fun c => ?_)
      · refine at_k (nI 0) dX2_hasOthers_38 rfl (by decide) ?_
        refine at_ret dX2_hasOthers_39 rfl rfl ?_
        rw [hso, anyB_f _ e]
        exact ⟨rfl, rfl⟩
      · exact absurd (nI_le (Nat.le_refl _) (by omega)) c
    | succ f ih =>
      intro k hk e
      have hkd := wf_k w k (by omega)
      obtain ⟨w1, w2⟩ := wp k (by omega)
      have no : ¬ (1 ≤ k ∧ io v k 0 ≠ 0 ∧ io v k 1 = d) → sg_A MX2_hasOthers 32 [some (.ref p), some (.int (nI d)), some (.int (nI k))] [] g (fun r h' => r = some (.int (bI (hso v d))) ∧ h' = g) := by
        intro hno
        refine at_iinc (nI 1) dX2_hasOthers_32 rfl rfl (by decide) ?_
        try dsimp only [List.set_cons_succ, List.set_cons_zero]
        refine at_goto 2 dX2_hasOthers_35 (by decide) ?_
        rw [nI_add]
        refine ih (k + 1) (by omega) (fun j hj => ?_)
        by_cases z : j = k
        · rw [z]; exact decide_eq_false hno
        · exact e j (by omega)
      refine at_ld (i := 2) dX2_hasOthers_2 rfl rfl rfl ?_
      refine at_ld (i := 0) dX2_hasOthers_3 rfl rfl rfl ?_
      refine at_get dX2_hasOthers_4 fX2_30 hI.1 (by omega) rfl ?_
      refine at_rv [] dX2_hasOthers_7 mX3_allInodes ⟨Nat.le_of_ble_eq_true rfl, Nat.le_of_ble_eq_true rfl⟩ lX2_51 iX3_allInodes rfl rfl hI.2.1 (by omega) rfl (Nat.le_of_ble_eq_true rfl) (Nat.le_of_ble_eq_true rfl) ⟨rfl, rfl⟩ (k_allInodes hI.2.1 (by omega)) ?_
      refine at_ige 38 dX2_hasOthers_10 (by decide) (fun c => ?_) (fun c => ?_)
      · exact absurd c (nI_ge (by omega) (by omega))
      · refine at_ld (i := 0) dX2_hasOthers_13 rfl rfl rfl ?_
        refine at_ld (i := 2) dX2_hasOthers_14 rfl rfl rfl ?_
        refine at_rv [_] dX2_hasOthers_15 mX2_kindOf ⟨Nat.le_of_ble_eq_true rfl, Nat.le_of_ble_eq_true rfl⟩ lX2_61 iX2_kindOf rfl rfl hI.1 (by omega) rfl (Nat.le_of_ble_eq_true rfl) (Nat.le_of_ble_eq_true rfl) ⟨rfl, rfl⟩ (k_kindOf hI hR k (by omega)) ?_
        refine at_zeq 32 dX2_hasOthers_18 (by decide) (fun c1 => ?_) (fun c1 => ?_)
        · have c2 : io v k 0 = 0 := (nI_eq32 (b := 0) (by omega) (by decide)).mp c1
          exact no (fun z => z.2.1 c2)
        · have c2 : io v k 0 ≠ 0 := fun z => c1 (by rw [z]; rfl)
          refine at_ld (i := 0) dX2_hasOthers_21 rfl rfl rfl ?_
          refine at_ld (i := 2) dX2_hasOthers_22 rfl rfl rfl ?_
          refine at_rv [_] dX2_hasOthers_23 mX2_parentOf ⟨Nat.le_of_ble_eq_true rfl, Nat.le_of_ble_eq_true rfl⟩ lX2_71 iX2_parentOf rfl rfl hI.1 (by omega) rfl (Nat.le_of_ble_eq_true rfl) (Nat.le_of_ble_eq_true rfl) ⟨rfl, rfl⟩ (k_parentOf hI hR k (by omega) c2) ?_
          refine at_ld (i := 1) dX2_hasOthers_26 rfl rfl rfl ?_
          refine at_ine 32 dX2_hasOthers_27 (by decide) (fun c3 => ?_) (fun c3 => ?_)
          · exact no (fun z => c3 (by rw [z.2.2]))
          · have c4 : io v k 1 = d := (nI_eq32 w1 (by omega)).mp (Classical.not_not.mp c3)
            have hk1 : 1 ≤ k := by
              rcases Nat.eq_zero_or_pos k with z | z
              · rw [z, h0] at c4; omega
              · exact z
            refine at_k (nI 1) dX2_hasOthers_30 rfl (by decide) ?_
            refine at_ret dX2_hasOthers_31 rfl rfl ?_
            rw [hso, anyB_t _ k (by omega) (decide_eq_true ⟨hk1, c2, c4⟩)]
            exact ⟨rfl, rfl⟩
  exact loop (v 0 * v 2) 0 (by omega) (fun j hj => by omega)
set_option maxRecDepth 100000 in
theorem k_depthBelow (hI : IN g p l v K) (hR : iR v K) (w : wf v) (h0 : io v 0 1 = 4294967292) (h00 : io v 0 0 ≠ 0) (i d n : Nat) (hi : i < 2 ^ 31) (hn : n < 24) (hc : chn v n d) : sg_Kr MX2_depthBelow [.ref p, .int (nI i), .int (nI d)] g (.int (oI (dpB v i n d))) := by
  have hp := hI.2.2.2.2.2.2.2.2
  have hgi := wf_gi w.1
  show sg_A MX2_depthBelow 0 [some (.ref p), some (.int (nI i)), some (.int (nI d)), none, none] [] _ _
  refine at_ld (i := 2) dX2_depthBelow_0 rfl rfl rfl ?_
  refine at_st (i := 3) dX2_depthBelow_1 rfl rfl (Nat.le_of_ble_eq_true rfl) rfl ?_
  try dsimp only [List.set_cons_succ, List.set_cons_zero]
  refine at_k (nI 0) dX2_depthBelow_2 rfl (by decide) ?_
  refine at_st (i := 4) dX2_depthBelow_3 rfl rfl (Nat.le_of_ble_eq_true rfl) rfl ?_
  try dsimp only [List.set_cons_succ, List.set_cons_zero]
  have loop : ∀ m up far, far + m = n → chn v m up → dpB v i n d = (dpB v i m up).map (fun k => far + k) → sg_A MX2_depthBelow 5 [some (.ref p), some (.int (nI i)), some (.int (nI d)), some (.int (nI up)), some (.int (nI far))] [] g (fun r h' => r = some (.int (oI (dpB v i n d))) ∧ h' = g) := by
    intro m
    induction m with
    | zero =>
      intro up far hf hc e
      have hup : up = 0 := hc
      subst hup
      simp only [dpB] at e
      refine at_ld (i := 4) dX2_depthBelow_5 rfl rfl rfl ?_
      refine at_k (nI 24) dX2_depthBelow_7 rfl (by decide) ?_
      refine at_ige 39 dX2_depthBelow_9 (by decide) (fun c => ?_) (fun c => ?_)
      · exact absurd c (nI_ge (by omega) (by decide))
      · refine at_ld (i := 3) dX2_depthBelow_12 rfl rfl rfl ?_
        refine at_ld (i := 1) dX2_depthBelow_13 rfl rfl rfl ?_
        refine at_ine 20 dX2_depthBelow_14 (by decide) (fun c1 => ?_) (fun c1 => ?_)
        · have c2 : ¬ 0 = i := fun z => c1 (by rw [z])
          rw [if_neg c2] at e
          rw [e]
          refine at_ld (i := 3) dX2_depthBelow_20 rfl rfl rfl ?_
          refine at_zge 27 dX2_depthBelow_21 (by decide) (fun c3 => ?_) (fun c3 => ?_)
          · refine at_ld (i := 0) dX2_depthBelow_27 rfl rfl rfl ?_
            refine at_ld (i := 3) dX2_depthBelow_28 rfl rfl rfl ?_
            refine at_rv [_] dX2_depthBelow_29 mX2_parentOf ⟨Nat.le_of_ble_eq_true rfl, Nat.le_of_ble_eq_true rfl⟩ lX2_71 iX2_parentOf rfl rfl hI.1 (by omega) rfl (Nat.le_of_ble_eq_true rfl) (Nat.le_of_ble_eq_true rfl) ⟨rfl, rfl⟩ (k_parentOf hI hR 0 (by decide) h00) ?_
            refine at_st (i := 3) dX2_depthBelow_32 rfl rfl (Nat.le_of_ble_eq_true rfl) rfl ?_
            try dsimp only [List.set_cons_succ, List.set_cons_zero]
            refine at_iinc (nI 1) dX2_depthBelow_33 rfl rfl (by decide) ?_
            try dsimp only [List.set_cons_succ, List.set_cons_zero]
            refine at_goto 5 dX2_depthBelow_36 (by decide) ?_
            rw [nI_add, h0]
            refine at_ld (i := 4) dX2_depthBelow_5 rfl rfl rfl ?_
            refine at_k (nI 24) dX2_depthBelow_7 rfl (by decide) ?_
            refine at_ige 39 dX2_depthBelow_9 (by decide) (fun c4 => ?_) (fun c4 => ?_)
            · refine at_k (-4) dX2_depthBelow_39 rfl (by decide) ?_
              refine at_ret dX2_depthBelow_41 rfl rfl ?_
              exact ⟨rfl, rfl⟩
            · refine at_ld (i := 3) dX2_depthBelow_12 rfl rfl rfl ?_
              refine at_ld (i := 1) dX2_depthBelow_13 rfl rfl rfl ?_
              refine at_ine 20 dX2_depthBelow_14 (by decide) (fun c5 => ?_) (fun c5 => ?_)
              · refine at_ld (i := 3) dX2_depthBelow_20 rfl rfl rfl ?_
                refine at_zge 27 dX2_depthBelow_21 (by decide) (fun c6 => ?_) (fun c6 => ?_)
                · exact absurd c6 (by decide)
                · refine at_k (-4) dX2_depthBelow_24 rfl (by decide) ?_
                  refine at_ret dX2_depthBelow_26 rfl rfl ?_
                  exact ⟨rfl, rfl⟩
              · have := (nI_eq32 (by decide) (by omega)).mp (Classical.not_not.mp c5)
                omega
          · exact absurd (nI_pos' (by decide)) c3
        · have c2 : 0 = i := (nI_eq32 (by omega) (by omega)).mp (Classical.not_not.mp c1)
          rw [if_pos c2] at e
          refine at_ld (i := 4) dX2_depthBelow_17 rfl rfl rfl ?_
          refine at_ret dX2_depthBelow_19 rfl rfl ?_
          rw [e]
          exact ⟨rfl, rfl⟩
    | succ m ih =>
      intro up far hf hc e
      obtain ⟨h1, h2, h3, h4⟩ := hc
      simp only [dpB] at e
      refine at_ld (i := 4) dX2_depthBelow_5 rfl rfl rfl ?_
      refine at_k (nI 24) dX2_depthBelow_7 rfl (by decide) ?_
      refine at_ige 39 dX2_depthBelow_9 (by decide) (fun c => ?_) (fun c => ?_)
      · exact absurd c (nI_ge (by omega) (by decide))
      · refine at_ld (i := 3) dX2_depthBelow_12 rfl rfl rfl ?_
        refine at_ld (i := 1) dX2_depthBelow_13 rfl rfl rfl ?_
        refine at_ine 20 dX2_depthBelow_14 (by decide) (fun c1 => ?_) (fun c1 => ?_)
        · have c2 : ¬ up = i := fun z => c1 (by rw [z])
          rw [if_neg c2] at e
          refine at_ld (i := 3) dX2_depthBelow_20 rfl rfl rfl ?_
          refine at_zge 27 dX2_depthBelow_21 (by decide) (fun c3 => ?_) (fun c3 => ?_)
          · refine at_ld (i := 0) dX2_depthBelow_27 rfl rfl rfl ?_
            refine at_ld (i := 3) dX2_depthBelow_28 rfl rfl rfl ?_
            refine at_rv [_] dX2_depthBelow_29 mX2_parentOf ⟨Nat.le_of_ble_eq_true rfl, Nat.le_of_ble_eq_true rfl⟩ lX2_71 iX2_parentOf rfl rfl hI.1 (by omega) rfl (Nat.le_of_ble_eq_true rfl) (Nat.le_of_ble_eq_true rfl) ⟨rfl, rfl⟩ (k_parentOf hI hR up (by omega) h3) ?_
            refine at_st (i := 3) dX2_depthBelow_32 rfl rfl (Nat.le_of_ble_eq_true rfl) rfl ?_
            try dsimp only [List.set_cons_succ, List.set_cons_zero]
            refine at_iinc (nI 1) dX2_depthBelow_33 rfl rfl (by decide) ?_
            try dsimp only [List.set_cons_succ, List.set_cons_zero]
            refine at_goto 5 dX2_depthBelow_36 (by decide) ?_
            rw [nI_add]
            refine ih (io v up 1) (far + 1) (by omega) h4 ?_
            rw [e, Option.map_map]
            congr 1
            funext k
            show far + (k + 1) = far + 1 + k
            omega
          · exact absurd (nI_pos' (by omega)) c3
        · have c2 : up = i := (nI_eq32 (by omega) (by omega)).mp (Classical.not_not.mp c1)
          rw [if_pos c2] at e
          refine at_ld (i := 4) dX2_depthBelow_17 rfl rfl rfl ?_
          refine at_ret dX2_depthBelow_19 rfl rfl ?_
          rw [e]
          exact ⟨rfl, rfl⟩
  refine loop n d 0 (by omega) hc ?_
  cases dpB v i n d with
  | none => rfl
  | some k => show some k = some (0 + k); rw [Nat.zero_add]
theorem hasF_sz (v : Nat → Nat) (i x : Nat) : hasF v i x = (decide (0 < sz v i % 4 ∧ io v i 4 ≤ x ∧ x < io v i 4 + sz v i % 4) || anyB (fun k => decide (x / 4 = io v i (5 + k))) (sz v i / 4)) := by
  unfold hasF hasT
  by_cases e : io v i 0 = 0
  · rw [show sz v i = 0 from if_pos e, decide_eq_false (fun z => z.1 e), decide_eq_false (fun z => z e), decide_eq_false (fun z => absurd z.1 (by decide))]
    rfl
  · rw [sz_t e, decide_eq_true e, Bool.true_and]
    congr 1
    congr 1
    exact propext ⟨fun z => z.2, fun z => ⟨e, z⟩⟩
set_option maxRecDepth 100000 in
theorem k_ownerOf (hI : IN g p l v K) (hR : iR v K) (w : wf v) (x : Nat) (hx : x < 128) : sg_Kr MX2_ownerOf [.ref p, .int (nI x)] g (.int (oI (own v x))) := by
  have hp := hI.2.2.2.2.2.2.2.2
  have hgi := wf_gi w.1
  show sg_A MX2_ownerOf 0 [some (.ref p), some (.int (nI x)), none, none] [] _ _
  refine at_k (nI 0) dX2_ownerOf_0 rfl (by decide) ?_
  refine at_st (i := 2) dX2_ownerOf_1 rfl rfl (Nat.le_of_ble_eq_true rfl) rfl ?_
  try dsimp only [List.set_cons_succ, List.set_cons_zero]
  have loop : ∀ f i y3, i + f = v 0 * v 2 → own v x = srch (fun i => if hasF v i x = true then some i else none) i (v 0 * v 2 - i) → sg_A MX2_ownerOf 2 [some (.ref p), some (.int (nI x)), some (.int (nI i)), y3] [] g (fun r h' => r = some (.int (oI (own v x))) ∧ h' = g) := by
    intro f
    induction f with
    | zero =>
      intro k y3 hk e
      have : k = v 0 * v 2 := by omega
      subst this
      rw [sr_0] at e
      rw [e]
      refine at_ld (i := 2) dX2_ownerOf_2 rfl rfl rfl ?_
      refine at_ld (i := 0) dX2_ownerOf_3 rfl rfl rfl ?_
      refine at_get dX2_ownerOf_4 fX2_30 hI.1 (by omega) rfl ?_
      refine at_rv [] dX2_ownerOf_7 mX3_allInodes ⟨Nat.le_of_ble_eq_true rfl, Nat.le_of_ble_eq_true rfl⟩ lX2_51 iX3_allInodes rfl rfl hI.2.1 (by omega) rfl (Nat.le_of_ble_eq_true rfl) (Nat.le_of_ble_eq_true rfl) ⟨rfl, rfl⟩ (k_allInodes hI.2.1 (by omega)) ?_
      refine at_ige 84 dX2_ownerOf_10 (by decide) (fun c => ?_) (fun c => ?_)
      · refine at_k (-4) dX2_ownerOf_84 rfl (by decide) ?_
        refine at_ret dX2_ownerOf_86 rfl rfl ?_
        exact ⟨rfl, rfl⟩
      · exact absurd (nI_le (Nat.le_refl _) (by omega)) c
    | succ f ih =>
      intro i y3 hk e
      have hs := sz_le w (i := i) (by omega)
      obtain ⟨-, -, w4, wb⟩ := w.2.2 i (by omega)
      have hF := hasF_sz v i x
      -- no tail of it
      have blks : ¬ (0 < sz v i % 4 ∧ io v i 4 ≤ x ∧ x < io v i 4 + sz v i % 4) → sg_A MX2_ownerOf 47 [some (.ref p), some (.int (nI x)), some (.int (nI i)), y3] [] g (fun r h' => r = some (.int (oI (own v x))) ∧ h' = g) := by
        intro hno
        rw [decide_eq_false hno, Bool.false_or] at hF
        refine at_k (nI 0) dX2_ownerOf_47 rfl (by decide) ?_
        refine at_st (i := 3) dX2_ownerOf_48 rfl rfl (Nat.le_of_ble_eq_true rfl) rfl ?_
        try dsimp only [List.set_cons_succ, List.set_cons_zero]
        have inner : ∀ f2 k, k + f2 = sz v i / 4 → (∀ j, j < k → decide (x / 4 = io v i (5 + j)) = false) → sg_A MX2_ownerOf 49 [some (.ref p), some (.int (nI x)), some (.int (nI i)), some (.int (nI k))] [] g (fun r h' => r = some (.int (oI (own v x))) ∧ h' = g) := by
          intro f2
          induction f2 with
          | zero =>
            intro k hk2 hall
            have : k = sz v i / 4 := by omega
            subst this
            rw [anyB_f _ hall] at hF
            refine at_ld (i := 3) dX2_ownerOf_49 rfl rfl rfl ?_
            refine at_ld (i := 0) dX2_ownerOf_50 rfl rfl rfl ?_
            refine at_ld (i := 2) dX2_ownerOf_51 rfl rfl rfl ?_
            refine at_rv [_] dX2_ownerOf_52 mX2_blocksOf ⟨Nat.le_of_ble_eq_true rfl, Nat.le_of_ble_eq_true rfl⟩ lX2_83 iX2_blocksOf rfl rfl hI.1 (by omega) rfl (Nat.le_of_ble_eq_true rfl) (Nat.le_of_ble_eq_true rfl) ⟨rfl, rfl⟩ (k_blocksOf hI hR w i (by omega)) ?_
            refine at_ige 78 dX2_ownerOf_55 (by decide) (fun c => ?_) (fun c => ?_)
            · refine at_iinc (nI 1) dX2_ownerOf_78 rfl rfl (by decide) ?_
              try dsimp only [List.set_cons_succ, List.set_cons_zero]
              refine at_goto 2 dX2_ownerOf_81 (by decide) ?_
              rw [nI_add]
              refine ih (i + 1) _ (by omega) ?_
              rw [e, sr_n (by omega) (if_neg (by rw [hF]; exact fun z => by cases z))]
            · exact absurd (nI_le (Nat.le_refl _) (by omega)) c
          | succ f2 ih2 =>
            intro k hk2 hall
            have hbl := wb k (by omega)
            refine at_ld (i := 3) dX2_ownerOf_49 rfl rfl rfl ?_
            refine at_ld (i := 0) dX2_ownerOf_50 rfl rfl rfl ?_
            refine at_ld (i := 2) dX2_ownerOf_51 rfl rfl rfl ?_
            refine at_rv [_] dX2_ownerOf_52 mX2_blocksOf ⟨Nat.le_of_ble_eq_true rfl, Nat.le_of_ble_eq_true rfl⟩ lX2_83 iX2_blocksOf rfl rfl hI.1 (by omega) rfl (Nat.le_of_ble_eq_true rfl) (Nat.le_of_ble_eq_true rfl) ⟨rfl, rfl⟩ (k_blocksOf hI hR w i (by omega)) ?_
            refine at_ige 78 dX2_ownerOf_55 (by decide) (fun c => ?_) (fun c => ?_)
            · exact absurd c (nI_ge (by omega) (by omega))
            · refine at_ld (i := 1) dX2_ownerOf_58 rfl rfl rfl ?_
              refine at_k (nI 4) dX2_ownerOf_59 rfl (by decide) ?_
              refine at_div dX2_ownerOf_60 (by decide) ?_
              rw [nI_div (by omega) (by decide)]
              refine at_ld (i := 0) dX2_ownerOf_61 rfl rfl rfl ?_
              refine at_ld (i := 2) dX2_ownerOf_62 rfl rfl rfl ?_
              refine at_ld (i := 3) dX2_ownerOf_63 rfl rfl rfl ?_
              refine at_rv [_, _] dX2_ownerOf_64 mX2_blockAt ⟨Nat.le_of_ble_eq_true rfl, Nat.le_of_ble_eq_true rfl⟩ lX2_86 iX2_blockAt rfl rfl hI.1 (by omega) rfl (Nat.le_of_ble_eq_true rfl) (Nat.le_of_ble_eq_true rfl) ⟨rfl, rfl⟩ (k_blockAt hI hR i k (by omega) (by omega) (by omega)) ?_
              refine at_ine 72 dX2_ownerOf_67 (by decide) (fun c1 => ?_) (fun c1 => ?_)
              · have c2 : ¬ x / 4 = io v i (5 + k) := fun z => c1 (by rw [z])
                refine at_iinc (nI 1) dX2_ownerOf_72 rfl rfl (by decide) ?_
                try dsimp only [List.set_cons_succ, List.set_cons_zero]
                refine at_goto 49 dX2_ownerOf_75 (by decide) ?_
                rw [nI_add]
                refine ih2 (k + 1) (by omega) (fun j hj => ?_)
                by_cases z : j = k
                · rw [z]; exact decide_eq_false c2
                · exact hall j (by omega)
              · have c2 : x / 4 = io v i (5 + k) := (nI_eq32 (by omega) (by omega)).mp (Classical.not_not.mp c1)
                rw [anyB_t _ k (by omega) (decide_eq_true c2)] at hF
                refine at_ld (i := 2) dX2_ownerOf_70 rfl rfl rfl ?_
                refine at_ret dX2_ownerOf_71 rfl rfl ?_
                rw [e, sr_s (by omega) (if_pos hF)]
                exact ⟨rfl, rfl⟩
        exact inner (sz v i / 4) 0 (by omega) (fun j hj => by omega)
      refine at_ld (i := 2) dX2_ownerOf_2 rfl rfl rfl ?_
      refine at_ld (i := 0) dX2_ownerOf_3 rfl rfl rfl ?_
      refine at_get dX2_ownerOf_4 fX2_30 hI.1 (by omega) rfl ?_
      refine at_rv [] dX2_ownerOf_7 mX3_allInodes ⟨Nat.le_of_ble_eq_true rfl, Nat.le_of_ble_eq_true rfl⟩ lX2_51 iX3_allInodes rfl rfl hI.2.1 (by omega) rfl (Nat.le_of_ble_eq_true rfl) (Nat.le_of_ble_eq_true rfl) ⟨rfl, rfl⟩ (k_allInodes hI.2.1 (by omega)) ?_
      refine at_ige 84 dX2_ownerOf_10 (by decide) (fun c => ?_) (fun c => ?_)
      · exact absurd c (nI_ge (by omega) (by omega))
      · refine at_ld (i := 0) dX2_ownerOf_13 rfl rfl rfl ?_
        refine at_ld (i := 2) dX2_ownerOf_14 rfl rfl rfl ?_
        refine at_rv [_] dX2_ownerOf_15 mX2_tailLengthOf ⟨Nat.le_of_ble_eq_true rfl, Nat.le_of_ble_eq_true rfl⟩ lX2_77 iX2_tailLengthOf rfl rfl hI.1 (by omega) rfl (Nat.le_of_ble_eq_true rfl) (Nat.le_of_ble_eq_true rfl) ⟨rfl, rfl⟩ (k_tailLengthOf hI hR w i (by omega)) ?_
        refine at_zle 47 dX2_ownerOf_18 (by decide) (fun c1 => ?_) (fun c1 => ?_)
        · refine blks (fun z => ?_)
          exact absurd c1 (nI_nle z.1 (by omega))
        · have c2 : 0 < sz v i % 4 := by
            rcases Nat.eq_zero_or_pos (sz v i % 4) with z | z
            · rw [z] at c1; exact absurd (by decide) c1
            · exact z
          have ht : tlI v i = nI (io v i 4) := if_neg (by omega)
          refine at_ld (i := 1) dX2_ownerOf_21 rfl rfl rfl ?_
          refine at_ld (i := 0) dX2_ownerOf_22 rfl rfl rfl ?_
          refine at_ld (i := 2) dX2_ownerOf_23 rfl rfl rfl ?_
          refine at_rv [_] dX2_ownerOf_24 mX2_tailOf ⟨Nat.le_of_ble_eq_true rfl, Nat.le_of_ble_eq_true rfl⟩ lX2_80 iX2_tailOf rfl rfl hI.1 (by omega) rfl (Nat.le_of_ble_eq_true rfl) (Nat.le_of_ble_eq_true rfl) ⟨rfl, rfl⟩ (k_tailOf hI hR i (by omega)) ?_
          rw [ht]
          refine at_ilt 47 dX2_ownerOf_27 (by decide) (fun c3 => ?_) (fun c3 => ?_)
          · have c4 := (nI_ltI (by omega) (by omega)).mp c3
            exact blks (by omega)
          · have c4 : io v i 4 ≤ x := by
              rcases Nat.lt_or_ge x (io v i 4) with z | z
              · exact absurd (nI_lt z (by omega)) c3
              · exact z
            refine at_ld (i := 1) dX2_ownerOf_30 rfl rfl rfl ?_
            refine at_ld (i := 0) dX2_ownerOf_31 rfl rfl rfl ?_
            refine at_ld (i := 2) dX2_ownerOf_32 rfl rfl rfl ?_
            refine at_rv [_] dX2_ownerOf_33 mX2_tailOf ⟨Nat.le_of_ble_eq_true rfl, Nat.le_of_ble_eq_true rfl⟩ lX2_80 iX2_tailOf rfl rfl hI.1 (by omega) rfl (Nat.le_of_ble_eq_true rfl) (Nat.le_of_ble_eq_true rfl) ⟨rfl, rfl⟩ (k_tailOf hI hR i (by omega)) ?_
            refine at_ld (i := 0) dX2_ownerOf_36 rfl rfl rfl ?_
            refine at_ld (i := 2) dX2_ownerOf_37 rfl rfl rfl ?_
            refine at_rv [_] dX2_ownerOf_38 mX2_tailLengthOf ⟨Nat.le_of_ble_eq_true rfl, Nat.le_of_ble_eq_true rfl⟩ lX2_77 iX2_tailLengthOf rfl rfl hI.1 (by omega) rfl (Nat.le_of_ble_eq_true rfl) (Nat.le_of_ble_eq_true rfl) ⟨rfl, rfl⟩ (k_tailLengthOf hI hR w i (by omega)) ?_
            refine at_bin dX2_ownerOf_41 rfl ?_
            try dsimp only
            rw [ht, nI_add]
            refine at_ige 47 dX2_ownerOf_42 (by decide) (fun c5 => ?_) (fun c5 => ?_)
            · have c6 := (nI_leI (by omega) (by omega)).mp c5
              exact blks (by omega)
            · have c6 : x < io v i 4 + sz v i % 4 := by
                rcases Nat.lt_or_ge x (io v i 4 + sz v i % 4) with z | z
                · exact z
                · exact absurd (nI_le z (by omega)) c5
              rw [decide_eq_true ⟨c2, c4, c6⟩, Bool.true_or] at hF
              refine at_ld (i := 2) dX2_ownerOf_45 rfl rfl rfl ?_
              refine at_ret dX2_ownerOf_46 rfl rfl ?_
              rw [e, sr_s (by omega) (if_pos hF)]
              exact ⟨rfl, rfl⟩
  exact loop (v 0 * v 2) 0 none (by omega) rfl
end C7
