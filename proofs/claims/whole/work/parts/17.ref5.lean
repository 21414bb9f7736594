/-! THE REFERENCE: runs near, groups for, owners -/
theorem oI_n {b : Nat} (h : b < 2 ^ 31) : ¬ nI b = -4 := fun e => by
  have e2 : nI b = nI 4294967292 := e.trans (by decide)
  have := (nI_eq32 (by omega) (by decide)).mp e2
  omega
theorem sr_ge {α : Type} {f : Nat → Option α} {x : α} : ∀ m k, srch f k m = some x → ∃ j, k ≤ j ∧ j < k + m ∧ f j = some x := by
  intro m
  induction m with
  | zero => intro k h; cases h
  | succ m ih =>
    intro k h
    simp only [srch] at h
    cases q : f k with
    | some y => rw [q] at h; cases h; exact ⟨k, Nat.le_refl _, by omega, q⟩
    | none =>
      rw [q] at h
      obtain ⟨j, h1, h2, h3⟩ := ih (k + 1) h
      exact ⟨j, by omega, by omega, h3⟩
def gfd (v : Nat → Nat) (all : Nat) : Nat → Option Nat
  | 0 => none
  | g + 1 => if 0 < nts v g ∧ all ≤ nts v g * v 0 ∧ (match gfd v all g with | none => true | some b => decide (dcs v g < dcs v b)) = true then some g else gfd v all g
theorem gfd_lt {v : Nat → Nat} {all : Nat} : ∀ k b, gfd v all k = some b → b < k := by
  intro k
  induction k with
  | zero => intro b h; cases h
  | succ k ih =>
    intro b h
    simp only [gfd] at h
    repeat' split at h
    all_goals first | (cases h; omega) | (have := ih b h; omega)
def gfr (v : Nat → Nat) (d kind : Nat) : Option Nat := if kind = 1 then gfd v (smN (nts v) (v 0)) (v 0) else gff v d
theorem nts_le (v : Nat → Nat) (g : Nat) : nts v g ≤ v 2 := cnt_le _ _
theorem dcs_le (v : Nat → Nat) (g : Nat) : dcs v g ≤ v 2 := cnt_le _ _
def anyB (p : Nat → Bool) : Nat → Bool
  | 0 => false
  | n + 1 => anyB p n || p n
def hasT (v : Nat → Nat) (i x : Nat) : Bool := decide (io v i 0 ≠ 0 ∧ 0 < io v i 3 % 4 ∧ io v i 4 ≤ x ∧ x < io v i 4 + io v i 3 % 4)
def hasF (v : Nat → Nat) (i x : Nat) : Bool := hasT v i x || (decide (io v i 0 ≠ 0) && anyB (fun k => decide (x / 4 = io v i (5 + k))) (io v i 3 / 4))
def own (v : Nat → Nat) (x : Nat) : Option Nat := srch (fun i => if hasF v i x = true then some i else none) 0 (v 0 * v 2)
theorem own_lt {v : Nat → Nat} {x i : Nat} (h : own v x = some i) : i < v 0 * v 2 := by
  obtain ⟨j, h1, h2, h3⟩ := sr_ge _ _ h
  split at h3
  · cases h3; omega
  · cases h3
def spt (v : Nat → Nat) : Bool := anyB (fun x => fr v x != (own v x).isNone) (4 * v 0 * v 1)
section R5
variable {h : sg_H} (A : Nat → Nat → Int32) (F : Nat → Int32) (v : Nat → Nat)
set_option maxRecDepth 100000 in
theorem c_runIn (hn : 72 ≤ h.1) (w : wfg v) (wm : wfm v) (g n : Nat) (hg : g < v 0) (hn4 : n ≤ 4) : sg_Kr MX8_runIn [.ref 64, .int (nI g), .int (nI n)] (mv h A F v) (.int (oI (rin v g n))) := by
  have hgb := wf_gb w
  have hb8 := w.2.1
  have hlt := gb_lt (B := v 1) hg (show v 1 - 1 < v 1 by omega)
  have e4 : 4 * v 1 * g = 4 * (v 1 * g) := Nat.mul_assoc _ _ _
  have e5 : v 1 * (g + 1) = v 1 * g + v 1 := Nat.mul_succ _ _
  show sg_A MX8_runIn 0 [some (.ref 64), some (.int (nI g)), some (.int (nI n)), none, none, none] [] _ _
  refine at_k (nI 4) dX8_runIn_0 rfl (by decide) ?_
  refine at_ld (i := 0) dX8_runIn_1 rfl rfl rfl ?_
  refine at_get dX8_runIn_2 fX8_7 (mv_o hn _ _ _) (by omega) rfl ?_
  refine at_k (nI 1) dX8_runIn_5 rfl (by decide) ?_
  refine at_ald 1 dX8_runIn_6 (mv_a hn _ _ _) rfl (by decide) (by decide) ?_
  refine at_bin dX8_runIn_7 rfl ?_
  try dsimp only
  rw [nI_mul]
  refine at_ld (i := 1) dX8_runIn_8 rfl rfl rfl ?_
  refine at_bin dX8_runIn_9 rfl ?_
  try dsimp only
  rw [nI_mul]
  refine at_st (i := 3) dX8_runIn_10 rfl rfl (Nat.le_of_ble_eq_true rfl) rfl ?_
  try dsimp only [List.set_cons_succ, List.set_cons_zero]
  refine at_ld (i := 2) dX8_runIn_11 rfl rfl rfl ?_
  refine at_st (i := 4) dX8_runIn_12 rfl rfl (Nat.le_of_ble_eq_true rfl) rfl ?_
  try dsimp only [List.set_cons_succ, List.set_cons_zero]
  have outer : ∀ x5 : Option Value, sg_A MX8_runIn 14 [some (.ref 64), some (.int (nI g)), some (.int (nI n)), some (.int (nI (4 * v 1 * g))), some (.int (nI n)), x5] [] (mv h A F v) (fun r h' => r = some (.int (oI (match srch (fun l => srch (fun k => if rn v (4 * v 1 * g + k) = l then some (4 * v 1 * g + k) else none) 0 (4 * v 1)) n (4 - n) with | some x => some x | none => srch (fun k => if fbk v (v 1 * g + k) = true then some (4 * (v 1 * g + k)) else none) 0 (v 1)))) ∧ h' = mv h A F v) := by
    refine lpF (fun l => ∀ x5 : Option Value, sg_A MX8_runIn 14 [some (.ref 64), some (.int (nI g)), some (.int (nI n)), some (.int (nI (4 * v 1 * g))), some (.int (nI l)), x5] [] (mv h A F v) (fun r h' => r = some (.int (oI (match srch (fun l => srch (fun k => if rn v (4 * v 1 * g + k) = l then some (4 * v 1 * g + k) else none) 0 (4 * v 1)) l (4 - l) with | some x => some x | none => srch (fun k => if fbk v (v 1 * g + k) = true then some (4 * (v 1 * g + k)) else none) 0 (v 1)))) ∧ h' = mv h A F v)) n 4 hn4 ?_ ?_
    · intro x5
      refine at_ld (i := 4) dX8_runIn_14 rfl rfl rfl ?_
      refine at_k (nI 4) dX8_runIn_16 rfl (by decide) ?_
      refine at_ige 64 dX8_runIn_17 (by decide) (fun c => ?_) (fun c => ?_)
      · refine at_ld (i := 0) dX8_runIn_64 rfl rfl rfl ?_
        refine at_get dX8_runIn_65 fX8_7 (mv_o hn _ _ _) (by omega) rfl ?_
        refine at_k (nI 1) dX8_runIn_68 rfl (by decide) ?_
        refine at_ald 1 dX8_runIn_69 (mv_a hn _ _ _) rfl (by decide) (by decide) ?_
        refine at_ld (i := 1) dX8_runIn_70 rfl rfl rfl ?_
        refine at_bin dX8_runIn_71 rfl ?_
        try dsimp only
        rw [nI_mul]
        refine at_st (i := 4) dX8_runIn_72 rfl rfl (Nat.le_of_ble_eq_true rfl) rfl ?_
        try dsimp only [List.set_cons_succ, List.set_cons_zero]
        refine lpN (fun k => sg_A MX8_runIn 74 [some (.ref 64), some (.int (nI g)), some (.int (nI n)), some (.int (nI (4 * v 1 * g))), some (.int (nI (v 1 * g + k))), x5] [] (mv h A F v) (fun r h' => r = some (.int (oI (srch (fun k => if fbk v (v 1 * g + k) = true then some (4 * (v 1 * g + k)) else none) k (v 1 - k)))) ∧ h' = mv h A F v)) (v 1) ?_ ?_
        · refine at_ld (i := 4) dX8_runIn_74 rfl rfl rfl ?_
          refine at_ld (i := 0) dX8_runIn_76 rfl rfl rfl ?_
          refine at_get dX8_runIn_77 fX8_7 (mv_o hn _ _ _) (by omega) rfl ?_
          refine at_k (nI 1) dX8_runIn_80 rfl (by decide) ?_
          refine at_ald 1 dX8_runIn_81 (mv_a hn _ _ _) rfl (by decide) (by decide) ?_
          refine at_ld (i := 1) dX8_runIn_82 rfl rfl rfl ?_
          refine at_k (nI 1) dX8_runIn_83 rfl (by decide) ?_
          refine at_bin dX8_runIn_84 rfl ?_
          try dsimp only
          rw [nI_add]
          refine at_bin dX8_runIn_85 rfl ?_
          try dsimp only
          rw [nI_mul]
          refine at_ige 109 dX8_runIn_86 (by decide) (fun c1 => ?_) (fun c1 => ?_)
          · refine at_k (-4) dX8_runIn_109 rfl (by decide) ?_
            refine at_ret dX8_runIn_111 rfl rfl ?_
            rw [sr_0]
            exact ⟨rfl, rfl⟩
          · exact absurd (nI_le (by omega) (by omega)) c1
        · intro k hk ih
          refine at_ld (i := 4) dX8_runIn_74 rfl rfl rfl ?_
          refine at_ld (i := 0) dX8_runIn_76 rfl rfl rfl ?_
          refine at_get dX8_runIn_77 fX8_7 (mv_o hn _ _ _) (by omega) rfl ?_
          refine at_k (nI 1) dX8_runIn_80 rfl (by decide) ?_
          refine at_ald 1 dX8_runIn_81 (mv_a hn _ _ _) rfl (by decide) (by decide) ?_
          refine at_ld (i := 1) dX8_runIn_82 rfl rfl rfl ?_
          refine at_k (nI 1) dX8_runIn_83 rfl (by decide) ?_
          refine at_bin dX8_runIn_84 rfl ?_
          try dsimp only
          rw [nI_add]
          refine at_bin dX8_runIn_85 rfl ?_
          try dsimp only
          rw [nI_mul]
          refine at_ige 109 dX8_runIn_86 (by decide) (fun c1 => ?_) (fun c1 => ?_)
          · exact absurd c1 (nI_ge (by omega) (by omega))
          · refine at_ld (i := 0) dX8_runIn_89 rfl rfl rfl ?_
            refine at_ld (i := 4) dX8_runIn_90 rfl rfl rfl ?_
            refine at_rv [_] dX8_runIn_92 mX8_isFreeBlock ⟨Nat.le_of_ble_eq_true rfl, Nat.le_of_ble_eq_true rfl⟩ lX8_149 iX8_isFreeBlock rfl rfl (mv_o hn _ _ _) (by omega) rfl (Nat.le_of_ble_eq_true rfl) (Nat.le_of_ble_eq_true rfl) ⟨rfl, rfl⟩ (c_isFreeBlock A F v hn (v 1 * g + k) (by omega) (fun j hj => wm _ (by omega))) ?_
            refine at_zeq 103 dX8_runIn_95 (by decide) (fun c2 => ?_) (fun c2 => ?_)
            · rw [bI_0] at c2
              rw [sr_n hk (if_neg (by rw [c2]; exact fun z => by cases z))]
              refine at_iinc (nI 1) dX8_runIn_103 rfl rfl (by decide) ?_
              try dsimp only [List.set_cons_succ, List.set_cons_zero]
              refine at_goto 74 dX8_runIn_106 (by decide) ?_
              rw [nI_add]
              exact ih
            · have c3 := bI_1 c2
              refine at_k (nI 4) dX8_runIn_98 rfl (by decide) ?_
              refine at_ld (i := 4) dX8_runIn_99 rfl rfl rfl ?_
              refine at_bin dX8_runIn_101 rfl ?_
              try dsimp only
              rw [nI_mul]
              refine at_ret dX8_runIn_102 rfl rfl ?_
              rw [sr_s hk (if_pos c3)]
              exact ⟨rfl, rfl⟩
      · exact absurd (nI_le (Nat.le_refl 4) (by omega)) c
    · intro l hl1 hl ih x5
      refine at_ld (i := 4) dX8_runIn_14 rfl rfl rfl ?_
      refine at_k (nI 4) dX8_runIn_16 rfl (by decide) ?_
      refine at_ige 64 dX8_runIn_17 (by decide) (fun c => ?_) (fun c => ?_)
      · exact absurd c (nI_ge hl (by omega))
      · refine at_ld (i := 3) dX8_runIn_20 rfl rfl rfl ?_
        refine at_st (i := 5) dX8_runIn_21 rfl rfl (Nat.le_of_ble_eq_true rfl) rfl ?_
        try dsimp only [List.set_cons_succ, List.set_cons_zero]
        refine lpN (fun k => (∀ x, srch (fun k => if rn v (4 * v 1 * g + k) = l then some (4 * v 1 * g + k) else none) 0 (4 * v 1) = x → srch (fun k => if rn v (4 * v 1 * g + k) = l then some (4 * v 1 * g + k) else none) k (4 * v 1 - k) = x) → sg_A MX8_runIn 23 [some (.ref 64), some (.int (nI g)), some (.int (nI n)), some (.int (nI (4 * v 1 * g))), some (.int (nI l)), some (.int (nI (4 * v 1 * g + k)))] [] (mv h A F v) (fun r h' => r = some (.int (oI (match srch (fun l => srch (fun k => if rn v (4 * v 1 * g + k) = l then some (4 * v 1 * g + k) else none) 0 (4 * v 1)) l (4 - l) with | some x => some x | none => srch (fun k => if fbk v (v 1 * g + k) = true then some (4 * (v 1 * g + k)) else none) 0 (v 1)))) ∧ h' = mv h A F v)) (4 * v 1) ?_ ?_ (fun x hx => hx)
        · intro hq
          have hq2 := hq _ rfl
          rw [sr_0] at hq2
          refine at_ld (i := 5) dX8_runIn_23 rfl rfl rfl ?_
          refine at_ld (i := 3) dX8_runIn_25 rfl rfl rfl ?_
          refine at_k (nI 4) dX8_runIn_26 rfl (by decide) ?_
          refine at_ld (i := 0) dX8_runIn_27 rfl rfl rfl ?_
          refine at_get dX8_runIn_28 fX8_7 (mv_o hn _ _ _) (by omega) rfl ?_
          refine at_k (nI 1) dX8_runIn_31 rfl (by decide) ?_
          refine at_ald 1 dX8_runIn_32 (mv_a hn _ _ _) rfl (by decide) (by decide) ?_
          refine at_bin dX8_runIn_33 rfl ?_
          try dsimp only
          rw [nI_mul]
          refine at_bin dX8_runIn_34 rfl ?_
          try dsimp only
          rw [nI_add]
          refine at_ige 58 dX8_runIn_35 (by decide) (fun c1 => ?_) (fun c1 => ?_)
          · rw [sr_n hl hq2.symm]
            refine at_iinc (nI 1) dX8_runIn_58 rfl rfl (by decide) ?_
            try dsimp only [List.set_cons_succ, List.set_cons_zero]
            refine at_goto 14 dX8_runIn_61 (by decide) ?_
            rw [nI_add]
            exact ih _
          · exact absurd (nI_le (Nat.le_refl _) (by omega)) c1
        · intro k hk ihk hq
          have hr := rn_le v (4 * v 1 * g + k)
          refine at_ld (i := 5) dX8_runIn_23 rfl rfl rfl ?_
          refine at_ld (i := 3) dX8_runIn_25 rfl rfl rfl ?_
          refine at_k (nI 4) dX8_runIn_26 rfl (by decide) ?_
          refine at_ld (i := 0) dX8_runIn_27 rfl rfl rfl ?_
          refine at_get dX8_runIn_28 fX8_7 (mv_o hn _ _ _) (by omega) rfl ?_
          refine at_k (nI 1) dX8_runIn_31 rfl (by decide) ?_
          refine at_ald 1 dX8_runIn_32 (mv_a hn _ _ _) rfl (by decide) (by decide) ?_
          refine at_bin dX8_runIn_33 rfl ?_
          try dsimp only
          rw [nI_mul]
          refine at_bin dX8_runIn_34 rfl ?_
          try dsimp only
          rw [nI_add]
          refine at_ige 58 dX8_runIn_35 (by decide) (fun c1 => ?_) (fun c1 => ?_)
          · exact absurd c1 (nI_ge (by omega) (by omega))
          · refine at_ld (i := 0) dX8_runIn_38 rfl rfl rfl ?_
            refine at_ld (i := 5) dX8_runIn_39 rfl rfl rfl ?_
            refine at_rv [_] dX8_runIn_41 mX8_runAt ⟨Nat.le_of_ble_eq_true rfl, Nat.le_of_ble_eq_true rfl⟩ lX8_158 iX8_runAt rfl rfl (mv_o hn _ _ _) (by omega) rfl (Nat.le_of_ble_eq_true rfl) (Nat.le_of_ble_eq_true rfl) ⟨rfl, rfl⟩ (c_runAt A F v hn wm (4 * v 1 * g + k) (by omega)) ?_
            refine at_ld (i := 4) dX8_runIn_44 rfl rfl rfl ?_
            refine at_ine 52 dX8_runIn_46 (by decide) (fun c2 => ?_) (fun c2 => ?_)
            · have c3 : ¬ rn v (4 * v 1 * g + k) = l := fun q => c2 (by rw [q])
              refine at_iinc (nI 1) dX8_runIn_52 rfl rfl (by decide) ?_
              try dsimp only [List.set_cons_succ, List.set_cons_zero]
              refine at_goto 23 dX8_runIn_55 (by decide) ?_
              rw [nI_add]
              refine ihk (fun x hx => ?_)
              rw [← hq x hx]
              exact (sr_n hk (if_neg c3)).symm
            · have c3 := (nI_eq32 (by omega) (by omega)).mp (Classical.not_not.mp c2)
              refine at_ld (i := 5) dX8_runIn_49 rfl rfl rfl ?_
              refine at_ret dX8_runIn_51 rfl rfl ?_
              have hs := hq _ rfl
              rw [sr_s hk (if_pos c3)] at hs
              rw [sr_s hl hs.symm]
              exact ⟨rfl, rfl⟩
  exact outer _
theorem rin_lt {v : Nat → Nat} (g n x : Nat) (hg : g < v 0) (h : rin v g n = some x) : x < 4 * (v 0 * v 1) := by
  unfold rin at h
  have e4 : 4 * v 1 * g = 4 * (v 1 * g) := Nat.mul_assoc _ _ _
  split at h
  · next y e =>
    cases h
    obtain ⟨l, -, -, e1⟩ := sr_ge _ _ e
    obtain ⟨k, h1, h2, e2⟩ := sr_ge _ _ e1
    split at e2
    · cases e2
      have := gb_lt (B := v 1) (b := v 1 - 1) hg (by omega)
      omega
    · cases e2
  · obtain ⟨k, h1, h2, e2⟩ := sr_ge _ _ h
    split at e2
    · cases e2
      have := gb_lt (B := v 1) (b := k) hg (by omega)
      omega
    · cases e2
set_option maxRecDepth 100000 in
theorem c_runNear (hn : 72 ≤ h.1) (w : wfg v) (wm : wfm v) (g n : Nat) (hg : g < 1000) (hn4 : n ≤ 4) : sg_Kr MX8_runNear [.ref 64, .int (nI g), .int (nI n)] (mv h A F v) (.int (oI (rnr v g n))) := by
  have hgb := wf_gb w
  have hg4 := w.1
  show sg_A MX8_runNear 0 [some (.ref 64), some (.int (nI g)), some (.int (nI n)), none, none] [] _ _
  refine at_k (nI 0) dX8_runNear_0 rfl (by decide) ?_
  refine at_st (i := 3) dX8_runNear_1 rfl rfl (Nat.le_of_ble_eq_true rfl) rfl ?_
  try dsimp only [List.set_cons_succ, List.set_cons_zero]
  have outer : ∀ x4 : Option Value, sg_A MX8_runNear 2 [some (.ref 64), some (.int (nI g)), some (.int (nI n)), some (.int (nI 0)), x4] [] (mv h A F v) (fun r h' => r = some (.int (oI (rnr v g n))) ∧ h' = mv h A F v) := by
    refine lpN (fun i => ∀ x4 : Option Value, sg_A MX8_runNear 2 [some (.ref 64), some (.int (nI g)), some (.int (nI n)), some (.int (nI i)), x4] [] (mv h A F v) (fun r h' => r = some (.int (oI (srch (fun i => rin v (bh v g i) n) i (v 0 - i)))) ∧ h' = mv h A F v)) (v 0) ?_ ?_
    · intro x4
      refine at_ld (i := 3) dX8_runNear_2 rfl rfl rfl ?_
      refine at_ld (i := 0) dX8_runNear_3 rfl rfl rfl ?_
      refine at_get dX8_runNear_4 fX8_7 (mv_o hn _ _ _) (by omega) rfl ?_
      refine at_k (nI 0) dX8_runNear_7 rfl (by decide) ?_
      refine at_ald 0 dX8_runNear_8 (mv_a hn _ _ _) rfl (by decide) (by decide) ?_
      refine at_ige 41 dX8_runNear_9 (by decide) (fun c => ?_) (fun c => ?_)
      · refine at_k (-4) dX8_runNear_41 rfl (by decide) ?_
        refine at_ret dX8_runNear_43 rfl rfl ?_
        rw [sr_0]
        exact ⟨rfl, rfl⟩
      · exact absurd (nI_le (Nat.le_refl _) (by omega)) c
    · intro i hi ih x4
      have hbh := bh_lt w g i
      refine at_ld (i := 3) dX8_runNear_2 rfl rfl rfl ?_
      refine at_ld (i := 0) dX8_runNear_3 rfl rfl rfl ?_
      refine at_get dX8_runNear_4 fX8_7 (mv_o hn _ _ _) (by omega) rfl ?_
      refine at_k (nI 0) dX8_runNear_7 rfl (by decide) ?_
      refine at_ald 0 dX8_runNear_8 (mv_a hn _ _ _) rfl (by decide) (by decide) ?_
      refine at_ige 41 dX8_runNear_9 (by decide) (fun c => ?_) (fun c => ?_)
      · exact absurd c (nI_ge hi (by omega))
      · refine at_ld (i := 0) dX8_runNear_12 rfl rfl rfl ?_
        refine at_ld (i := 0) dX8_runNear_13 rfl rfl rfl ?_
        refine at_ld (i := 1) dX8_runNear_14 rfl rfl rfl ?_
        refine at_ld (i := 3) dX8_runNear_15 rfl rfl rfl ?_
        refine at_rv [_, _] dX8_runNear_16 mX8_behind ⟨Nat.le_of_ble_eq_true rfl, Nat.le_of_ble_eq_true rfl⟩ lX8_161 iX8_behind rfl rfl (mv_o hn _ _ _) (by omega) rfl (Nat.le_of_ble_eq_true rfl) (Nat.le_of_ble_eq_true rfl) ⟨rfl, rfl⟩ (c_behind A F v hn w g i (by omega) (by omega)) ?_
        refine at_ld (i := 2) dX8_runNear_19 rfl rfl rfl ?_
        refine at_rv [_, _] dX8_runNear_20 mX8_runIn ⟨Nat.le_of_ble_eq_true rfl, Nat.le_of_ble_eq_true rfl⟩ lX8_164 iX8_runIn rfl rfl (mv_o hn _ _ _) (by omega) rfl (Nat.le_of_ble_eq_true rfl) (Nat.le_of_ble_eq_true rfl) ⟨rfl, rfl⟩ (c_runIn A F v hn w wm (bh v g i) n hbh hn4) ?_
        refine at_st (i := 4) dX8_runNear_23 rfl rfl (Nat.le_of_ble_eq_true rfl) rfl ?_
        try dsimp only [List.set_cons_succ, List.set_cons_zero]
        refine at_ld (i := 4) dX8_runNear_25 rfl rfl rfl ?_
        refine at_k (-4) dX8_runNear_27 rfl (by decide) ?_
        cases q : rin v (bh v g i) n with
        | none =>
          refine at_ieq 35 dX8_runNear_29 (by decide) (fun c1 => ?_) (fun c1 => ?_)
          · rw [sr_n hi q]
            refine at_iinc (nI 1) dX8_runNear_35 rfl rfl (by decide) ?_
            try dsimp only [List.set_cons_succ, List.set_cons_zero]
            refine at_goto 2 dX8_runNear_38 (by decide) ?_
            rw [nI_add]
            exact ih _
          · exact absurd rfl c1
        | some x =>
          have hx := rin_lt _ _ _ hbh q
          refine at_ieq 35 dX8_runNear_29 (by decide) (fun c1 => ?_) (fun c1 => ?_)
          · exact absurd c1 (oI_n (by omega))
          · refine at_ld (i := 4) dX8_runNear_32 rfl rfl rfl ?_
            refine at_ret dX8_runNear_34 rfl rfl ?_
            rw [sr_s hi q]
            exact ⟨rfl, rfl⟩
  exact outer _
set_option maxRecDepth 100000 in
theorem c_groupForFile (hn : 72 ≤ h.1) (w : wf v) (d : Nat) (hd : d < v 0 * v 2) : sg_Kr MX8_groupForFile [.ref 64, .int (nI d)] (mv h A F v) (.int (oI (gff v d))) := by
  have hgi := wf_gi w.1
  have hg4 := w.1.1
  have hi6 := w.1.2.2.1
  have hdi : d / v 2 < v 0 := Nat.div_lt_of_lt_mul (by rw [Nat.mul_comm]; exact hd)
  show sg_A MX8_groupForFile 0 [some (.ref 64), some (.int (nI d)), none, none] [] _ _
  refine at_k (nI 0) dX8_groupForFile_0 rfl (by decide) ?_
  refine at_st (i := 2) dX8_groupForFile_1 rfl rfl (Nat.le_of_ble_eq_true rfl) rfl ?_
  try dsimp only [List.set_cons_succ, List.set_cons_zero]
  have outer : ∀ x3 : Option Value, sg_A MX8_groupForFile 2 [some (.ref 64), some (.int (nI d)), some (.int (nI 0)), x3] [] (mv h A F v) (fun r h' => r = some (.int (oI (gff v d))) ∧ h' = mv h A F v) := by
    refine lpN (fun i => ∀ x3 : Option Value, sg_A MX8_groupForFile 2 [some (.ref 64), some (.int (nI d)), some (.int (nI i)), x3] [] (mv h A F v) (fun r h' => r = some (.int (oI (srch (fun i => if 0 < nts v (bh v (d / v 2) i) then some (bh v (d / v 2) i) else none) i (v 0 - i)))) ∧ h' = mv h A F v)) (v 0) ?_ ?_
    · intro x3
      refine at_ld (i := 2) dX8_groupForFile_2 rfl rfl rfl ?_
      refine at_ld (i := 0) dX8_groupForFile_3 rfl rfl rfl ?_
      refine at_get dX8_groupForFile_4 fX8_7 (mv_o hn _ _ _) (by omega) rfl ?_
      refine at_k (nI 0) dX8_groupForFile_7 rfl (by decide) ?_
      refine at_ald 0 dX8_groupForFile_8 (mv_a hn _ _ _) rfl (by decide) (by decide) ?_
      refine at_ige 42 dX8_groupForFile_9 (by decide) (fun c => ?_) (fun c => ?_)
      · refine at_k (-4) dX8_groupForFile_42 rfl (by decide) ?_
        refine at_ret dX8_groupForFile_44 rfl rfl ?_
        rw [sr_0]
        exact ⟨rfl, rfl⟩
      · exact absurd (nI_le (Nat.le_refl _) (by omega)) c
    · intro i hi ih x3
      have hbh := bh_lt w.1 (d / v 2) i
      have hnt := nts_le v (bh v (d / v 2) i)
      refine at_ld (i := 2) dX8_groupForFile_2 rfl rfl rfl ?_
      refine at_ld (i := 0) dX8_groupForFile_3 rfl rfl rfl ?_
      refine at_get dX8_groupForFile_4 fX8_7 (mv_o hn _ _ _) (by omega) rfl ?_
      refine at_k (nI 0) dX8_groupForFile_7 rfl (by decide) ?_
      refine at_ald 0 dX8_groupForFile_8 (mv_a hn _ _ _) rfl (by decide) (by decide) ?_
      refine at_ige 42 dX8_groupForFile_9 (by decide) (fun c => ?_) (fun c => ?_)
      · exact absurd c (nI_ge hi (by omega))
      · refine at_ld (i := 0) dX8_groupForFile_12 rfl rfl rfl ?_
        refine at_ld (i := 1) dX8_groupForFile_13 rfl rfl rfl ?_
        refine at_ld (i := 0) dX8_groupForFile_14 rfl rfl rfl ?_
        refine at_get dX8_groupForFile_15 fX8_7 (mv_o hn _ _ _) (by omega) rfl ?_
        refine at_k (nI 2) dX8_groupForFile_18 rfl (by decide) ?_
        refine at_ald 2 dX8_groupForFile_19 (mv_a hn _ _ _) rfl (by decide) (by decide) ?_
        refine at_div dX8_groupForFile_20 (nI_ne0 (by omega) (by omega)) ?_
        rw [nI_div (by omega) (by omega)]
        refine at_ld (i := 2) dX8_groupForFile_21 rfl rfl rfl ?_
        refine at_rv [_, _] dX8_groupForFile_22 mX8_behind ⟨Nat.le_of_ble_eq_true rfl, Nat.le_of_ble_eq_true rfl⟩ lX8_161 iX8_behind rfl rfl (mv_o hn _ _ _) (by omega) rfl (Nat.le_of_ble_eq_true rfl) (Nat.le_of_ble_eq_true rfl) ⟨rfl, rfl⟩ (c_behind A F v hn w.1 (d / v 2) i (by omega) (by omega)) ?_
        refine at_st (i := 3) dX8_groupForFile_25 rfl rfl (Nat.le_of_ble_eq_true rfl) rfl ?_
        try dsimp only [List.set_cons_succ, List.set_cons_zero]
        refine at_ld (i := 0) dX8_groupForFile_26 rfl rfl rfl ?_
        refine at_ld (i := 3) dX8_groupForFile_27 rfl rfl rfl ?_
        refine at_rv [_] dX8_groupForFile_28 mX8_nothings ⟨Nat.le_of_ble_eq_true rfl, Nat.le_of_ble_eq_true rfl⟩ lX8_179 iX8_nothings rfl rfl (mv_o hn _ _ _) (by omega) rfl (Nat.le_of_ble_eq_true rfl) (Nat.le_of_ble_eq_true rfl) ⟨rfl, rfl⟩ (c_nothings A F v hn w (bh v (d / v 2) i) hbh) ?_
        refine at_zle 36 dX8_groupForFile_31 (by decide) (fun c1 => ?_) (fun c1 => ?_)
        · have c2 : ¬ 0 < nts v (bh v (d / v 2) i) := fun q => nI_nle q (by omega) c1
          rw [sr_n hi (if_neg c2)]
          refine at_iinc (nI 1) dX8_groupForFile_36 rfl rfl (by decide) ?_
          try dsimp only [List.set_cons_succ, List.set_cons_zero]
          refine at_goto 2 dX8_groupForFile_39 (by decide) ?_
          rw [nI_add]
          exact ih _
        · have c2 : 0 < nts v (bh v (d / v 2) i) := by
            rcases Nat.eq_zero_or_pos (nts v (bh v (d / v 2) i)) with q | q
            · rw [q] at c1; exact absurd (by decide) c1
            · exact q
          refine at_ld (i := 3) dX8_groupForFile_34 rfl rfl rfl ?_
          refine at_ret dX8_groupForFile_35 rfl rfl ?_
          rw [sr_s hi (if_pos c2)]
          exact ⟨rfl, rfl⟩
  exact outer _
set_option maxRecDepth 100000 in
theorem c_groupForDirectory (hn : 72 ≤ h.1) (w : wf v) : sg_Kr MX8_groupForDirectory [.ref 64] (mv h A F v) (.int (oI (gfd v (smN (nts v) (v 0)) (v 0)))) := by
  have hgi := wf_gi w.1
  have hg4 := w.1.1
  have hi6 := w.1.2.2.1
  have hsm : smN (nts v) (v 0) ≤ v 0 * v 2 := smN_le _ (fun k _ => nts_le v k)
  show sg_A MX8_groupForDirectory 0 [some (.ref 64), none, none, none, none] [] _ _
  refine at_k (nI 0) dX8_groupForDirectory_0 rfl (by decide) ?_
  refine at_st (i := 1) dX8_groupForDirectory_1 rfl rfl (Nat.le_of_ble_eq_true rfl) rfl ?_
  try dsimp only [List.set_cons_succ, List.set_cons_zero]
  refine at_k (nI 0) dX8_groupForDirectory_2 rfl (by decide) ?_
  refine at_st (i := 2) dX8_groupForDirectory_3 rfl rfl (Nat.le_of_ble_eq_true rfl) rfl ?_
  try dsimp only [List.set_cons_succ, List.set_cons_zero]
  have one : sg_A MX8_groupForDirectory 28 [some (.ref 64), some (.int (nI (smN (nts v) (v 0)))), some (.int (nI (v 0))), none, none] [] (mv h A F v) (fun r h' => r = some (.int (oI (gfd v (smN (nts v) (v 0)) (v 0)))) ∧ h' = mv h A F v) := by
    refine at_k (-4) dX8_groupForDirectory_28 rfl (by decide) ?_
    refine at_st (i := 2) dX8_groupForDirectory_30 rfl rfl (Nat.le_of_ble_eq_true rfl) rfl ?_
    try dsimp only [List.set_cons_succ, List.set_cons_zero]
    refine at_k (nI 0) dX8_groupForDirectory_31 rfl (by decide) ?_
    refine at_st (i := 3) dX8_groupForDirectory_32 rfl rfl (Nat.le_of_ble_eq_true rfl) rfl ?_
    try dsimp only [List.set_cons_succ, List.set_cons_zero]
    have outer : ∀ x4 : Option Value, sg_A MX8_groupForDirectory 33 [some (.ref 64), some (.int (nI (smN (nts v) (v 0)))), some (.int (-4)), some (.int (nI 0)), x4] [] (mv h A F v) (fun r h' => r = some (.int (oI (gfd v (smN (nts v) (v 0)) (v 0)))) ∧ h' = mv h A F v) := by
      refine lpN (fun k => ∀ x4 : Option Value, sg_A MX8_groupForDirectory 33 [some (.ref 64), some (.int (nI (smN (nts v) (v 0)))), some (.int (oI (gfd v (smN (nts v) (v 0)) k))), some (.int (nI k)), x4] [] (mv h A F v) (fun r h' => r = some (.int (oI (gfd v (smN (nts v) (v 0)) (v 0)))) ∧ h' = mv h A F v)) (v 0) ?_ ?_
      · intro x4
        refine at_ld (i := 3) dX8_groupForDirectory_33 rfl rfl rfl ?_
        refine at_ld (i := 0) dX8_groupForDirectory_34 rfl rfl rfl ?_
        refine at_get dX8_groupForDirectory_35 fX8_7 (mv_o hn _ _ _) (by omega) rfl ?_
        refine at_k (nI 0) dX8_groupForDirectory_38 rfl (by decide) ?_
        refine at_ald 0 dX8_groupForDirectory_39 (mv_a hn _ _ _) rfl (by decide) (by decide) ?_
        refine at_ige 110 dX8_groupForDirectory_40 (by decide) (fun c => ?_) (fun c => ?_)
        · refine at_ld (i := 2) dX8_groupForDirectory_110 rfl rfl rfl ?_
          refine at_ret dX8_groupForDirectory_111 rfl rfl ?_
          exact ⟨rfl, rfl⟩
        · exact absurd (nI_le (Nat.le_refl _) (by omega)) c
      · intro k hk ih x4
        have hnt := nts_le v k
        have hmu : nts v k * v 0 ≤ v 0 * v 2 := by rw [Nat.mul_comm]; exact Nat.mul_le_mul_left _ hnt
        have nx : ∀ y4 o, o = gfd v (smN (nts v) (v 0)) (k + 1) → sg_A MX8_groupForDirectory 103 [some (.ref 64), some (.int (nI (smN (nts v) (v 0)))), some (.int (oI (gfd v (smN (nts v) (v 0)) k))), some (.int (nI k)), y4] [.int (oI o)] (mv h A F v) (fun r h' => r = some (.int (oI (gfd v (smN (nts v) (v 0)) (v 0)))) ∧ h' = mv h A F v) := by
          intro y4 o ho
          subst ho
          refine at_st (i := 2) dX8_groupForDirectory_103 rfl rfl (Nat.le_of_ble_eq_true rfl) rfl ?_
          try dsimp only [List.set_cons_succ, List.set_cons_zero]
          refine at_iinc (nI 1) dX8_groupForDirectory_104 rfl rfl (by decide) ?_
          try dsimp only [List.set_cons_succ, List.set_cons_zero]
          refine at_goto 33 dX8_groupForDirectory_107 (by decide) ?_
          rw [nI_add]
          exact ih _
        have md : ∀ b : Bool, b = decide (0 < nts v k ∧ smN (nts v) (v 0) ≤ nts v k * v 0) → sg_A MX8_groupForDirectory 72 [some (.ref 64), some (.int (nI (smN (nts v) (v 0)))), some (.int (oI (gfd v (smN (nts v) (v 0)) k))), some (.int (nI k)), x4] [.int (bI b)] (mv h A F v) (fun r h' => r = some (.int (oI (gfd v (smN (nts v) (v 0)) (v 0)))) ∧ h' = mv h A F v) := by
          intro b hb
          refine at_st (i := 4) dX8_groupForDirectory_72 rfl rfl (Nat.le_of_ble_eq_true rfl) rfl ?_
          try dsimp only [List.set_cons_succ, List.set_cons_zero]
          refine at_ld (i := 4) dX8_groupForDirectory_74 rfl rfl rfl ?_
          refine at_zeq 102 dX8_groupForDirectory_76 (by decide) (fun c1 => ?_) (fun c1 => ?_)
          · rw [bI_0] at c1
            refine at_ld (i := 2) dX8_groupForDirectory_102 rfl rfl rfl ?_
            refine nx _ _ ?_
            rw [c1] at hb
            have hb2 := of_decide_eq_false hb.symm
            rw [gfd, if_neg (fun q => hb2 ⟨q.1, q.2.1⟩)]
          · have c2 := bI_1 c1
            rw [c2] at hb
            have hb2 := of_decide_eq_true hb.symm
            refine at_ld (i := 2) dX8_groupForDirectory_79 rfl rfl rfl ?_
            refine at_k (-4) dX8_groupForDirectory_80 rfl (by decide) ?_
            cases q : gfd v (smN (nts v) (v 0)) k with
            | none =>
              refine at_ieq 98 dX8_groupForDirectory_82 (by decide) (fun c3 => ?_) (fun c3 => ?_)
              · refine at_ld (i := 3) dX8_groupForDirectory_98 rfl rfl rfl ?_
                refine at_goto 103 dX8_groupForDirectory_99 (by decide) ?_
                rw [← q]
                refine nx _ (some k) ?_
                rw [gfd, q, if_pos ⟨hb2.1, hb2.2, rfl⟩]
              · exact absurd rfl c3
            | some b' =>
              have hb' := gfd_lt _ _ q
              refine at_ieq 98 dX8_groupForDirectory_82 (by decide) (fun c3 => ?_) (fun c3 => ?_)
              · exact absurd c3 (oI_n (by omega))
              · have hd1 := dcs_le v k
                have hd2 := dcs_le v b'
                rw [show oI (some b') = nI b' from rfl]
                refine at_ld (i := 0) dX8_groupForDirectory_85 rfl rfl rfl ?_
                refine at_ld (i := 3) dX8_groupForDirectory_86 rfl rfl rfl ?_
                refine at_rv [_] dX8_groupForDirectory_87 mX8_directories ⟨Nat.le_of_ble_eq_true rfl, Nat.le_of_ble_eq_true rfl⟩ lX8_182 iX8_directories rfl rfl (mv_o hn _ _ _) (by omega) rfl (Nat.le_of_ble_eq_true rfl) (Nat.le_of_ble_eq_true rfl) ⟨rfl, rfl⟩ (c_directories A F v hn w k hk) ?_
                refine at_ld (i := 0) dX8_groupForDirectory_90 rfl rfl rfl ?_
                refine at_ld (i := 2) dX8_groupForDirectory_91 rfl rfl rfl ?_
                refine at_rv [_] dX8_groupForDirectory_92 mX8_directories ⟨Nat.le_of_ble_eq_true rfl, Nat.le_of_ble_eq_true rfl⟩ lX8_182 iX8_directories rfl rfl (mv_o hn _ _ _) (by omega) rfl (Nat.le_of_ble_eq_true rfl) (Nat.le_of_ble_eq_true rfl) ⟨rfl, rfl⟩ (c_directories A F v hn w b' (by omega)) ?_
                refine at_ige 102 dX8_groupForDirectory_95 (by decide) (fun c4 => ?_) (fun c4 => ?_)
                · have c5 := (nI_leI (by omega) (by omega)).mp c4
                  refine at_ld (i := 2) dX8_groupForDirectory_102 rfl rfl rfl ?_
                  rw [show nI b' = oI (some b') from rfl, ← q]
                  refine nx _ _ ?_
                  rw [gfd, q, if_neg (fun z => by have := of_decide_eq_true z.2.2; omega)]
                · have c5 : dcs v k < dcs v b' := by
                    rcases Nat.lt_or_ge (dcs v k) (dcs v b') with z | z
                    · exact z
                    · exact absurd (nI_le z (by omega)) c4
                  refine at_ld (i := 3) dX8_groupForDirectory_98 rfl rfl rfl ?_
                  refine at_goto 103 dX8_groupForDirectory_99 (by decide) ?_
                  rw [show nI b' = oI (some b') from rfl, ← q]
                  refine nx _ (some k) ?_
                  rw [gfd, q, if_pos ⟨hb2.1, hb2.2, decide_eq_true c5⟩]
        refine at_ld (i := 3) dX8_groupForDirectory_33 rfl rfl rfl ?_
        refine at_ld (i := 0) dX8_groupForDirectory_34 rfl rfl rfl ?_
        refine at_get dX8_groupForDirectory_35 fX8_7 (mv_o hn _ _ _) (by omega) rfl ?_
        refine at_k (nI 0) dX8_groupForDirectory_38 rfl (by decide) ?_
        refine at_ald 0 dX8_groupForDirectory_39 (mv_a hn _ _ _) rfl (by decide) (by decide) ?_
        refine at_ige 110 dX8_groupForDirectory_40 (by decide) (fun c => ?_) (fun c => ?_)
        · exact absurd c (nI_ge hk (by omega))
        · refine at_ld (i := 0) dX8_groupForDirectory_43 rfl rfl rfl ?_
          refine at_ld (i := 3) dX8_groupForDirectory_44 rfl rfl rfl ?_
          refine at_rv [_] dX8_groupForDirectory_45 mX8_nothings ⟨Nat.le_of_ble_eq_true rfl, Nat.le_of_ble_eq_true rfl⟩ lX8_179 iX8_nothings rfl rfl (mv_o hn _ _ _) (by omega) rfl (Nat.le_of_ble_eq_true rfl) (Nat.le_of_ble_eq_true rfl) ⟨rfl, rfl⟩ (c_nothings A F v hn w k hk) ?_
          refine at_zle 71 dX8_groupForDirectory_48 (by decide) (fun c1 => ?_) (fun c1 => ?_)
          · have c2 : ¬ 0 < nts v k := fun q => nI_nle q (by omega) c1
            refine at_k (nI 0) dX8_groupForDirectory_71 rfl (by decide) ?_
            exact md false (decide_eq_false (fun q => c2 q.1)).symm
          · have c2 : 0 < nts v k := by
              rcases Nat.eq_zero_or_pos (nts v k) with q | q
              · rw [q] at c1; exact absurd (by decide) c1
              · exact q
            refine at_ld (i := 0) dX8_groupForDirectory_51 rfl rfl rfl ?_
            refine at_ld (i := 3) dX8_groupForDirectory_52 rfl rfl rfl ?_
            refine at_rv [_] dX8_groupForDirectory_53 mX8_nothings ⟨Nat.le_of_ble_eq_true rfl, Nat.le_of_ble_eq_true rfl⟩ lX8_179 iX8_nothings rfl rfl (mv_o hn _ _ _) (by omega) rfl (Nat.le_of_ble_eq_true rfl) (Nat.le_of_ble_eq_true rfl) ⟨rfl, rfl⟩ (c_nothings A F v hn w k hk) ?_
            refine at_ld (i := 0) dX8_groupForDirectory_56 rfl rfl rfl ?_
            refine at_get dX8_groupForDirectory_57 fX8_7 (mv_o hn _ _ _) (by omega) rfl ?_
            refine at_k (nI 0) dX8_groupForDirectory_60 rfl (by decide) ?_
            refine at_ald 0 dX8_groupForDirectory_61 (mv_a hn _ _ _) rfl (by decide) (by decide) ?_
            refine at_bin dX8_groupForDirectory_62 rfl ?_
            try dsimp only
            rw [nI_mul]
            refine at_ld (i := 1) dX8_groupForDirectory_63 rfl rfl rfl ?_
            refine at_ilt 71 dX8_groupForDirectory_64 (by decide) (fun c3 => ?_) (fun c3 => ?_)
            · have c4 := (nI_ltI (by omega) (by omega)).mp c3
              refine at_k (nI 0) dX8_groupForDirectory_71 rfl (by decide) ?_
              exact md false (decide_eq_false (fun q => by omega)).symm
            · have c4 : smN (nts v) (v 0) ≤ nts v k * v 0 := by
                rcases Nat.lt_or_ge (nts v k * v 0) (smN (nts v) (v 0)) with z | z
                · exact absurd (nI_lt z (by omega)) c3
                · exact z
              refine at_k (nI 1) dX8_groupForDirectory_67 rfl (by decide) ?_
              refine at_goto 72 dX8_groupForDirectory_68 (by decide) ?_
              exact md true (decide_eq_true ⟨c2, c4⟩).symm
    exact outer _
  refine lpN (fun k => sg_A MX8_groupForDirectory 4 [some (.ref 64), some (.int (nI (smN (nts v) k))), some (.int (nI k)), none, none] [] (mv h A F v) _) (v 0) ?_ ?_
  · refine at_ld (i := 2) dX8_groupForDirectory_4 rfl rfl rfl ?_
    refine at_ld (i := 0) dX8_groupForDirectory_5 rfl rfl rfl ?_
    refine at_get dX8_groupForDirectory_6 fX8_7 (mv_o hn _ _ _) (by omega) rfl ?_
    refine at_k (nI 0) dX8_groupForDirectory_9 rfl (by decide) ?_
    refine at_ald 0 dX8_groupForDirectory_10 (mv_a hn _ _ _) rfl (by decide) (by decide) ?_
    refine at_ige 28 dX8_groupForDirectory_11 (by decide) (fun c => ?_) (fun c => ?_)
    · exact one
    · exact absurd (nI_le (Nat.le_refl _) (by omega)) c
  · intro k hk ih
    refine at_ld (i := 2) dX8_groupForDirectory_4 rfl rfl rfl ?_
    refine at_ld (i := 0) dX8_groupForDirectory_5 rfl rfl rfl ?_
    refine at_get dX8_groupForDirectory_6 fX8_7 (mv_o hn _ _ _) (by omega) rfl ?_
    refine at_k (nI 0) dX8_groupForDirectory_9 rfl (by decide) ?_
    refine at_ald 0 dX8_groupForDirectory_10 (mv_a hn _ _ _) rfl (by decide) (by decide) ?_
    refine at_ige 28 dX8_groupForDirectory_11 (by decide) (fun c => ?_) (fun c => ?_)
    · exact absurd c (nI_ge hk (by omega))
    · refine at_ld (i := 1) dX8_groupForDirectory_14 rfl rfl rfl ?_
      refine at_ld (i := 0) dX8_groupForDirectory_15 rfl rfl rfl ?_
      refine at_ld (i := 2) dX8_groupForDirectory_16 rfl rfl rfl ?_
      refine at_rv [_] dX8_groupForDirectory_17 mX8_nothings ⟨Nat.le_of_ble_eq_true rfl, Nat.le_of_ble_eq_true rfl⟩ lX8_179 iX8_nothings rfl rfl (mv_o hn _ _ _) (by omega) rfl (Nat.le_of_ble_eq_true rfl) (Nat.le_of_ble_eq_true rfl) ⟨rfl, rfl⟩ (c_nothings A F v hn w k hk) ?_
      refine at_bin dX8_groupForDirectory_20 rfl ?_
      try dsimp only
      rw [nI_add]
      refine at_st (i := 1) dX8_groupForDirectory_21 rfl rfl (Nat.le_of_ble_eq_true rfl) rfl ?_
      try dsimp only [List.set_cons_succ, List.set_cons_zero]
      refine at_iinc (nI 1) dX8_groupForDirectory_22 rfl rfl (by decide) ?_
      try dsimp only [List.set_cons_succ, List.set_cons_zero]
      refine at_goto 4 dX8_groupForDirectory_25 (by decide) ?_
      rw [nI_add]
      exact ih
set_option maxRecDepth 100000 in
theorem c_groupFor (hn : 72 ≤ h.1) (w : wf v) (d kind : Nat) (hd : d < v 0 * v 2) (hk : kind < 100) : sg_Kr MX8_groupFor [.ref 64, .int (nI d), .int (nI kind)] (mv h A F v) (.int (oI (gfr v d kind))) := by
  show sg_A MX8_groupFor 0 [some (.ref 64), some (.int (nI d)), some (.int (nI kind))] [] _ _
  refine at_ld (i := 2) dX8_groupFor_0 rfl rfl rfl ?_
  refine at_k (nI 1) dX8_groupFor_1 rfl (by decide) ?_
  refine at_ine 12 dX8_groupFor_2 (by decide) (fun c => ?_) (fun c => ?_)
  · have c1 : ¬ kind = 1 := fun q => c (by rw [q])
    refine at_ld (i := 0) dX8_groupFor_12 rfl rfl rfl ?_
    refine at_ld (i := 1) dX8_groupFor_13 rfl rfl rfl ?_
    refine at_rv [_] dX8_groupFor_14 mX8_groupForFile ⟨Nat.le_of_ble_eq_true rfl, Nat.le_of_ble_eq_true rfl⟩ lX8_188 iX8_groupForFile rfl rfl (mv_o hn _ _ _) (by omega) rfl (Nat.le_of_ble_eq_true rfl) (Nat.le_of_ble_eq_true rfl) ⟨rfl, rfl⟩ (c_groupForFile A F v hn w d hd) ?_
    refine at_ret dX8_groupFor_17 rfl rfl ?_
    rw [gfr, if_neg c1]
    exact ⟨rfl, rfl⟩
  · have c1 := (nI_eq32 (by omega) (by decide)).mp (Classical.not_not.mp c)
    refine at_ld (i := 0) dX8_groupFor_5 rfl rfl rfl ?_
    refine at_rv [] dX8_groupFor_6 mX8_groupForDirectory ⟨Nat.le_of_ble_eq_true rfl, Nat.le_of_ble_eq_true rfl⟩ lX8_185 iX8_groupForDirectory rfl rfl (mv_o hn _ _ _) (by omega) rfl (Nat.le_of_ble_eq_true rfl) (Nat.le_of_ble_eq_true rfl) ⟨rfl, rfl⟩ (c_groupForDirectory A F v hn w) ?_
    refine at_goto 17 dX8_groupFor_9 (by decide) ?_
    refine at_ret dX8_groupFor_17 rfl rfl ?_
    rw [gfr, if_pos c1]
    exact ⟨rfl, rfl⟩
end R5
