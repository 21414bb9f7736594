/-! THE REFERENCE: runs, places, groups -/
theorem bI_1 {b : Bool} (h : ¬ bI b = 0) : b = true := by
  cases b
  · exact absurd rfl h
  · rfl
def rl (v : Nat → Nat) (x e : Nat) : Nat → Nat → Nat
  | 0, n => n
  | f + 1, n => if x + n < e ∧ fr v (x + n) = true then rl v x e f (n + 1) else n
/-- how long the run is that begins at x -/
def rn (v : Nat → Nat) (x : Nat) : Nat := if fr v x = false ∨ (x / 4 * 4 < x ∧ fr v (x - 1) = true) ∨ fbk v (x / 4) = true then 0 else rl v x (x / 4 * 4 + 4) 3 1
theorem rl_le (v : Nat → Nat) (x e : Nat) : ∀ f n, rl v x e f n ≤ n + f := by
  intro f
  induction f with
  | zero => intro n; exact Nat.le_refl _
  | succ f ih =>
    intro n
    simp only [rl]
    split
    · have := ih (n + 1); omega
    · omega
theorem rn_le (v : Nat → Nat) (x : Nat) : rn v x ≤ 4 := by
  unfold rn
  split
  · omega
  · have := rl_le v x (x / 4 * 4 + 4) 3 1; omega
def rns (v : Nat → Nat) (g n : Nat) : Nat := cnt (fun k => decide (rn v (4 * v 1 * g + k) = n)) (4 * v 1)
def bnr (v : Nat → Nat) (g p : Nat) : Option Nat := srch (fun i => srch (fun k => if fbk v (v 1 * bh v g i + (if i = 0 then (p + k) % v 1 else k)) = true then some (v 1 * bh v g i + (if i = 0 then (p + k) % v 1 else k)) else none) 0 (v 1)) 0 (v 0)
def rin (v : Nat → Nat) (g n : Nat) : Option Nat := match srch (fun l => srch (fun k => if rn v (4 * v 1 * g + k) = l then some (4 * v 1 * g + k) else none) 0 (4 * v 1)) n (4 - n) with
  | some x => some x
  | none => srch (fun k => if fbk v (v 1 * g + k) = true then some (4 * (v 1 * g + k)) else none) 0 (v 1)
def rnr (v : Nat → Nat) (g n : Nat) : Option Nat := srch (fun i => rin v (bh v g i) n) 0 (v 0)
def gff (v : Nat → Nat) (d : Nat) : Option Nat := srch (fun i => if 0 < nts v (bh v (d / v 2) i) then some (bh v (d / v 2) i) else none) 0 (v 0)
section R4
variable {h : sg_H} (A : Nat → Nat → Int32) (F : Nat → Int32) (v : Nat → Nat)
set_option maxRecDepth 100000 in
theorem c_runAt (hn : 72 ≤ h.1) (wm : wfm v) (x : Nat) (hx : x < 128) : sg_Kr MX8_runAt [.ref 64, .int (nI x)] (mv h A F v) (.int (nI (rn v x))) := by
  show sg_A MX8_runAt 0 [some (.ref 64), some (.int (nI x)), none, none] [] _ _
  refine at_ld (i := 1) dX8_runAt_0 rfl rfl rfl ?_
  refine at_k (nI 4) dX8_runAt_1 rfl (by decide) ?_
  refine at_div dX8_runAt_2 (by decide) ?_
  rw [nI_div (by omega) (by decide)]
  refine at_k (nI 4) dX8_runAt_3 rfl (by decide) ?_
  refine at_bin dX8_runAt_4 rfl ?_
  try dsimp only
  rw [nI_mul]
  refine at_st (i := 2) dX8_runAt_5 rfl rfl (Nat.le_of_ble_eq_true rfl) rfl ?_
  try dsimp only [List.set_cons_succ, List.set_cons_zero]
  refine at_ld (i := 0) dX8_runAt_6 rfl rfl rfl ?_
  refine at_ld (i := 1) dX8_runAt_7 rfl rfl rfl ?_
  refine at_rv [_] dX8_runAt_8 mX8_isFree ⟨Nat.le_of_ble_eq_true rfl, Nat.le_of_ble_eq_true rfl⟩ lX8_141 iX8_isFree rfl rfl (mv_o hn _ _ _) (by omega) rfl (Nat.le_of_ble_eq_true rfl) (Nat.le_of_ble_eq_true rfl) ⟨rfl, rfl⟩ (c_isFree A F v hn x (by omega) (wm x hx)) ?_
  have z : rn v x = 0 → sg_A MX8_runAt 39 [some (.ref 64), some (.int (nI x)), some (.int (nI (x / 4 * 4))), none] [] (mv h A F v) (fun r h' => r = some (.int (nI (rn v x))) ∧ h' = mv h A F v) := by
    intro e
    refine at_k (nI 0) dX8_runAt_39 rfl (by decide) ?_
    refine at_ret dX8_runAt_40 rfl rfl ?_
    rw [e]
    exact ⟨rfl, rfl⟩
  have y : ¬ fr v x = false → ¬ (x / 4 * 4 < x ∧ fr v (x - 1) = true) → sg_A MX8_runAt 29 [some (.ref 64), some (.int (nI x)), some (.int (nI (x / 4 * 4))), none] [] (mv h A F v) (fun r h' => r = some (.int (nI (rn v x))) ∧ h' = mv h A F v) := by
    intro e1 e2
    refine at_ld (i := 0) dX8_runAt_29 rfl rfl rfl ?_
    refine at_ld (i := 1) dX8_runAt_30 rfl rfl rfl ?_
    refine at_k (nI 4) dX8_runAt_31 rfl (by decide) ?_
    refine at_div dX8_runAt_32 (by decide) ?_
    rw [nI_div (by omega) (by decide)]
    refine at_rv [_] dX8_runAt_33 mX8_isFreeBlock ⟨Nat.le_of_ble_eq_true rfl, Nat.le_of_ble_eq_true rfl⟩ lX8_149 iX8_isFreeBlock rfl rfl (mv_o hn _ _ _) (by omega) rfl (Nat.le_of_ble_eq_true rfl) (Nat.le_of_ble_eq_true rfl) ⟨rfl, rfl⟩ (c_isFreeBlock A F v hn (x / 4) (by omega) (fun j hj => wm _ (by omega))) ?_
    refine at_zeq 41 dX8_runAt_36 (by decide) (fun c => ?_) (fun c => ?_)
    · rw [bI_0] at c
      have e : rn v x = rl v x (x / 4 * 4 + 4) 3 1 := by
        unfold rn
        rw [if_neg]
        rintro (q | q | q)
        · exact e1 q
        · exact e2 q
        · rw [c] at q; cases q
      refine at_k (nI 1) dX8_runAt_41 rfl (by decide) ?_
      refine at_st (i := 3) dX8_runAt_42 rfl rfl (Nat.le_of_ble_eq_true rfl) rfl ?_
      try dsimp only [List.set_cons_succ, List.set_cons_zero]
      have loop : ∀ f n, 1 ≤ n → x / 4 * 4 + 4 ≤ x + n + f → n + f ≤ 4 → sg_A MX8_runAt 43 [some (.ref 64), some (.int (nI x)), some (.int (nI (x / 4 * 4))), some (.int (nI n))] [] (mv h A F v) (fun r h' => r = some (.int (nI (rl v x (x / 4 * 4 + 4) f n))) ∧ h' = mv h A F v) := by
        intro f
        induction f with
        | zero =>
          intro n h1 h2 h4
          refine at_ld (i := 1) dX8_runAt_43 rfl rfl rfl ?_
          refine at_ld (i := 3) dX8_runAt_44 rfl rfl rfl ?_
          refine at_bin dX8_runAt_45 rfl ?_
          try dsimp only
          rw [nI_add]
          refine at_ld (i := 2) dX8_runAt_46 rfl rfl rfl ?_
          refine at_k (nI 4) dX8_runAt_47 rfl (by decide) ?_
          refine at_bin dX8_runAt_48 rfl ?_
          try dsimp only
          rw [nI_add]
          refine at_ige 68 dX8_runAt_49 (by decide) (fun c1 => ?_) (fun c1 => ?_)
          · refine at_ld (i := 3) dX8_runAt_68 rfl rfl rfl ?_
            refine at_ret dX8_runAt_69 rfl rfl ?_
            exact ⟨rfl, rfl⟩
          · exact absurd (nI_le h2 (by omega)) c1
        | succ f ih =>
          intro n h1 h2 h4
          refine at_ld (i := 1) dX8_runAt_43 rfl rfl rfl ?_
          refine at_ld (i := 3) dX8_runAt_44 rfl rfl rfl ?_
          refine at_bin dX8_runAt_45 rfl ?_
          try dsimp only
          rw [nI_add]
          refine at_ld (i := 2) dX8_runAt_46 rfl rfl rfl ?_
          refine at_k (nI 4) dX8_runAt_47 rfl (by decide) ?_
          refine at_bin dX8_runAt_48 rfl ?_
          try dsimp only
          rw [nI_add]
          refine at_ige 68 dX8_runAt_49 (by decide) (fun c1 => ?_) (fun c1 => ?_)
          · refine at_ld (i := 3) dX8_runAt_68 rfl rfl rfl ?_
            refine at_ret dX8_runAt_69 rfl rfl ?_
            have c2 := (nI_leI (by omega) (by omega)).mp c1
            rw [rl, if_neg (fun q => by omega)]
            exact ⟨rfl, rfl⟩
          · have c2 : x + n < x / 4 * 4 + 4 := by
              rcases Nat.lt_or_ge (x + n) (x / 4 * 4 + 4) with q | q
              · exact q
              · exact absurd (nI_le q (by omega)) c1
            refine at_ld (i := 0) dX8_runAt_52 rfl rfl rfl ?_
            refine at_ld (i := 1) dX8_runAt_53 rfl rfl rfl ?_
            refine at_ld (i := 3) dX8_runAt_54 rfl rfl rfl ?_
            refine at_bin dX8_runAt_55 rfl ?_
            try dsimp only
            rw [nI_add]
            refine at_rv [_] dX8_runAt_56 mX8_isFree ⟨Nat.le_of_ble_eq_true rfl, Nat.le_of_ble_eq_true rfl⟩ lX8_141 iX8_isFree rfl rfl (mv_o hn _ _ _) (by omega) rfl (Nat.le_of_ble_eq_true rfl) (Nat.le_of_ble_eq_true rfl) ⟨rfl, rfl⟩ (c_isFree A F v hn (x + n) (by omega) (wm _ (by omega))) ?_
            refine at_zeq 68 dX8_runAt_59 (by decide) (fun c3 => ?_) (fun c3 => ?_)
            · rw [bI_0] at c3
              refine at_ld (i := 3) dX8_runAt_68 rfl rfl rfl ?_
              refine at_ret dX8_runAt_69 rfl rfl ?_
              rw [rl, if_neg (fun q => by rw [c3] at q; cases q.2)]
              exact ⟨rfl, rfl⟩
            · have c4 := bI_1 c3
              refine at_iinc (nI 1) dX8_runAt_62 rfl rfl (by decide) ?_
              try dsimp only [List.set_cons_succ, List.set_cons_zero]
              refine at_goto 43 dX8_runAt_65 (by decide) ?_
              rw [nI_add, rl, if_pos ⟨c2, c4⟩]
              exact ih (n + 1) (by omega) (by omega) (by omega)
      rw [e]
      exact loop 3 1 (by omega) (by omega) (by omega)
    · have c1 := bI_1 c
      exact z (by unfold rn; rw [if_pos (Or.inr (Or.inr c1))])
  refine at_zeq 39 dX8_runAt_11 (by decide) (fun c => ?_) (fun c => ?_)
  · rw [bI_0] at c
    exact z (by unfold rn; rw [if_pos (Or.inl c)])
  · have c0 := bI_1 c
    have c0' : ¬ fr v x = false := by rw [c0]; exact fun q => by cases q
    refine at_ld (i := 1) dX8_runAt_14 rfl rfl rfl ?_
    refine at_ld (i := 2) dX8_runAt_15 rfl rfl rfl ?_
    refine at_ile 29 dX8_runAt_16 (by decide) (fun c1 => ?_) (fun c1 => ?_)
    · have c2 := (nI_leI (by omega) (by omega)).mp c1
      exact y c0' (fun q => by omega)
    · have c2 : x / 4 * 4 < x := by
        rcases Nat.lt_or_ge (x / 4 * 4) x with q | q
        · exact q
        · exact absurd (nI_le q (by omega)) c1
      refine at_ld (i := 0) dX8_runAt_19 rfl rfl rfl ?_
      refine at_ld (i := 1) dX8_runAt_20 rfl rfl rfl ?_
      refine at_k (nI 1) dX8_runAt_21 rfl (by decide) ?_
      refine at_bin dX8_runAt_22 rfl ?_
      try dsimp only
      rw [nI_sub (by omega)]
      refine at_rv [_] dX8_runAt_23 mX8_isFree ⟨Nat.le_of_ble_eq_true rfl, Nat.le_of_ble_eq_true rfl⟩ lX8_141 iX8_isFree rfl rfl (mv_o hn _ _ _) (by omega) rfl (Nat.le_of_ble_eq_true rfl) (Nat.le_of_ble_eq_true rfl) ⟨rfl, rfl⟩ (c_isFree A F v hn (x - 1) (by omega) (wm _ (by omega))) ?_
      refine at_zne 39 dX8_runAt_26 (by decide) (fun c3 => ?_) (fun c3 => ?_)
      · have c4 := bI_1 c3
        exact z (by unfold rn; rw [if_pos (Or.inr (Or.inl ⟨c2, c4⟩))])
      · refine y c0' (fun q => ?_)
        have c4 : bI (fr v (x - 1)) = 0 := Classical.not_not.mp c3
        rw [q.2] at c4
        exact absurd c4 (by decide)
set_option maxRecDepth 100000 in
theorem c_runs (hn : 72 ≤ h.1) (w : wfg v) (wm : wfm v) (g n : Nat) (hg : g < v 0) (hn3 : n < 100) : sg_Kr MX8_runs [.ref 64, .int (nI g), .int (nI n)] (mv h A F v) (.int (nI (rns v g n))) := by
  have hgb := wf_gb w
  have hb8 := w.2.1
  have hlt := gb_lt (B := v 1) hg (show v 1 - 1 < v 1 by omega)
  have e4 : 4 * v 1 * g = 4 * (v 1 * g) := Nat.mul_assoc _ _ _
  have e5 : 4 * v 1 * (g + 1) = 4 * v 1 * g + 4 * v 1 := Nat.mul_succ _ _
  show sg_A MX8_runs 0 [some (.ref 64), some (.int (nI g)), some (.int (nI n)), none, none] [] _ _
  refine at_k (nI 0) dX8_runs_0 rfl (by decide) ?_
  refine at_st (i := 3) dX8_runs_1 rfl rfl (Nat.le_of_ble_eq_true rfl) rfl ?_
  try dsimp only [List.set_cons_succ, List.set_cons_zero]
  refine at_k (nI 4) dX8_runs_2 rfl (by decide) ?_
  refine at_ld (i := 0) dX8_runs_3 rfl rfl rfl ?_
  refine at_get dX8_runs_4 fX8_7 (mv_o hn _ _ _) (by omega) rfl ?_
  refine at_k (nI 1) dX8_runs_7 rfl (by decide) ?_
  refine at_ald 1 dX8_runs_8 (mv_a hn _ _ _) rfl (by decide) (by decide) ?_
  refine at_bin dX8_runs_9 rfl ?_
  try dsimp only
  rw [nI_mul]
  refine at_ld (i := 1) dX8_runs_10 rfl rfl rfl ?_
  refine at_bin dX8_runs_11 rfl ?_
  try dsimp only
  rw [nI_mul]
  refine at_st (i := 4) dX8_runs_12 rfl rfl (Nat.le_of_ble_eq_true rfl) rfl ?_
  try dsimp only [List.set_cons_succ, List.set_cons_zero]
  refine lpN (fun k => sg_A MX8_runs 14 [some (.ref 64), some (.int (nI g)), some (.int (nI n)), some (.int (nI (cnt (fun k => decide (rn v (4 * v 1 * g + k) = n)) k))), some (.int (nI (4 * v 1 * g + k)))] [] (mv h A F v) _) (4 * v 1) ?_ ?_
  · refine at_ld (i := 4) dX8_runs_14 rfl rfl rfl ?_
    refine at_k (nI 4) dX8_runs_16 rfl (by decide) ?_
    refine at_ld (i := 0) dX8_runs_17 rfl rfl rfl ?_
    refine at_get dX8_runs_18 fX8_7 (mv_o hn _ _ _) (by omega) rfl ?_
    refine at_k (nI 1) dX8_runs_21 rfl (by decide) ?_
    refine at_ald 1 dX8_runs_22 (mv_a hn _ _ _) rfl (by decide) (by decide) ?_
    refine at_bin dX8_runs_23 rfl ?_
    try dsimp only
    rw [nI_mul]
    refine at_ld (i := 1) dX8_runs_24 rfl rfl rfl ?_
    refine at_k (nI 1) dX8_runs_25 rfl (by decide) ?_
    refine at_bin dX8_runs_26 rfl ?_
    try dsimp only
    rw [nI_add]
    refine at_bin dX8_runs_27 rfl ?_
    try dsimp only
    rw [nI_mul]
    refine at_ige 58 dX8_runs_28 (by decide) (fun c => ?_) (fun c => ?_)
    · refine at_ld (i := 3) dX8_runs_58 rfl rfl rfl ?_
      refine at_ret dX8_runs_59 rfl rfl ?_
      exact ⟨rfl, rfl⟩
    · exact absurd (nI_le (by omega) (by omega)) c
  · intro k hk ih
    refine at_ld (i := 4) dX8_runs_14 rfl rfl rfl ?_
    refine at_k (nI 4) dX8_runs_16 rfl (by decide) ?_
    refine at_ld (i := 0) dX8_runs_17 rfl rfl rfl ?_
    refine at_get dX8_runs_18 fX8_7 (mv_o hn _ _ _) (by omega) rfl ?_
    refine at_k (nI 1) dX8_runs_21 rfl (by decide) ?_
    refine at_ald 1 dX8_runs_22 (mv_a hn _ _ _) rfl (by decide) (by decide) ?_
    refine at_bin dX8_runs_23 rfl ?_
    try dsimp only
    rw [nI_mul]
    refine at_ld (i := 1) dX8_runs_24 rfl rfl rfl ?_
    refine at_k (nI 1) dX8_runs_25 rfl (by decide) ?_
    refine at_bin dX8_runs_26 rfl ?_
    try dsimp only
    rw [nI_add]
    refine at_bin dX8_runs_27 rfl ?_
    try dsimp only
    rw [nI_mul]
    have nx : ∀ b : Bool, b = decide (rn v (4 * v 1 * g + k) = n) → sg_A MX8_runs 47 [some (.ref 64), some (.int (nI g)), some (.int (nI n)), some (.int (nI (cnt (fun k => decide (rn v (4 * v 1 * g + k) = n)) k))), some (.int (nI (4 * v 1 * g + k)))] [.int (bI b), .int (nI (cnt (fun k => decide (rn v (4 * v 1 * g + k) = n)) k))] (mv h A F v) (fun r h' => r = some (.int (nI (rns v g n))) ∧ h' = mv h A F v) := by
      intro b hb
      subst hb
      refine at_rs [_] dX8_runs_47 mX8_flag ⟨Nat.le_of_ble_eq_true rfl, Nat.le_of_ble_eq_true rfl⟩ lX8_133 tX8_flag rfl (Nat.le_of_ble_eq_true rfl) (Nat.le_of_ble_eq_true rfl) ⟨rfl, rfl⟩ (c_flag _ _) ?_
      refine at_bin dX8_runs_50 rfl ?_
      try dsimp only
      rw [cnt_s (fun k => decide (rn v (4 * v 1 * g + k) = n))]
      refine at_st (i := 3) dX8_runs_51 rfl rfl (Nat.le_of_ble_eq_true rfl) rfl ?_
      try dsimp only [List.set_cons_succ, List.set_cons_zero]
      refine at_iinc (nI 1) dX8_runs_52 rfl rfl (by decide) ?_
      try dsimp only [List.set_cons_succ, List.set_cons_zero]
      refine at_goto 14 dX8_runs_55 (by decide) ?_
      rw [nI_add]
      exact ih
    refine at_ige 58 dX8_runs_28 (by decide) (fun c => ?_) (fun c => ?_)
    · exact absurd c (nI_ge (by omega) (by omega))
    · have hr := rn_le v (4 * v 1 * g + k)
      refine at_ld (i := 3) dX8_runs_31 rfl rfl rfl ?_
      refine at_ld (i := 0) dX8_runs_32 rfl rfl rfl ?_
      refine at_ld (i := 4) dX8_runs_33 rfl rfl rfl ?_
      refine at_rv [_] dX8_runs_35 mX8_runAt ⟨Nat.le_of_ble_eq_true rfl, Nat.le_of_ble_eq_true rfl⟩ lX8_158 iX8_runAt rfl rfl (mv_o hn _ _ _) (by omega) rfl (Nat.le_of_ble_eq_true rfl) (Nat.le_of_ble_eq_true rfl) ⟨rfl, rfl⟩ (c_runAt A F v hn wm (4 * v 1 * g + k) (by omega)) ?_
      refine at_ld (i := 2) dX8_runs_38 rfl rfl rfl ?_
      refine at_ine 46 dX8_runs_39 (by decide) (fun c1 => ?_) (fun c1 => ?_)
      · refine at_k (nI 0) dX8_runs_46 rfl (by decide) ?_
        exact nx false (decide_eq_false (fun q => c1 (by rw [q]))).symm
      · have e1 := (nI_eq32 (by omega) (by omega)).mp (Classical.not_not.mp c1)
        refine at_k (nI 1) dX8_runs_42 rfl (by decide) ?_
        refine at_goto 47 dX8_runs_43 (by decide) ?_
        exact nx true (decide_eq_true e1).symm
set_option maxRecDepth 100000 in
theorem c_blockNear (hn : 72 ≤ h.1) (w : wfg v) (wm : wfm v) (g p : Nat) (hg : g < 1000) (hp : p < 1000) : sg_Kr MX8_blockNear [.ref 64, .int (nI g), .int (nI p)] (mv h A F v) (.int (oI (bnr v g p))) := by
  have hgb := wf_gb w
  have hb8 := w.2.1
  have hg4 := w.1
  show sg_A MX8_blockNear 0 [some (.ref 64), some (.int (nI g)), some (.int (nI p)), none, none, none] [] _ _
  refine at_k (nI 0) dX8_blockNear_0 rfl (by decide) ?_
  refine at_st (i := 3) dX8_blockNear_1 rfl rfl (Nat.le_of_ble_eq_true rfl) rfl ?_
  try dsimp only [List.set_cons_succ, List.set_cons_zero]
  have outer : ∀ (x4 x5 : Option Value), sg_A MX8_blockNear 2 [some (.ref 64), some (.int (nI g)), some (.int (nI p)), some (.int (nI 0)), x4, x5] [] (mv h A F v) (fun r h' => r = some (.int (oI (bnr v g p))) ∧ h' = mv h A F v) := by
    refine lpN (fun i => ∀ (x4 x5 : Option Value), sg_A MX8_blockNear 2 [some (.ref 64), some (.int (nI g)), some (.int (nI p)), some (.int (nI i)), x4, x5] [] (mv h A F v) (fun r h' => r = some (.int (oI (srch (fun i => srch (fun k => if fbk v (v 1 * bh v g i + (if i = 0 then (p + k) % v 1 else k)) = true then some (v 1 * bh v g i + (if i = 0 then (p + k) % v 1 else k)) else none) 0 (v 1)) i (v 0 - i)))) ∧ h' = mv h A F v)) (v 0) ?_ ?_
    · intro x4 x5
      refine at_ld (i := 3) dX8_blockNear_2 rfl rfl rfl ?_
      refine at_ld (i := 0) dX8_blockNear_3 rfl rfl rfl ?_
      refine at_get dX8_blockNear_4 fX8_7 (mv_o hn _ _ _) (by omega) rfl ?_
      refine at_k (nI 0) dX8_blockNear_7 rfl (by decide) ?_
      refine at_ald 0 dX8_blockNear_8 (mv_a hn _ _ _) rfl (by decide) (by decide) ?_
      refine at_ige 86 dX8_blockNear_9 (by decide) (fun c => ?_) (fun c => ?_)
      · refine at_k (-4) dX8_blockNear_86 rfl (by decide) ?_
        refine at_ret dX8_blockNear_88 rfl rfl ?_
        rw [sr_0]
        exact ⟨rfl, rfl⟩
      · exact absurd (nI_le (Nat.le_refl _) (by omega)) c
    · intro i hi ih x4 x5
      have hbh := bh_lt w g i
      refine at_ld (i := 3) dX8_blockNear_2 rfl rfl rfl ?_
      refine at_ld (i := 0) dX8_blockNear_3 rfl rfl rfl ?_
      refine at_get dX8_blockNear_4 fX8_7 (mv_o hn _ _ _) (by omega) rfl ?_
      refine at_k (nI 0) dX8_blockNear_7 rfl (by decide) ?_
      refine at_ald 0 dX8_blockNear_8 (mv_a hn _ _ _) rfl (by decide) (by decide) ?_
      refine at_ige 86 dX8_blockNear_9 (by decide) (fun c => ?_) (fun c => ?_)
      · exact absurd c (nI_ge hi (by omega))
      · refine at_k (nI 0) dX8_blockNear_12 rfl (by decide) ?_
        refine at_st (i := 4) dX8_blockNear_13 rfl rfl (Nat.le_of_ble_eq_true rfl) rfl ?_
        try dsimp only [List.set_cons_succ, List.set_cons_zero]
        have inner : ∀ (x5 : Option Value), sg_A MX8_blockNear 15 [some (.ref 64), some (.int (nI g)), some (.int (nI p)), some (.int (nI i)), some (.int (nI 0)), x5] [] (mv h A F v) (fun r h' => r = some (.int (oI (srch (fun i => srch (fun k => if fbk v (v 1 * bh v g i + (if i = 0 then (p + k) % v 1 else k)) = true then some (v 1 * bh v g i + (if i = 0 then (p + k) % v 1 else k)) else none) 0 (v 1)) i (v 0 - i)))) ∧ h' = mv h A F v) := by
          refine lpN (fun k => (∀ x, srch (fun k => if fbk v (v 1 * bh v g i + (if i = 0 then (p + k) % v 1 else k)) = true then some (v 1 * bh v g i + (if i = 0 then (p + k) % v 1 else k)) else none) 0 (v 1) = x → srch (fun k => if fbk v (v 1 * bh v g i + (if i = 0 then (p + k) % v 1 else k)) = true then some (v 1 * bh v g i + (if i = 0 then (p + k) % v 1 else k)) else none) k (v 1 - k) = x) → ∀ (x5 : Option Value), sg_A MX8_blockNear 15 [some (.ref 64), some (.int (nI g)), some (.int (nI p)), some (.int (nI i)), some (.int (nI k)), x5] [] (mv h A F v) (fun r h' => r = some (.int (oI (srch (fun i => srch (fun k => if fbk v (v 1 * bh v g i + (if i = 0 then (p + k) % v 1 else k)) = true then some (v 1 * bh v g i + (if i = 0 then (p + k) % v 1 else k)) else none) 0 (v 1)) i (v 0 - i)))) ∧ h' = mv h A F v)) (v 1) ?_ ?_ (fun x hx => hx)
          · intro hq x5
            have hq2 := hq _ rfl
            rw [sr_0] at hq2
            refine at_ld (i := 4) dX8_blockNear_15 rfl rfl rfl ?_
            refine at_ld (i := 0) dX8_blockNear_17 rfl rfl rfl ?_
            refine at_get dX8_blockNear_18 fX8_7 (mv_o hn _ _ _) (by omega) rfl ?_
            refine at_k (nI 1) dX8_blockNear_21 rfl (by decide) ?_
            refine at_ald 1 dX8_blockNear_22 (mv_a hn _ _ _) rfl (by decide) (by decide) ?_
            refine at_ige 80 dX8_blockNear_23 (by decide) (fun c1 => ?_) (fun c1 => ?_)
            · rw [sr_n hi hq2.symm]
              refine at_iinc (nI 1) dX8_blockNear_80 rfl rfl (by decide) ?_
              try dsimp only [List.set_cons_succ, List.set_cons_zero]
              refine at_goto 2 dX8_blockNear_83 (by decide) ?_
              rw [nI_add]
              exact ih _ _
            · exact absurd (nI_le (Nat.le_refl _) (by omega)) c1
          · intro k hk ihk hq x5
            refine at_ld (i := 4) dX8_blockNear_15 rfl rfl rfl ?_
            refine at_ld (i := 0) dX8_blockNear_17 rfl rfl rfl ?_
            refine at_get dX8_blockNear_18 fX8_7 (mv_o hn _ _ _) (by omega) rfl ?_
            refine at_k (nI 1) dX8_blockNear_21 rfl (by decide) ?_
            refine at_ald 1 dX8_blockNear_22 (mv_a hn _ _ _) rfl (by decide) (by decide) ?_
            refine at_ige 80 dX8_blockNear_23 (by decide) (fun c1 => ?_) (fun c1 => ?_)
            · exact absurd c1 (nI_ge hk (by omega))
            · refine at_ld (i := 0) dX8_blockNear_26 rfl rfl rfl ?_
              refine at_get dX8_blockNear_27 fX8_7 (mv_o hn _ _ _) (by omega) rfl ?_
              refine at_k (nI 1) dX8_blockNear_30 rfl (by decide) ?_
              refine at_ald 1 dX8_blockNear_31 (mv_a hn _ _ _) rfl (by decide) (by decide) ?_
              refine at_ld (i := 0) dX8_blockNear_32 rfl rfl rfl ?_
              refine at_ld (i := 1) dX8_blockNear_33 rfl rfl rfl ?_
              refine at_ld (i := 3) dX8_blockNear_34 rfl rfl rfl ?_
              refine at_rv [_, _] dX8_blockNear_35 mX8_behind ⟨Nat.le_of_ble_eq_true rfl, Nat.le_of_ble_eq_true rfl⟩ lX8_161 iX8_behind rfl rfl (mv_o hn _ _ _) (by omega) rfl (Nat.le_of_ble_eq_true rfl) (Nat.le_of_ble_eq_true rfl) ⟨rfl, rfl⟩ (c_behind A F v hn w g i (by omega) (by omega)) ?_
              refine at_bin dX8_blockNear_38 rfl ?_
              try dsimp only
              rw [nI_mul]
              have tl : ∀ q, q = (if i = 0 then (p + k) % v 1 else k) → q < v 1 → sg_A MX8_blockNear 59 [some (.ref 64), some (.int (nI g)), some (.int (nI p)), some (.int (nI i)), some (.int (nI k)), x5] [.int (nI q), .int (nI (v 1 * bh v g i))] (mv h A F v) (fun r h' => r = some (.int (oI (srch (fun i => srch (fun k => if fbk v (v 1 * bh v g i + (if i = 0 then (p + k) % v 1 else k)) = true then some (v 1 * bh v g i + (if i = 0 then (p + k) % v 1 else k)) else none) 0 (v 1)) i (v 0 - i)))) ∧ h' = mv h A F v) := by
                intro q hqe hql
                have hlt := gb_lt hbh hql
                refine at_bin dX8_blockNear_59 rfl ?_
                try dsimp only
                rw [nI_add]
                refine at_st (i := 5) dX8_blockNear_60 rfl rfl (Nat.le_of_ble_eq_true rfl) rfl ?_
                try dsimp only [List.set_cons_succ, List.set_cons_zero]
                refine at_ld (i := 0) dX8_blockNear_62 rfl rfl rfl ?_
                refine at_ld (i := 5) dX8_blockNear_63 rfl rfl rfl ?_
                refine at_rv [_] dX8_blockNear_65 mX8_isFreeBlock ⟨Nat.le_of_ble_eq_true rfl, Nat.le_of_ble_eq_true rfl⟩ lX8_149 iX8_isFreeBlock rfl rfl (mv_o hn _ _ _) (by omega) rfl (Nat.le_of_ble_eq_true rfl) (Nat.le_of_ble_eq_true rfl) ⟨rfl, rfl⟩ (c_isFreeBlock A F v hn (v 1 * bh v g i + q) (by omega) (fun j hj => wm _ (by omega))) ?_
                refine at_zeq 74 dX8_blockNear_68 (by decide) (fun c3 => ?_) (fun c3 => ?_)
                · rw [bI_0] at c3
                  refine at_iinc (nI 1) dX8_blockNear_74 rfl rfl (by decide) ?_
                  try dsimp only [List.set_cons_succ, List.set_cons_zero]
                  refine at_goto 15 dX8_blockNear_77 (by decide) ?_
                  rw [nI_add]
                  refine ihk (fun x hx => ?_) _
                  rw [← hq x hx]
                  refine (sr_n hk (if_neg ?_)).symm
                  rw [← hqe, c3]
                  exact fun z => by cases z
                · have c4 := bI_1 c3
                  refine at_ld (i := 5) dX8_blockNear_71 rfl rfl rfl ?_
                  refine at_ret dX8_blockNear_73 rfl rfl ?_
                  have hs := hq _ rfl
                  rw [sr_s hk (if_pos (by rw [← hqe]; exact c4)), ← hqe] at hs
                  rw [sr_s hi hs.symm]
                  exact ⟨rfl, rfl⟩
              refine at_ld (i := 3) dX8_blockNear_39 rfl rfl rfl ?_
              refine at_zne 57 dX8_blockNear_40 (by decide) (fun c2 => ?_) (fun c2 => ?_)
              · have c2' : ¬ i = 0 := fun z => c2 (by rw [z]; rfl)
                refine at_ld (i := 4) dX8_blockNear_57 rfl rfl rfl ?_
                exact tl k (if_neg c2').symm hk
              · have c2' : i = 0 := (nI_eq32 (b := 0) (by omega) (by decide)).mp (Classical.not_not.mp c2)
                refine at_ld (i := 2) dX8_blockNear_43 rfl rfl rfl ?_
                refine at_ld (i := 4) dX8_blockNear_44 rfl rfl rfl ?_
                refine at_bin dX8_blockNear_46 rfl ?_
                try dsimp only
                rw [nI_add]
                refine at_ld (i := 0) dX8_blockNear_47 rfl rfl rfl ?_
                refine at_get dX8_blockNear_48 fX8_7 (mv_o hn _ _ _) (by omega) rfl ?_
                refine at_k (nI 1) dX8_blockNear_51 rfl (by decide) ?_
                refine at_ald 1 dX8_blockNear_52 (mv_a hn _ _ _) rfl (by decide) (by decide) ?_
                refine at_rem dX8_blockNear_53 (nI_ne0 (by omega) (by omega)) ?_
                rw [nI_rem (by omega) (by omega)]
                refine at_goto 59 dX8_blockNear_54 (by decide) ?_
                exact tl ((p + k) % v 1) (if_pos c2').symm (Nat.mod_lt _ (by omega))
        exact inner _
  exact outer _ _
end R4
