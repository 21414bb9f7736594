/-! THE REFERENCE: what takes room -/
theorem io_u (v : Nat → Nat) {i w y i' w' : Nat} (hw : w < 15) (hw' : w' < 15) : io (vf_upd v (136 + 15 * i + w) y) i' w' = if i' = i ∧ w' = w then y else io v i' w' := by
  simp only [io, vf_upd]
  by_cases h : i' = i ∧ w' = w
  · rw [if_pos h, if_pos (by rw [h.1, h.2])]
  · rw [if_neg h, if_neg (fun e => h (by omega))]
theorem lta_out (v : Nat → Nat) (x : Nat) (b : Bool) (j : Nat) : ∀ n, (j < 8 + x ∨ 8 + x + n ≤ j) → lta v x b n j = v j := by
  intro n
  induction n with
  | zero => intro _; rfl
  | succ n ih =>
    intro hj
    simp only [lta, vf_upd]
    rw [if_neg (by omega)]
    exact ih (by omega)
theorem lta_in (v : Nat → Nat) (x : Nat) (b : Bool) (j : Nat) : ∀ n, 8 + x ≤ j → j < 8 + x + n → lta v x b n j = if b then 1 else 0 := by
  intro n
  induction n with
  | zero => intro h1 h2; omega
  | succ n ih =>
    intro h1 h2
    simp only [lta, vf_upd]
    by_cases e : j = 8 + (x + n)
    · rw [if_pos e]
    · rw [if_neg e]
      exact ih h1 (by omega)
theorem io_lta (v : Nat → Nat) {x n : Nat} (b : Bool) (hx : x + n ≤ 128) (i w : Nat) : io (lta v x b n) i w = io v i w := lta_out v x b _ n (by omega)
theorem wf_lta {v : Nat → Nat} (w : wf v) {x n : Nat} (b : Bool) (hx : x + n ≤ 128) : wf (lta v x b n) := by
  obtain ⟨h1, h2, h3⟩ := w
  refine ⟨?_, fun y hy => ?_, fun i hi => ?_⟩
  · unfold wfg at h1 ⊢
    rw [lta_out v x b 0 n (by omega), lta_out v x b 1 n (by omega), lta_out v x b 2 n (by omega), lta_out v x b 3 n (by omega), lta_out v x b 4 n (by omega), lta_out v x b 5 n (by omega)]
    exact h1
  · by_cases e : 8 + x ≤ 8 + y ∧ 8 + y < 8 + x + n
    · rw [lta_in v x b _ n e.1 e.2]
      split <;> omega
    · rw [lta_out v x b _ n (by omega)]
      exact h2 y hy
  · have := h3 i hi
    simp only [io_lta v b hx]
    exact this
theorem wf_set {v : Nat → Nat} (w : wf v) {i f y : Nat} (hf : f < 15) (h0 : f = 0 → y ≤ 2) (h3 : f = 3 → y ≤ 40) (h4 : f = 4 → y < 128) (h5 : 5 ≤ f → y < 32) : wf (vf_upd v (136 + 15 * i + f) y) := by
  obtain ⟨g1, g2, g3⟩ := w
  refine ⟨?_, fun z hz => ?_, fun j hj => ?_⟩
  · unfold wfg at g1 ⊢
    rw [vu_n _ _ 0 _ (by omega), vu_n _ _ 1 _ (by omega), vu_n _ _ 2 _ (by omega), vu_n _ _ 3 _ (by omega), vu_n _ _ 4 _ (by omega), vu_n _ _ 5 _ (by omega)]
    exact g1
  · rw [vu_n _ _ _ _ (by omega)]
    exact g2 z hz
  · obtain ⟨q0, q3, q4, q5⟩ := g3 j hj
    rw [io_u v hf (by omega), io_u v hf (by omega), io_u v hf (by omega)]
    refine ⟨?_, ?_, ?_, fun k hk => ?_⟩
    · split
      · next e => exact h0 e.2.symm
      · exact q0
    · split
      · next e => exact h3 e.2.symm
      · exact q3
    · split
      · next e => exact h4 e.2.symm
      · exact q4
    · rw [io_u v hf (by omega)]
      split
      · next e => exact h5 (by omega)
      · exact q5 k hk
theorem wf_c {v : Nat → Nat} (w : wf v) (j y : Nat) (hj : j = 6 ∨ j = 7) : wf (vf_upd v j y) := by
  obtain ⟨g1, g2, g3⟩ := w
  refine ⟨?_, fun z hz => ?_, fun i hi => ?_⟩
  · unfold wfg at g1 ⊢
    rw [vu_n _ _ 0 _ (by omega), vu_n _ _ 1 _ (by omega), vu_n _ _ 2 _ (by omega), vu_n _ _ 3 _ (by omega), vu_n _ _ 4 _ (by omega), vu_n _ _ 5 _ (by omega)]
    exact g1
  · rw [vu_n _ _ _ _ (by omega)]
    exact g2 z hz
  · have e : ∀ f, io (vf_upd v j y) i f = io v i f := fun f => vu_n _ _ _ _ (by omega)
    simp only [e]
    exact g3 i hi
theorem rl_end (v : Nat → Nat) (x e : Nat) : ∀ f n, x + n ≤ e → x + rl v x e f n ≤ e := by
  intro f
  induction f with
  | zero => intro n h; exact h
  | succ f ih =>
    intro n h
    simp only [rl]
    split
    · next q => exact ih (n + 1) (by omega)
    · exact h
theorem rn_end (v : Nat → Nat) (x : Nat) (h : 0 < rn v x) : x % 4 + rn v x ≤ 4 := by
  unfold rn at h ⊢
  split at h
  · omega
  · next q =>
    rw [if_neg q]
    have := rl_end v x (x / 4 * 4 + 4) 3 1 (by omega)
    omega
theorem rin_end {v : Nat → Nat} {g n x : Nat} (hn : 1 ≤ n) (hn4 : n ≤ 4) (h : rin v g n = some x) : x % 4 + n ≤ 4 := by
  unfold rin at h
  split at h
  · next y e =>
    cases h
    obtain ⟨l, h0, -, e1⟩ := sr_ge _ _ e
    obtain ⟨k, h1, h2, e2⟩ := sr_ge _ _ e1
    split at e2
    · next q =>
      cases e2
      have := rn_end v (4 * v 1 * g + k) (by omega)
      omega
    · cases e2
  · obtain ⟨k, h1, h2, e2⟩ := sr_ge _ _ h
    split at e2
    · cases e2
      omega
    · cases e2
theorem rnr_end {v : Nat → Nat} (w : wfg v) {g n x : Nat} (hn : 1 ≤ n) (hn4 : n ≤ 4) (h : rnr v g n = some x) : x < 4 * (v 0 * v 1) ∧ x % 4 + n ≤ 4 := by
  obtain ⟨j, -, -, e⟩ := sr_ge _ _ h
  exact ⟨rin_lt _ _ _ (bh_lt w g j) e, rin_end hn hn4 e⟩
theorem bnr_lt {v : Nat → Nat} (w : wfg v) {g p b : Nat} (h : bnr v g p = some b) : b < v 0 * v 1 := by
  obtain ⟨i, -, -, e⟩ := sr_ge _ _ h
  obtain ⟨k, -, hk, e2⟩ := sr_ge _ _ e
  have hq : (if i = 0 then (p + k) % v 1 else k) < v 1 := by
    split
    · exact Nat.mod_lt _ w.2.1.1
    · omega
  try dsimp only at e2
  generalize (if i = 0 then (p + k) % v 1 else k) = q at hq e2
  split at e2
  · cases e2
    exact gb_lt (bh_lt w g i) hq
  · cases e2
def gob (v : Nat → Nat) (i k : Nat) : Nat := if k = 0 then i / v 2 else if k % v 5 ≠ 0 then io v i (5 + k - 1) / v 1 else
  match srch (fun n => if fba v ≤ fbs v (bh v (io v i (5 + k - 1) / v 1) n) * v 0 then some (bh v (io v i (5 + k - 1) / v 1) n) else none) 1 (v 0) with
  | some g => g
  | none => io v i (5 + k - 1) / v 1
def pob (v : Nat → Nat) (i k : Nat) : Nat := if k = 0 ∨ k % v 5 = 0 then 0 else (io v i (5 + k - 1) % v 1 + 1 + v 3) % v 1
def tkb (v : Nat → Nat) (i k : Nat) : Option (Nat → Nat) := match bnr v (gob v i k) (pob v i k) with
  | none => none
  | some b => some (lta (vf_upd v (136 + 15 * i + (5 + k)) b) (4 * b) false 4)
def tkt (v : Nat → Nat) (i bl u : Nat) : Option (Nat → Nat) := match rnr v (if bl = 0 then i / v 2 else io v i (5 + bl - 1) / v 1) u with
  | none => none
  | some x => some (lta (vf_upd v (136 + 15 * i + 4) x) x false u)
theorem wf_tkb {v v' : Nat → Nat} (w : wf v) {i k : Nat} (hk : k < 10) (h : tkb v i k = some v') : wf v' := by
  have hgb := wf_gb w.1
  unfold tkb at h
  split at h
  · cases h
  · next b e =>
    cases h
    have hb := bnr_lt w.1 e
    exact wf_lta (wf_set w (by omega) (by omega) (by omega) (by omega) (fun _ => by omega)) false (by omega)
theorem wf_tkt {v v' : Nat → Nat} (w : wf v) {i bl u : Nat} (hu : 1 ≤ u) (hu4 : u ≤ 4) (h : tkt v i bl u = some v') : wf v' := by
  have hgb := wf_gb w.1
  unfold tkt at h
  split at h
  · cases h
  · next x e =>
    cases h
    obtain ⟨h1, h2⟩ := rnr_end w.1 hu hu4 e
    exact wf_lta (wf_set w (by omega) (by omega) (by omega) (fun _ => by omega) (by omega)) false (by omega)
section R8
variable {h : sg_H} (A : Nat → Nat → Int32) (F : Nat → Int32) (v : Nat → Nat)
set_option maxRecDepth 100000 in
theorem c_groupOfBlock (hn : 72 ≤ h.1) (w : wf v) (i k : Nat) (hi : i < 24) (hk : k < 10) : sg_Kr MX8_groupOfBlock [.ref 64, .int (nI i), .int (nI k)] (mv h A F v) (.int (nI (gob v i k))) := by
  have hgb := wf_gb w.1
  have h4 := w.1.1
  have hb8 := w.1.2.1
  have hi6 := w.1.2.2.1
  have hl := w.1.2.2.2.2.2
  show sg_A MX8_groupOfBlock 0 [some (.ref 64), some (.int (nI i)), some (.int (nI k)), none, none] [] _ _
  refine at_ld (i := 2) dX8_groupOfBlock_0 rfl rfl rfl ?_
  refine at_zne 13 dX8_groupOfBlock_1 (by decide) (fun c => ?_) (fun c => ?_)
  · have c1 : ¬ k = 0 := fun z => c (by rw [z]; rfl)
    have hb := (w.2.2 i hi).2.2.2 (k - 1) (by omega)
    rw [show 5 + (k - 1) = 5 + k - 1 by omega] at hb
    rw [gob, if_neg c1]
    refine at_ld (i := 0) dX8_groupOfBlock_13 rfl rfl rfl ?_
    refine at_ld (i := 1) dX8_groupOfBlock_14 rfl rfl rfl ?_
    refine at_k (nI 5) dX8_groupOfBlock_15 rfl (by decide) ?_
    refine at_ld (i := 2) dX8_groupOfBlock_16 rfl rfl rfl ?_
    refine at_bin dX8_groupOfBlock_17 rfl ?_
    try dsimp only
    rw [nI_add]
    refine at_k (nI 1) dX8_groupOfBlock_18 rfl (by decide) ?_
    refine at_bin dX8_groupOfBlock_19 rfl ?_
    try dsimp only
    rw [nI_sub (by omega)]
    refine at_rv [_, _] dX8_groupOfBlock_20 mX8_of ⟨Nat.le_of_ble_eq_true rfl, Nat.le_of_ble_eq_true rfl⟩ lX8_173 iX8_of rfl rfl (mv_o hn _ _ _) (by omega) rfl (Nat.le_of_ble_eq_true rfl) (Nat.le_of_ble_eq_true rfl) ⟨rfl, rfl⟩ (c_of A F v hn i (5 + k - 1) (by omega)) ?_
    refine at_ld (i := 0) dX8_groupOfBlock_23 rfl rfl rfl ?_
    refine at_get dX8_groupOfBlock_24 fX8_7 (mv_o hn _ _ _) (by omega) rfl ?_
    refine at_k (nI 1) dX8_groupOfBlock_27 rfl (by decide) ?_
    refine at_ald 1 dX8_groupOfBlock_28 (mv_a hn _ _ _) rfl (by decide) (by decide) ?_
    generalize io v i (5 + k - 1) = b at hb
    refine at_div dX8_groupOfBlock_29 (nI_ne0 (by omega) (by omega)) ?_
    rw [nI_div (by omega) (by omega)]
    have hdb := Nat.div_le_self b (v 1)
    generalize b / v 1 = g at hdb
    refine at_st (i := 3) dX8_groupOfBlock_30 rfl rfl (Nat.le_of_ble_eq_true rfl) rfl ?_
    try dsimp only [List.set_cons_succ, List.set_cons_zero]
    refine at_ld (i := 2) dX8_groupOfBlock_31 rfl rfl rfl ?_
    refine at_ld (i := 0) dX8_groupOfBlock_32 rfl rfl rfl ?_
    refine at_get dX8_groupOfBlock_33 fX8_7 (mv_o hn _ _ _) (by omega) rfl ?_
    refine at_k (nI 5) dX8_groupOfBlock_36 rfl (by decide) ?_
    refine at_ald 5 dX8_groupOfBlock_37 (mv_a hn _ _ _) rfl (by decide) (by decide) ?_
    refine at_rem dX8_groupOfBlock_38 (nI_ne0 (by omega) (by omega)) ?_
    rw [nI_rem (by omega) (by omega)]
    have hml := Nat.mod_lt k (show 0 < v 5 by omega)
    refine at_zeq 44 dX8_groupOfBlock_39 (by decide) (fun c2 => ?_) (fun c2 => ?_)
    · have c3 := (nI_eq32 (b := 0) (by omega) (by decide)).mp c2
      rw [if_neg (fun z => z c3)]
      refine at_k (nI 1) dX8_groupOfBlock_44 rfl (by decide) ?_
      refine at_st (i := 4) dX8_groupOfBlock_45 rfl rfl (Nat.le_of_ble_eq_true rfl) rfl ?_
      try dsimp only [List.set_cons_succ, List.set_cons_zero]
      refine lpF (fun n => sg_A MX8_groupOfBlock 47 [some (.ref 64), some (.int (nI i)), some (.int (nI k)), some (.int (nI g)), some (.int (nI n))] [] (mv h A F v) (fun r h' => r = some (.int (nI (match srch (fun n => if fba v ≤ fbs v (bh v g n) * v 0 then some (bh v g n) else none) n (v 0 + 1 - n) with | some g => g | none => g))) ∧ h' = mv h A F v)) 1 (v 0 + 1) (by omega) ?_ ?_
      · refine at_ld (i := 4) dX8_groupOfBlock_47 rfl rfl rfl ?_
        refine at_ld (i := 0) dX8_groupOfBlock_49 rfl rfl rfl ?_
        refine at_get dX8_groupOfBlock_50 fX8_7 (mv_o hn _ _ _) (by omega) rfl ?_
        refine at_k (nI 0) dX8_groupOfBlock_53 rfl (by decide) ?_
        refine at_ald 0 dX8_groupOfBlock_54 (mv_a hn _ _ _) rfl (by decide) (by decide) ?_
        refine at_igt 97 dX8_groupOfBlock_55 (by decide) (fun c4 => ?_) (fun c4 => ?_)
        · refine at_ld (i := 3) dX8_groupOfBlock_97 rfl rfl rfl ?_
          refine at_ret dX8_groupOfBlock_98 rfl rfl ?_
          rw [sr_0]
          exact ⟨rfl, rfl⟩
        · exact absurd (nI_lt (by omega) (by omega)) c4
      · intro n hn1 hn2 ih
        have hbh := bh_lt w.1 g n
        have hf := fbs_le v (bh v g n)
        have hfa := fba_le v
        have hmu : fbs v (bh v g n) * v 0 ≤ v 0 * v 1 := by rw [Nat.mul_comm]; exact Nat.mul_le_mul_left _ hf
        refine at_ld (i := 4) dX8_groupOfBlock_47 rfl rfl rfl ?_
        refine at_ld (i := 0) dX8_groupOfBlock_49 rfl rfl rfl ?_
        refine at_get dX8_groupOfBlock_50 fX8_7 (mv_o hn _ _ _) (by omega) rfl ?_
        refine at_k (nI 0) dX8_groupOfBlock_53 rfl (by decide) ?_
        refine at_ald 0 dX8_groupOfBlock_54 (mv_a hn _ _ _) rfl (by decide) (by decide) ?_
        refine at_igt 97 dX8_groupOfBlock_55 (by decide) (fun c4 => ?_) (fun c4 => ?_)
        · exact absurd c4 (nI_nlt (by omega) (by omega))
        · refine at_ld (i := 0) dX8_groupOfBlock_58 rfl rfl rfl ?_
          refine at_ld (i := 0) dX8_groupOfBlock_59 rfl rfl rfl ?_
          refine at_ld (i := 3) dX8_groupOfBlock_60 rfl rfl rfl ?_
          refine at_ld (i := 4) dX8_groupOfBlock_61 rfl rfl rfl ?_
          refine at_rv [_, _] dX8_groupOfBlock_63 mX8_behind ⟨Nat.le_of_ble_eq_true rfl, Nat.le_of_ble_eq_true rfl⟩ lX8_161 iX8_behind rfl rfl (mv_o hn _ _ _) (by omega) rfl (Nat.le_of_ble_eq_true rfl) (Nat.le_of_ble_eq_true rfl) ⟨rfl, rfl⟩ (c_behind A F v hn w.1 g n (by omega) (by omega)) ?_
          refine at_rv [_] dX8_groupOfBlock_66 mX8_freeBlocks ⟨Nat.le_of_ble_eq_true rfl, Nat.le_of_ble_eq_true rfl⟩ lX8_152 iX8_freeBlocks rfl rfl (mv_o hn _ _ _) (by omega) rfl (Nat.le_of_ble_eq_true rfl) (Nat.le_of_ble_eq_true rfl) ⟨rfl, rfl⟩ (c_freeBlocks A F v hn w.1 w.2.1 _ hbh) ?_
          refine at_ld (i := 0) dX8_groupOfBlock_69 rfl rfl rfl ?_
          refine at_get dX8_groupOfBlock_70 fX8_7 (mv_o hn _ _ _) (by omega) rfl ?_
          refine at_k (nI 0) dX8_groupOfBlock_73 rfl (by decide) ?_
          refine at_ald 0 dX8_groupOfBlock_74 (mv_a hn _ _ _) rfl (by decide) (by decide) ?_
          refine at_bin dX8_groupOfBlock_75 rfl ?_
          try dsimp only
          rw [nI_mul]
          refine at_ld (i := 0) dX8_groupOfBlock_76 rfl rfl rfl ?_
          refine at_rv [] dX8_groupOfBlock_77 mX8_allFreeBlocks ⟨Nat.le_of_ble_eq_true rfl, Nat.le_of_ble_eq_true rfl⟩ lX8_209 iX8_allFreeBlocks rfl rfl (mv_o hn _ _ _) (by omega) rfl (Nat.le_of_ble_eq_true rfl) (Nat.le_of_ble_eq_true rfl) ⟨rfl, rfl⟩ (c_allFreeBlocks A F v hn w.1 w.2.1) ?_
          refine at_ilt 91 dX8_groupOfBlock_80 (by decide) (fun c5 => ?_) (fun c5 => ?_)
          · have c6 := (nI_ltI (by omega) (by omega)).mp c5
            rw [sr_n hn2 (if_neg (by omega))]
            refine at_iinc (nI 1) dX8_groupOfBlock_91 rfl rfl (by decide) ?_
            try dsimp only [List.set_cons_succ, List.set_cons_zero]
            refine at_goto 47 dX8_groupOfBlock_94 (by decide) ?_
            rw [nI_add]
            exact ih
          · have c6 : fba v ≤ fbs v (bh v g n) * v 0 := by
              rcases Nat.lt_or_ge (fbs v (bh v g n) * v 0) (fba v) with z | z
              · exact absurd (nI_lt z (by omega)) c5
              · exact z
            refine at_ld (i := 0) dX8_groupOfBlock_83 rfl rfl rfl ?_
            refine at_ld (i := 3) dX8_groupOfBlock_84 rfl rfl rfl ?_
            refine at_ld (i := 4) dX8_groupOfBlock_85 rfl rfl rfl ?_
            refine at_rv [_, _] dX8_groupOfBlock_87 mX8_behind ⟨Nat.le_of_ble_eq_true rfl, Nat.le_of_ble_eq_true rfl⟩ lX8_161 iX8_behind rfl rfl (mv_o hn _ _ _) (by omega) rfl (Nat.le_of_ble_eq_true rfl) (Nat.le_of_ble_eq_true rfl) ⟨rfl, rfl⟩ (c_behind A F v hn w.1 g n (by omega) (by omega)) ?_
            refine at_ret dX8_groupOfBlock_90 rfl rfl ?_
            rw [sr_s hn2 (if_pos c6)]
            exact ⟨rfl, rfl⟩
    · have c3 : k % v 5 ≠ 0 := fun z => c2 (by rw [z]; rfl)
      rw [if_pos c3]
      refine at_ld (i := 3) dX8_groupOfBlock_42 rfl rfl rfl ?_
      refine at_ret dX8_groupOfBlock_43 rfl rfl ?_
      exact ⟨rfl, rfl⟩
  · have c1 := (nI_eq32 (b := 0) (by omega) (by decide)).mp (Classical.not_not.mp c)
    rw [gob, if_pos c1]
    refine at_ld (i := 1) dX8_groupOfBlock_4 rfl rfl rfl ?_
    refine at_ld (i := 0) dX8_groupOfBlock_5 rfl rfl rfl ?_
    refine at_get dX8_groupOfBlock_6 fX8_7 (mv_o hn _ _ _) (by omega) rfl ?_
    refine at_k (nI 2) dX8_groupOfBlock_9 rfl (by decide) ?_
    refine at_ald 2 dX8_groupOfBlock_10 (mv_a hn _ _ _) rfl (by decide) (by decide) ?_
    refine at_div dX8_groupOfBlock_11 (nI_ne0 (by omega) (by omega)) ?_
    rw [nI_div (by omega) (by omega)]
    refine at_ret dX8_groupOfBlock_12 rfl rfl ?_
    exact ⟨rfl, rfl⟩
theorem gob_lt (w : wf v) (i k : Nat) (hi : i < 24) (hk : k < 10) : gob v i k < 1000 := by
  have h4 := w.1.1
  unfold gob
  split
  · have := Nat.div_le_self i (v 2); omega
  · next c1 =>
    have hb := (w.2.2 i hi).2.2.2 (k - 1) (by omega)
    rw [show 5 + (k - 1) = 5 + k - 1 by omega] at hb
    have hd := Nat.div_le_self (io v i (5 + k - 1)) (v 1)
    split
    · omega
    · split
      · next g e =>
        obtain ⟨j, -, -, e2⟩ := sr_ge _ _ e
        split at e2
        · cases e2
          have := bh_lt w.1 (io v i (5 + k - 1) / v 1) j
          omega
        · cases e2
      · omega
theorem pob_lt (w : wf v) (i k : Nat) : pob v i k < 1000 := by
  have hb8 := w.1.2.1
  unfold pob
  split
  · omega
  · have := Nat.mod_lt (io v i (5 + k - 1) % v 1 + 1 + v 3) (show 0 < v 1 by omega)
    omega
set_option maxRecDepth 100000 in
theorem c_placeOfBlock (hn : 72 ≤ h.1) (w : wf v) (i k : Nat) (hi : i < 24) (hk : k < 10) : sg_Kr MX8_placeOfBlock [.ref 64, .int (nI i), .int (nI k)] (mv h A F v) (.int (nI (pob v i k))) := by
  have hb8 := w.1.2.1
  have hl := w.1.2.2.2.2.2
  have hs3 := w.1.2.2.2.1
  show sg_A MX8_placeOfBlock 0 [some (.ref 64), some (.int (nI i)), some (.int (nI k))] [] _ _
  refine at_ld (i := 2) dX8_placeOfBlock_0 rfl rfl rfl ?_
  refine at_zeq 15 dX8_placeOfBlock_1 (by decide) (fun c => ?_) (fun c => ?_)
  · have c1 : k = 0 := (nI_eq32 (b := 0) (by omega) (by decide)).mp c
    refine at_k (nI 0) dX8_placeOfBlock_15 rfl (by decide) ?_
    refine at_goto 52 dX8_placeOfBlock_16 (by decide) ?_
    refine at_ret dX8_placeOfBlock_52 rfl rfl ?_
    rw [pob, if_pos (Or.inl c1)]
    exact ⟨rfl, rfl⟩
  · have c1 : ¬ k = 0 := fun z => c (by rw [z]; rfl)
    refine at_ld (i := 2) dX8_placeOfBlock_4 rfl rfl rfl ?_
    refine at_ld (i := 0) dX8_placeOfBlock_5 rfl rfl rfl ?_
    refine at_get dX8_placeOfBlock_6 fX8_7 (mv_o hn _ _ _) (by omega) rfl ?_
    refine at_k (nI 5) dX8_placeOfBlock_9 rfl (by decide) ?_
    refine at_ald 5 dX8_placeOfBlock_10 (mv_a hn _ _ _) rfl (by decide) (by decide) ?_
    refine at_rem dX8_placeOfBlock_11 (nI_ne0 (by omega) (by omega)) ?_
    rw [nI_rem (by omega) (by omega)]
    have hml := Nat.mod_lt k (show 0 < v 5 by omega)
    refine at_zne 19 dX8_placeOfBlock_12 (by decide) (fun c2 => ?_) (fun c2 => ?_)
    · have c3 : k % v 5 ≠ 0 := fun z => c2 (by rw [z]; rfl)
      have hb := (w.2.2 i hi).2.2.2 (k - 1) (by omega)
      rw [show 5 + (k - 1) = 5 + k - 1 by omega] at hb
      rw [pob, if_neg (fun z => z.elim c1 c3)]
      refine at_ld (i := 0) dX8_placeOfBlock_19 rfl rfl rfl ?_
      refine at_ld (i := 1) dX8_placeOfBlock_20 rfl rfl rfl ?_
      refine at_k (nI 5) dX8_placeOfBlock_21 rfl (by decide) ?_
      refine at_ld (i := 2) dX8_placeOfBlock_22 rfl rfl rfl ?_
      refine at_bin dX8_placeOfBlock_23 rfl ?_
      try dsimp only
      rw [nI_add]
      refine at_k (nI 1) dX8_placeOfBlock_24 rfl (by decide) ?_
      refine at_bin dX8_placeOfBlock_25 rfl ?_
      try dsimp only
      rw [nI_sub (by omega)]
      refine at_rv [_, _] dX8_placeOfBlock_26 mX8_of ⟨Nat.le_of_ble_eq_true rfl, Nat.le_of_ble_eq_true rfl⟩ lX8_173 iX8_of rfl rfl (mv_o hn _ _ _) (by omega) rfl (Nat.le_of_ble_eq_true rfl) (Nat.le_of_ble_eq_true rfl) ⟨rfl, rfl⟩ (c_of A F v hn i (5 + k - 1) (by omega)) ?_
      refine at_ld (i := 0) dX8_placeOfBlock_29 rfl rfl rfl ?_
      refine at_get dX8_placeOfBlock_30 fX8_7 (mv_o hn _ _ _) (by omega) rfl ?_
      refine at_k (nI 1) dX8_placeOfBlock_33 rfl (by decide) ?_
      refine at_ald 1 dX8_placeOfBlock_34 (mv_a hn _ _ _) rfl (by decide) (by decide) ?_
      generalize io v i (5 + k - 1) = b at hb
      refine at_rem dX8_placeOfBlock_35 (nI_ne0 (by omega) (by omega)) ?_
      rw [nI_rem (by omega) (by omega)]
      have hmb := Nat.mod_lt b (show 0 < v 1 by omega)
      refine at_k (nI 1) dX8_placeOfBlock_36 rfl (by decide) ?_
      refine at_bin dX8_placeOfBlock_37 rfl ?_
      try dsimp only
      rw [nI_add]
      refine at_ld (i := 0) dX8_placeOfBlock_38 rfl rfl rfl ?_
      refine at_get dX8_placeOfBlock_39 fX8_7 (mv_o hn _ _ _) (by omega) rfl ?_
      refine at_k (nI 3) dX8_placeOfBlock_42 rfl (by decide) ?_
      refine at_ald 3 dX8_placeOfBlock_43 (mv_a hn _ _ _) rfl (by decide) (by decide) ?_
      refine at_bin dX8_placeOfBlock_44 rfl ?_
      try dsimp only
      rw [nI_add]
      refine at_ld (i := 0) dX8_placeOfBlock_45 rfl rfl rfl ?_
      refine at_get dX8_placeOfBlock_46 fX8_7 (mv_o hn _ _ _) (by omega) rfl ?_
      refine at_k (nI 1) dX8_placeOfBlock_49 rfl (by decide) ?_
      refine at_ald 1 dX8_placeOfBlock_50 (mv_a hn _ _ _) rfl (by decide) (by decide) ?_
      refine at_rem dX8_placeOfBlock_51 (nI_ne0 (by omega) (by omega)) ?_
      rw [nI_rem (by omega) (by omega)]
      refine at_ret dX8_placeOfBlock_52 rfl rfl ?_
      exact ⟨rfl, rfl⟩
    · have c3 := (nI_eq32 (b := 0) (by omega) (by decide)).mp (Classical.not_not.mp c2)
      refine at_k (nI 0) dX8_placeOfBlock_15 rfl (by decide) ?_
      refine at_goto 52 dX8_placeOfBlock_16 (by decide) ?_
      refine at_ret dX8_placeOfBlock_52 rfl rfl ?_
      rw [pob, if_pos (Or.inr c3)]
      exact ⟨rfl, rfl⟩
/-- an answer that says whether there was room, and the state: as it was, or as it becomes -/
def okA (o : Option (Nat → Nat)) : Int32 := bI o.isSome
set_option maxRecDepth 100000 in
theorem c_takesBlock (hn : 72 ≤ h.1) (w : wf v) (i k : Nat) (hi : i < 24) (hk : k < 10) : sg_Kw MX8_takesBlock [.ref 64, .int (nI i), .int (nI k)] (mv h A F v) (some (.int (okA (tkb v i k)))) (mv h A F ((tkb v i k).getD v)) := by
  have hgb := wf_gb w.1
  show sg_A MX8_takesBlock 0 [some (.ref 64), some (.int (nI i)), some (.int (nI k)), none] [] _ _
  refine at_ld (i := 0) dX8_takesBlock_0 rfl rfl rfl ?_
  refine at_ld (i := 0) dX8_takesBlock_1 rfl rfl rfl ?_
  refine at_ld (i := 1) dX8_takesBlock_2 rfl rfl rfl ?_
  refine at_ld (i := 2) dX8_takesBlock_3 rfl rfl rfl ?_
  refine at_rv [_, _] dX8_takesBlock_4 mX8_groupOfBlock ⟨Nat.le_of_ble_eq_true rfl, Nat.le_of_ble_eq_true rfl⟩ lX8_244 iX8_groupOfBlock rfl rfl (mv_o hn _ _ _) (by omega) rfl (Nat.le_of_ble_eq_true rfl) (Nat.le_of_ble_eq_true rfl) ⟨rfl, rfl⟩ (c_groupOfBlock A F v hn w i k hi hk) ?_
  refine at_ld (i := 0) dX8_takesBlock_7 rfl rfl rfl ?_
  refine at_ld (i := 1) dX8_takesBlock_8 rfl rfl rfl ?_
  refine at_ld (i := 2) dX8_takesBlock_9 rfl rfl rfl ?_
  refine at_rv [_, _] dX8_takesBlock_10 mX8_placeOfBlock ⟨Nat.le_of_ble_eq_true rfl, Nat.le_of_ble_eq_true rfl⟩ lX8_247 iX8_placeOfBlock rfl rfl (mv_o hn _ _ _) (by omega) rfl (Nat.le_of_ble_eq_true rfl) (Nat.le_of_ble_eq_true rfl) ⟨rfl, rfl⟩ (c_placeOfBlock A F v hn w i k hi hk) ?_
  refine at_rv [_, _] dX8_takesBlock_13 mX8_blockNear ⟨Nat.le_of_ble_eq_true rfl, Nat.le_of_ble_eq_true rfl⟩ lX8_250 iX8_blockNear rfl rfl (mv_o hn _ _ _) (by omega) rfl (Nat.le_of_ble_eq_true rfl) (Nat.le_of_ble_eq_true rfl) ⟨rfl, rfl⟩ (c_blockNear A F v hn w.1 w.2.1 _ _ (gob_lt v w i k hi hk) (pob_lt v w i k)) ?_
  refine at_st (i := 3) dX8_takesBlock_16 rfl rfl (Nat.le_of_ble_eq_true rfl) rfl ?_
  try dsimp only [List.set_cons_succ, List.set_cons_zero]
  refine at_ld (i := 3) dX8_takesBlock_17 rfl rfl rfl ?_
  refine at_k (-4) dX8_takesBlock_18 rfl (by decide) ?_
  rw [tkb]
  cases q : bnr v (gob v i k) (pob v i k) with
  | none =>
    refine at_ine 25 dX8_takesBlock_20 (by decide) (fun c => ?_) (fun c => ?_)
    · exact absurd rfl c
    · refine at_k (nI 0) dX8_takesBlock_23 rfl (by decide) ?_
      refine at_ret dX8_takesBlock_24 rfl rfl ?_
      exact ⟨rfl, rfl⟩
  | some b =>
    have hb := bnr_lt w.1 q
    refine at_ine 25 dX8_takesBlock_20 (by decide) (fun c => ?_) (fun c => ?_)
    · rw [show oI (some b) = nI b from rfl]
      refine at_ld (i := 0) dX8_takesBlock_25 rfl rfl rfl ?_
      refine at_ld (i := 1) dX8_takesBlock_26 rfl rfl rfl ?_
      refine at_k (nI 5) dX8_takesBlock_27 rfl (by decide) ?_
      refine at_ld (i := 2) dX8_takesBlock_28 rfl rfl rfl ?_
      refine at_bin dX8_takesBlock_29 rfl ?_
      try dsimp only
      rw [nI_add]
      refine at_ld (i := 3) dX8_takesBlock_30 rfl rfl rfl ?_
      refine at_wv [_, _, _] dX8_takesBlock_31 mX8_sets ⟨Nat.le_of_ble_eq_true rfl, Nat.le_of_ble_eq_true rfl⟩ lX8_236 iX8_sets rfl rfl (mv_o hn _ _ _) (by omega) rfl (Nat.le_of_ble_eq_true rfl) (Nat.le_of_ble_eq_true rfl) ⟨rfl, rfl⟩ (c_sets A F v hn i (5 + k) b _ rfl (by omega)) ⟨rfl, rfl⟩ ?_
      try dsimp only [Option.toList, List.cons_append, List.nil_append]
      refine at_ld (i := 0) dX8_takesBlock_34 rfl rfl rfl ?_
      refine at_k (nI 4) dX8_takesBlock_35 rfl (by decide) ?_
      refine at_ld (i := 3) dX8_takesBlock_36 rfl rfl rfl ?_
      refine at_bin dX8_takesBlock_37 rfl ?_
      try dsimp only
      rw [nI_mul]
      refine at_k (nI 4) dX8_takesBlock_38 rfl (by decide) ?_
      refine at_k (nI 0) dX8_takesBlock_39 rfl (by decide) ?_
      refine at_wv [_, _, _] dX8_takesBlock_40 mX8_letsAll ⟨Nat.le_of_ble_eq_true rfl, Nat.le_of_ble_eq_true rfl⟩ lX8_253 iX8_letsAll rfl rfl (mv_o hn _ _ _) (by omega) rfl (Nat.le_of_ble_eq_true rfl) (Nat.le_of_ble_eq_true rfl) ⟨rfl, rfl⟩ (c_letsAll A F _ hn (4 * b) 4 (by omega) false) ⟨rfl, rfl⟩ ?_
      try dsimp only [Option.toList, List.cons_append, List.nil_append]
      refine at_k (nI 1) dX8_takesBlock_43 rfl (by decide) ?_
      refine at_ret dX8_takesBlock_44 rfl rfl ?_
      exact ⟨rfl, rfl⟩
    · exact absurd (Classical.not_not.mp c) (oI_n (by omega))
set_option maxRecDepth 100000 in
theorem c_takesTail (hn : 72 ≤ h.1) (w : wf v) (i bl u : Nat) (hi : i < 24) (hbl : bl ≤ 10) (hu : 1 ≤ u) (hu4 : u ≤ 4) : sg_Kw MX8_takesTail [.ref 64, .int (nI i), .int (nI bl), .int (nI u)] (mv h A F v) (some (.int (okA (tkt v i bl u)))) (mv h A F ((tkt v i bl u).getD v)) := by
  have hgb := wf_gb w.1
  have hb8 := w.1.2.1
  have hi6 := w.1.2.2.1
  show sg_A MX8_takesTail 0 [some (.ref 64), some (.int (nI i)), some (.int (nI bl)), some (.int (nI u)), none] [] _ _
  have nx : ∀ g, g = (if bl = 0 then i / v 2 else io v i (5 + bl - 1) / v 1) → g < 1000 → sg_A MX8_takesTail 33 [some (.ref 64), some (.int (nI i)), some (.int (nI bl)), some (.int (nI u)), none] [.int (nI g), .ref 64] (mv h A F v) (fun r' h' => r' = some (.int (okA (tkt v i bl u))) ∧ h' = mv h A F ((tkt v i bl u).getD v)) := by
    intro g hg hgl
    rw [tkt, ← hg]
    refine at_ld (i := 3) dX8_takesTail_33 rfl rfl rfl ?_
    refine at_rv [_, _] dX8_takesTail_34 mX8_runNear ⟨Nat.le_of_ble_eq_true rfl, Nat.le_of_ble_eq_true rfl⟩ lX8_233 iX8_runNear rfl rfl (mv_o hn _ _ _) (by omega) rfl (Nat.le_of_ble_eq_true rfl) (Nat.le_of_ble_eq_true rfl) ⟨rfl, rfl⟩ (c_runNear A F v hn w.1 w.2.1 g u hgl hu4) ?_
    refine at_st (i := 4) dX8_takesTail_37 rfl rfl (Nat.le_of_ble_eq_true rfl) rfl ?_
    try dsimp only [List.set_cons_succ, List.set_cons_zero]
    refine at_ld (i := 4) dX8_takesTail_39 rfl rfl rfl ?_
    refine at_k (-4) dX8_takesTail_41 rfl (by decide) ?_
    cases q : rnr v g u with
    | none =>
      refine at_ine 48 dX8_takesTail_43 (by decide) (fun c => ?_) (fun c => ?_)
      · exact absurd rfl c
      · refine at_k (nI 0) dX8_takesTail_46 rfl (by decide) ?_
        refine at_ret dX8_takesTail_47 rfl rfl ?_
        exact ⟨rfl, rfl⟩
    | some x =>
      obtain ⟨hx1, hx2⟩ := rnr_end w.1 hu hu4 q
      refine at_ine 48 dX8_takesTail_43 (by decide) (fun c => ?_) (fun c => ?_)
      · rw [show oI (some x) = nI x from rfl]
        refine at_ld (i := 0) dX8_takesTail_48 rfl rfl rfl ?_
        refine at_ld (i := 1) dX8_takesTail_49 rfl rfl rfl ?_
        refine at_k (nI 4) dX8_takesTail_50 rfl (by decide) ?_
        refine at_ld (i := 4) dX8_takesTail_51 rfl rfl rfl ?_
        refine at_wv [_, _, _] dX8_takesTail_53 mX8_sets ⟨Nat.le_of_ble_eq_true rfl, Nat.le_of_ble_eq_true rfl⟩ lX8_236 iX8_sets rfl rfl (mv_o hn _ _ _) (by omega) rfl (Nat.le_of_ble_eq_true rfl) (Nat.le_of_ble_eq_true rfl) ⟨rfl, rfl⟩ (c_sets A F v hn i 4 x _ rfl (by omega)) ⟨rfl, rfl⟩ ?_
        try dsimp only [Option.toList, List.cons_append, List.nil_append]
        refine at_ld (i := 0) dX8_takesTail_56 rfl rfl rfl ?_
        refine at_ld (i := 4) dX8_takesTail_57 rfl rfl rfl ?_
        refine at_ld (i := 3) dX8_takesTail_59 rfl rfl rfl ?_
        refine at_k (nI 0) dX8_takesTail_60 rfl (by decide) ?_
        refine at_wv [_, _, _] dX8_takesTail_61 mX8_letsAll ⟨Nat.le_of_ble_eq_true rfl, Nat.le_of_ble_eq_true rfl⟩ lX8_253 iX8_letsAll rfl rfl (mv_o hn _ _ _) (by omega) rfl (Nat.le_of_ble_eq_true rfl) (Nat.le_of_ble_eq_true rfl) ⟨rfl, rfl⟩ (c_letsAll A F _ hn x u (by omega) false) ⟨rfl, rfl⟩ ?_
        try dsimp only [Option.toList, List.cons_append, List.nil_append]
        refine at_k (nI 1) dX8_takesTail_64 rfl (by decide) ?_
        refine at_ret dX8_takesTail_65 rfl rfl ?_
        exact ⟨rfl, rfl⟩
      · exact absurd (Classical.not_not.mp c) (oI_n (by omega))
  refine at_ld (i := 0) dX8_takesTail_0 rfl rfl rfl ?_
  refine at_ld (i := 2) dX8_takesTail_1 rfl rfl rfl ?_
  refine at_zne 16 dX8_takesTail_2 (by decide) (fun c => ?_) (fun c => ?_)
  · have c1 : ¬ bl = 0 := fun z => c (by rw [z]; rfl)
    have hb := (w.2.2 i hi).2.2.2 (bl - 1) (by omega)
    rw [show 5 + (bl - 1) = 5 + bl - 1 by omega] at hb
    refine at_ld (i := 0) dX8_takesTail_16 rfl rfl rfl ?_
    refine at_ld (i := 1) dX8_takesTail_17 rfl rfl rfl ?_
    refine at_k (nI 5) dX8_takesTail_18 rfl (by decide) ?_
    refine at_ld (i := 2) dX8_takesTail_19 rfl rfl rfl ?_
    refine at_bin dX8_takesTail_20 rfl ?_
    try dsimp only
    rw [nI_add]
    refine at_k (nI 1) dX8_takesTail_21 rfl (by decide) ?_
    refine at_bin dX8_takesTail_22 rfl ?_
    try dsimp only
    rw [nI_sub (by omega)]
    refine at_rv [_, _] dX8_takesTail_23 mX8_of ⟨Nat.le_of_ble_eq_true rfl, Nat.le_of_ble_eq_true rfl⟩ lX8_173 iX8_of rfl rfl (mv_o hn _ _ _) (by omega) rfl (Nat.le_of_ble_eq_true rfl) (Nat.le_of_ble_eq_true rfl) ⟨rfl, rfl⟩ (c_of A F v hn i (5 + bl - 1) (by omega)) ?_
    refine at_ld (i := 0) dX8_takesTail_26 rfl rfl rfl ?_
    refine at_get dX8_takesTail_27 fX8_7 (mv_o hn _ _ _) (by omega) rfl ?_
    refine at_k (nI 1) dX8_takesTail_30 rfl (by decide) ?_
    refine at_ald 1 dX8_takesTail_31 (mv_a hn _ _ _) rfl (by decide) (by decide) ?_
    refine at_div dX8_takesTail_32 (nI_ne0 (by omega) (by omega)) ?_
    rw [nI_div (by omega) (by omega)]
    have hd := Nat.div_le_self (io v i (5 + bl - 1)) (v 1)
    exact nx _ (if_neg c1).symm (by omega)
  · have c1 := (nI_eq32 (b := 0) (by omega) (by decide)).mp (Classical.not_not.mp c)
    refine at_ld (i := 1) dX8_takesTail_5 rfl rfl rfl ?_
    refine at_ld (i := 0) dX8_takesTail_6 rfl rfl rfl ?_
    refine at_get dX8_takesTail_7 fX8_7 (mv_o hn _ _ _) (by omega) rfl ?_
    refine at_k (nI 2) dX8_takesTail_10 rfl (by decide) ?_
    refine at_ald 2 dX8_takesTail_11 (mv_a hn _ _ _) rfl (by decide) (by decide) ?_
    refine at_div dX8_takesTail_12 (nI_ne0 (by omega) (by omega)) ?_
    rw [nI_div (by omega) (by omega)]
    have hd := Nat.div_le_self i (v 2)
    refine at_goto 33 dX8_takesTail_13 (by decide) ?_
    exact nx _ (if_pos c1).symm (by omega)
end R8
