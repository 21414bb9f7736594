/-! THE REFERENCE: gather, the map's calls, images, the tape's two calls, a new start -/
def s_flip (v : Nat → Nat) (x : Int32) : Int32 × (Nat → Nat) := if inR x 0 (4 * v 0 * v 1 - 1) = true then (bI (fr v x.toNatClampNeg), vf_upd v (8 + x.toNatClampNeg) (if fr v x.toNatClampNeg = true then 0 else 1)) else (-1, v)
def mnd (v : Nat → Nat) : Nat → (Nat → Nat)
  | 0 => v
  | k + 1 => vf_upd (mnd v k) (8 + k) (if (own v k).isNone then 1 else 0)
def s_mend (v : Nat → Nat) : Int32 × (Nat → Nat) := (nI (cnt (fun x => fr v x != (own v x).isNone) (4 * v 0 * v 1)), mnd v (4 * v 0 * v 1))
theorem mnd_io (v : Nat → Nat) : ∀ k, k ≤ 128 → ∀ i f, io (mnd v k) i f = io v i f := by
  intro k
  induction k with
  | zero => intro _ i f; rfl
  | succ k ih => intro hk i f; simp only [mnd]; rw [← ih (by omega) i f]; exact vu_n _ _ _ _ (by omega)
theorem mnd_c (v : Nat → Nat) : ∀ k c, (c < 8 ∨ 8 + k ≤ c) → mnd v k c = v c := by
  intro k
  induction k with
  | zero => intro c _; rfl
  | succ k ih => intro c hc; simp only [mnd]; rw [vu_n _ _ _ _ (by omega)]; exact ih c (by omega)
theorem wf_mnd {v : Nat → Nat} (w : wf v) : ∀ k, k ≤ 128 → wf (mnd v k) := by
  intro k
  induction k with
  | zero => intro _; exact w
  | succ k ih =>
    intro hk
    have := wf_lta (ih (by omega)) (own v k).isNone (x := k) (n := 1) (by omega)
    exact this
theorem hasF_io {v v' : Nat → Nat} (h : ∀ i f, io v' i f = io v i f) (i x : Nat) : hasF v' i x = hasF v i x := by
  simp only [hasF, hasT, h]
theorem own_io {v v' : Nat → Nat} (h : ∀ i f, io v' i f = io v i f) (h0 : v' 0 = v 0) (h2 : v' 2 = v 2) (x : Nat) : own v' x = own v x := by
  unfold own
  rw [h0, h2]
  have : (fun i => if hasF v' i x = true then some i else none) = (fun i => if hasF v i x = true then some i else none) := by
    funext i
    rw [hasF_io h]
  rw [this]
def cI2 (x : Nat) : Int32 := nI x
/-- the state of a new start, by the six numbers -/
def anw (v : Nat → Nat) : Nat → Nat := fun c => if c < 6 ∨ 496 ≤ c then v c else if 8 < c ∧ c < 8 + 4 * v 0 * v 1 then 1 else if c = 136 ∨ c = 139 then 1 else if c = 137 ∨ c = 138 then 4294967292 else 0
section R15
variable {h : sg_H} (A : Nat → Nat → Int32) (F : Nat → Int32) (v : Nat → Nat)
set_option maxRecDepth 100000 in
set_option maxHeartbeats 4000000 in
theorem c_gather (hn : 72 ≤ h.1) (w : wf v) (x : Int32) : sg_Kw MX8_gather [.ref 64, .int x] (mv h A F v) (some (.int (s_gather v x).1)) (mv h A F (s_gather v x).2) := by
  have hgi := wf_gi w.1
  have hgb := wf_gb w.1
  have h4 := w.1.1
  have hb8 := w.1.2.1
  have hi6 := w.1.2.2.1
  show sg_A MX8_gather 0 [some (.ref 64), some (.int x), none, none, none] [] _ _
  refine at_ld (i := 0) dX8_gather_0 rfl rfl rfl ?_
  refine at_ld (i := 1) dX8_gather_1 rfl rfl rfl ?_
  refine at_rv [_] dX8_gather_2 mX8_isFile ⟨Nat.le_of_ble_eq_true rfl, Nat.le_of_ble_eq_true rfl⟩ lX8_273 iX8_isFile rfl rfl (mv_o hn _ _ _) (by omega) rfl (Nat.le_of_ble_eq_true rfl) (Nat.le_of_ble_eq_true rfl) ⟨rfl, rfl⟩ (c_isFile A F v hn w.1 (wf_k w) x) ?_
  refine at_zne 10 dX8_gather_5 (by decide) (fun c => ?_) (fun c => ?_)
  · have c1 := bI_1 c
    rw [s_gather, if_pos c1]
    obtain ⟨i, hi, rfl, -⟩ := isFil_of w.1 c1
    have hs := wf_s w (i := i) (by omega)
    rw [nI_clamp (by omega)]
    have sta : (spt v = true ∨ io v i 3 / 4 < 2) → sg_A MX8_gather 26 [some (.ref 64), some (.int (nI i)), none, none, none] [] (mv h A F v) (fun r' h' => r' = some (.int (if spt v = true ∨ io v i 3 / 4 < 2 then (-2, v) else (match gfind v i with | none => (-3, v) | some gp => (nI (flw (gth v i gp.1 gp.2) i), gth v i gp.1 gp.2))).1) ∧ h' = mv h A F (if spt v = true ∨ io v i 3 / 4 < 2 then (-2, v) else (match gfind v i with | none => (-3, v) | some gp => (nI (flw (gth v i gp.1 gp.2) i), gth v i gp.1 gp.2))).2) := by
      intro hy
      refine at_k (-2) dX8_gather_26 rfl (by decide) ?_
      refine at_ret dX8_gather_28 rfl rfl ?_
      rw [if_pos hy]
      exact ⟨rfl, rfl⟩
    refine at_ld (i := 0) dX8_gather_10 rfl rfl rfl ?_
    refine at_rv [] dX8_gather_11 mX8_isSpoilt ⟨Nat.le_of_ble_eq_true rfl, Nat.le_of_ble_eq_true rfl⟩ lX8_240 iX8_isSpoilt rfl rfl (mv_o hn _ _ _) (by omega) rfl (Nat.le_of_ble_eq_true rfl) (Nat.le_of_ble_eq_true rfl) ⟨rfl, rfl⟩ (c_isSpoilt A F v hn w) ?_
    refine at_zne 26 dX8_gather_14 (by decide) (fun c2 => ?_) (fun c2 => ?_)
    · exact sta (Or.inl (bI_1 c2))
    · have c3 := (bI_0 _).mp (Classical.not_not.mp c2)
      refine at_ld (i := 0) dX8_gather_17 rfl rfl rfl ?_
      refine at_ld (i := 1) dX8_gather_18 rfl rfl rfl ?_
      refine at_rv [_] dX8_gather_19 mX8_blocks ⟨Nat.le_of_ble_eq_true rfl, Nat.le_of_ble_eq_true rfl⟩ lX8_194 iX8_blocks rfl rfl (mv_o hn _ _ _) (by omega) rfl (Nat.le_of_ble_eq_true rfl) (Nat.le_of_ble_eq_true rfl) ⟨rfl, rfl⟩ (c_blocks A F v hn i (by omega) (by omega)) ?_
      refine at_k (nI 2) dX8_gather_22 rfl (by decide) ?_
      refine at_ige 29 dX8_gather_23 (by decide) (fun c4 => ?_) (fun c4 => ?_)
      · have c5 := (nI_leI (by omega) (by omega)).mp c4
        have hno : ¬ (spt v = true ∨ io v i 3 / 4 < 2) := by
          rintro (z | z)
          · rw [c3] at z; cases z
          · omega
        rw [if_neg hno]
        refine at_k (nI 0) dX8_gather_29 rfl (by decide) ?_
        refine at_st (i := 2) dX8_gather_30 rfl rfl (Nat.le_of_ble_eq_true rfl) rfl ?_
        try dsimp only [List.set_cons_succ, List.set_cons_zero]
        have outer : ∀ y3 y4 : Option Value, sg_A MX8_gather 31 [some (.ref 64), some (.int (nI i)), some (.int (nI 0)), y3, y4] [] (mv h A F v) (fun r' h' => r' = some (.int (match gfind v i with | none => (-3, v) | some gp => (nI (flw (gth v i gp.1 gp.2) i), gth v i gp.1 gp.2)).1) ∧ h' = mv h A F (match gfind v i with | none => (-3, v) | some gp => (nI (flw (gth v i gp.1 gp.2) i), gth v i gp.1 gp.2)).2) := by
          refine lpN (fun n => (∀ o, gfind v i = o → srch (fun n => srch (fun p => if rfr v (bh v (i / v 2) n) p (io v i 3 / 4) = true then some (bh v (i / v 2) n, p) else none) 0 (v 1)) n (v 0 - n) = o) → ∀ y3 y4 : Option Value, sg_A MX8_gather 31 [some (.ref 64), some (.int (nI i)), some (.int (nI n)), y3, y4] [] (mv h A F v) (fun r' h' => r' = some (.int (match gfind v i with | none => (-3, v) | some gp => (nI (flw (gth v i gp.1 gp.2) i), gth v i gp.1 gp.2)).1) ∧ h' = mv h A F (match gfind v i with | none => (-3, v) | some gp => (nI (flw (gth v i gp.1 gp.2) i), gth v i gp.1 gp.2)).2)) (v 0) ?_ ?_ (fun o ho => ho)
          · intro hq y3 y4
            have hq2 := hq _ rfl
            rw [sr_0] at hq2
            refine at_ld (i := 2) dX8_gather_31 rfl rfl rfl ?_
            refine at_ld (i := 0) dX8_gather_32 rfl rfl rfl ?_
            refine at_get dX8_gather_33 fX8_7 (mv_o hn _ _ _) (by omega) rfl ?_
            refine at_k (nI 0) dX8_gather_36 rfl (by decide) ?_
            refine at_ald 0 dX8_gather_37 (mv_a hn _ _ _) rfl (by decide) (by decide) ?_
            refine at_ige 110 dX8_gather_38 (by decide) (fun c6 => ?_) (fun c6 => ?_)
            · refine at_k (-3) dX8_gather_110 rfl (by decide) ?_
              refine at_ret dX8_gather_112 rfl rfl ?_
              rw [← hq2]
              exact ⟨rfl, rfl⟩
            · exact absurd (nI_le (Nat.le_refl _) (by omega)) c6
          · intro n hnn ih hq y3 y4
            have hbh := bh_lt w.1 (i / v 2) n
            have hdi := Nat.div_le_self i (v 2)
            refine at_ld (i := 2) dX8_gather_31 rfl rfl rfl ?_
            refine at_ld (i := 0) dX8_gather_32 rfl rfl rfl ?_
            refine at_get dX8_gather_33 fX8_7 (mv_o hn _ _ _) (by omega) rfl ?_
            refine at_k (nI 0) dX8_gather_36 rfl (by decide) ?_
            refine at_ald 0 dX8_gather_37 (mv_a hn _ _ _) rfl (by decide) (by decide) ?_
            refine at_ige 110 dX8_gather_38 (by decide) (fun c6 => ?_) (fun c6 => ?_)
            · exact absurd c6 (nI_ge hnn (by omega))
            · refine at_ld (i := 0) dX8_gather_41 rfl rfl rfl ?_
              refine at_ld (i := 1) dX8_gather_42 rfl rfl rfl ?_
              refine at_ld (i := 0) dX8_gather_43 rfl rfl rfl ?_
              refine at_get dX8_gather_44 fX8_7 (mv_o hn _ _ _) (by omega) rfl ?_
              refine at_k (nI 2) dX8_gather_47 rfl (by decide) ?_
              refine at_ald 2 dX8_gather_48 (mv_a hn _ _ _) rfl (by decide) (by decide) ?_
              refine at_div dX8_gather_49 (nI_ne0 (by omega) (by omega)) ?_
              rw [nI_div (by omega) (by omega)]
              refine at_ld (i := 2) dX8_gather_50 rfl rfl rfl ?_
              refine at_rv [_, _] dX8_gather_51 mX8_behind ⟨Nat.le_of_ble_eq_true rfl, Nat.le_of_ble_eq_true rfl⟩ lX8_161 iX8_behind rfl rfl (mv_o hn _ _ _) (by omega) rfl (Nat.le_of_ble_eq_true rfl) (Nat.le_of_ble_eq_true rfl) ⟨rfl, rfl⟩ (c_behind A F v hn w.1 (i / v 2) n (by omega) (by omega)) ?_
              refine at_st (i := 3) dX8_gather_54 rfl rfl (Nat.le_of_ble_eq_true rfl) rfl ?_
              try dsimp only [List.set_cons_succ, List.set_cons_zero]
              refine at_k (nI 0) dX8_gather_55 rfl (by decide) ?_
              refine at_st (i := 4) dX8_gather_56 rfl rfl (Nat.le_of_ble_eq_true rfl) rfl ?_
              try dsimp only [List.set_cons_succ, List.set_cons_zero]
              refine lpN (fun p => (∀ o, srch (fun p => if rfr v (bh v (i / v 2) n) p (io v i 3 / 4) = true then some (bh v (i / v 2) n, p) else none) 0 (v 1) = o → srch (fun p => if rfr v (bh v (i / v 2) n) p (io v i 3 / 4) = true then some (bh v (i / v 2) n, p) else none) p (v 1 - p) = o) → sg_A MX8_gather 58 [some (.ref 64), some (.int (nI i)), some (.int (nI n)), some (.int (nI (bh v (i / v 2) n))), some (.int (nI p))] [] (mv h A F v) (fun r' h' => r' = some (.int (match gfind v i with | none => (-3, v) | some gp => (nI (flw (gth v i gp.1 gp.2) i), gth v i gp.1 gp.2)).1) ∧ h' = mv h A F (match gfind v i with | none => (-3, v) | some gp => (nI (flw (gth v i gp.1 gp.2) i), gth v i gp.1 gp.2)).2)) (v 1) ?_ ?_ (fun o ho => ho)
              · intro hp
                have hp2 := hp _ rfl
                rw [sr_0] at hp2
                refine at_ld (i := 4) dX8_gather_58 rfl rfl rfl ?_
                refine at_ld (i := 0) dX8_gather_60 rfl rfl rfl ?_
                refine at_get dX8_gather_61 fX8_7 (mv_o hn _ _ _) (by omega) rfl ?_
                refine at_k (nI 1) dX8_gather_64 rfl (by decide) ?_
                refine at_ald 1 dX8_gather_65 (mv_a hn _ _ _) rfl (by decide) (by decide) ?_
                refine at_ige 104 dX8_gather_66 (by decide) (fun c7 => ?_) (fun c7 => ?_)
                · refine at_iinc (nI 1) dX8_gather_104 rfl rfl (by decide) ?_
                  try dsimp only [List.set_cons_succ, List.set_cons_zero]
                  refine at_goto 31 dX8_gather_107 (by decide) ?_
                  rw [nI_add]
                  refine ih (fun o ho => ?_) _ _
                  rw [← hq o ho]
                  exact (sr_n hnn hp2.symm).symm
                · exact absurd (nI_le (Nat.le_refl _) (by omega)) c7
              · intro p hpp ihp hp
                refine at_ld (i := 4) dX8_gather_58 rfl rfl rfl ?_
                refine at_ld (i := 0) dX8_gather_60 rfl rfl rfl ?_
                refine at_get dX8_gather_61 fX8_7 (mv_o hn _ _ _) (by omega) rfl ?_
                refine at_k (nI 1) dX8_gather_64 rfl (by decide) ?_
                refine at_ald 1 dX8_gather_65 (mv_a hn _ _ _) rfl (by decide) (by decide) ?_
                refine at_ige 104 dX8_gather_66 (by decide) (fun c7 => ?_) (fun c7 => ?_)
                · exact absurd c7 (nI_ge hpp (by omega))
                · refine at_ld (i := 0) dX8_gather_69 rfl rfl rfl ?_
                  refine at_ld (i := 3) dX8_gather_70 rfl rfl rfl ?_
                  refine at_ld (i := 4) dX8_gather_71 rfl rfl rfl ?_
                  refine at_ld (i := 0) dX8_gather_73 rfl rfl rfl ?_
                  refine at_ld (i := 1) dX8_gather_74 rfl rfl rfl ?_
                  refine at_rv [_] dX8_gather_75 mX8_blocks ⟨Nat.le_of_ble_eq_true rfl, Nat.le_of_ble_eq_true rfl⟩ lX8_194 iX8_blocks rfl rfl (mv_o hn _ _ _) (by omega) rfl (Nat.le_of_ble_eq_true rfl) (Nat.le_of_ble_eq_true rfl) ⟨rfl, rfl⟩ (c_blocks A F v hn i (by omega) (by omega)) ?_
                  refine at_rv [_, _, _] dX8_gather_78 mX8_isRowFree ⟨Nat.le_of_ble_eq_true rfl, Nat.le_of_ble_eq_true rfl⟩ lX8_287 iX8_isRowFree rfl rfl (mv_o hn _ _ _) (by omega) rfl (Nat.le_of_ble_eq_true rfl) (Nat.le_of_ble_eq_true rfl) ⟨rfl, rfl⟩ (c_isRowFree A F v hn w (bh v (i / v 2) n) p (io v i 3 / 4) hbh hpp (by omega)) ?_
                  refine at_zeq 98 dX8_gather_81 (by decide) (fun c8 => ?_) (fun c8 => ?_)
                  · have c9 := (bI_0 _).mp c8
                    refine at_iinc (nI 1) dX8_gather_98 rfl rfl (by decide) ?_
                    try dsimp only [List.set_cons_succ, List.set_cons_zero]
                    refine at_goto 58 dX8_gather_101 (by decide) ?_
                    rw [nI_add]
                    refine ihp (fun o ho => ?_)
                    rw [← hp o ho]
                    exact (sr_n hpp (if_neg (by rw [c9]; exact fun z => by cases z))).symm
                  · have c9 := bI_1 c8
                    have hpl : ∀ k, k < io v i 3 / 4 → p + k * (1 + v 3) < v 1 := fun k hk => by
                      have := allB_of _ c9 k hk
                      rw [Bool.and_eq_true] at this
                      exact of_decide_eq_true this.1
                    have e1 := hp _ rfl
                    rw [sr_s hpp (if_pos c9)] at e1
                    have e2 := hq _ rfl
                    rw [sr_s hnn e1.symm] at e2
                    rw [← e2]
                    have hfr := (frb_p (i := i) (by omega) (io v i 3 / 4) 0 w (by omega))
                    have hlow : ∀ m k (u : Nat → Nat), wf u → k + m ≤ 10 → ∀ c, c < 8 → frb u i m k c = u c := by
                      intro m
                      induction m with
                      | zero => intro k u _ _ c _; rfl
                      | succ m ihm =>
                        intro k u wu hk c hc
                        have hbu := (wu.2.2 i (by omega)).2.2.2 k (by omega)
                        simp only [frb]
                        rw [ihm (k + 1) _ (wf_lta wu true (by omega)) (by omega) c hc, lta_out _ _ _ _ _ (by omega)]
                    have hg2 := gts_p (i := i) (g := bh v (i / v 2) n) (p := p) (by omega) (io v i 3 / 4) 0 hfr.1 (by omega) (fun j _ hj => by
                      rw [hlow _ _ v w (by omega) 1 (by omega), hlow _ _ v w (by omega) 3 (by omega)]
                      have := gb_lt hbh (hpl j (by omega))
                      omega)
                    have w9 : wf (gth v i (bh v (i / v 2) n) p) := wf_c hg2.1 7 _ (Or.inr rfl)
                    have e9 : io (gth v i (bh v (i / v 2) n) p) i 3 = io v i 3 := by
                      have a1 : io (gth v i (bh v (i / v 2) n) p) i 3 = io (gts (frb v i (io v i 3 / 4) 0) i (bh v (i / v 2) n) p (io v i 3 / 4) 0) i 3 := vu_n _ _ _ _ (by omega)
                      rw [a1, hg2.2.2.1 i 3 (by omega) (Or.inr (by omega)), hfr.2.2]
                    refine at_ld (i := 0) dX8_gather_84 rfl rfl rfl ?_
                    refine at_ld (i := 1) dX8_gather_85 rfl rfl rfl ?_
                    refine at_ld (i := 3) dX8_gather_86 rfl rfl rfl ?_
                    refine at_ld (i := 4) dX8_gather_87 rfl rfl rfl ?_
                    refine at_wv [_, _, _] dX8_gather_89 mX8_gathers ⟨Nat.le_of_ble_eq_true rfl, Nat.le_of_ble_eq_true rfl⟩ lX8_290 iX8_gathers rfl rfl (mv_o hn _ _ _) (by omega) rfl (Nat.le_of_ble_eq_true rfl) (Nat.le_of_ble_eq_true rfl) ⟨rfl, rfl⟩ (c_gathers A F v hn w i (bh v (i / v 2) n) p (by omega) hbh hpl hpp) ⟨rfl, rfl⟩ ?_
                    try dsimp only [Option.toList, List.cons_append, List.nil_append]
                    refine at_ld (i := 0) dX8_gather_92 rfl rfl rfl ?_
                    refine at_ld (i := 1) dX8_gather_93 rfl rfl rfl ?_
                    refine at_rv [_] dX8_gather_94 mX8_follows ⟨Nat.le_of_ble_eq_true rfl, Nat.le_of_ble_eq_true rfl⟩ lX8_203 iX8_follows rfl rfl (mv_o hn _ _ _) (by omega) rfl (Nat.le_of_ble_eq_true rfl) (Nat.le_of_ble_eq_true rfl) ⟨rfl, rfl⟩ (c_follows A F _ hn w9 i (by omega)) ?_
                    refine at_ret dX8_gather_97 rfl rfl ?_
                    exact ⟨rfl, rfl⟩
        exact outer _ _
      · have c5 : io v i 3 / 4 < 2 := by
          rcases Nat.lt_or_ge (io v i 3 / 4) 2 with z | z
          · exact z
          · exact absurd (nI_le z (by omega)) c4
        exact sta (Or.inr c5)
  · have c1 := (bI_0 _).mp (Classical.not_not.mp c)
    refine at_k (-1) dX8_gather_8 rfl (by decide) ?_
    refine at_ret dX8_gather_9 rfl rfl ?_
    rw [s_gather, c1]
    exact ⟨rfl, rfl⟩
set_option maxRecDepth 100000 in
theorem c_flip (hn : 72 ≤ h.1) (w : wf v) (x : Int32) : sg_Kw MX8_flip [.ref 64, .int x] (mv h A F v) (some (.int (s_flip v x).1)) (mv h A F (s_flip v x).2) := by
  have hgb := wf_gb w.1
  have hge := gb_ge w.1.1.1 w.1.2.1.1
  have hfr := fragI (v := v)
  show sg_A MX8_flip 0 [some (.ref 64), some (.int x), none] [] _ _
  refine at_ld (i := 1) dX8_flip_0 rfl rfl rfl ?_
  refine at_i2l dX8_flip_1 ?_
  refine at_lconst dX8_flip_2 ?_
  refine at_ld (i := 0) dX8_flip_3 rfl rfl rfl ?_
  refine at_rv [] dX8_flip_4 mX8_fragments ⟨Nat.le_of_ble_eq_true rfl, Nat.le_of_ble_eq_true rfl⟩ lX8_35 iX8_fragments rfl rfl (mv_o hn _ _ _) (by omega) rfl (Nat.le_of_ble_eq_true rfl) (Nat.le_of_ble_eq_true rfl) ⟨rfl, rfl⟩ (c_fragments A F v hn) ?_
  refine at_k (nI 1) dX8_flip_7 rfl (by decide) ?_
  refine at_bin dX8_flip_8 rfl ?_
  try dsimp only
  rw [nI_sub (by omega)]
  refine at_i2l dX8_flip_9 ?_
  refine at_rs [_, _, _] dX8_flip_10 mX8_in ⟨Nat.le_of_ble_eq_true rfl, Nat.le_of_ble_eq_true rfl⟩ lX8_41 tX8_in rfl (Nat.le_of_ble_eq_true rfl) (Nat.le_of_ble_eq_true rfl) ⟨rfl, rfl⟩ (c_inA _ x 0 (4 * v 0 * v 1 - 1) rfl (nI_l (by omega)) (by decide) (by omega)) ?_
  refine at_zne 18 dX8_flip_13 (by decide) (fun c => ?_) (fun c => ?_)
  · have c1 := bI_1 c
    rw [s_flip, if_pos c1]
    obtain ⟨k, -, hk, rfl⟩ := inR_of (by omega) c1
    rw [nI_clamp (by omega)]
    refine at_ld (i := 0) dX8_flip_18 rfl rfl rfl ?_
    refine at_ld (i := 1) dX8_flip_19 rfl rfl rfl ?_
    refine at_rv [_] dX8_flip_20 mX8_isFree ⟨Nat.le_of_ble_eq_true rfl, Nat.le_of_ble_eq_true rfl⟩ lX8_141 iX8_isFree rfl rfl (mv_o hn _ _ _) (by omega) rfl (Nat.le_of_ble_eq_true rfl) (Nat.le_of_ble_eq_true rfl) ⟨rfl, rfl⟩ (c_isFree A F v hn k (by omega) (w.2.1 k (by omega))) ?_
    refine at_st (i := 2) dX8_flip_23 rfl rfl (Nat.le_of_ble_eq_true rfl) rfl ?_
    try dsimp only [List.set_cons_succ, List.set_cons_zero]
    refine at_ld (i := 0) dX8_flip_24 rfl rfl rfl ?_
    refine at_ld (i := 1) dX8_flip_25 rfl rfl rfl ?_
    refine at_ld (i := 2) dX8_flip_26 rfl rfl rfl ?_
    refine at_zne 34 dX8_flip_27 (by decide) (fun c2 => ?_) (fun c2 => ?_)
    · have c3 := bI_1 c2
      rw [c3]
      refine at_k (nI 0) dX8_flip_34 rfl (by decide) ?_
      refine at_wv [_, _] dX8_flip_35 mX8_lets ⟨Nat.le_of_ble_eq_true rfl, Nat.le_of_ble_eq_true rfl⟩ lX8_137 iX8_lets rfl rfl (mv_o hn _ _ _) (by omega) rfl (Nat.le_of_ble_eq_true rfl) (Nat.le_of_ble_eq_true rfl) ⟨rfl, rfl⟩ (c_lets A F v hn k (by omega) false) ⟨rfl, rfl⟩ ?_
      try dsimp only [Option.toList, List.cons_append, List.nil_append]
      refine at_ld (i := 2) dX8_flip_38 rfl rfl rfl ?_
      refine at_rs [_] dX8_flip_39 mX8_flag ⟨Nat.le_of_ble_eq_true rfl, Nat.le_of_ble_eq_true rfl⟩ lX8_133 tX8_flag rfl (Nat.le_of_ble_eq_true rfl) (Nat.le_of_ble_eq_true rfl) ⟨rfl, rfl⟩ (c_flag _ _) ?_
      refine at_ret dX8_flip_42 rfl rfl ?_
      exact ⟨rfl, rfl⟩
    · have c3 := (bI_0 _).mp (Classical.not_not.mp c2)
      rw [c3]
      refine at_k (nI 1) dX8_flip_30 rfl (by decide) ?_
      refine at_goto 35 dX8_flip_31 (by decide) ?_
      refine at_wv [_, _] dX8_flip_35 mX8_lets ⟨Nat.le_of_ble_eq_true rfl, Nat.le_of_ble_eq_true rfl⟩ lX8_137 iX8_lets rfl rfl (mv_o hn _ _ _) (by omega) rfl (Nat.le_of_ble_eq_true rfl) (Nat.le_of_ble_eq_true rfl) ⟨rfl, rfl⟩ (c_lets A F v hn k (by omega) true) ⟨rfl, rfl⟩ ?_
      try dsimp only [Option.toList, List.cons_append, List.nil_append]
      refine at_ld (i := 2) dX8_flip_38 rfl rfl rfl ?_
      refine at_rs [_] dX8_flip_39 mX8_flag ⟨Nat.le_of_ble_eq_true rfl, Nat.le_of_ble_eq_true rfl⟩ lX8_133 tX8_flag rfl (Nat.le_of_ble_eq_true rfl) (Nat.le_of_ble_eq_true rfl) ⟨rfl, rfl⟩ (c_flag _ _) ?_
      refine at_ret dX8_flip_42 rfl rfl ?_
      exact ⟨rfl, rfl⟩
  · have c1 := (bI_0 _).mp (Classical.not_not.mp c)
    refine at_k (-1) dX8_flip_16 rfl (by decide) ?_
    refine at_ret dX8_flip_17 rfl rfl ?_
    rw [s_flip, c1]
    exact ⟨rfl, rfl⟩
set_option maxRecDepth 100000 in
theorem c_mend (hn : 72 ≤ h.1) (w : wf v) : sg_Kw MX8_mend [.ref 64] (mv h A F v) (some (.int (s_mend v).1)) (mv h A F (s_mend v).2) := by
  have hgi := wf_gi w.1
  have hgb := wf_gb w.1
  have hfr := fragI (v := v)
  show sg_A MX8_mend 0 [some (.ref 64), none, none, none] [] _ _
  refine at_k (nI 0) dX8_mend_0 rfl (by decide) ?_
  refine at_st (i := 1) dX8_mend_1 rfl rfl (Nat.le_of_ble_eq_true rfl) rfl ?_
  try dsimp only [List.set_cons_succ, List.set_cons_zero]
  refine at_k (nI 0) dX8_mend_2 rfl (by decide) ?_
  refine at_st (i := 2) dX8_mend_3 rfl rfl (Nat.le_of_ble_eq_true rfl) rfl ?_
  try dsimp only [List.set_cons_succ, List.set_cons_zero]
  have outer : ∀ y3 : Option Value, sg_A MX8_mend 4 [some (.ref 64), some (.int (nI 0)), some (.int (nI 0)), y3] [] (mv h A F v) (fun r' h' => r' = some (.int (s_mend v).1) ∧ h' = mv h A F (s_mend v).2) := by
    refine lpN (fun k => ∀ y3 : Option Value, sg_A MX8_mend 4 [some (.ref 64), some (.int (nI (cnt (fun x => fr v x != (own v x).isNone) k))), some (.int (nI k)), y3] [] (mv h A F (mnd v k)) (fun r' h' => r' = some (.int (s_mend v).1) ∧ h' = mv h A F (s_mend v).2)) (4 * v 0 * v 1) ?_ ?_
    · intro y3
      have e0 := mnd_c v (4 * v 0 * v 1) 0 (by omega)
      have e1 := mnd_c v (4 * v 0 * v 1) 1 (by omega)
      refine at_ld (i := 2) dX8_mend_4 rfl rfl rfl ?_
      refine at_ld (i := 0) dX8_mend_5 rfl rfl rfl ?_
      refine at_rv [] dX8_mend_6 mX8_fragments ⟨Nat.le_of_ble_eq_true rfl, Nat.le_of_ble_eq_true rfl⟩ lX8_35 iX8_fragments rfl rfl (mv_o hn _ _ _) (by omega) rfl (Nat.le_of_ble_eq_true rfl) (Nat.le_of_ble_eq_true rfl) ⟨rfl, rfl⟩ (c_fragments A F _ hn) ?_
      rw [e0, e1]
      refine at_ige 60 dX8_mend_9 (by decide) (fun c => ?_) (fun c => ?_)
      · refine at_ld (i := 1) dX8_mend_60 rfl rfl rfl ?_
        refine at_ret dX8_mend_61 rfl rfl ?_
        exact ⟨rfl, rfl⟩
      · exact absurd (nI_le (Nat.le_refl _) (by omega)) c
    · intro k hk ih y3
      have e0 := mnd_c v k 0 (by omega)
      have e1 := mnd_c v k 1 (by omega)
      have e2 := mnd_c v k 2 (by omega)
      have wm := wf_mnd w k (by omega)
      have ho : own (mnd v k) k = own v k := own_io (mnd_io v k (by omega)) e0 e2 k
      have hf : fr (mnd v k) k = fr v k := by unfold fr; rw [mnd_c v k (8 + k) (by omega)]
      have nx : ∀ b : Bool, b = (fr v k != (own v k).isNone) → sg_A MX8_mend 43 [some (.ref 64), some (.int (nI (cnt (fun x => fr v x != (own v x).isNone) k))), some (.int (nI k)), some (.int (bI (own v k).isNone))] [.int (bI b), .int (nI (cnt (fun x => fr v x != (own v x).isNone) k))] (mv h A F (mnd v k)) (fun r' h' => r' = some (.int (s_mend v).1) ∧ h' = mv h A F (s_mend v).2) := by
        intro b hb
        subst hb
        refine at_rs [_] dX8_mend_43 mX8_flag ⟨Nat.le_of_ble_eq_true rfl, Nat.le_of_ble_eq_true rfl⟩ lX8_133 tX8_flag rfl (Nat.le_of_ble_eq_true rfl) (Nat.le_of_ble_eq_true rfl) ⟨rfl, rfl⟩ (c_flag _ _) ?_
        refine at_bin dX8_mend_46 rfl ?_
        try dsimp only
        rw [cnt_s (fun x => fr v x != (own v x).isNone)]
        refine at_st (i := 1) dX8_mend_47 rfl rfl (Nat.le_of_ble_eq_true rfl) rfl ?_
        try dsimp only [List.set_cons_succ, List.set_cons_zero]
        refine at_ld (i := 0) dX8_mend_48 rfl rfl rfl ?_
        refine at_ld (i := 2) dX8_mend_49 rfl rfl rfl ?_
        refine at_ld (i := 3) dX8_mend_50 rfl rfl rfl ?_
        refine at_wv [_, _] dX8_mend_51 mX8_lets ⟨Nat.le_of_ble_eq_true rfl, Nat.le_of_ble_eq_true rfl⟩ lX8_137 iX8_lets rfl rfl (mv_o hn _ _ _) (by omega) rfl (Nat.le_of_ble_eq_true rfl) (Nat.le_of_ble_eq_true rfl) ⟨rfl, rfl⟩ (c_lets A F _ hn k (by omega) (own v k).isNone) ⟨rfl, rfl⟩ ?_
        try dsimp only [Option.toList, List.cons_append, List.nil_append]
        refine at_iinc (nI 1) dX8_mend_54 rfl rfl (by decide) ?_
        try dsimp only [List.set_cons_succ, List.set_cons_zero]
        refine at_goto 4 dX8_mend_57 (by decide) ?_
        rw [nI_add]
        exact ih _
      have md : sg_A MX8_mend 27 [some (.ref 64), some (.int (nI (cnt (fun x => fr v x != (own v x).isNone) k))), some (.int (nI k)), y3] [.int (bI (own v k).isNone)] (mv h A F (mnd v k)) (fun r' h' => r' = some (.int (s_mend v).1) ∧ h' = mv h A F (s_mend v).2) := by
        refine at_st (i := 3) dX8_mend_27 rfl rfl (Nat.le_of_ble_eq_true rfl) rfl ?_
        try dsimp only [List.set_cons_succ, List.set_cons_zero]
        refine at_ld (i := 1) dX8_mend_28 rfl rfl rfl ?_
        refine at_ld (i := 0) dX8_mend_29 rfl rfl rfl ?_
        refine at_ld (i := 2) dX8_mend_30 rfl rfl rfl ?_
        refine at_rv [_] dX8_mend_31 mX8_isFree ⟨Nat.le_of_ble_eq_true rfl, Nat.le_of_ble_eq_true rfl⟩ lX8_141 iX8_isFree rfl rfl (mv_o hn _ _ _) (by omega) rfl (Nat.le_of_ble_eq_true rfl) (Nat.le_of_ble_eq_true rfl) ⟨rfl, rfl⟩ (c_isFree A F _ hn k (by omega) (wm.2.1 k (by omega))) ?_
        refine at_ld (i := 3) dX8_mend_34 rfl rfl rfl ?_
        rw [hf]
        refine at_ieq 42 dX8_mend_35 (by decide) (fun c1 => ?_) (fun c1 => ?_)
        · have c2 : fr v k = (own v k).isNone := by
            revert c1
            cases fr v k <;> cases (own v k).isNone <;> intro c1 <;> first | rfl | exact absurd c1 (by decide)
          refine at_k (nI 0) dX8_mend_42 rfl (by decide) ?_
          exact nx false (by rw [c2]; simp)
        · have c2 : fr v k ≠ (own v k).isNone := fun z => c1 (by rw [z])
          refine at_k (nI 1) dX8_mend_38 rfl (by decide) ?_
          refine at_goto 43 dX8_mend_39 (by decide) ?_
          exact nx true (by simp [c2])
      refine at_ld (i := 2) dX8_mend_4 rfl rfl rfl ?_
      refine at_ld (i := 0) dX8_mend_5 rfl rfl rfl ?_
      refine at_rv [] dX8_mend_6 mX8_fragments ⟨Nat.le_of_ble_eq_true rfl, Nat.le_of_ble_eq_true rfl⟩ lX8_35 iX8_fragments rfl rfl (mv_o hn _ _ _) (by omega) rfl (Nat.le_of_ble_eq_true rfl) (Nat.le_of_ble_eq_true rfl) ⟨rfl, rfl⟩ (c_fragments A F _ hn) ?_
      rw [e0, e1]
      refine at_ige 60 dX8_mend_9 (by decide) (fun c => ?_) (fun c => ?_)
      · exact absurd c (nI_ge hk (by omega))
      · refine at_ld (i := 0) dX8_mend_12 rfl rfl rfl ?_
        refine at_ld (i := 2) dX8_mend_13 rfl rfl rfl ?_
        refine at_rv [_] dX8_mend_14 mX8_owner ⟨Nat.le_of_ble_eq_true rfl, Nat.le_of_ble_eq_true rfl⟩ lX8_197 iX8_owner rfl rfl (mv_o hn _ _ _) (by omega) rfl (Nat.le_of_ble_eq_true rfl) (Nat.le_of_ble_eq_true rfl) ⟨rfl, rfl⟩ (c_owner A F _ hn wm k (by omega)) ?_
        refine at_k (-4) dX8_mend_17 rfl (by decide) ?_
        rw [ho]
        cases q : own v k with
        | none =>
          rw [q] at md
          refine at_ine 26 dX8_mend_19 (by decide) (fun c1 => ?_) (fun c1 => ?_)
          · exact absurd rfl c1
          · refine at_k (nI 1) dX8_mend_22 rfl (by decide) ?_
            refine at_goto 27 dX8_mend_23 (by decide) ?_
            exact md
        | some i =>
          have hi := own_lt q
          rw [q] at md
          refine at_ine 26 dX8_mend_19 (by decide) (fun c1 => ?_) (fun c1 => ?_)
          · refine at_k (nI 0) dX8_mend_26 rfl (by decide) ?_
            exact md
          · exact absurd (Classical.not_not.mp c1) (oI_n (by omega))
  exact outer _
set_option maxRecDepth 100000 in
theorem c_forgets (hn : 72 ≤ h.1) : sg_Kw MX8_forgets [.ref 64] (mh h A F) none (mh h (vf_upd A 4 (upd (upd (A 4) 0 0) 1 0)) F) := by
  show sg_A MX8_forgets 0 [some (.ref 64)] [] _ _
  refine at_ld (i := 0) dX8_forgets_0 rfl rfl rfl ?_
  refine at_get dX8_forgets_1 fX8_22 (mh_o hn _ _) (by omega) rfl ?_
  refine at_k (nI 0) dX8_forgets_4 rfl (by decide) ?_
  refine at_k (nI 0) dX8_forgets_5 rfl (by decide) ?_
  refine at_bast 0 dX8_forgets_6 (mh_a4 hn _ _) (by omega) rfl (by decide) (by decide) rfl (mh_s4 h _ F _) ?_
  refine at_ld (i := 0) dX8_forgets_7 rfl rfl rfl ?_
  refine at_get dX8_forgets_8 fX8_22 (mh_o hn _ _) (by omega) rfl ?_
  refine at_k (nI 1) dX8_forgets_11 rfl (by decide) ?_
  refine at_k (nI 0) dX8_forgets_12 rfl (by decide) ?_
  refine at_bast 1 dX8_forgets_13 (mh_a4 hn _ _) (by omega) rfl (by decide) (by decide) rfl (mh_s4 h _ F _) ?_
  refine at_vret dX8_forgets_14 rfl ?_
  rw [vu_s, vu_vu]
  exact ⟨rfl, rfl⟩
/-- feed: the tape's row 5, its length field 6 -/
def s_feed (n : Nat) (x : Int32) : Int32 := if inR x 0 127 = true then (if n = 200 then -3 else nI (n + 1)) else -1
set_option maxRecDepth 100000 in
theorem c_feed (hn : 72 ≤ h.1) (n : Nat) (hl : F 6 = nI n) (hn2 : n ≤ 200) (x : Int32) : sg_Kw MX8_feed [.ref 64, .int x] (mh h A F) (some (.int (s_feed n x))) (if inR x 0 127 = true ∧ n ≠ 200 then mh h (vf_upd A 5 (upd (A 5) n x)) (upd F 6 (nI (n + 1))) else mh h A F) := by
  show sg_A MX8_feed 0 [some (.ref 64), some (.int x)] [] _ _
  refine at_ld (i := 1) dX8_feed_0 rfl rfl rfl ?_
  refine at_i2l dX8_feed_1 ?_
  refine at_lconst dX8_feed_2 ?_
  refine at_ldc2 dX8_feed_3 kX8_39 ?_
  refine at_rs [_, _, _] dX8_feed_6 mX8_in ⟨Nat.le_of_ble_eq_true rfl, Nat.le_of_ble_eq_true rfl⟩ lX8_41 tX8_in rfl (Nat.le_of_ble_eq_true rfl) (Nat.le_of_ble_eq_true rfl) ⟨rfl, rfl⟩ (c_inA _ x 0 127 rfl rfl (by decide) (by decide)) ?_
  refine at_zne 14 dX8_feed_9 (by decide) (fun c => ?_) (fun c => ?_)
  · have c1 := bI_1 c
    refine at_ld (i := 0) dX8_feed_14 rfl rfl rfl ?_
    refine at_get dX8_feed_15 fX8_45 (mh_o hn _ _) (by omega) rfl ?_
    refine at_k (nI 200) dX8_feed_18 rfl (by decide) ?_
    rw [hl]
    refine at_ine 27 dX8_feed_21 (by decide) (fun c2 => ?_) (fun c2 => ?_)
    · have c3 : ¬ n = 200 := fun z => c2 (by rw [z])
      rw [s_feed, if_pos c1, if_neg c3, if_pos ⟨c1, c3⟩]
      refine at_ld (i := 0) dX8_feed_27 rfl rfl rfl ?_
      refine at_get dX8_feed_28 fX8_26 (mh_o hn _ _) (by omega) rfl ?_
      refine at_ld (i := 0) dX8_feed_31 rfl rfl rfl ?_
      refine at_get dX8_feed_32 fX8_45 (mh_o hn _ _) (by omega) rfl ?_
      refine at_ld (i := 1) dX8_feed_35 rfl rfl rfl ?_
      refine at_ast n dX8_feed_36 (mh_a5 hn _ _) (by omega) hl (by omega) (by decide) (mh_s5 h _ F _) ?_
      refine at_ld (i := 0) dX8_feed_37 rfl rfl rfl ?_
      refine at_dup dX8_feed_38 rfl ?_
      refine at_get dX8_feed_39 fX8_45 (mh_o hn _ _) (by omega) rfl ?_
      refine at_k (nI 1) dX8_feed_42 rfl (by decide) ?_
      refine at_bin dX8_feed_43 rfl ?_
      try dsimp only
      rw [hl, nI_add]
      refine at_put dX8_feed_44 fX8_45 ⟨_, _, rfl, Or.inl rfl, tyX8_ok 6 (by decide), fun _ => ⟨rfl, rfl⟩⟩ (mh_o hn _ _) (by omega) (Nat.le_of_ble_eq_true rfl) (mh_u6 h _ F _) ?_
      refine at_ld (i := 0) dX8_feed_47 rfl rfl rfl ?_
      refine at_get dX8_feed_48 fX8_45 (mh_o hn _ _) (by omega) rfl ?_
      refine at_ret dX8_feed_51 rfl rfl ?_
      refine ⟨?_, rfl⟩
      show some (Value.int (upd F 6 (nI (n + 1)) 6)) = _
      simp [upd]
    · have c3 := (nI_eq32 (by omega) (by decide)).mp (Classical.not_not.mp c2)
      rw [s_feed, if_pos c1, if_pos c3, if_neg (fun z => z.2 c3)]
      refine at_k (-3) dX8_feed_24 rfl (by decide) ?_
      refine at_ret dX8_feed_26 rfl rfl ?_
      exact ⟨rfl, rfl⟩
  · have c1 := (bI_0 _).mp (Classical.not_not.mp c)
    rw [s_feed, c1, if_neg (by decide), if_neg (fun z => by cases z.1)]
    refine at_k (-1) dX8_feed_12 rfl (by decide) ?_
    refine at_ret dX8_feed_13 rfl rfl ?_
    exact ⟨rfl, rfl⟩
def s_end (n : Nat) (x : Int32) : Int32 := if inR x 0 n = true then nI n else -1
set_option maxRecDepth 100000 in
theorem c_end (hn : 72 ≤ h.1) (n : Nat) (hl : F 6 = nI n) (hn2 : n ≤ 200) (x : Int32) : sg_Kw MX8_end [.ref 64, .int x] (mh h A F) (some (.int (s_end n x))) (if inR x 0 n = true then mh h A (upd F 6 x) else mh h A F) := by
  show sg_A MX8_end 0 [some (.ref 64), some (.int x), none] [] _ _
  refine at_ld (i := 1) dX8_end_0 rfl rfl rfl ?_
  refine at_i2l dX8_end_1 ?_
  refine at_lconst dX8_end_2 ?_
  refine at_ld (i := 0) dX8_end_3 rfl rfl rfl ?_
  refine at_get dX8_end_4 fX8_45 (mh_o hn _ _) (by omega) rfl ?_
  rw [hl]
  refine at_i2l dX8_end_7 ?_
  refine at_rs [_, _, _] dX8_end_8 mX8_in ⟨Nat.le_of_ble_eq_true rfl, Nat.le_of_ble_eq_true rfl⟩ lX8_41 tX8_in rfl (Nat.le_of_ble_eq_true rfl) (Nat.le_of_ble_eq_true rfl) ⟨rfl, rfl⟩ (c_inA _ x 0 n rfl (nI_l (by omega)) (by decide) (by omega)) ?_
  refine at_zne 16 dX8_end_11 (by decide) (fun c => ?_) (fun c => ?_)
  · have c1 := bI_1 c
    rw [s_end, if_pos c1, if_pos c1]
    refine at_ld (i := 0) dX8_end_16 rfl rfl rfl ?_
    refine at_get dX8_end_17 fX8_45 (mh_o hn _ _) (by omega) rfl ?_
    refine at_st (i := 2) dX8_end_20 rfl rfl (Nat.le_of_ble_eq_true rfl) rfl ?_
    try dsimp only [List.set_cons_succ, List.set_cons_zero]
    refine at_ld (i := 0) dX8_end_21 rfl rfl rfl ?_
    refine at_ld (i := 1) dX8_end_22 rfl rfl rfl ?_
    refine at_put dX8_end_23 fX8_45 ⟨_, _, rfl, Or.inl rfl, tyX8_ok 6 (by decide), fun _ => ⟨rfl, rfl⟩⟩ (mh_o hn _ _) (by omega) (Nat.le_of_ble_eq_true rfl) (mh_u6 h _ F _) ?_
    rw [hl]
    refine at_ld (i := 2) dX8_end_26 rfl rfl rfl ?_
    refine at_ret dX8_end_27 rfl rfl ?_
    exact ⟨rfl, rfl⟩
  · have c1 := (bI_0 _).mp (Classical.not_not.mp c)
    rw [s_end, c1, if_neg (by decide), if_neg (by decide)]
    refine at_k (-1) dX8_end_14 rfl (by decide) ?_
    refine at_ret dX8_end_15 rfl rfl ?_
    exact ⟨rfl, rfl⟩
def s_count (b0 b1 : Bool) (n : Nat) (x : Int32) : Int32 := if x = 0 then bI b0 + bI b1 else if x = 1 then nI n else -1
set_option maxRecDepth 100000 in
theorem c_count (hn : 72 ≤ h.1) (b0 b1 : Bool) (n : Nat) (e0 : A 4 0 = bI b0) (e1 : A 4 1 = bI b1) (hl : F 6 = nI n) (x : Int32) : sg_Kr MX8_count [.ref 64, .int x] (mh h A F) (.int (s_count b0 b1 n x)) := by
  show sg_A MX8_count 0 [some (.ref 64), some (.int x)] [] _ _
  refine at_ld (i := 1) dX8_count_0 rfl rfl rfl ?_
  by_cases h0 : x = 0
  · subst h0
    refine at_look 28 dX8_count_1 (by decide) rfl (by decide) ?_
    refine at_ld (i := 0) dX8_count_28 rfl rfl rfl ?_
    refine at_get dX8_count_29 fX8_22 (mh_o hn _ _) (by omega) rfl ?_
    refine at_k (nI 0) dX8_count_32 rfl (by decide) ?_
    refine at_bald 0 dX8_count_33 (mh_a4 hn _ _) (by omega) rfl (by decide) (by decide) ?_
    rw [e0]
    refine at_rs [_] dX8_count_34 mX8_flag ⟨Nat.le_of_ble_eq_true rfl, Nat.le_of_ble_eq_true rfl⟩ lX8_133 tX8_flag rfl (Nat.le_of_ble_eq_true rfl) (Nat.le_of_ble_eq_true rfl) ⟨rfl, rfl⟩ (c_flag _ _) ?_
    refine at_ld (i := 0) dX8_count_37 rfl rfl rfl ?_
    refine at_get dX8_count_38 fX8_22 (mh_o hn _ _) (by omega) rfl ?_
    refine at_k (nI 1) dX8_count_41 rfl (by decide) ?_
    refine at_bald 1 dX8_count_42 (mh_a4 hn _ _) (by omega) rfl (by decide) (by decide) ?_
    rw [e1]
    refine at_rs [_] dX8_count_43 mX8_flag ⟨Nat.le_of_ble_eq_true rfl, Nat.le_of_ble_eq_true rfl⟩ lX8_133 tX8_flag rfl (Nat.le_of_ble_eq_true rfl) (Nat.le_of_ble_eq_true rfl) ⟨rfl, rfl⟩ (c_flag _ _) ?_
    refine at_bin dX8_count_46 rfl ?_
    refine at_ret dX8_count_47 rfl rfl ?_
    exact ⟨rfl, rfl⟩
  · by_cases h1 : x = 1
    · subst h1
      refine at_look 48 dX8_count_1 (by decide) rfl (by decide) ?_
      refine at_ld (i := 0) dX8_count_48 rfl rfl rfl ?_
      refine at_get dX8_count_49 fX8_45 (mh_o hn _ _) (by omega) rfl ?_
      rw [hl]
      refine at_ret dX8_count_52 rfl rfl ?_
      exact ⟨rfl, rfl⟩
    · have hoff : Op.lookupswitch.offset [((0 : Int), (27 : Int)), (1, 47)] 52 x.toInt = 52 := by
        have q0 : ¬ x.toInt = 0 := fun z => h0 (Int32.toInt_inj.mp z)
        have q1 : ¬ x.toInt = 1 := fun z => h1 (Int32.toInt_inj.mp z)
        have q0' : ¬ (0 : Int) = x.toInt := fun z => q0 z.symm
        have q1' : ¬ (1 : Int) = x.toInt := fun z => q1 z.symm
        simp [Op.lookupswitch.offset, q0', q1', q0, q1]
      refine at_look 53 dX8_count_1 (by decide) hoff (by decide) ?_
      refine at_k (-1) dX8_count_53 rfl (by decide) ?_
      refine at_ret dX8_count_54 rfl rfl ?_
      rw [s_count, if_neg h0, if_neg h1]
      exact ⟨rfl, rfl⟩
end R15
