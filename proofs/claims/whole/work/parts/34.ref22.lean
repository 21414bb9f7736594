/-! THE TEXT: what the reference's readings are by tokens; a new start's numbers -/
theorem nmS_in {t : Nat → Nat} {n lo hi p : Nat} {a : Nat × Nat} (h : nmS t n lo hi p = .inr a) : lo ≤ a.1 ∧ a.1 ≤ hi ∧ a.2 = tE t n p ∧ a.1 = tV t n p ∧ tS t n p = 2 ∧ tX t n p = false := by
  unfold nmS at h
  split at h
  · cases h
  · next x =>
    split at h
    · next y =>
      split at h
      · next z => cases h; exact ⟨z.1, z.2, rfl, rfl, y, by cases q : tX t n p; rfl; exact absurd q x⟩
      · cases h
    · cases h
theorem sgS_in {t : Nat → Nat} {n p : Nat} {s : Nat × Nat} (h : sgS t n p = .inr s) : tS t n p = 3 ∧ s.1 = tB t n p ∧ s.2 = tE t n p ∧ tX t n p = false := by
  unfold sgS at h
  split at h
  · cases h
  · next x =>
    split at h
    · next y => cases h; exact ⟨y, rfl, rfl, by cases q : tX t n p; rfl; exact absurd q x⟩
    · cases h
theorem tB_gx (t : Nat → Nat) (n p : Nat) : p ≤ tB t n p := skw_ge _ _ _
theorem tE_ge (t : Nat → Nat) (n p : Nat) : p ≤ tE t n p := Nat.le_trans (tB_gx t n p) tBE
theorem tE3 {t : Nat → Nat} {n p : Nat} (h : tS t n p = 3) : tE t n p = tB t n p + 1 := by
  unfold tS at h
  unfold tE
  split at h
  · cases h
  · next a =>
    rw [if_neg a]
    split at h
    · cases h
    · next b =>
      rw [if_neg b]
      split at h
      · cases h
      · next c => rw [if_neg c]
theorem tS0 {t : Nat → Nat} {n p : Nat} : tS t n p = 0 ↔ n ≤ tB t n p := by
  unfold tS
  constructor
  · intro h
    split at h
    · assumption
    · split at h
      · cases h
      · split at h <;> cases h
  · intro h
    rw [if_pos h]
theorem tX_n {t : Nat → Nat} {n p : Nat} (h : tX t n p = true) : ¬ n ≤ tB t n p := by
  intro z
  have := tS0.mpr z
  have := of_decide_eq_true h
  omega
theorem ln_adv {t : Nat → Nat} {n dm p : Nat} {z : Nat × Nat × Nat × Nat × Nat × Nat} (h : lnS t n dm p = .inr z) : p < z.2.2.2.2.2 := by
  unfold lnS at h
  split at h
  · cases h
  · split at h
    · have hp := tE_ge t n p
      split at h
      · cases h
      · next a ea =>
        have ha := nmS_in ea
        have ga := tE_ge t n (tE t n p)
        split at h
        · cases h
        · next b eb =>
          have hb := nmS_in eb
          have gb := tE_ge t n a.2
          split at h
          · cases h
          · next c ec =>
            have hc : b.2 ≤ c.2 := by
              split at ec
              · have := nmS_in ec
                have := tE_ge t n b.2
                omega
              · cases ec; exact Nat.le_refl _
            split at h
            · cases h
            · next s es =>
              have hs := sgS_in es
              have := tE3 hs.1
              have := tB_gx t n c.2
              cases h
              show p < s.2
              omega
    · cases h
theorem la_line {t : Nat → Nat} {n p dm : Nat} {P P0 PA P7 : Ps} {R1 R2 R3 : Nat × Ps} (h : la t n p P) {o : Option Nat} (eo : lnw t n P = o) (e0 : rqP (decide (o = some 1 ∨ o = some 2)) 2 P = P0) (eA : rdP t n P0 = PA) (e1 : nmP t n 0 dm PA = R1) (e2 : nmP t n 0 9 R1.2 = R2) (e3 : (if o = some 2 ∧ R2.2.2.2.2.2.1 = 0 then nmP t n 0 40 R2.2 else (0, R2.2)) = R3) (e7 : stP R3.2 = P7) :
    match lnS t n dm p with
    | .inl f => P7.2.2.2.2.1 = f.1 ∧ P7.2.2.2.2.2 = f.2 ∧ ¬ f.1 = 0
    | .inr z => P7.2.2.2.2.1 = 0 ∧ (o = some z.1 ∧ (z.1 = 1 ∧ z.2.2.2.1 = 0 ∨ z.1 = 2)) ∧ (R1.1 = z.2.1 ∧ z.2.1 ≤ dm) ∧ (R2.1 = z.2.2.1 ∧ z.2.2.1 ≤ 9) ∧ (R3.1 = z.2.2.2.1 ∧ z.2.2.2.1 ≤ 40) ∧ P7.2.1 = z.2.2.2.2.1 ∧ P7.1 = z.2.2.2.2.2 := by
  have b3 : ¬ R3.2.2.2.2.2.1 = 0 → P7 = R3.2 := fun z => by rw [← e7, st_b z]
  have b2 : ¬ R2.2.2.2.2.2.1 = 0 → P7 = R2.2 := fun z => by
    rw [if_neg (fun q => z q.2)] at e3
    rw [← e3] at b3
    exact b3 z
  have b1 : ¬ R1.2.2.2.2.2.1 = 0 → P7 = R1.2 := fun z => by
    rw [nm_b z] at e2
    rw [← e2] at b2
    exact b2 z
  have bA : ¬ PA.2.2.2.2.1 = 0 → P7 = PA := fun z => by
    rw [nm_b z] at e1
    rw [← e1] at b1
    exact b1 z
  have b0 : ¬ P0.2.2.2.2.1 = 0 → P7 = P0 := fun z => by
    rw [rd_b z] at eA
    rw [← eA] at bA
    exact bA z
  unfold lnS
  by_cases x : tX t n p = true
  · rw [if_pos x]
    obtain ⟨f1, f2⟩ := h.1 x
    have f0 : ¬ P.2.2.2.2.1 = 0 := by omega
    rw [rq_b f0] at e0
    rw [← e0] at b0
    rw [b0 f0]
    exact ⟨f1, f2, Nat.succ_ne_zero _⟩
  · rw [if_neg x]
    have x' : tX t n p = false := by cases q : tX t n p; rfl; exact absurd q x
    rw [← eo, la_w h x'] at e0 e3
    rw [← eo, la_w h x']
    obtain ⟨f0, fe, fb, fs, ff⟩ := h.2 x'
    by_cases y : wdS t n p = some 1 ∨ wdS t n p = some 2
    · rw [if_pos y]
      rw [decide_eq_true y] at e0
      have : P0 = P := by rw [← e0, rqP, if_neg (fun z => by cases z.1)]
      subst this
      have hA : la t n (tE t n p) PA := by rw [← eA, ← fe]; exact la_rd f0
      have h1 : enS t n (nmS t n 0 dm (tE t n p)) R1.2 R1.1 := by rw [← e1]; exact la_nm hA
      cases q1 : nmS t n 0 dm (tE t n p) with
      | inl f =>
        obtain ⟨g1, g2, g3⟩ := en_b h1 q1
        dsimp only
        rw [b1 (by rw [g1]; exact g3)]
        exact ⟨g1, g2, g3⟩
      | inr a =>
        obtain ⟨k1, la1⟩ := en_g h1 q1
        have m1 := nmS_in q1
        dsimp only
        have h2 : enS t n (nmS t n 0 9 a.2) R2.2 R2.1 := by rw [← e2]; exact la_nm la1
        cases q2 : nmS t n 0 9 a.2 with
        | inl f =>
          obtain ⟨g1, g2, g3⟩ := en_b h2 q2
          dsimp only
          rw [b2 (by rw [g1]; exact g3)]
          exact ⟨g1, g2, g3⟩
        | inr b =>
          obtain ⟨k2, la2⟩ := en_g h2 q2
          have m2 := nmS_in q2
          dsimp only
          have h3 : enS t n (if wdS t n p = some 2 then nmS t n 0 40 b.2 else .inr (0, b.2)) R3.2 R3.1 := by
            by_cases y2 : wdS t n p = some 2
            · rw [if_pos y2]
              by_cases z : R2.2.2.2.2.2.1 = 0
              · rw [if_pos ⟨y2, z⟩] at e3
                rw [← e3]
                exact la_nm la2
              · rw [if_neg (fun q => z q.2)] at e3
                have x2 : tX t n b.2 = true := by
                  cases q : tX t n b.2
                  · exact absurd (la2.2 q).1 z
                  · rfl
                rw [nmS, if_pos x2, ← e3]
                exact ⟨(la2.1 x2).1, (la2.1 x2).2, Nat.succ_ne_zero _⟩
            · rw [if_neg y2]
              rw [if_neg (fun q => y2 q.1)] at e3
              rw [← e3]
              exact ⟨rfl, la2⟩
          cases q3 : (if wdS t n p = some 2 then nmS t n 0 40 b.2 else .inr (0, b.2)) with
          | inl f =>
            obtain ⟨g1, g2, g3⟩ := en_b h3 q3
            dsimp only
            rw [b3 (by rw [g1]; exact g3)]
            exact ⟨g1, g2, g3⟩
          | inr c =>
            obtain ⟨k3, la3⟩ := en_g h3 q3
            have m3 : c.1 ≤ 40 := by
              split at q3
              · exact (nmS_in q3).2.1
              · cases q3; exact Nat.zero_le _
            have m4 : wdS t n p = some 1 → c.1 = 0 := by
              intro z
              rw [if_neg (by rw [z]; exact fun q => by cases q)] at q3
              cases q3; rfl
            dsimp only
            have h7 := la_st la3
            rw [e7] at h7
            cases q7 : sgS t n c.2 with
            | inl f =>
              rw [q7] at h7
              exact h7
            | inr s =>
              rw [q7] at h7
              obtain ⟨r1, r2, r3, r4⟩ := h7
              rw [r1]
              refine ⟨r2, ?_, ⟨k1, m1.2.1⟩, ⟨k2, m2.2.1⟩, ⟨k3, m3⟩, r3, r4⟩
              rcases y with y | y
              · rw [if_pos y]
                exact ⟨y, Or.inl ⟨rfl, m4 y⟩⟩
              · rw [if_neg (by rw [y]; exact fun q => by cases q)]
                exact ⟨y, Or.inr rfl⟩
    · rw [if_neg y]
      rw [decide_eq_false y] at e0
      have : P0 = (P.1, P.2.1, P.2.2.1, P.2.2.2.1, 2, P.2.1) := by rw [← e0, rqP, if_pos ⟨rfl, f0⟩]
      rw [b0 (by rw [this]; exact Nat.succ_ne_zero _), this]
      exact ⟨rfl, fb, Nat.succ_ne_zero _⟩
theorem la_vol {t : Nat → Nat} {n p : Nat} {P P0 PA P7 : Ps} {R1 R2 R3 R4 R5 R6 : Nat × Ps} (h : la t n p P) (e0 : rqP (decide (lnw t n P = some 0)) 2 P = P0) (eA : rdP t n P0 = PA) (e1 : nmP t n 1 4 PA = R1) (e2 : nmP t n 1 8 R1.2 = R2) (e3 : nmP t n 1 6 R2.2 = R3) (e4 : nmP t n 0 3 R3.2 = R4) (e5 : nmP t n 0 99 R4.2 = R5) (e6 : nmP t n 1 8 R5.2 = R6) (e7 : stP R6.2 = P7) :
    match vlS t n p with
    | .inl f => P7.2.2.2.2.1 = f.1 ∧ P7.2.2.2.2.2 = f.2 ∧ ¬ f.1 = 0
    | .inr z => P7.2.2.2.2.1 = 0 ∧ R1.1 = z.1.1 ∧ R2.1 = z.1.2.1 ∧ R3.1 = z.1.2.2.1 ∧ R4.1 = z.1.2.2.2.1 ∧ R5.1 = z.1.2.2.2.2.1 ∧ R6.1 = z.1.2.2.2.2.2 ∧ P7.1 = z.2 := by
  have b6 : ¬ R6.2.2.2.2.2.1 = 0 → P7 = R6.2 := fun z => by rw [← e7, st_b z]
  have b5 : ¬ R5.2.2.2.2.2.1 = 0 → P7 = R5.2 := fun z => by
    rw [nm_b z] at e6
    rw [← e6] at b6
    exact b6 z
  have b4 : ¬ R4.2.2.2.2.2.1 = 0 → P7 = R4.2 := fun z => by
    rw [nm_b z] at e5
    rw [← e5] at b5
    exact b5 z
  have b3 : ¬ R3.2.2.2.2.2.1 = 0 → P7 = R3.2 := fun z => by
    rw [nm_b z] at e4
    rw [← e4] at b4
    exact b4 z
  have b2 : ¬ R2.2.2.2.2.2.1 = 0 → P7 = R2.2 := fun z => by
    rw [nm_b z] at e3
    rw [← e3] at b3
    exact b3 z
  have b1 : ¬ R1.2.2.2.2.2.1 = 0 → P7 = R1.2 := fun z => by
    rw [nm_b z] at e2
    rw [← e2] at b2
    exact b2 z
  have bA : ¬ PA.2.2.2.2.1 = 0 → P7 = PA := fun z => by
    rw [nm_b z] at e1
    rw [← e1] at b1
    exact b1 z
  have b0 : ¬ P0.2.2.2.2.1 = 0 → P7 = P0 := fun z => by
    rw [rd_b z] at eA
    rw [← eA] at bA
    exact bA z
  unfold vlS
  by_cases x : tX t n p = true
  · rw [if_pos x]
    obtain ⟨f1, f2⟩ := h.1 x
    have f0 : ¬ P.2.2.2.2.1 = 0 := by omega
    rw [rq_b f0] at e0
    rw [← e0] at b0
    rw [b0 f0]
    exact ⟨f1, f2, Nat.succ_ne_zero _⟩
  · rw [if_neg x]
    have x' : tX t n p = false := by cases q : tX t n p; rfl; exact absurd q x
    rw [la_w h x'] at e0
    obtain ⟨f0, fe, fb, fs, ff⟩ := h.2 x'
    by_cases y : wdS t n p = some 0
    · rw [if_pos y]
      rw [decide_eq_true y] at e0
      have : P0 = P := by rw [← e0, rqP, if_neg (fun z => by cases z.1)]
      subst this
      have hA : la t n (tE t n p) PA := by rw [← eA, ← fe]; exact la_rd f0
      have h1 : enS t n (nmS t n 1 4 (tE t n p)) R1.2 R1.1 := by rw [← e1]; exact la_nm hA
      cases q1 : nmS t n 1 4 (tE t n p) with
      | inl f =>
        obtain ⟨g1, g2, g3⟩ := en_b h1 q1
        dsimp only
        rw [b1 (by rw [g1]; exact g3)]
        exact ⟨g1, g2, g3⟩
      | inr a =>
      obtain ⟨k1, la1⟩ := en_g h1 q1
      dsimp only
      have h2 : enS t n (nmS t n 1 8 a.2) R2.2 R2.1 := by rw [← e2]; exact la_nm la1
      cases q2 : nmS t n 1 8 a.2 with
      | inl f =>
        obtain ⟨g1, g2, g3⟩ := en_b h2 q2
        dsimp only
        rw [b2 (by rw [g1]; exact g3)]
        exact ⟨g1, g2, g3⟩
      | inr b =>
      obtain ⟨k2, la2⟩ := en_g h2 q2
      dsimp only
      have h3 : enS t n (nmS t n 1 6 b.2) R3.2 R3.1 := by rw [← e3]; exact la_nm la2
      cases q3 : nmS t n 1 6 b.2 with
      | inl f =>
        obtain ⟨g1, g2, g3⟩ := en_b h3 q3
        dsimp only
        rw [b3 (by rw [g1]; exact g3)]
        exact ⟨g1, g2, g3⟩
      | inr c =>
      obtain ⟨k3, la3⟩ := en_g h3 q3
      dsimp only
      have h4 : enS t n (nmS t n 0 3 c.2) R4.2 R4.1 := by rw [← e4]; exact la_nm la3
      cases q4 : nmS t n 0 3 c.2 with
      | inl f =>
        obtain ⟨g1, g2, g3⟩ := en_b h4 q4
        dsimp only
        rw [b4 (by rw [g1]; exact g3)]
        exact ⟨g1, g2, g3⟩
      | inr d =>
      obtain ⟨k4, la4⟩ := en_g h4 q4
      dsimp only
      have h5 : enS t n (nmS t n 0 99 d.2) R5.2 R5.1 := by rw [← e5]; exact la_nm la4
      cases q5 : nmS t n 0 99 d.2 with
      | inl f =>
        obtain ⟨g1, g2, g3⟩ := en_b h5 q5
        dsimp only
        rw [b5 (by rw [g1]; exact g3)]
        exact ⟨g1, g2, g3⟩
      | inr e =>
      obtain ⟨k5, la5⟩ := en_g h5 q5
      dsimp only
      have h6 : enS t n (nmS t n 1 8 e.2) R6.2 R6.1 := by rw [← e6]; exact la_nm la5
      cases q6 : nmS t n 1 8 e.2 with
      | inl f =>
        obtain ⟨g1, g2, g3⟩ := en_b h6 q6
        dsimp only
        rw [b6 (by rw [g1]; exact g3)]
        exact ⟨g1, g2, g3⟩
      | inr g =>
      obtain ⟨k6, la6⟩ := en_g h6 q6
      dsimp only
      have h7 := la_st la6
      rw [e7] at h7
      cases q7 : sgS t n g.2 with
      | inl f =>
        rw [q7] at h7
        exact h7
      | inr s =>
        rw [q7] at h7
        obtain ⟨r1, r2, r3, r4⟩ := h7
        rw [r1]
        exact ⟨r2, k1, k2, k3, k4, k5, k6, r4⟩
    · rw [if_neg y]
      rw [decide_eq_false y] at e0
      have : P0 = (P.1, P.2.1, P.2.2.1, P.2.2.2.1, 2, P.2.1) := by rw [← e0, rqP, if_pos ⟨rfl, f0⟩]
      rw [b0 (by rw [this]; exact Nat.succ_ne_zero _), this]
      exact ⟨rfl, fb, Nat.succ_ne_zero _⟩
theorem vl_rng {t : Nat → Nat} {n p : Nat} {z : (Nat × Nat × Nat × Nat × Nat × Nat) × Nat} (h : vlS t n p = .inr z) : (1 ≤ z.1.1 ∧ z.1.1 ≤ 4) ∧ (1 ≤ z.1.2.1 ∧ z.1.2.1 ≤ 8) ∧ (1 ≤ z.1.2.2.1 ∧ z.1.2.2.1 ≤ 6) ∧ z.1.2.2.2.1 ≤ 3 ∧ z.1.2.2.2.2.1 ≤ 99 ∧ (1 ≤ z.1.2.2.2.2.2 ∧ z.1.2.2.2.2.2 ≤ 8) := by
  unfold vlS at h
  split at h
  · cases h
  split at h
  · split at h
    · cases h
    next a ea =>
    split at h
    · cases h
    next b eb =>
    split at h
    · cases h
    next c ec =>
    split at h
    · cases h
    next d ed =>
    split at h
    · cases h
    next e ee =>
    split at h
    · cases h
    next g eg =>
    split at h
    · cases h
    next s es =>
    cases h
    exact ⟨⟨(nmS_in ea).1, (nmS_in ea).2.1⟩, ⟨(nmS_in eb).1, (nmS_in eb).2.1⟩, ⟨(nmS_in ec).1, (nmS_in ec).2.1⟩, (nmS_in ed).2.1, (nmS_in ee).2.1, ⟨(nmS_in eg).1, (nmS_in eg).2.1⟩⟩
  · cases h
theorem an1_lo (v : Nat → Nat) {c : Nat} (hc : c < 6) : an1 v c = v c := by
  simp only [an1, vf_upd, an0]
  rw [if_neg (by omega), if_neg (by omega), if_neg (by omega), if_neg (by omega), if_neg (by omega), if_neg (by omega), if_neg (by omega)]
theorem an1_67 (v : Nat → Nat) {c : Nat} (hc : c = 6 ∨ c = 7) : an1 v c = 0 := by
  simp only [an1, vf_upd, an0]
  rw [if_neg (by omega), if_neg (by omega), if_neg (by omega), if_neg (by omega), if_neg (by omega), if_neg (by omega), if_pos (by omega), if_neg (by omega)]
theorem an1_hi (v : Nat → Nat) {c : Nat} (hc : 496 ≤ c) : an1 v c = v c := by
  simp only [an1, vf_upd, an0]
  rw [if_neg (by omega), if_neg (by omega), if_neg (by omega), if_neg (by omega), if_neg (by omega), if_neg (by omega), if_neg (by omega)]
theorem an1_m (v : Nat → Nat) {x : Nat} (hx : x < 128) : an1 v (8 + x) = if 1 ≤ x ∧ x < 4 * v 0 * v 1 then 1 else 0 := by
  simp only [an1, vf_upd, an0]
  rw [if_neg (by omega), if_neg (by omega), if_neg (by omega), if_neg (by omega), if_neg (by omega)]
  by_cases q : x = 0
  · rw [if_pos (by omega), if_neg (by omega)]
  · rw [if_neg (by omega), if_pos (by omega)]
    by_cases q2 : x < 4 * v 0 * v 1
    · rw [if_pos (by omega), if_pos (by omega)]
    · rw [if_neg (by omega), if_neg (by omega)]
theorem an1_io (v : Nat → Nat) (hgb : v 0 * v 1 ≤ 32) {i f : Nat} (hi : i < 24) (hf : f < 15) : io (an1 v) i f = if i = 0 then (if f = 0 ∨ f = 3 then 1 else if f = 1 ∨ f = 2 then 4294967292 else 0) else 0 := by
  have hfr : 4 * v 0 * v 1 ≤ 128 := by rw [Nat.mul_assoc]; omega
  simp only [io, an1, vf_upd, an0]
  by_cases q : i = 0
  · rw [if_pos q]
    subst q
    by_cases q1 : f = 0
    · rw [if_neg (by omega), if_neg (by omega), if_neg (by omega), if_neg (by omega), if_pos (by omega), if_pos (by omega)]
    by_cases q2 : f = 1
    · rw [if_neg (by omega), if_neg (by omega), if_neg (by omega), if_pos (by omega), if_neg (by omega), if_pos (by omega)]
    by_cases q3 : f = 2
    · rw [if_neg (by omega), if_neg (by omega), if_pos (by omega), if_neg (by omega), if_pos (by omega)]
    by_cases q4 : f = 3
    · rw [if_neg (by omega), if_pos (by omega), if_pos (by omega)]
    rw [if_neg (show ¬ (f = 0 ∨ f = 3) by omega), if_neg (show ¬ (f = 1 ∨ f = 2) by omega)]
    by_cases q5 : f = 4
    · rw [if_pos (by omega)]
    · rw [if_neg (by omega), if_neg (by omega), if_neg (by omega), if_neg (by omega), if_neg (by omega), if_neg (by omega), if_pos (by omega), if_neg (by omega)]
  · rw [if_neg q, if_neg (by omega), if_neg (by omega), if_neg (by omega), if_neg (by omega), if_neg (by omega), if_neg (by omega), if_pos (by omega), if_neg (by omega)]
theorem ivr_an1 {v : Nat → Nat} (w : wfg v) : ivr (an1 v) := by
  have hgb := wf_gb w
  have z0 := an1_lo v (c := 0) (by decide)
  have z1 := an1_lo v (c := 1) (by decide)
  have z2 := an1_lo v (c := 2) (by decide)
  have z3 := an1_lo v (c := 3) (by decide)
  have z4 := an1_lo v (c := 4) (by decide)
  have z5 := an1_lo v (c := 5) (by decide)
  refine ⟨⟨?_, ?_, ?_⟩, ?_, ?_⟩
  · unfold wfg
    rw [z0, z1, z2, z3, z4, z5]
    exact w
  · intro x hx
    rw [an1_m v hx]
    split <;> omega
  · intro i hi
    rw [an1_io v hgb hi (by decide), an1_io v hgb hi (by decide), an1_io v hgb hi (by decide)]
    by_cases q : i = 0
    · rw [if_pos q, if_pos q, if_pos q]
      refine ⟨by decide, by decide, by decide, fun k hk => ?_⟩
      rw [an1_io v hgb hi (by omega), if_pos q, if_neg (by omega), if_neg (by omega)]
      decide
    · rw [if_neg q, if_neg q, if_neg q]
      refine ⟨by decide, by decide, by decide, fun k hk => ?_⟩
      rw [an1_io v hgb hi (by omega), if_neg q]
      decide
  · intro i hi
    rw [an1_io v hgb hi (by decide), an1_io v hgb hi (by decide)]
    by_cases q : i = 0
    · rw [if_pos q, if_pos q]
      exact ⟨by decide, by decide⟩
    · rw [if_neg q, if_neg q]
      exact ⟨by decide, by decide⟩
  · intro i hi
    rw [an1_io v hgb hi (by decide), an1_io v hgb hi (by decide)]
    by_cases q : i = 0
    · rw [if_pos q, if_pos q]
      decide
    · rw [if_neg q, if_neg q]
      decide
theorem v6_g (v : Nat → Nat) {g b i s r l : Nat} (h1 : 1 ≤ g ∧ g ≤ 4) (h2 : 1 ≤ b ∧ b ≤ 8) (h3 : 1 ≤ i ∧ i ≤ 6) (h4 : s ≤ 3) (h5 : r ≤ 99) (h6 : 1 ≤ l ∧ l ≤ 8) : wfg (v6 v g b i s r l) := by
  have z0 : v6 v g b i s r l 0 = g := by simp [v6, vf_upd]
  have z1 : v6 v g b i s r l 1 = b := by simp [v6, vf_upd]
  have z2 : v6 v g b i s r l 2 = i := by simp [v6, vf_upd]
  have z3 : v6 v g b i s r l 3 = s := by simp [v6, vf_upd]
  have z4 : v6 v g b i s r l 4 = r := by simp [v6, vf_upd]
  have z5 : v6 v g b i s r l 5 = l := by simp [v6, vf_upd]
  unfold wfg
  rw [z0, z1, z2, z3, z4, z5]
  exact ⟨h1, h2, h3, h4, h5, h6⟩
theorem cnt_eq {p q : Nat → Bool} : ∀ n, (∀ k, k < n → p k = q k) → cnt p n = cnt q n := by
  intro n
  induction n with
  | zero => intro _; rfl
  | succ n ih => intro h; simp only [cnt]; rw [ih (fun k hk => h k (by omega)), h n (by omega)]
theorem cnt_up {p q : Nat → Bool} {i : Nat} (hp : p i = false) (hq : q i = true) (ho : ∀ k, k ≠ i → q k = p k) : ∀ n, i < n → cnt q n = cnt p n + 1 := by
  intro n
  induction n with
  | zero => intro h; omega
  | succ n ih =>
    intro h
    simp only [cnt]
    by_cases e : i = n
    · subst e
      rw [hp, hq, cnt_eq i (fun k hk => ho k (by omega))]
      rfl
    · rw [ih (by omega), ho n (by omega)]
      omega
theorem cnt_0 {p : Nat → Bool} (h : p 0 = true) : ∀ n, 1 ≤ n → 1 ≤ cnt p n := by
  intro n
  induction n with
  | zero => intro h; omega
  | succ n ih =>
    intro _
    simp only [cnt]
    cases n with
    | zero => rw [h, if_pos rfl]; exact Nat.le_add_left 1 _
    | succ n => have := ih (by omega); omega
theorem mks_k {v v' : Nat → Nat} (w : wfg v) {d nm kind i : Nat} (hkd : kind = 1 ∨ kind = 2) (h : mks v d nm kind = some (i, v')) : (∀ c, c < 8 → v' c = v c) ∧ i < v 0 * v 2 ∧ io v i 0 = 0 ∧ (∀ j, io v' j 0 = if j = i then kind else io v j 0) ∧ nth v' = nth v + 1 := by
  have hgb := wf_gb w
  have hgi := wf_gi w
  obtain ⟨g2, at2, -, -, -, e3, rfl, hat2, hg⟩ := mks_of w h
  obtain ⟨hi, hz, -, -⟩ := fni_lt hg e3
  have hc : ∀ c, c < 8 → mkv v i d nm kind at2 c = v c := by
    intro c hc
    unfold mkv mk0
    split
    · rw [vu_n _ _ _ _ (by omega), vu_n _ _ _ _ (by omega), vu_n _ _ _ _ (by omega), vu_n _ _ _ _ (by omega), vu_n _ _ _ _ (by omega), vu_n _ _ _ _ (by omega)]
    · rw [vu_n _ _ _ _ (by omega), vu_n _ _ _ _ (by omega), vu_n _ _ _ _ (by omega), vu_n _ _ _ _ (by omega), vu_n _ _ _ _ (by omega)]
  have hk : ∀ j, io (mkv v i d nm kind at2) j 0 = if j = i then kind else io v j 0 := by
    intro j
    rw [io_mkv v i d nm kind at2 j 0 (by decide) (by omega)]
    split
    · rw [if_pos rfl]
    · rfl
  refine ⟨hc, hi, hz, hk, ?_⟩
  unfold nth
  rw [hc 0 (by decide), hc 2 (by decide)]
  refine cnt_up (i := i) ?_ ?_ ?_ _ hi
  · rw [hz]; decide
  · rw [hk i, if_pos rfl]
    exact decide_eq_true (by omega)
  · intro k hk'
    rw [hk k, if_neg hk']
theorem nth_le (v : Nat → Nat) : nth v ≤ v 0 * v 2 := cnt_le _ _
theorem cms_k {v : Nat → Nat} (w : ivr v) {d nm kind size : Nat} {p : Nat × (Nat → Nat)} (hd : d < 2 ^ 32) (hnm : nm < 2 ^ 32) (hkd : kind = 1 ∨ kind = 2) (h : cmS v d nm kind size = some p) : (∀ c, c < 6 → p.2 c = v c) ∧ io v p.1 0 = 0 ∧ (∀ j, io p.2 j 0 = if j = p.1 then kind else io v j 0) ∧ nth p.2 = nth v + 1 := by
  obtain ⟨v1, e1, e2⟩ := cms_of h
  have w1 := ivr_mks w hd hnm hkd e1
  have hgi := wf_gi w.1.1
  obtain ⟨a1, a2, a3, a4, a5⟩ := mks_k w.1.1 hkd e1
  by_cases c : 0 < size
  · rw [if_pos c] at e2
    obtain ⟨b1, -, -⟩ := kp_grw w1.1 w1.2.2 (by omega) c e2
    have hk : ∀ j, io p.2 j 0 = io v1 j 0 := fun j => b1.1 j 0 (by decide) (Or.inr (by decide))
    refine ⟨fun c hc => (b1.2 c hc).trans (a1 c (by omega)), a3, fun j => by rw [hk j, a4 j], ?_⟩
    rw [← a5]
    unfold nth
    rw [b1.2 0 (by decide), b1.2 2 (by decide)]
    exact cnt_eq _ (fun k _ => by rw [hk k])
  · rw [if_neg c] at e2
    rw [e2]
    exact ⟨fun c hc => a1 c (by omega), a3, a4, a5⟩
theorem nI_sur (x : Int32) : ∃ k, x = nI k := ⟨x.toBitVec.toNat, by
  apply Int32.toBitVec_inj.mp
  show x.toBitVec = BitVec.ofNat 32 x.toBitVec.toNat
  rw [BitVec.ofNat_toNat, BitVec.setWidth_eq]⟩
