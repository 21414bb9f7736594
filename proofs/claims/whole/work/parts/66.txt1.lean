/-! THE TEXT: what holds while it is told -/
theorem skw_stop {q : Nat → Bool} {n : Nat} (hq : ∀ x, q x = true → x < n) : ∀ f p, p ≤ n → n < p + f → q (skw q f p) = false := by
  intro f
  induction f with
  | zero => intro p h1 h2; omega
  | succ f ih =>
    intro p h1 h2
    rw [skw_s]
    split
    · next c => exact ih (p + 1) (hq p c) (by omega)
    · next c => exact Bool.eq_false_iff.mpr c
theorem skw_id {q : Nat → Bool} {p : Nat} (h : q p = false) (f : Nat) : skw q f p = p := by
  cases f with
  | zero => rfl
  | succ f => rw [skw_s, if_neg (by rw [h]; decide)]
section T1
variable {t : Nat → Nat} {n : Nat}
theorem tB_tB {p : Nat} (hp : p ≤ n) (hn : n ≤ 200) : tB t n (tB t n p) = tB t n p := skw_id (skw_stop (n := n) (fun x h => (of_decide_eq_true h).1) 201 p hp (by omega)) 201
theorem ln_tB {p dm : Nat} (hp : p ≤ n) (hn : n ≤ 200) : lnS t n dm (tB t n p) = lnS t n dm p := by
  have eB := tB_tB (t := t) hp hn
  have eS : tS t n (tB t n p) = tS t n p := by unfold tS; rw [eB]
  have eE : tE t n (tB t n p) = tE t n p := by unfold tE; rw [eB]
  have eX : tX t n (tB t n p) = tX t n p := by unfold tX; rw [eB, eS, eE]
  have eW : wdS t n (tB t n p) = wdS t n p := by unfold wdS; rw [eB, eS, eE]
  unfold lnS
  rw [eX, eW, eE, eB]
theorem nm_nz {lo hi p : Nat} {q : Nat × Nat} (h : nmS t n lo hi p = .inl q) : q.1 ≠ 0 := by
  unfold nmS at h
  split at h
  · cases h; exact fun z => by cases z
  · split at h
    · split at h
      · cases h
      · cases h; exact fun z => by cases z
    · cases h; exact fun z => by cases z
theorem sg_nz {p : Nat} {q : Nat × Nat} (h : sgS t n p = .inl q) : q.1 ≠ 0 := by
  unfold sgS at h
  split at h
  · cases h; exact fun z => by cases z
  · split at h
    · cases h
    · cases h; exact fun z => by cases z
theorem ln_nz {dm p : Nat} {q : Nat × Nat} (h : lnS t n dm p = .inl q) : q.1 ≠ 0 := by
  unfold lnS at h
  split at h
  · cases h; exact fun z => by cases z
  · split at h
    · split at h
      · next e => cases h; exact nm_nz e
      · split at h
        · next e => cases h; exact nm_nz e
        · split at h
          · next e =>
            cases h
            split at e
            · exact nm_nz e
            · cases e
          · split at h
            · next e => cases h; exact sg_nz e
            · cases h
    · cases h; exact fun z => by cases z
theorem vl_nz {p : Nat} {q : Nat × Nat} (h : vlS t n p = .inl q) : q.1 ≠ 0 := by
  unfold vlS at h
  split at h
  · cases h; exact fun z => by cases z
  · split at h
    · split at h
      · next e => cases h; exact nm_nz e
      · split at h
        · next e => cases h; exact nm_nz e
        · split at h
          · next e => cases h; exact nm_nz e
          · split at h
            · next e => cases h; exact nm_nz e
            · split at h
              · next e => cases h; exact nm_nz e
              · split at h
                · next e => cases h; exact nm_nz e
                · split at h
                  · next e => cases h; exact sg_nz e
                  · cases h
    · cases h; exact fun z => by cases z
def pnt (E : Nat → Nat) (a : Nat) : Nat := if a = 0 then 0 else E (a - 1)
theorem lpS_s (f : Nat) (v : Nat → Nat) (p dm : Nat) (E : Nat → Nat) : lpS t n (f + 1) v p dm E = if n ≤ tB t n p then .inr v else match lnS t n dm p with
    | .inl q => .inl q
    | .inr z => if (ino v (pnt E z.2.1) z.2.2.1).isSome = true then .inl (4, z.2.2.2.2.1) else match cmS v (pnt E z.2.1) z.2.2.1 z.1 z.2.2.2.1 with
      | none => .inl (5, z.2.2.2.2.1)
      | some q => lpS t n f q.2 z.2.2.2.2.2 (if z.1 = 1 then dm + 1 else dm) (if z.1 = 1 then vf_upd E dm q.1 else E) := by
  simp only [lpS]
  split
  · rfl
  · cases lnS t n dm p <;> rfl
theorem lp_nz : ∀ f (v : Nat → Nat) p dm E (q : Nat × Nat), lpS t n f v p dm E = .inl q → q.1 ≠ 0 := by
  intro f
  induction f with
  | zero => intro v p dm E q h; cases h
  | succ f ih =>
    intro v p dm E q h
    rw [lpS_s] at h
    split at h
    · cases h
    · split at h
      · next e => cases h; exact ln_nz e
      · split at h
        · cases h; exact fun z => by cases z
        · split at h
          · cases h; exact fun z => by cases z
          · exact ih _ _ _ _ _ h
theorem tx_nz {v : Nat → Nat} {q : Nat × Nat} (h : txS t n v = .inl q) : q.1 ≠ 0 := by
  unfold txS at h
  split at h
  · next e => cases h; exact vl_nz e
  · exact lp_nz _ _ _ _ _ _ h
theorem sg_le {p : Nat} (hp : p ≤ n) {s : Nat × Nat} (h : sgS t n p = .inr s) : s.2 ≤ n := by
  rw [(sgS_in h).2.2.1]
  exact tE_le hp
theorem ln_in {dm p : Nat} (hp : p ≤ n) {z : Nat × Nat × Nat × Nat × Nat × Nat} (h : lnS t n dm p = .inr z) : (z.1 = 1 ∧ z.2.2.2.1 = 0 ∨ z.1 = 2) ∧ z.2.1 ≤ dm ∧ z.2.2.1 ≤ 9 ∧ z.2.2.2.1 ≤ 40 ∧ z.2.2.2.2.2 ≤ n := by
  unfold lnS at h
  split at h
  · cases h
  · split at h
    · next hw =>
      split at h
      · cases h
      · next a ea =>
        have ha := nmS_in ea
        have la := nm_le (tE_le hp) ea
        split at h
        · cases h
        · next b eb =>
          have hb := nmS_in eb
          have lb := nm_le la eb
          split at h
          · cases h
          · next c ec =>
            split at h
            · cases h
            · next s es =>
              cases h
              by_cases w2 : wdS t n p = some 2
              · rw [if_pos w2] at ec
                have hc := nmS_in ec
                have lc := nm_le lb ec
                refine ⟨Or.inr ?_, ha.2.1, hb.2.1, hc.2.1, sg_le lc es⟩
                show (if wdS t n p = some 1 then 1 else 2) = 2
                rw [if_neg (by rw [w2]; decide)]
              · rw [if_neg w2] at ec
                cases ec
                have w1 : wdS t n p = some 1 := by
                  rcases hw with z | z
                  · exact z
                  · exact absurd z w2
                refine ⟨Or.inl ⟨?_, rfl⟩, ha.2.1, hb.2.1, Nat.zero_le _, sg_le lb es⟩
                show (if wdS t n p = some 1 then 1 else 2) = 1
                rw [if_pos w1]
    · cases h
theorem vl_in2 {p : Nat} (hp : p ≤ n) {z : (Nat × Nat × Nat × Nat × Nat × Nat) × Nat} (h : vlS t n p = .inr z) : p < z.2 ∧ z.2 ≤ n := by
  unfold vlS at h
  split at h
  · cases h
  · split at h
    · next hw =>
      split at h
      · cases h
      · next a ea =>
        have l1 := nm_le (tE_le hp) ea
        split at h
        · cases h
        · next b eb =>
          have l2 := nm_le l1 eb
          split at h
          · cases h
          · next c ec =>
            have l3 := nm_le l2 ec
            split at h
            · cases h
            · next d ed =>
              have l4 := nm_le l3 ed
              split at h
              · cases h
              · next e ee =>
                have l5 := nm_le l4 ee
                split at h
                · cases h
                · next f ef =>
                  have l6 := nm_le l5 ef
                  split at h
                  · cases h
                  · next s es =>
                    cases h
                    have h0 := tE_ge t n p
                    have h1 := tE_ge t n (tE t n p)
                    have h2 := tE_ge t n a.2
                    have h3 := tE_ge t n b.2
                    have h4 := tE_ge t n c.2
                    have h5 := tE_ge t n d.2
                    have h6 := tE_ge t n e.2
                    have hs := sgS_in es
                    have := tE3 hs.1
                    have := tB_gx t n f.2
                    have q1 := (nmS_in ea).2.2.1
                    have q2 := (nmS_in eb).2.2.1
                    have q3 := (nmS_in ec).2.2.1
                    have q4 := (nmS_in ed).2.2.1
                    have q5 := (nmS_in ee).2.2.1
                    have q6 := (nmS_in ef).2.2.1
                    refine ⟨?_, sg_le l6 es⟩
                    show p < s.2
                    omega
    · cases h
end T1
/-- what holds of the told volume, the told directories -/
def TI (v : Nat → Nat) (dm : Nat) (E : Nat → Nat) : Prop := Inv v ∧ spt v = false ∧ v 6 = 0 ∧ v 7 = 0 ∧ dm + 1 ≤ nth v ∧ ∀ j, j < dm → E j < v 0 * v 2 ∧ io v (E j) 0 = 1
theorem TI_pnt {v : Nat → Nat} {dm : Nat} {E : Nat → Nat} (h : TI v dm E) {a : Nat} (ha : a ≤ dm) : pnt E a < v 0 * v 2 ∧ io v (pnt E a) 0 = 1 := by
  unfold pnt
  have w := h.1.1.1.1
  have hge := gb_ge w.1.1.1 w.1.2.2.1.1
  split
  · exact ⟨by omega, h.1.1.2.2.2.2.2⟩
  · exact h.2.2.2.2.2 _ (by omega)
theorem TI_dm {v : Nat → Nat} {dm : Nat} {E : Nat → Nat} (h : TI v dm E) : dm < 24 := by
  have := nth_le v
  have := wf_gi h.1.1.1.1.1
  have := h.2.2.2.2.1
  omega
theorem cms_inv {v : Nat → Nat} {d nm kind size : Nat} {p : Nat × (Nat → Nat)} (h : Inv v) (hs : spt v = false) (hd : d < v 0 * v 2) (hd1 : io v d 0 = 1) (hnm : nm ≤ 9) (hkd : kind = 1 ∧ size = 0 ∨ kind = 2) (hq : cmS v d nm kind size = some p) : Inv p.2 ∧ spt p.2 = false ∧ ∀ c, c < 8 → p.2 c = v c := by
  have w := h.1.1.1
  have hgi := wf_gi w.1
  obtain ⟨v1, e1, e2⟩ := cms_of hq
  have hk : kind = 1 ∨ kind = 2 := by omega
  have i1 := inv_mks h.1 hd (by omega) (by omega) hk e1
  have s1 := spt_mks h.1 hs hk e1
  have t1 := tdy_sb h.2 (sb_mks w.1 e1)
  obtain ⟨a1, a2, a3, a4, -⟩ := mks_k w.1 hk e1
  by_cases c : 0 < size
  · rw [if_pos c] at e2
    have k2 : kind = 2 := by omega
    have z0 : v1 0 = v 0 := a1 0 (by decide)
    have z2 : v1 2 = v 2 := a1 2 (by decide)
    have h3 : io v1 p.1 3 = 0 := by
      obtain ⟨g, at_, q1, q2, q3, q4, rfl, q5, q6⟩ := mks_of w.1 e1
      have hgb := wf_gb w.1
      rw [io_mkv _ _ _ _ _ _ _ _ (by decide) (by omega), if_pos rfl, if_neg (by decide), if_neg (by decide), if_neg (by decide), if_pos rfl, if_neg (by omega)]
    have g1 := spt_grw i1 s1 (by rw [z0, z2]; exact a2) (by rw [a4, if_pos rfl]; omega) h3 c e2
    exact ⟨⟨inv_grw i1 (by omega) c e2, tdy_sb t1 (wf_grw i1.1.1 i1.1.2.2 (by omega) c e2).2⟩, g1.1, fun c hc => by rw [g1.2 c hc, a1 c hc]⟩
  · rw [if_neg c] at e2
    rw [e2]
    exact ⟨⟨i1, t1⟩, s1, a1⟩
theorem TI_step {v : Nat → Nat} {dm : Nat} {E : Nat → Nat} (h : TI v dm E) {a b k c : Nat} (ha : a ≤ dm) (hb : b ≤ 9) (hk : k = 1 ∧ c = 0 ∨ k = 2) {q : Nat × (Nat → Nat)} (hq : cmS v (pnt E a) b k c = some q) : TI q.2 (if k = 1 then dm + 1 else dm) (if k = 1 then vf_upd E dm q.1 else E) := by
  have w := h.1.1.1.1
  have hgi := wf_gi w.1
  obtain ⟨p1, p2⟩ := TI_pnt h ha
  obtain ⟨i1, i2, i3⟩ := cms_inv h.1 h.2.1 p1 p2 hb hk hq
  obtain ⟨k1, k2, k3, k4⟩ := cms_k h.1.1.1 (by omega) (by omega) (by omega) hq
  have hlt := (cms_ok h.1.1.1 (by omega) (by omega) (by omega) hq).2.2
  have old : ∀ j, j < dm → E j < q.2 0 * q.2 2 ∧ io q.2 (E j) 0 = 1 := by
    intro j hj
    obtain ⟨z1, z2⟩ := h.2.2.2.2.2 j hj
    rw [k1 0 (by decide), k1 2 (by decide), k3, if_neg (fun z => by rw [z, k2] at z2; cases z2)]
    exact ⟨z1, z2⟩
  refine ⟨i1, i2, by rw [i3 6 (by decide)]; exact h.2.2.1, by rw [i3 7 (by decide)]; exact h.2.2.2.1, ?_, ?_⟩
  · have := h.2.2.2.2.1
    rw [k4]
    split <;> omega
  · intro j hj
    by_cases e : k = 1
    · rw [if_pos e] at hj ⊢
      by_cases e2 : j = dm
      · subst e2
        rw [vu_s, k1 0 (by decide), k1 2 (by decide), k3, if_pos rfl]
        exact ⟨hlt, e⟩
      · rw [vu_n _ _ _ _ e2]
        exact old j (by omega)
    · rw [if_neg e] at hj ⊢
      exact old j hj
theorem TI_0 {v : Nat → Nat} (w : wfg v) (ht : ∀ c, 496 ≤ c → v c = 0) (E : Nat → Nat) : TI (an1 v) 0 E := by
  have hgi := wf_gi w
  have hge := gb_ge w.1.1 w.2.2.1.1
  refine ⟨⟨inv_an1 w, fun c hc => by rw [an1_hi v hc]; exact ht c hc⟩, an1_spt w, an1_67 v (Or.inl rfl), an1_67 v (Or.inr rfl), ?_, fun j hj => by omega⟩
  unfold nth
  rw [an1_lo v (by decide), an1_lo v (by decide)]
  refine cnt_0 (p := fun i => decide (io (an1 v) i 0 ≠ 0)) ?_ _ hge
  show decide (io (an1 v) 0 0 ≠ 0) = true
  rw [(inv_an1 w).2.2.2.2.2]
  rfl
theorem lp_inv {t : Nat → Nat} {n : Nat} (hn : n ≤ 200) : ∀ f (v : Nat → Nat) p dm E v', p ≤ n → TI v dm E → lpS t n f v p dm E = .inr v' → Inv v' := by
  intro f
  induction f with
  | zero => intro v p dm E v' _ h e; cases e; exact h.1
  | succ f ih =>
    intro v p dm E v' hp h e
    rw [lpS_s] at e
    split at e
    · cases e; exact h.1
    · split at e
      · cases e
      · next z el =>
        obtain ⟨l1, l2, l3, l4, l5⟩ := ln_in hp el
        split at e
        · cases e
        · split at e
          · cases e
          · next q eq =>
            exact ih _ _ _ _ _ l5 (TI_step h l2 l3 l1 eq) e
theorem v6_hi (v : Nat → Nat) {g b i s r l c : Nat} (hc : 496 ≤ c) : v6 v g b i s r l c = v c := by
  unfold v6
  rw [vu_n _ _ _ _ (by omega), vu_n _ _ _ _ (by omega), vu_n _ _ _ _ (by omega), vu_n _ _ _ _ (by omega), vu_n _ _ _ _ (by omega), vu_n _ _ _ _ (by omega)]
theorem TI_vl {v : Nat → Nat} (ht : tdy v) {t : Nat → Nat} {n : Nat} {z : (Nat × Nat × Nat × Nat × Nat × Nat) × Nat} (h : vlS t n 0 = .inr z) (E : Nat → Nat) : wfg (v6 v z.1.1 z.1.2.1 z.1.2.2.1 z.1.2.2.2.1 z.1.2.2.2.2.1 z.1.2.2.2.2.2) ∧ TI (an1 (v6 v z.1.1 z.1.2.1 z.1.2.2.1 z.1.2.2.2.1 z.1.2.2.2.2.1 z.1.2.2.2.2.2)) 0 E := by
  obtain ⟨r1, r2, r3, r4, r5, r6⟩ := vl_rng h
  have w := v6_g v r1 r2 r3 r4 r5 r6
  exact ⟨w, TI_0 w (fun c hc => by rw [v6_hi v hc]; exact ht c hc) E⟩
theorem Inv_text {v : Nat → Nat} (h : Inv v) {t : Nat → Nat} {n : Nat} (hn : n ≤ 200) : Inv (s_text t n v).2.1 := by
  unfold s_text
  cases e : txS t n v with
  | inl q => exact h
  | inr v1 =>
    unfold txS at e
    cases e2 : vlS t n 0 with
    | inl q => rw [e2] at e; cases e
    | inr z =>
      rw [e2] at e
      obtain ⟨w, h0⟩ := TI_vl h.2 e2 (fun _ => 0)
      have h1 := lp_inv hn _ _ _ _ _ _ (vl_in2 (Nat.zero_le n) e2).2 h0 e
      have hio : ∀ k f, io (vf_upd (vf_upd v1 6 0) 7 0) k f = io v1 k f := fun k f => by
        show vf_upd (vf_upd v1 6 0) 7 0 (136 + 15 * k + f) = v1 (136 + 15 * k + f)
        rw [vu_n _ _ _ _ (by omega), vu_n _ _ _ _ (by omega)]
      refine ⟨inv_of h1.1 ⟨wf_c (wf_c h1.1.1.1 6 0 (Or.inl rfl)) 7 0 (Or.inr rfl), fun j hj => ?_, fun j hj => ?_⟩ rfl (OB_t (OB_c _ (Or.inl rfl)) (OB_c _ (Or.inr rfl))) (fun k f hf => ?_), fun c hc => ?_⟩
      · rw [hio, hio]; exact h1.1.1.2.1 j hj
      · rw [hio, hio]; exact h1.1.1.2.2 j hj
      · exact hio k f
      · show vf_upd (vf_upd v1 6 0) 7 0 c = 0
        rw [vu_n _ _ _ _ (by omega), vu_n _ _ _ _ (by omega)]
        exact h1.2 c hc
