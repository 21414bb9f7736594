/-! SOUNDNESS of the heap's rules -/
theorem sg_uin0 : ∀ w ∈ u_ws RX0 TX0 5, w ∈ sg_ws := by decide +kernel
theorem sg_uin1 : ∀ w ∈ u_ws RX1 TX1 2, w ∈ sg_ws := by decide +kernel
theorem sg_uin2 : ∀ w ∈ u_ws RX2 TX2 7, w ∈ sg_ws := by decide +kernel
theorem sg_uin3 : ∀ w ∈ u_ws RX3 TX3 6, w ∈ sg_ws := by decide +kernel
theorem sg_uin4 : ∀ w ∈ u_ws RX4 TX4 9, w ∈ sg_ws := by decide +kernel
theorem sg_uin5 : ∀ w ∈ u_ws RX5 TX5 2, w ∈ sg_ws := by decide +kernel
theorem sg_uin6 : ∀ w ∈ u_ws RX6 TX6 6, w ∈ sg_ws := by decide +kernel
theorem sg_uin7 : ∀ w ∈ u_ws RX7 TX7 14, w ∈ sg_ws := by decide +kernel
theorem sg_uin8 : ∀ w ∈ u_ws RX8 TX8 16, w ∈ sg_ws := by decide +kernel
theorem sg_wI : Cond.arrayClass .int ∈ sg_ws := by decide +kernel
theorem sg_wZ : Cond.arrayClass .boolean ∈ sg_ws := by decide +kernel
theorem sg_n43 : Cond.fieldLinkNest RX4 43 RX7 "LEAST_RULES" "[I" RX7 ∈ sg_nws := by decide +kernel
theorem sg_n46 : Cond.fieldLinkNest RX4 46 RX7 "MOST_RULES" "[I" RX7 ∈ sg_nws := by decide +kernel
theorem sg_n57 : Cond.fieldLink RX7 57 RX7 "RULES_AT_FIRST" "[I" ∈ sg_ws := by decide +kernel
/-- what the names say of each class -/
theorem sg_cls {ci : Nat} {r : vw_C} (h : vwCl[ci]? = some r) : (∀ w ∈ u_ws r.1 r.2.1 r.2.2, w ∈ sg_ws) ∧ (∃ ty0 : Nat → FieldType, ∀ k, k < r.2.2 → parseFieldDescriptor (r.2.1 k).2.2.1 = some (ty0 k)) ∧ ∀ a, a < r.2.2 → ∀ b, b < r.2.2 → a ≠ b → (r.2.1 a).2.1 ≠ (r.2.1 b).2.1 := by
  match ci, h with
  | 0, h => cases h; exact ⟨sg_uin0, ⟨_, tyX0_ok⟩, nmX0⟩
  | 1, h => cases h; exact ⟨sg_uin1, ⟨_, tyX1_ok⟩, nmX1⟩
  | 2, h => cases h; exact ⟨sg_uin2, ⟨_, tyX2_ok⟩, nmX2⟩
  | 3, h => cases h; exact ⟨sg_uin3, ⟨_, tyX3_ok⟩, nmX3⟩
  | 4, h => cases h; exact ⟨sg_uin4, ⟨_, tyX4_ok⟩, nmX4⟩
  | 5, h => cases h; exact ⟨sg_uin5, ⟨_, tyX5_ok⟩, nmX5⟩
  | 6, h => cases h; exact ⟨sg_uin6, ⟨_, tyX6_ok⟩, nmX6⟩
  | 7, h => cases h; exact ⟨sg_uin7, ⟨_, tyX7_ok⟩, nmX7⟩
  | 8, h => cases h; exact ⟨sg_uin8, ⟨_, tyX8_ok⟩, nmX8⟩
  | n + 9, h => simp [vwCl] at h
theorem sg_hm_up {base : Nat} {ext : Nat → Nat} {D : va_G} {cI cZ : ClassId} {ro : Nat → Option (Nat × (Nat → Int32))} {h : sg_H} {H H1 : Heap} {k : Nat} {e : sg_E} (hh : sg_hm base ext D cI cZ ro h H) (hk : k < h.1) (he : va_at D vwCl (base + k, sg_cE cI cZ (sg_ad base ext) e) H1) (hz : H1.size = H.size) (oq : ∀ q : Nat, q ≠ base + k → H1[q]? = H[q]?) : sg_hm base ext D cI cZ ro (sg_up h k e) H1 := by
  obtain ⟨h1, h2, h3, h4⟩ := hh
  refine ⟨by rw [hz]; exact h1, h2, fun j hj => ?_, fun j hj n f hjf => ?_⟩
  · by_cases hjk : j = k
    · subst hjk
      simpa [sg_up] using he
    · have h5 := (h3 j hj).kept (oq (base + j) (by omega))
      simpa [sg_up, hjk] using h5
  · have hne : j ≠ k := by omega
    simp only [sg_up, if_neg hne] at hjf
    exact h4 j hj n f hjf
theorem sg_hm_at {base : Nat} {ext : Nat → Nat} {D : va_G} {cI cZ : ClassId} {ro : Nat → Option (Nat × (Nat → Int32))} {h : sg_H} {H : Heap} {k : Nat} {e : sg_E} (hh : sg_hm base ext D cI cZ ro h H) (hk : k < 1000) (ha : sg_at h k e) : k < h.1 ∧ va_at D vwCl (base + k, sg_cE cI cZ (sg_ad base ext) e) H := by
  have hkl : k < h.1 := ha.1.elim id (fun q => by omega)
  have := hh.2.2.1 k hkl
  rw [ha.2] at this
  exact ⟨hkl, this⟩
theorem sg_adk {base : Nat} {ext : Nat → Nat} {k : Nat} (hk : k < 1000) : sg_ad base ext k = base + k := if_pos hk
theorem sg_hm_X {base : Nat} {ext : Nat → Nat} {D : va_G} {cI cZ : ClassId} {ro : Nat → Option (Nat × (Nat → Int32))} {h : sg_H} {s : State} {H : Heap} {locs : List Loc} {k n : Nat} {f : Nat → Int32} (hh : sg_hm base ext D cI cZ ro h H) (hc : sg_ctx base ext D cI cZ ro s) (hs : va_S (fun q => base ≤ q) s.heap H locs) (ha : sg_at h k (.inl (false, n, f))) : va_X (sg_ad base ext k) n f s H := by
  by_cases hk : k < 1000
  · obtain ⟨hkl, hat⟩ := sg_hm_at hh hk ha
    rw [sg_adk hk]
    refine ⟨arrV cI n (fun j => .int (f j)), hat, (hc.1.2 0 (cI, .int) rfl).1 n (fun j => .int (f j)), (fun q => by cases q), arrV_size _ _ _, fun j hj => ?_⟩
    exact arrV_read _ _ hj
  · have hro := hh.2.2.2 k (by omega) n f ha.2
    obtain ⟨hX, hlt⟩ := hc.2.2.1 k n f hro
    have : sg_ad base ext k = ext k := if_neg hk
    rw [this]
    exact hX.kept (hs.2.1 _ (Nat.lt_of_lt_of_le hlt hc.2.2.2.1) (by omega))
theorem sg_one {D : va_G} {a : Nat} {x : va_E} {H : Heap} (h : va_at D vwCl (a, x) H) : va_P D vwCl [(a, x)] H := by
  intro k q hq
  match k, hq with
  | 0, hq => cases hq; exact h
  | k + 1, hq => simp at hq
theorem sg_s26 (l : Launch) : sg_q26 (sg_S l) := by
  intro M pc ls st h out ix ci j k fs v hd hfo hk ha hv ⟨hm, ih⟩
  refine ⟨hm, ?_⟩
  intro base ext D cI cZ ro p e R s m args below meth c H locs lsC n0 z0 Q hf hc hh hs hl hn kk
  have W1 := ih base ext D cI cZ ro p e R s m args below meth c H locs lsC n0 z0 Q hf hc hh hs hl hn kk
  obtain ⟨hkl, hat⟩ := sg_hm_at hh hk ha
  obtain ⟨r, hr, hj, hw⟩ := hfo
  obtain ⟨g1, -, -⟩ := sg_cls hr
  have hv' : (fs.map (sg_cv (sg_ad base ext)))[j]? = some (sg_cv (sg_ad base ext) v) := by simp [hv]
  simp only [List.map_cons, sg_cv, sg_adk hk]
  rcases hw with hw | ⟨host, hw⟩
  · exact va_get (ref := (r.2.1 j).1) (C := r.1) (T := r.2.1) (N := r.2.2) hf.1 hf.2.1 hf.2.2.2.2.1 g1 hf.2.2.2.1 hc.1 (sg_one hat) 0 rfl hr j hj (hf.2.2.2.2.1 _ hw) (fun _ z => z) hv' hd W1
  · exact va_getN (ref := (r.2.1 j).1) (C := r.1) (T := r.2.1) (N := r.2.2) hf.1 hf.2.1 hf.2.2.2.2.1 g1 hf.2.2.2.1 hc.1 (sg_one hat) 0 rfl hr j hj (va_Nw.use rfl (hc.2.1 _ hw)) (fun _ z => z) hv' hd W1
theorem sg_s27 (l : Launch) : sg_q27 (sg_S l) := by
  intro M pc ls st h out ix ci j k fs v hd hfo hwo hk ha hjl ⟨hm, ih⟩
  refine ⟨hm, ?_⟩
  intro base ext D cI cZ ro p e R s m args below meth c H locs lsC n0 z0 Q hf hc hh hs hl hn kk
  obtain ⟨hkl, hat⟩ := sg_hm_at hh hk ha
  obtain ⟨r, hr, hj, hw⟩ := hfo
  obtain ⟨r', ty, hr', hfin, hty, hfit⟩ := hwo
  cases hr.symm.trans hr'
  obtain ⟨hn', hfit'⟩ := hfit (sg_ad base ext)
  obtain ⟨hin, ⟨ty0, hty0⟩, hnm⟩ := sg_cls hr
  have hts := hf.2.2.2.2.1
  have hown := hf.2.2.2.1
  have hap := va_apart (own := M.1.cls) (C := r.1) (T := r.2.1) (N := r.2.2) hts hin ty0 hty0 hnm hc.1 hr
  obtain ⟨r2, h1, cell, q1, q2, q3, q4⟩ := hat
  cases hr.symm.trans h1
  obtain ⟨hSl, hfc, kC, hkC, hkind⟩ := hc.1.1 ci _ hr
  obtain ⟨cf, kf, fi, f, hi, hsl⟩ := hSl j hj
  have hlay := hts _ (hin _ (u_in_lay hj))
  have hst := (u_facts hfc hkC (u_lays hts hin hj) hi).1
  simp only [List.map_cons, sg_cv, sg_adk hk]
  have key : ∀ H' : Heap, H'[base + k]? = some (cell.setSlot f.slot (sg_cv (sg_ad base ext) v)) → H'.size = H.size → (∀ q, q ≠ base + k → H'[q]? = H[q]?) → W p l e R s m args below meth c H' (locs ++ [⟨base + k, f.slot⟩]) (h.1 - n0) (h.2.1 - z0) Q (F0 m (pc + 3) lsC (st.map (sg_cv (sg_ad base ext)))) := by
    intro H' e1 e2 e3
    rw [hsl] at e1 ⊢
    refine ih base ext D cI cZ ro p e R s m args below meth c H' _ lsC n0 z0 Q hf hc (sg_hm_up hh hkl ?_ e2 e3) (hs.put e2 e3 (show base ≤ base + k by omega)) hl hn kk
    show ∃ r : vw_C, vwCl[ci]? = some r ∧ t_OB (base + k) (D.1 ci) r.2.2 (D.2 ci) H' (vp_V ((fs.set j v).map (sg_cv (sg_ad base ext))))
    refine ⟨_, hr, t_OB.to (V := updV (vp_V (fs.map (sg_cv (sg_ad base ext)))) j (sg_cv (sg_ad base ext) v)) ⟨_, e1, q2, q3, t_set q4 hap hj _⟩ (fun i _ => ?_)⟩
    rw [List.map_set]
    exact vp_updV_set (by simpa using hjl) _ i
  rcases hfin with hfin | ⟨hfin, hinit, hdecl⟩
  · unfold u_lay at hlay
    rw [if_neg (by rw [hfin]; decide)] at hlay
    have h6 := u_store hfc hkC hkind hlay hi hty hn' hfit'
    rcases hw with hw | ⟨host, hw⟩
    · exact W.putK hf.1 hf.2.1 (f := f) ⟨hown, hts _ hw, ⟨_, _, _, hi⟩, hst⟩ (by rw [q2]; exact h6) q1 q3 (by rw [hsl]; exact k2_hasslot (q4 j hj)) rfl rfl hd key
    · exact va_WputK hf.1 hf.2.1 (f := f) hown (va_Nw.use rfl (hc.2.1 _ hw)) hi hst (by rw [q2]; exact h6) q1 q3 (by rw [hsl]; exact k2_hasslot (q4 j hj)) rfl rfl hd key
  · unfold u_lay at hlay
    rw [if_pos hfin] at hlay
    have hcf : m.cls = cf := by
      obtain ⟨_, _, c', _, _, _, -, -, hf', -, -, -, hown2, -⟩ := Cond.laysFinal_spec hlay
      have e1 : c' = cf := by have := hi.symm.trans hf'; simp at this; exact this.1.symm
      rw [hdecl] at hown2
      rw [← e1]; exact Option.some.inj (hown.symm.trans hown2)
    have h6 := u_fits hfc hkC hkind (Or.inr hlay) hi hty hn' hfit'
    rcases hw with hw | ⟨host, hw⟩
    · exact W.putFinK hf.1 hf.2.1 hown (hts _ hw) hi hst hcf (by rw [hf.2.2.2.2.2.1]; exact hinit) (by rw [q2]; exact h6) q1 q3 (by rw [hsl]; exact k2_hasslot (q4 j hj)) rfl rfl hd key
    · refine va_Wputf hf.1 hf.2.1 hown (va_Nw.use rfl (hc.2.1 _ hw)) hi hst (Or.inr ⟨hcf, by rw [hf.2.2.2.2.2.1]; exact hinit⟩) q1 (by rw [q3]; exact fun z => by cases z) (by rw [hsl]; exact k2_hasslot (q4 j hj)) h6.1 (by rw [q2, q3]; exact h6.2) rfl rfl hd ?_
      have hal : base + k < H.size := (Array.getElem?_eq_some_iff.mp q1).1
      exact key _ (by simp [Array.getElem?_setIfInBounds, hal]) (by simp) (fun q hq => by simp [Array.getElem?_setIfInBounds, Ne.symm hq])
theorem sg_s28 (l : Launch) : sg_q28 (sg_S l) := by
  intro M pc ls st h out k n f i hd ha hin ⟨hm, ih⟩
  refine ⟨hm, ?_⟩
  intro base ext D cI cZ ro p e R s m args below meth c H locs lsC n0 z0 Q hf hc hh hs hl hn kk
  obtain ⟨scr, g1, g2, g3, g4, g5⟩ := sg_hm_X hh hc hs ha
  have hlt : i.toNatClampNeg < n := Nat.not_le.mp fun q => hin (Or.inr q)
  exact W.iald (v := .int (f i.toNatClampNeg)) hf.1 hf.2.1 g1 g2 g3 (by rw [g4]; exact hin) (g5 _ hlt) rfl rfl hd (ih base ext D cI cZ ro p e R s m args below meth c H locs lsC n0 z0 Q hf hc hh hs hl hn kk)
theorem sg_s29 (l : Launch) : sg_q29 (sg_S l) := by
  intro M pc ls st h out k n f i hd hk ha hin ⟨hm, ih⟩
  refine ⟨hm, ?_⟩
  intro base ext D cI cZ ro p e R s m args below meth c H locs lsC n0 z0 Q hf hc hh hs hl hn kk
  obtain ⟨hkl, hat⟩ := sg_hm_at hh hk ha
  simp only [List.map_cons, sg_cv, sg_adk hk]
  exact va_zald hf.1 hf.2.1 hc.1 (sg_one hat) 0 1 rfl rfl hin hd (ih base ext D cI cZ ro p e R s m args below meth c H locs lsC n0 z0 Q hf hc hh hs hl hn kk)
theorem sg_s30 (l : Launch) : sg_q30 (sg_S l) := by
  intro M pc ls st h out k n f i x hd hk ha hin ⟨hm, ih⟩
  refine ⟨hm, ?_⟩
  intro base ext D cI cZ ro p e R s m args below meth c H locs lsC n0 z0 Q hf hc hh hs hl hn kk
  obtain ⟨hkl, hat⟩ := sg_hm_at hh hk ha
  simp only [List.map_cons, sg_cv, sg_adk hk]
  refine W.iast hf.1 hf.2.1 (show H[base + k]? = some (vp_cell cI (n, .inl f)) from hat) ((hc.1.2 0 (cI, .int) rfl).1 n (fun j => .int (f j))) (fun q => by cases q) (by show ¬ (i < 0 ∨ (arrV _ _ _).slots.size ≤ _); rw [arrV_size]; exact hin) rfl rfl hd fun H1 e0 z oq => ?_
  refine ih base ext D cI cZ ro p e R s m args below meth c H1 _ lsC n0 z0 Q hf hc (sg_hm_up hh hkl ?_ z oq) (hs.put z oq (show base ≤ base + k by omega)) hl hn kk
  show H1[base + k]? = some (vp_cell cI (n, .inl (upd f i.toNatClampNeg x)))
  rw [e0]
  rw [vp_cell_i, vp_cell_i, arrV_store]
  congr 2
  funext q
  simp only [updV, upd]
  split <;> rfl
theorem sg_s31 (l : Launch) : sg_q31 (sg_S l) := by
  intro M pc ls st h out k n f i x hd hk ha hin ⟨hm, ih⟩
  refine ⟨hm, ?_⟩
  intro base ext D cI cZ ro p e R s m args below meth c H locs lsC n0 z0 Q hf hc hh hs hl hn kk
  obtain ⟨hkl, hat⟩ := sg_hm_at hh hk ha
  simp only [List.map_cons, sg_cv, sg_adk hk]
  refine W.zast hf.1 hf.2.1 (show H[base + k]? = some (vp_cell cZ (n, .inl f)) from hat) ((hc.1.2 1 (cZ, .boolean) rfl).1 n (fun j => .int (f j))) (fun q => by cases q) (by show ¬ (i < 0 ∨ (arrV _ _ _).slots.size ≤ _); rw [arrV_size]; exact hin) rfl rfl hd fun H1 e0 z oq => ?_
  refine ih base ext D cI cZ ro p e R s m args below meth c H1 _ lsC n0 z0 Q hf hc (sg_hm_up hh hkl ?_ z oq) (hs.put z oq (show base ≤ base + k by omega)) hl hn kk
  show H1[base + k]? = some (vp_cell cZ (n, .inl (upd f i.toNatClampNeg (vp_nar .boolean x))))
  rw [e0]
  rw [vp_cell_i, vp_cell_i, arrV_store]
  congr 2
  funext q
  simp only [updV, upd]
  split <;> rfl
theorem sg_s32 (l : Launch) : sg_q32 (sg_S l) := by
  intro M pc ls st h out k n f hd ha ⟨hm, ih⟩
  refine ⟨hm, ?_⟩
  intro base ext D cI cZ ro p e R s m args below meth c H locs lsC n0 z0 Q hf hc hh hs hl hn kk
  obtain ⟨scr, g1, g2, g3, g4, g5⟩ := sg_hm_X hh hc hs ha
  exact W.alen (n := Int32.ofNat n) hf.1 hf.2.1 g1 g2 (by rw [g4] <;> rfl) rfl rfl hd (ih base ext D cI cZ ro p e R s m args below meth c H locs lsC n0 z0 Q hf hc hh hs hl hn kk)
theorem sg_hm_mk {base : Nat} {ext : Nat → Nat} {D : va_G} {cI cZ : ClassId} {ro : Nat → Option (Nat × (Nat → Int32))} {h : sg_H} {H H1 : Heap} {z : Nat} {e : sg_E} (hh : sg_hm base ext D cI cZ ro h H) (hk : h.1 < 1000) (he : va_at D vwCl (base + h.1, sg_cE cI cZ (sg_ad base ext) e) H1) (hz : H1.size = H.size + 1) (oq : ∀ q : Nat, q < H.size → H1[q]? = H[q]?) : sg_hm base ext D cI cZ ro (sg_mk h z e) H1 := by
  obtain ⟨h1, h2, h3, h4⟩ := hh
  refine ⟨by rw [hz, h1]; rfl, hk, fun j hj => ?_, fun j hj n f hjf => ?_⟩
  · by_cases hjk : j = h.1
    · subst hjk
      simpa [sg_mk] using he
    · have hj2 : j < h.1 := by
        have : j < h.1 + 1 := hj
        omega
      have h5 := (h3 j hj2).kept (oq (base + j) (by omega))
      simpa [sg_mk, hjk] using h5
  · have hne : j ≠ h.1 := by omega
    simp only [sg_mk, if_neg hne] at hjf
    exact h4 j hj n f hjf
theorem sg_s33 (l : Launch) : sg_q33 (sg_S l) := by
  intro M pc ls st h out ix ci r ty fs hd hr hw1 hw2 hw3 hty hfs hfl hcv hlt ⟨hm, ih⟩
  refine ⟨⟨by have := hm.1; simp only [sg_mk] at this; omega, by have := hm.2; simp only [sg_mk] at this; omega⟩, ?_⟩
  intro base ext D cI cZ ro p e R s m args below meth c H locs lsC n0 z0 Q hf hc hh hs hl hn kk
  have hts := hf.2.2.2.2.1
  obtain ⟨hin, -, -⟩ := sg_cls hr
  have hKn := hc.1.1 ci _ hr
  have b1 := hm.1
  have b2 := hm.2
  simp only [sg_mk] at b1 b2
  have hcells : h.1 - n0 + 1 ≤ R.cells := by omega
  have hslots : h.2.1 - z0 + r.2.2 ≤ R.slots := by omega
  refine W.newcK hf.1 hf.2.1 hf.2.2.2.1 (hts _ hw1) (hts _ hw2) (hts _ hw3) rfl hd hcells hslots hKn.2.1 rfl fun H1 kC hkC e1 z1 o1 => ?_
  have hW := ih base ext D cI cZ ro p e R s m args below meth c H1 locs lsC n0 z0 Q hf hc (sg_hm_mk hh hlt ?_ z1 o1) ⟨Nat.le_trans hs.1 (by omega), fun x h1 h2 => (o1 x (Nat.lt_of_lt_of_le h1 hs.1)).trans (hs.2.1 x h1 h2), hs.2.2⟩ hl ⟨by simp only [sg_mk]; omega, by simp only [sg_mk]; omega, hn.2.2.1, hn.2.2.2⟩ kk
  · have q1 : (sg_mk h r.2.2 (.inr (ci, fs))).1 - n0 = h.1 - n0 + 1 := by simp only [sg_mk]; omega
    have q2 : (sg_mk h r.2.2 (.inr (ci, fs))).2.1 - z0 = h.2.1 - z0 + r.2.2 := by simp only [sg_mk]; omega
    rw [q1, q2] at hW
    simp only [List.map_cons, sg_cv, sg_adk hlt] at hW
    rw [hh.1]
    exact hW
  · show ∃ r : vw_C, vwCl[ci]? = some r ∧ t_OB (base + h.1) (D.1 ci) r.2.2 (D.2 ci) H1 (vp_V (fs.map (sg_cv (sg_ad base ext))))
    have hmap : fs.map (sg_cv (sg_ad base ext)) = fs := by
      rw [List.map_congr_left (g := id) (fun v hv => hcv v hv _)]
      simp
    rw [hmap, ← hh.1]
    exact ⟨_, hr, (u_born ty hts hin hKn hkC e1 hty).to hfs⟩
theorem sg_s34 (l : Launch) : sg_q34 (sg_S l) := by
  intro M pc ls st h out n N hd hn0 hN hNb hlt ⟨hm, ih⟩
  refine ⟨⟨by have := hm.1; simp only [sg_mk] at this; omega, by have := hm.2; simp only [sg_mk] at this; omega⟩, ?_⟩
  intro base ext D cI cZ ro p e R s m args below meth c H locs lsC n0 z0 Q hf hc hh hs hl hn kk
  have b1 := hm.1
  have b2 := hm.2
  simp only [sg_mk] at b1 b2
  have hcells : h.1 - n0 + 1 ≤ R.cells := by omega
  have hslots : h.2.1 - z0 + N ≤ R.slots := by omega
  refine va_newaK (atype := .int) hf.1 hf.2.1 (hf.2.2.2.2.1 (.arrayClass .int) sg_wI) rfl hd rfl hn0 hN (by show N * 4 ≤ 536870912; omega) hcells hslots rfl fun H1 cA e1 z1 o1 hAr hNm => ?_
  have hcA : cA = cI := by
    have h5 := (hc.1.2 0 (cI, .int) rfl).2
    exact Option.some.inj (hNm.symm.trans h5)
  subst hcA
  have hW := ih base ext D cA cZ ro p e R s m args below meth c H1 locs lsC n0 z0 Q hf hc (sg_hm_mk hh hlt (by rw [← hh.1]; exact e1) z1 o1) ⟨Nat.le_trans hs.1 (by omega), fun x h1 h2 => (o1 x (Nat.lt_of_lt_of_le h1 hs.1)).trans (hs.2.1 x h1 h2), hs.2.2⟩ hl ⟨by simp only [sg_mk]; omega, by simp only [sg_mk]; omega, hn.2.2.1, hn.2.2.2⟩ kk
  have q1 : (sg_mk h N (.inl (false, N, fun _ => 0))).1 - n0 = h.1 - n0 + 1 := by simp only [sg_mk]; omega
  have q2 : (sg_mk h N (.inl (false, N, fun _ => 0))).2.1 - z0 = h.2.1 - z0 + N := by simp only [sg_mk]; omega
  rw [q1, q2] at hW
  simp only [List.map_cons, sg_cv, sg_adk hlt] at hW
  rw [hh.1]
  exact hW
theorem sg_s35 (l : Launch) : sg_q35 (sg_S l) := by
  intro M pc ls st h out n N hd hn0 hN hNb hlt ⟨hm, ih⟩
  refine ⟨⟨by have := hm.1; simp only [sg_mk] at this; omega, by have := hm.2; simp only [sg_mk] at this; omega⟩, ?_⟩
  intro base ext D cI cZ ro p e R s m args below meth c H locs lsC n0 z0 Q hf hc hh hs hl hn kk
  have b1 := hm.1
  have b2 := hm.2
  simp only [sg_mk] at b1 b2
  have hcells : h.1 - n0 + 1 ≤ R.cells := by omega
  have hslots : h.2.1 - z0 + N ≤ R.slots := by omega
  refine va_newaK (atype := .boolean) hf.1 hf.2.1 (hf.2.2.2.2.1 (.arrayClass .boolean) sg_wZ) rfl hd rfl hn0 hN (by show N * 1 ≤ 536870912; omega) hcells hslots rfl fun H1 cA e1 z1 o1 hAr hNm => ?_
  have hcA : cA = cZ := by
    have h5 := (hc.1.2 1 (cZ, .boolean) rfl).2
    exact Option.some.inj (hNm.symm.trans h5)
  subst hcA
  have hW := ih base ext D cI cA ro p e R s m args below meth c H1 locs lsC n0 z0 Q hf hc (sg_hm_mk hh hlt (by rw [← hh.1]; exact e1) z1 o1) ⟨Nat.le_trans hs.1 (by omega), fun x h1 h2 => (o1 x (Nat.lt_of_lt_of_le h1 hs.1)).trans (hs.2.1 x h1 h2), hs.2.2⟩ hl ⟨by simp only [sg_mk]; omega, by simp only [sg_mk]; omega, hn.2.2.1, hn.2.2.2⟩ kk
  have q1 : (sg_mk h N (.inl (true, N, fun _ => 0))).1 - n0 = h.1 - n0 + 1 := by simp only [sg_mk]; omega
  have q2 : (sg_mk h N (.inl (true, N, fun _ => 0))).2.1 - z0 = h.2.1 - z0 + N := by simp only [sg_mk]; omega
  rw [q1, q2] at hW
  simp only [List.map_cons, sg_cv, sg_adk hlt] at hW
  rw [hh.1]
  exact hW
theorem sg_s36 (l : Launch) : sg_q36 (sg_S l) := by
  intro M pc ls st h out ix k nm hd hw ⟨hm, ih⟩
  refine ⟨hm, ?_⟩
  intro base ext D cI cZ ro p e R s m args below meth c H locs lsC n0 z0 Q hf hc hh hs hl hn kk
  have W1 := ih base ext D cI cZ ro p e R s m args below meth c H locs lsC n0 z0 Q hf hc hh hs hl hn kk
  have hZ := hc.2.2.2.2.1 _ hw
  have hk : ¬ k < 1000 := by
    simp only [sg_stl, List.mem_cons, List.not_mem_nil, Prod.mk.injEq, or_false] at hw
    omega
  simp only [List.map_cons, sg_cv, sg_ad, if_neg hk] at W1
  have hown := hf.2.2.2.1
  simp only [sg_stl, List.mem_cons, List.not_mem_nil, Prod.mk.injEq, or_false] at hw
  rcases hw with ⟨q1, q2, q3, q4⟩ | ⟨q1, q2, q3, q4⟩ | ⟨q1, q2, q3, q4⟩
  · subst q2; subst q3
    rw [q1] at hown
    exact va_getsN (ref := RX7) (host := RX7) hf.1 hf.2.1 hZ hs hown (va_Nw.use rfl (hc.2.1 _ sg_n43)) (fun _ z => z) hd W1
  · subst q2; subst q3
    rw [q1] at hown
    exact va_getsN (ref := RX7) (host := RX7) hf.1 hf.2.1 hZ hs hown (va_Nw.use rfl (hc.2.1 _ sg_n46)) (fun _ z => z) hd W1
  · subst q2; subst q3
    rw [q1] at hown
    exact va_gets (ref := RX7) hf.1 hf.2.1 hZ hs hown (hf.2.2.2.2.1 _ sg_n57) (fun _ z => z) hd W1
