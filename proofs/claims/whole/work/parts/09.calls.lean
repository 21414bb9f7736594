/-! SOUNDNESS of calls; the whole. -/
theorem sg_nwt {w : Jvm.Cond} (hw : w ∈ sg_nws) : w.onTables = true := by
  have h := (List.mem_filter.mp hw).2
  cases w <;> first | rfl | (simp at h)
theorem sg_nww {w : Jvm.Cond} (hw : w ∈ sg_nws) {s U : State} (hW : s.WarmedH U.vm) (hZ : va_Nw w s) : va_Nw w U := by
  have h := (List.mem_filter.mp hw).2
  cases w <;> first | exact va_Nw.warmF hW hZ | exact va_Nw.warmM hW hZ | (simp at h)
theorem sg_ctx_call {base : Nat} {ext : Nat → Nat} {D : va_G} {cI cZ : ClassId} {ro : Nat → Option (Nat × (Nat → Int32))} {s U : State} {H : Heap} {locs : List Loc} (hc : sg_ctx base ext D cI cZ ro s) (hs : va_S (fun q => base ≤ q) s.heap H locs) (hU : U.heap = H) (hW : s.WarmedH U.vm) : sg_ctx base ext D cI cZ ro U := by
  obtain ⟨h1, h2, h3, h4, h5, ⟨adV, h6⟩, h7, h8, h9⟩ := hc
  have kp : ∀ a : Nat, a < s.heap.size → ¬ (fun q => base ≤ q) a → U.heap[a]? = s.heap[a]? := fun a g1 g2 => by rw [hU]; exact hs.2.1 a g1 g2
  refine ⟨va_K.moved hW.alike h1, fun w hw => sg_nww hw hW (h2 w hw), fun k n f hk => ⟨va_X.moved hW.alike ((h3 k n f hk).1.kept (kp _ (Nat.lt_of_lt_of_le (h3 k n f hk).2 h4) (by have := (h3 k n f hk).2; show ¬ base ≤ ext k; omega))), (h3 k n f hk).2⟩, by rw [hU]; exact Nat.le_trans h4 hs.1, fun t ht => va_Z.moved hW.alike ((h5 t ht).kept kp), ⟨adV, vk_S.moved hW.alike (h6.kept kp)⟩, va_Z.moved hW.alike (h7.kept kp), ?_, fun t ht => ?_⟩
  · rcases h8 with h8 | ⟨t, h8⟩
    · exact Or.inl (va_Z.moved hW.alike (h8.kept kp))
    · exact Or.inr ⟨t, va_Z.moved hW.alike (h8.kept kp)⟩
  · obtain ⟨tx, h⟩ := h9 t ht
    exact ⟨tx, vk_R.warm hW h⟩
theorem sg_ctx_same {base : Nat} {ext : Nat → Nat} {D : va_G} {cI cZ : ClassId} {ro : Nat → Option (Nat × (Nat → Int32))} {s U : State} (hc : sg_ctx base ext D cI cZ ro s) (hU : U.heap = s.heap) (hV : U.vm = s.vm) : sg_ctx base ext D cI cZ ro U := by
  obtain ⟨h1, h2, h3, h4, h5, ⟨adV, h6⟩, h7, h8, h9⟩ := hc
  have hA : s.vm.Alike U.vm := by rw [hV]; exact Vm.Alike.refl s.vm
  refine ⟨va_K.moved hA h1, fun w hw => va_Nw.same (sg_nwt hw) hV.symm (h2 w hw), fun k n f hk => ⟨by rw [hU]; exact va_X.moved hA (h3 k n f hk).1, (h3 k n f hk).2⟩, by rw [hU]; exact h4, fun t ht => by rw [hU]; exact va_Z.moved hA (h5 t ht), ⟨adV, by rw [hU]; exact vk_S.moved hA h6⟩, by rw [hU]; exact va_Z.moved hA h7, ?_, fun t ht => ?_⟩
  · rw [hU]
    rcases h8 with h8 | ⟨t, h8⟩
    · exact Or.inl (va_Z.moved hA h8)
    · exact Or.inr ⟨t, va_Z.moved hA h8⟩
  · obtain ⟨tx, h⟩ := h9 t ht
    exact ⟨tx, vk_R.same hV h⟩
def sg_qc (base : Nat) (ext : Nat → Nat) (D : va_G) (cI cZ : ClassId) (ro : Nat → Option (Nat × (Nat → Int32))) (out : sg_O) : Array Value → State → Outcome → State → Prop := fun _ st oc t => oc = .returned (out.1.map (sg_cv (sg_ad base ext))) ∧ sg_hm base ext D cI cZ ro out.2 t.heap ∧ va_F (fun q => base ≤ q) st t
def sg_pc (base : Nat) (ext : Nat → Nat) (D : va_G) (cI cZ : ClassId) (ro : Nat → Option (Nat × (Nat → Int32))) (vs : List Value) (h : sg_H) : Array Value → State → Prop := va_Pc (vs.map (sg_cv (sg_ad base ext))) (fun U => sg_hm base ext D cI cZ ro h U.heap ∧ sg_ctx base ext D cI cZ ro U)
theorem sg_cat (ad : Nat → Nat) (v : Value) : (sg_cv ad v).category = v.category := by cases v <;> rfl
theorem sg_en_len (ad : Nat → Nat) (vs : List Value) : (lg_sl (vs.map (sg_cv ad))).length = (sg_en vs).length := by
  induction vs with
  | nil => rfl
  | cons v t ih =>
    simp only [lg_sl, sg_en, List.map_cons, List.flatMap_cons, List.length_append, sg_cat] at ih ⊢
    rw [ih]
    by_cases hv : v.category = 2 <;> simp [hv]
theorem sg_en_at (ad : Nat → Nat) (vs : List Value) : ∀ (i : Nat) (v : Value), (sg_en vs)[i]? = some (some v) → (lg_sl (vs.map (sg_cv ad)))[i]? = some (.val (sg_cv ad v)) := by
  induction vs with
  | nil => intro i v h; simp [sg_en] at h
  | cons w t ih =>
    intro i v h
    simp only [lg_sl, sg_en, List.map_cons, List.flatMap_cons, sg_cat] at ih h ⊢
    by_cases hw : w.category = 2
    · rw [if_pos hw] at h ⊢
      match i, h with
      | 0, h => simp at h; subst h; rfl
      | 1, h => simp at h
      | i + 2, h => exact ih i v h
    · rw [if_neg hw] at h ⊢
      match i, h with
      | 0, h => simp at h; subst h; rfl
      | i + 1, h => exact ih i v h
theorem sg_lm_en (ad : Nat → Nat) (M : sg_M) (vs : List Value) (hen : (sg_en vs).length ≤ M.2.2.1) : sg_lm ad ((lg_sl (vs.map (sg_cv ad)) ++ List.replicate (M.2.2.1 - (lg_sl (vs.map (sg_cv ad))).length) Slot.unset).toArray) M.2.2.1 (sg_ent M vs) := by
  have hle := sg_en_len ad vs
  have hl := lv_entry (vs.map (sg_cv ad)) (n := M.2.2.1) (by rw [hle]; exact hen)
  refine ⟨hl.1, hl.2.1, ?_, fun i v hv => ?_⟩
  · simp only [sg_ent, List.length_append, List.length_replicate]
    omega
  · simp only [sg_ent] at hv
    by_cases hi : i < (sg_en vs).length
    · rw [List.getElem?_append_left hi] at hv
      have h2 := sg_en_at ad vs i v hv
      simp only [List.getElem?_toArray]
      rw [List.getElem?_append_left (by rw [hle]; exact hi)]
      exact h2
    · rw [List.getElem?_append_right (by omega)] at hv
      rw [List.getElem?_replicate] at hv
      split at hv <;> simp at hv
theorem sg_met (l : Launch) {M : sg_M} {vs : List Value} {h h1 : sg_H} {r : Option Value} (hS : sg_S l M 0 (sg_ent M vs) [] h (r, h1)) (hpl : plainName M.1.cls = true) (hen : (sg_en vs).length ≤ M.2.2.1) (hc1 : h1.1 = h.1 + M.2.2.2.2.cells) (hc2 : h1.2.1 = h.2.1 + M.2.2.2.2.slots) (base : Nat) (ext : Nat → Nat) (D : va_G) (cI cZ : ClassId) (ro : Nat → Option (Nat × (Nat → Int32))) :
    Met l M.1 (sg_w M) M.2.2.2.2 (sg_pc base ext D cI cZ ro vs h) (sg_qc base ext D cI cZ ro (r, h1)) M.2.2.2.2.cells M.2.2.2.2.slots (fun q => base ≤ q) := by
  refine Met.ofW (cc := M.2.1) (maxL := M.2.2.1) (ret := M.2.2.2.1) hpl rfl ?_
  intro p e s m args below meth c s₁ B hml hv
  obtain ⟨rfl, hh, hcx⟩ := hv
  have hts := atoms_spec (ws := sg_w M) B.pre
  have hown : s.vm.findClass M.1.cls = some m.cls := findClass_of_methodNamed B.named
  have hnm : meth.name = M.1.name := (name_of_methodNamed B.named B.method).1
  have hlocks := B.notSynchronized
  rw [lg_entry_eq]
  have W0 := hS.2 base ext D cI cZ ro p e (headSpec (sg_w M) M.2.2.2.2).room s m _ below meth c s.heap [] _ h.1 h.2.1 (MQ below (sg_qc base ext D cI cZ ro (r, h1)) (vs.map (sg_cv (sg_ad base ext))).toArray s M.2.2.2.2.cells M.2.2.2.2.slots (fun q => base ≤ q)) ⟨B.exec, B.bytes, hml, hown, fun w hw => hts w (List.mem_cons_of_mem _ hw), hnm, Nat.le_refl _, Nat.le_refl _⟩ hcx hh va_S.rf (sg_lm_en (sg_ad base ext) M vs hen) ⟨Nat.le_refl _, Nat.le_refl _, Nat.le_of_eq hc1, Nat.le_of_eq hc2⟩ ?_
  · simpa using W0
  · intro pc' H' locs' lsC' hh' hs' hrt
    have z1 : h1.1 - h.1 = M.2.2.2.2.cells := by omega
    have z2 : h1.2.1 - h.2.1 = M.2.2.2.2.slots := by omega
    simp only [z1, z2]
    rcases hrt with ⟨v, ty, hr, hd, hty, hna⟩ | ⟨hr, hd, hty⟩
    · simp only at hr
      subst hr
      exact W.zret (v := v) B.exec B.bytes (by rw [B.returns, hty]) hna (fun t ht hW => ⟨rfl, by rw [ht]; exact hh', hs'.F ht⟩) hs'.2.2 hd
    · simp only at hr
      subst hr
      exact W.vret B.exec B.bytes (by rw [B.returns, hty]) (fun t ht hW => ⟨rfl, by rw [ht]; exact hh', hs'.F ht⟩) hs'.2.2 hd
theorem sg_callW {p : Program} {l : Launch} {e : Env} {R : Room} {s : State} {m : MethodId} {args : Array Value} {below : List Frame} {meth : Method} {c : Code} {H : Heap} {locs : List Loc} {cells slots mc ms pc : Nat} {Q : State → Prop} {ls : Array Slot} {rest st0 : List Value} {a : Array Value} {base : Nat} {ext : Nat → Nat} {D : va_G} {cI cZ : ClassId} {ro : Nat → Option (Nat × (Nat → Int32))} {out : sg_O}
    (hr : va_Run p l e R s m args below meth c H locs cells slots mc ms (F0 m pc ls st0) rest (sg_qc base ext D cI cZ ro out a) (fun q => base ≤ q)) (hS : va_S (fun q => base ≤ q) s.heap H locs)
    (kk : ∀ (H1 : Heap) (locs1 : List Loc), sg_hm base ext D cI cZ ro out.2 H1 → va_S (fun q => base ≤ q) s.heap H1 locs1 → W p l e R s m args below meth c H1 locs1 (cells + mc) (slots + ms) Q (F0 m (pc + 3) ls ((out.1.map (sg_cv (sg_ad base ext))).toList ++ rest))) : W p l e R s m args below meth c H locs cells slots Q (F0 m pc ls st0) := by
  intro T hT X
  obtain ⟨v, st₀, t, T', L, h0, X', hL, e1, e2, ⟨hv, hb, hz, hk⟩, st⟩ := hr T hT X
  cases hv
  rw [h0] at hz hk
  obtain ⟨t2, a1, b1⟩ := kk T'.heap (locs ++ L) (by rw [e1]; exact hb) ⟨Nat.le_trans hS.1 (by rw [e1]; exact hz), fun q h1 h2 => by rw [e1, hk q (Nat.lt_of_lt_of_le h1 hS.1) h2]; exact hS.2.1 q h1 h2, fun q hq => by
      rcases List.mem_append.mp hq with h | h
      · exact hS.2.2 q h
      · exact hL q h⟩ T' rfl X'
  exact ⟨t2, st t2 a1, b1⟩
theorem sg_good {M' : sg_M} (h : Cond.code M'.1 M'.2.1 M'.2.2.1 M'.2.2.2.1 ∈ sg_ws) : GoodIn sg_ws (sg_w M') := by
  intro w hw
  have hm : w ∈ sg_ws := by
    rcases List.mem_cons.mp hw with rfl | hw
    · exact h
    · exact hw
  exact ⟨hm, good_of_word (List.mem_filter.mp hm).2⟩
theorem sg_blind {base : Nat} {ext : Nat → Nat} {D : va_G} {cI cZ : ClassId} {ro : Nat → Option (Nat × (Nat → Int32))} {vs : List Value} {h : sg_H} : FrameBlind (sg_pc base ext D cI cZ ro vs h) := by
  intro a U g mk ⟨q0, q1, q2⟩
  exact ⟨q0, q1, sg_ctx_same q2 rfl rfl⟩
theorem sg_catS (ad : Nat → Nat) (st : List Value) : ((st.map (sg_cv ad)).map fun v => v.category).sum = (st.map fun v => v.category).sum := by
  rw [List.map_map]
  congr 1
  exact List.map_congr_left (fun v _ => sg_cat ad v)
theorem sg_s38 (l : Launch) : sg_q38 (sg_S l) := by
  intro M M' pc ls st h h1 out ix ci k fs rc As r hd hmo hro hlo hio hrc hcn hk ha hcat hen hi hc1 hc2 ⟨hm, ih⟩
  refine ⟨⟨by have := hm.1; omega, by have := hm.2; omega⟩, ?_⟩
  intro base ext D cI cZ ro p e R s m args below meth c H locs lsC n0 z0 Q hf hc hh hs hl hn kk
  have b1 := hm.1
  have b2 := hm.2
  have hM := sg_met l hi hmo.2.2.2 hen hc1 hc2 base ext D cI cZ ro
  have hts := hf.2.2.2.2.1
  obtain ⟨hkl, hat⟩ := sg_hm_at hh hk ha
  obtain ⟨r2, g1, cell, q1, q2, q3, q4⟩ := hat
  cases hrc.symm.trans g1
  have hrecv : ∃ cellB : Cell, H[sg_ad base ext k]? = some cellB ∧ cellB.vm.isStatics = false ∧ s.vm.findClass M'.1.cls = some cellB.cls := ⟨cell, by rw [sg_adk hk]; exact q1, by rw [q3]; rfl, by rw [q2, ← hcn]; exact (hc.1.1 ci rc hrc).2.1⟩
  have hR : M'.2.2.2.2.frames + 1 ≤ R.frames ∧ 8 + (M'.2.2.1 + 11) + M'.2.2.2.2.locals ≤ R.locals := ⟨Nat.le_trans hro.1 hf.2.2.2.2.2.2.1, Nat.le_trans hro.2 hf.2.2.2.2.2.2.2⟩
  have hpre : ∀ U : State, U.heap = H → s.WarmedH U.vm → sg_pc base ext D cI cZ ro (.ref k :: As) h ((Value.ref (sg_ad base ext k) :: As.map (sg_cv (sg_ad base ext))).toArray) U := fun U hU hW => ⟨rfl, by rw [hU]; exact hh, sg_ctx_call hc hs hU hW⟩
  have hrun : va_Run p l e R s m args below meth c H locs (h.1 - n0) (h.2.1 - z0) M'.2.2.2.2.cells M'.2.2.2.2.slots (F0 m pc lsC ((As.reverse ++ .ref k :: st).map (sg_cv (sg_ad base ext)))) (st.map (sg_cv (sg_ad base ext))) (sg_qc base ext D cI cZ ro (r, h1) (Value.ref (sg_ad base ext k) :: As.map (sg_cv (sg_ad base ext))).toArray) (fun q => base ≤ q) := by
    rcases hlo with hw | ⟨host, hw⟩
    · exact va_runV (C := M'.1.cls) (bytes := M'.2.1) (maxL := M'.2.2.1) (ret := M'.2.2.2.1) (Ts := sg_ws) ⟨hf.1, hf.2.1, hf.2.2.1, hf.2.2.2.1, hts⟩ hM ⟨callB_of As.length hts (sg_good hmo.1) rfl rfl rfl (hts _ hmo.2.1) (hts _ hw) hmo.2.2.1 hR, hts _ hio.1, hts _ hio.2⟩ ⟨sg_blind, hrecv, hpre⟩ rfl (by simp) hl.1 (by simp [sg_cv]) (lv_room (by rw [sg_catS]; exact hcat)) hd ⟨by omega, by omega⟩
    · exact va_runVN (C := M'.1.cls) (bytes := M'.2.1) (maxL := M'.2.2.1) (ret := M'.2.2.2.1) (Ts := sg_ws) ⟨hf.1, hf.2.1, hf.2.2.1, hf.2.2.2.1, hts⟩ hM ⟨va_cnB As.length hts (sg_good hmo.1) rfl rfl rfl (hc.2.1 _ hw) (hts _ hmo.2.1) hmo.2.2.1 hR, hts _ hio.1, hts _ hio.2⟩ ⟨sg_blind, hrecv, hpre⟩ rfl (by simp) hl.1 (by simp [sg_cv]) (lv_room (by rw [sg_catS]; exact hcat)) hd ⟨by omega, by omega⟩
  refine sg_callW hrun hs (fun H1 locs1 hh1 hs1 => ?_)
  have W1 := ih base ext D cI cZ ro p e R s m args below meth c H1 locs1 lsC n0 z0 Q hf hc hh1 hs1 hl ⟨by omega, by omega, hn.2.2.1, hn.2.2.2⟩ kk
  have z1 : h1.1 - n0 = h.1 - n0 + M'.2.2.2.2.cells := by omega
  have z2 : h1.2.1 - z0 = h.2.1 - z0 + M'.2.2.2.2.slots := by omega
  rw [z1, z2] at W1
  cases r <;> exact W1
theorem sg_s39 (l : Launch) : sg_q39 (sg_S l) := by
  intro M M' pc ls st h h1 out ix As r hd hmo hro hlo hst hcat hen hi hc1 hc2 ⟨hm, ih⟩
  refine ⟨⟨by have := hm.1; omega, by have := hm.2; omega⟩, ?_⟩
  intro base ext D cI cZ ro p e R s m args below meth c H locs lsC n0 z0 Q hf hc hh hs hl hn kk
  have b1 := hm.1
  have b2 := hm.2
  have hM := sg_met l hi hmo.2.2.2 hen hc1 hc2 base ext D cI cZ ro
  have hts := hf.2.2.2.2.1
  have hR : M'.2.2.2.2.frames + 1 ≤ R.frames ∧ 8 + (M'.2.2.1 + 11) + M'.2.2.2.2.locals ≤ R.locals := ⟨Nat.le_trans hro.1 hf.2.2.2.2.2.2.1, Nat.le_trans hro.2 hf.2.2.2.2.2.2.2⟩
  have hpre : ∀ U : State, U.heap = H → s.WarmedH U.vm → sg_pc base ext D cI cZ ro As h ((As.map (sg_cv (sg_ad base ext))).toArray) U := fun U hU hW => ⟨rfl, by rw [hU]; exact hh, sg_ctx_call hc hs hU hW⟩
  have hrun : va_Run p l e R s m args below meth c H locs (h.1 - n0) (h.2.1 - z0) M'.2.2.2.2.cells M'.2.2.2.2.slots (F0 m pc lsC ((As.reverse ++ st).map (sg_cv (sg_ad base ext)))) (st.map (sg_cv (sg_ad base ext))) (sg_qc base ext D cI cZ ro (r, h1) (As.map (sg_cv (sg_ad base ext))).toArray) (fun q => base ≤ q) := by
    rcases hlo with hw | ⟨host, hw⟩
    · exact va_runS (bytes := M'.2.1) (maxL := M'.2.2.1) (ret := M'.2.2.2.1) (Ts := sg_ws) ⟨hf.1, hf.2.1, hf.2.2.1, hf.2.2.2.1, hts⟩ hM ⟨callB_of As.length hts (sg_good hmo.1) rfl rfl rfl (hts _ hmo.2.1) (hts _ hw) hmo.2.2.1 hR, hts _ hst⟩ ⟨sg_blind, hpre⟩ rfl (by simp) hl.1 (by simp) (lv_room (by rw [sg_catS]; exact hcat)) hd ⟨by omega, by omega⟩
    · exact va_runSN (bytes := M'.2.1) (maxL := M'.2.2.1) (ret := M'.2.2.2.1) (Ts := sg_ws) ⟨hf.1, hf.2.1, hf.2.2.1, hf.2.2.2.1, hts⟩ hM ⟨va_cnB As.length hts (sg_good hmo.1) rfl rfl rfl (hc.2.1 _ hw) (hts _ hmo.2.1) hmo.2.2.1 hR, hts _ hst, trivial⟩ ⟨sg_blind, hpre⟩ rfl (by simp) hl.1 (by simp) (lv_room (by rw [sg_catS]; exact hcat)) hd ⟨by omega, by omega⟩
  refine sg_callW hrun hs (fun H1 locs1 hh1 hs1 => ?_)
  have W1 := ih base ext D cI cZ ro p e R s m args below meth c H1 locs1 lsC n0 z0 Q hf hc hh1 hs1 hl ⟨by omega, by omega, hn.2.2.1, hn.2.2.2⟩ kk
  have z1 : h1.1 - n0 = h.1 - n0 + M'.2.2.2.2.cells := by omega
  have z2 : h1.2.1 - z0 = h.2.1 - z0 + M'.2.2.2.2.slots := by omega
  rw [z1, z2] at W1
  cases r <;> exact W1
theorem sg_s40 (l : Launch) : sg_q40 (sg_S l) := by
  intro M M' pc ls st h h1 out ix k As r hd hmo hro hlo hin hini hret hcat hen hi hc1 hc2 ⟨hm, ih⟩
  refine ⟨⟨by have := hm.1; omega, by have := hm.2; omega⟩, ?_⟩
  intro base ext D cI cZ ro p e R s m args below meth c H locs lsC n0 z0 Q hf hc hh hs hl hn kk
  have b1 := hm.1
  have b2 := hm.2
  have hM := sg_met l hi hmo.2.2.2 hen hc1 hc2 base ext D cI cZ ro
  have hts := hf.2.2.2.2.1
  have hR : M'.2.2.2.2.frames + 1 ≤ R.frames ∧ 8 + (M'.2.2.1 + 11) + M'.2.2.2.2.locals ≤ R.locals := ⟨Nat.le_trans hro.1 hf.2.2.2.2.2.2.1, Nat.le_trans hro.2 hf.2.2.2.2.2.2.2⟩
  have hpre : ∀ U : State, U.heap = H → s.WarmedH U.vm → sg_pc base ext D cI cZ ro (.ref k :: As) h ((Value.ref (sg_ad base ext k) :: As.map (sg_cv (sg_ad base ext))).toArray) U := fun U hU hW => ⟨rfl, by rw [hU]; exact hh, sg_ctx_call hc hs hU hW⟩
  have hwN : sg_w M' = Cond.code M'.1 M'.2.1 M'.2.2.1 none :: sg_ws := by rw [sg_w, hret]
  have hrun : va_Run p l e R s m args below meth c H locs (h.1 - n0) (h.2.1 - z0) M'.2.2.2.2.cells M'.2.2.2.2.slots (F0 m pc lsC ((As.reverse ++ .ref k :: st).map (sg_cv (sg_ad base ext)))) (st.map (sg_cv (sg_ad base ext))) (sg_qc base ext D cI cZ ro (r, h1) (Value.ref (sg_ad base ext k) :: As.map (sg_cv (sg_ad base ext))).toArray) (fun q => base ≤ q) := by
    rcases hlo with hw | ⟨host, hw⟩
    · exact va_runI (bytes := M'.2.1) (maxL := M'.2.2.1) (Ts := sg_ws) ⟨hf.1, hf.2.1, hf.2.2.1, hf.2.2.2.1, hts⟩ hM ⟨callB_of As.length hts (sg_good hmo.1) hwN rfl rfl (hts _ hmo.2.1) (hts _ hw) hmo.2.2.1 hR, hini, hts _ hin⟩ ⟨sg_blind, hpre⟩ rfl (by simp) hl.1 (by simp [sg_cv]) (lv_room (by rw [sg_catS]; exact hcat)) hd ⟨by omega, by omega⟩
    · exact va_runIN (bytes := M'.2.1) (maxL := M'.2.2.1) (Ts := sg_ws) ⟨hf.1, hf.2.1, hf.2.2.1, hf.2.2.2.1, hts⟩ hM ⟨va_cnB As.length hts (sg_good hmo.1) hwN rfl rfl (hc.2.1 _ hw) (hts _ hmo.2.1) hmo.2.2.1 hR, hini, hts _ hin⟩ ⟨sg_blind, hpre⟩ rfl (by simp) hl.1 (by simp [sg_cv]) (lv_room (by rw [sg_catS]; exact hcat)) hd ⟨by omega, by omega⟩
  refine sg_callW hrun hs (fun H1 locs1 hh1 hs1 => ?_)
  have W1 := ih base ext D cI cZ ro p e R s m args below meth c H1 locs1 lsC n0 z0 Q hf hc hh1 hs1 hl ⟨by omega, by omega, hn.2.2.1, hn.2.2.2⟩ kk
  have z1 : h1.1 - n0 = h.1 - n0 + M'.2.2.2.2.cells := by omega
  have z2 : h1.2.1 - z0 = h.2.1 - z0 + M'.2.2.2.2.slots := by omega
  rw [z1, z2] at W1
  cases r <;> exact W1
theorem sg_wO1 : Cond.instanceMethod objectInit ∈ sg_ws := by decide +kernel
theorem sg_wO2 : Cond.code objectInit ⟨#[0xb1]⟩ 1 none ∈ sg_ws := by decide +kernel
theorem sg_s37 (l : Launch) : sg_q37 (sg_S l) := by
  intro M pc ls st h out ix k hd hw hcat hro ⟨hm, ih⟩
  refine ⟨hm, ?_⟩
  intro base ext D cI cZ ro p e R s m args below meth c H locs lsC n0 z0 Q hf hc hh hs hl hn kk
  have hts := hf.2.2.2.2.1
  refine W.objInit hf.1 hf.2.1 hf.2.2.2.1 (hts _ hw) (hts _ sg_wO1) (hts _ sg_wO2) rfl (by rw [hf.2.2.1]; exact hl.1) rfl hd (Nat.le_trans hro.1 hf.2.2.2.2.2.2.1) ?_ (ih base ext D cI cZ ro p e R s m args below meth c H locs lsC n0 z0 Q hf hc hh hs hl hn kk)
  have hcat' := sg_catS (sg_ad base ext) st
  have h20 := Nat.le_trans hro.2 hf.2.2.2.2.2.2.2
  show 2 * 0 + _ + 12 ≤ _
  omega
theorem sg_wC1 : Cond.native arraycopyName ∈ sg_ws := by decide +kernel
theorem sg_wC2 : Cond.static arraycopyName ∈ sg_ws := by decide +kernel
theorem sg_wC3 : Cond.initialized "java/lang/System" ∈ sg_ws := by decide +kernel
theorem sg_s41 (l : Launch) : sg_q41 (sg_S l) := by
  intro M pc ls st h out ix k k2 n n2 f g cc hd hw hk hk2 ha ha2 hc0 hcn hcn2 hro hcat ⟨hm, ih⟩
  refine ⟨hm, ?_⟩
  intro base ext D cI cZ ro p e R s m args below meth c H locs lsC n0 z0 Q hf hc hh hs hl hn kk
  have hts := hf.2.2.2.2.1
  obtain ⟨hkl, hat⟩ := sg_hm_at hh hk ha
  obtain ⟨hkl2, hat2⟩ := sg_hm_at hh hk2 ha2
  have z0' : (0 : Int32).toNatClampNeg = 0 := rfl
  have nn : ∀ z : Int32, ¬ z < 0 → z.toInt = (z.toNatClampNeg : Int) := by
    intro z hz
    have hz0 : (0 : Int) ≤ z.toInt := by
      have := Int32.not_lt.mp hz
      simpa using Int32.le_iff_toInt_le.mp this
    show z.toInt = ((z.toInt.toNat : Nat) : Int)
    omega
  simp only [List.map_cons, sg_cv, sg_adk hk, sg_adk hk2]
  intro T hT X
  have e0 : H[base + k]? = some (vp_cell cI (n, .inl f)) := hat
  have e1 : H[base + k2]? = some (vp_cell cI (n2, .inl g)) := hat2
  obtain ⟨-, k0, hk0, cm0, hkk0⟩ := (hc.1.2 0 (cI, .int) rfl).1 n (fun j => .int (f j))
  obtain ⟨-, k1, hk1, cm1, hkk1⟩ := (hc.1.2 0 (cI, .int) rfl).1 n2 (fun j => .int (g j))
  obtain ⟨vm', X', step⟩ := X.arraycopy hf.1 hf.2.2.2.1 (hts _ hw) (hts _ sg_wC1) (hts _ sg_wC2) (hts _ sg_wC3) (src := base + k) (dst := base + k2) (cs := vp_cell cI (n, .inl f)) (cd := vp_cell cI (n2, .inl g)) (srcPos := 0) (destPos := 0) (n := cc) (by rw [hT]; exact e0) (by rw [hT]; exact e1)
    (fun _ h => by cases h) (fun _ h => by cases h) (fun h => by cases h) (fun h => by cases h) hk0 hk1 hkk0 hkk1 (by simp [refKind]) (by decide) (by decide) hc0
    (by rw [nn cc hc0]; show ¬ _ > ((arrV cI n (fun j => .int (f j))).slots.size : Int); rw [arrV_size]; show ¬ (0 : Int) + _ > _; omega)
    (by rw [nn cc hc0]; show ¬ _ > ((arrV cI n2 (fun j => .int (g j))).slots.size : Int); rw [arrV_size]; show ¬ (0 : Int) + _ > _; omega)
    (fun vm₁ _ i hi => by
      have e : (vp_cell cI (n, .inl f)).slots.getD ((0 : Int32).toNatClampNeg + i) .null = .int (f (0 + i)) := by
        show (arrV cI n (fun j => .int (f j))).slots.getD _ _ = _
        rw [z0', Array.getD_eq_getD_getElem?, arrV_read _ _ (by omega)]
        rfl
      refine ⟨?_, ?_⟩
      · rw [e]
        rfl
      · rw [e]
        exact trivial)
    (g := F0 m pc lsC (.int cc :: .int 0 :: .ref (base + k2) :: .int 0 :: .ref (base + k) :: st.map (sg_cv (sg_ad base ext)))) rfl (by rw [hf.2.2.1]; exact hl.1) (rest := st.map (sg_cv (sg_ad base ext))) rfl (by rw [hf.2.1]; exact hd) (Nat.le_trans hro.1 hf.2.2.2.2.2.2.1) (by
      have hcat' := sg_catS (sg_ad base ext) st
      have h20 := Nat.le_trans hro.2 hf.2.2.2.2.2.2.2
      show 2 * 0 + _ + _ ≤ _
      omega)
  have e2 : copied (vp_cell cI (n, .inl f)) (vp_cell cI (n2, .inl g)) 0 0 cc = vp_cell cI (n2, .inl (va_cpy f g 0 0 cc.toNatClampNeg)) := va_copied (fun z => .int z) cI cI f g (by rw [z0']; omega)
  rw [e2] at X' step
  have hlt : base + k2 < H.size := (Array.getElem?_eq_some_iff.mp e1).1
  have hheap : ((T.setVm vm').setCell (base + k2) (vp_cell cI (n2, .inl (va_cpy f g 0 0 cc.toNatClampNeg)))).heap = H.setIfInBounds (base + k2) (vp_cell cI (n2, .inl (va_cpy f g 0 0 cc.toNatClampNeg))) := by rw [← hT]; rfl
  have oq : ∀ q : Nat, q ≠ base + k2 → (H.setIfInBounds (base + k2) (vp_cell cI (n2, .inl (va_cpy f g 0 0 cc.toNatClampNeg))))[q]? = H[q]? := fun q hq => by simp [Array.getElem?_setIfInBounds, Ne.symm hq]
  obtain ⟨t, a1, b1⟩ := ih base ext D cI cZ ro p e R s m args below meth c _ _ lsC n0 z0 Q hf hc (sg_hm_up hh hkl2 (show (H.setIfInBounds (base + k2) _)[base + k2]? = some _ by simp [Array.getElem?_setIfInBounds, hlt]) (by simp) oq) ⟨by simp; exact hs.1, fun q g1 g2 => by
      rw [oq q (fun e => g2 (by rw [e]; show base ≤ base + k2; omega))]
      exact hs.2.1 q g1 g2, fun q hq => by
      rcases List.mem_append.mp hq with h | h
      · exact hs.2.2 q h
      · obtain ⟨z, -, hz⟩ := List.mem_map.mp h
        rw [← hz]
        show base ≤ base + k2
        omega⟩ hl hn kk _ hheap X'
  exact ⟨t, step t a1, b1⟩
