/-! THE CLASS ITSELF: a line is told -/
def TXs (j : Nat) : Prop := j = 0 ∨ j = 19 ∨ j = 20 ∨ (21 ≤ j ∧ j < 34) ∨ j = 36 ∨ j = 37
/-- while a text is told: nothing else has changed since g -/
def TX (g h : sg_H) (fl : Nat) (b0 b1 : Bool) (sd : Int32) (vd : Nat → Nat) (N : Nat → Int32) (lk f fp p ts tp : Nat) (tv : Int32) (dm : Nat) (E : Nat → Nat) : Prop :=
  ag TXs g h ∧ sg_at h 0 (.inr (7, sgF (nI dm) fl b0 b1 sd)) ∧ h = rd h N lk f fp p ts tp tv ∧ VV h 21 vd ∧ DE h 21 34 ∧ ∃ E', sg_at h 37 (.inl (false, 24, E')) ∧ ∀ j, j < dm → E' j = nI (E j)
/-- .. with a fault -/
def TXF (g h : sg_H) (fl : Nat) (b0 b1 : Bool) (f fp : Nat) : Prop :=
  ag TXs g h ∧ (∃ tc sd, sg_at h 0 (.inr (7, sgF tc fl b0 b1 sd))) ∧ (∃ N lk p ts tp tv, h = rd h N lk f fp p ts tp tv) ∧ VX h 21 ∧ DE h 21 34 ∧ ∃ E', sg_at h 37 (.inl (false, 24, E'))
theorem TX_F {g h : sg_H} {fl : Nat} {b0 b1 : Bool} {sd : Int32} {vd : Nat → Nat} {N : Nat → Int32} {lk f fp p ts tp : Nat} {tv : Int32} {dm : Nat} {E : Nat → Nat} (h1 : TX g h fl b0 b1 sd vd N lk f fp p ts tp tv dm E) : TXF g h fl b0 b1 f fp := by
  obtain ⟨q1, q2, q3, q4, q5, E', q6, -⟩ := h1
  exact ⟨q1, ⟨_, _, q2⟩, ⟨_, _, _, _, _, _, q3⟩, VX_V q4, q5, E', q6⟩
theorem rd_rd (g : sg_H) (N N' : Nat → Int32) (lk f fp p ts tp lk' f' fp' p' ts' tp' : Nat) (tv tv' : Int32) : rd (rd g N lk f fp p ts tp tv) N' lk' f' fp' p' ts' tp' tv' = rd g N' lk' f' fp' p' ts' tp' tv' := by
  refine Prod.ext rfl (Prod.ext rfl ?_)
  funext j
  show (if j = 19 then _ else if j = 20 then _ else (if j = 19 then _ else if j = 20 then _ else _)) = (if j = 19 then _ else if j = 20 then _ else _)
  by_cases q : j = 19
  · rw [if_pos q, if_pos q]
  · rw [if_neg q, if_neg q, if_neg q]
    by_cases q2 : j = 20
    · rw [if_pos q2, if_pos q2]
    · rw [if_neg q2, if_neg q2, if_neg q2]
def in1920 (j : Nat) : Prop := j = 19 ∨ j = 20
theorem ag_rd (g : sg_H) (N : Nat → Int32) (lk f fp p ts tp : Nat) (tv : Int32) : ag in1920 g (rd g N lk f fp p ts tp tv) := ⟨rfl, rfl, fun j hj => by
  show (if j = 19 then _ else if j = 20 then _ else _) = _
  rw [if_neg (fun q => hj (Or.inl q)), if_neg (fun q => hj (Or.inr q))]⟩
theorem rd_ag {S : Nat → Prop} {g h : sg_H} {N : Nat → Int32} {lk f fp p ts tp : Nat} {tv : Int32} (hg : ag S g h) (h1 : g = rd g N lk f fp p ts tp tv) (h19 : ¬ S 19) (h20 : ¬ S 20) : h = rd h N lk f fp p ts tp tv := by
  obtain ⟨c1, c2⟩ := RX_c h1
  exact RX_self (by rw [hg.2.2 _ h19]; exact c1) (by rw [hg.2.2 _ h20]; exact c2)
section T2
variable {g h : sg_H} {fl : Nat} {b0 b1 : Bool} {sd : Int32} {vd : Nat → Nat} {N : Nat → Int32} {lk f fp p ts tp : Nat} {tv : Int32} {dm : Nat} {E : Nat → Nat}
theorem TX_rd (h1 : TX g h fl b0 b1 sd vd N lk f fp p ts tp tv dm E) (N' : Nat → Int32) (lk' f' fp' p' ts' tp' : Nat) (tv' : Int32) : TX g (rd h N' lk' f' fp' p' ts' tp' tv') fl b0 b1 sd vd N' lk' f' fp' p' ts' tp' tv' dm E := by
  obtain ⟨q1, q2, q3, q4, q5, E', q6, q7⟩ := h1
  have hg := ag_rd h N' lk' f' fp' p' ts' tp' tv'
  exact ⟨ag_t q1 (ag_w hg (fun j hj => by rcases hj with z | z; exact Or.inr (Or.inl z); exact Or.inr (Or.inr (Or.inl z)))), ag_at hg q2 (by unfold in1920; omega), (rd_rd _ _ _ _ _ _ _ _ _ _ _ _ _ _ _ _ _).symm, VV_ag hg q4 (fun o ho => by unfold in1920; omega), DE_ag hg q5 (fun o ho => by unfold in1920; omega), E', ag_at hg q6 (by unfold in1920; omega), q7⟩
theorem TX_vs (h1 : TX g h fl b0 b1 sd vd N lk f fp p ts tp tv dm E) {h' : sg_H} {vd' : Nat → Nat} (hv : VS h 21 vd' h') : TX g h' fl b0 b1 sd vd' N lk f fp p ts tp tv dm E := by
  obtain ⟨q1, q2, q3, q4, q5, E', q6, q7⟩ := h1
  have hg := ag_VS hv
  exact ⟨ag_t q1 (ag_w hg (fun j hj => Or.inr (Or.inr (Or.inr (Or.inl ⟨by omega, by omega⟩))))), ag_at hg q2 (by omega), rd_ag hg q3 (by omega) (by omega), VV_of hv, DE_ag hg q5 (fun o ho => by omega), E', ag_at hg q6 (by omega), q7⟩
theorem TX_36 (h1 : TX g h fl b0 b1 sd vd N lk f fp p ts tp tv dm E) (q : Nat → Int32) : TX g (sg_up h (34 + 1 + 1) (.inl (false, 32, q))) fl b0 b1 sd vd N lk f fp p ts tp tv dm E := by
  obtain ⟨q1, q2, q3, q4, q5, E', q6, q7⟩ := h1
  have hg := ag_up h (34 + 1 + 1) (.inl (false, 32, q))
  exact ⟨ag_t q1 (ag_w hg (fun j hj => Or.inr (Or.inr (Or.inr (Or.inr (Or.inl hj)))))), ag_at hg q2 (by omega), rd_ag hg q3 (by omega) (by omega), VV_ag hg q4 (fun o ho => by omega), de_up q5 q, E', ag_at hg q6 (by omega), q7⟩
set_option maxRecDepth 100000 in
theorem k_toldParent (h1 : TX g h fl b0 b1 sd vd N lk f fp p ts tp tv dm E) (hdm : dm ≤ 24) (a : Nat) (ha : a ≤ dm) : sg_Kr MX7_toldParent [.ref 0, .int (nI a)] h (.int (nI (pnt E a))) := by
  obtain ⟨q1, q2, q3, q4, q5, E', q6, q7⟩ := h1
  show sg_A MX7_toldParent 0 [some (.ref 0), some (.int (nI a))] [] _ _
  unfold pnt
  refine at_ld (i := 1) dX7_toldParent_0 rfl rfl rfl ?_
  by_cases e : a = 0
  · refine at_zle 32 dX7_toldParent_1 (by decide) (fun _ => ?_) (fun cz_ => absurd (by rw [e]; decide) cz_)
    refine at_k (nI 0) dX7_toldParent_32 rfl (by decide) ?_
    refine at_ret dX7_toldParent_33 rfl rfl ?_
    rw [if_pos e]
    exact ⟨rfl, rfl⟩
  · refine at_zle 32 dX7_toldParent_1 (by decide) (fun cz_ => absurd cz_ (nI_nle (by omega) (by omega))) (fun _ => ?_)
    refine at_ld (i := 1) dX7_toldParent_4 rfl rfl rfl ?_
    refine at_ld (i := 0) dX7_toldParent_5 rfl rfl rfl ?_
    refine at_get dX7_toldParent_6 fX7_82 q2 (by omega) rfl ?_
    refine at_igt 32 dX7_toldParent_9 (by decide) (fun cz_ => absurd cz_ (nI_nlt ha (by omega))) (fun _ => ?_)
    refine at_ld (i := 1) dX7_toldParent_12 rfl rfl rfl ?_
    refine at_ld (i := 0) dX7_toldParent_13 rfl rfl rfl ?_
    refine at_get dX7_toldParent_14 fX7_47 q2 (by omega) rfl ?_
    refine at_alen dX7_toldParent_17 q6 ?_
    refine at_igt 32 dX7_toldParent_18 (by decide) (fun cz_ => absurd cz_ (nI_nlt (by omega) (by omega))) (fun _ => ?_)
    refine at_ld (i := 0) dX7_toldParent_21 rfl rfl rfl ?_
    refine at_get dX7_toldParent_22 fX7_47 q2 (by omega) rfl ?_
    refine at_ld (i := 1) dX7_toldParent_25 rfl rfl rfl ?_
    refine at_k (nI 1) dX7_toldParent_26 rfl (by decide) ?_
    refine at_bin dX7_toldParent_27 rfl ?_
    try dsimp only
    rw [nI_sub (show 1 ≤ a by omega)]
    refine at_ald (a - 1) dX7_toldParent_28 q6 rfl (by omega) (by decide) ?_
    refine at_goto 33 dX7_toldParent_29 (by decide) ?_
    refine at_ret dX7_toldParent_33 rfl rfl ?_
    rw [q7 _ (by omega), if_neg e]
    exact ⟨rfl, rfl⟩
set_option maxRecDepth 100000 in
theorem k_noteDirectory (h1 : TX g h fl b0 b1 sd vd N lk f fp p ts tp tv dm E) (hdm : dm < 24) (i : Nat) : sg_K MX7_noteDirectory [.ref 0, .int (nI i)] h (fun r h' => r = none ∧ TX g h' fl b0 b1 sd vd N lk f fp p ts tp tv (dm + 1) (vf_upd E dm i)) := by
  obtain ⟨q1, q2, q3, q4, q5, E', q6, q7⟩ := h1
  show sg_A MX7_noteDirectory 0 [some (.ref 0), some (.int (nI i))] [] _ _
  refine at_ld (i := 0) dX7_noteDirectory_0 rfl rfl rfl ?_
  refine at_get dX7_noteDirectory_1 fX7_82 q2 (by omega) rfl ?_
  refine at_zlt 39 dX7_noteDirectory_4 (by decide) (fun cz_ => absurd cz_ (nI_pos (by omega))) (fun _ => ?_)
  refine at_ld (i := 0) dX7_noteDirectory_7 rfl rfl rfl ?_
  refine at_get dX7_noteDirectory_8 fX7_82 q2 (by omega) rfl ?_
  refine at_ld (i := 0) dX7_noteDirectory_11 rfl rfl rfl ?_
  refine at_get dX7_noteDirectory_12 fX7_47 q2 (by omega) rfl ?_
  refine at_alen dX7_noteDirectory_15 q6 ?_
  refine at_ige 39 dX7_noteDirectory_16 (by decide) (fun cz_ => absurd cz_ (nI_ge hdm (by decide))) (fun _ => ?_)
  refine at_ld (i := 0) dX7_noteDirectory_19 rfl rfl rfl ?_
  refine at_get dX7_noteDirectory_20 fX7_47 q2 (by omega) rfl ?_
  refine at_ld (i := 0) dX7_noteDirectory_23 rfl rfl rfl ?_
  refine at_get dX7_noteDirectory_24 fX7_82 q2 (by omega) rfl ?_
  refine at_ld (i := 1) dX7_noteDirectory_27 rfl rfl rfl ?_
  refine at_ast dm dX7_noteDirectory_28 q6 (by decide) rfl hdm (by decide) rfl ?_
  have g1 := ag_up h 37 (.inl (false, 24, upd E' dm (nI i)))
  refine at_ld (i := 0) dX7_noteDirectory_29 rfl rfl rfl ?_
  refine at_dup dX7_noteDirectory_30 rfl ?_
  refine at_get dX7_noteDirectory_31 fX7_82 (up_n q2 _ (by decide)) (by omega) rfl ?_
  refine at_k (nI 1) dX7_noteDirectory_34 rfl (by decide) ?_
  refine at_bin dX7_noteDirectory_35 rfl ?_
  try dsimp only
  rw [nI_add]
  refine at_put dX7_noteDirectory_36 fX7_82 ⟨_, _, rfl, Or.inl rfl, tyX7_ok 7 (by decide), fun _ => ⟨rfl, rfl⟩⟩ (up_n q2 _ (by decide)) (by omega) (Nat.le_of_ble_eq_true rfl) rfl ?_
  refine at_vret dX7_noteDirectory_39 rfl ?_
  have g2 := ag_up (sg_up h 37 (.inl (false, 24, upd E' dm (nI i)))) 0 (.inr (7, sgF (nI (dm + 1)) fl b0 b1 sd))
  have hg : ag (fun j => j = 0 ∨ j = 37) h (sg_up (sg_up h 37 (.inl (false, 24, upd E' dm (nI i)))) 0 (.inr (7, sgF (nI (dm + 1)) fl b0 b1 sd))) := ag_t (ag_w g1 (fun j hj => Or.inr hj)) (ag_w g2 (fun j hj => Or.inl hj))
  refine ⟨rfl, ag_t q1 (ag_w hg (fun j hj => by rcases hj with z | z; exact Or.inl z; exact Or.inr (Or.inr (Or.inr (Or.inr (Or.inr z)))))), up_e (up_n q2 _ (by decide)) _, rd_ag hg q3 (by omega) (by omega), VV_ag hg q4 (fun o ho => by omega), DE_ag hg q5 (fun o ho => by omega), _, up_n (up_e q6 _) _ (by decide), fun j hj => ?_⟩
  by_cases z : j = dm
  · subst z; rw [upd_s, vu_s]
  · rw [upd_n _ _ _ _ z, vu_n _ _ _ _ z]; exact q7 j (by omega)
set_option maxRecDepth 100000 in
theorem k_tellLine {k : Nat} (h1 : TX g h fl b0 b1 sd vd N k 0 0 p 3 tp tv dm E) (hg0 : 64 ≤ g.1) (hI : TI vd dm E) (a b c : Nat) (ha : a ≤ dm) (hb9 : b ≤ 9) (hc40 : c ≤ 40) (hk : k = 1 ∧ c = 0 ∨ k = 2) (e0 : N 0 = nI a) (e1 : N 1 = nI b) (e2 : k = 2 → N 2 = nI c) : sg_K MX7_tellLine [.ref 0] h (fun r h' => if (ino vd (pnt E a) b).isSome = true then r = some (.int (bI false)) ∧ TXF g h' fl b0 b1 4 tp else match cmS vd (pnt E a) b k c with | none => r = some (.int (bI false)) ∧ TXF g h' fl b0 b1 5 tp | some q => r = some (.int (bI true)) ∧ TX g h' fl b0 b1 sd q.2 N k 0 0 p 3 tp tv (if k = 1 then dm + 1 else dm) (if k = 1 then vf_upd E dm q.1 else E)) := by
  have h1c := h1
  obtain ⟨q1, q2, q3, ⟨b', d', K', eV, hb, hR⟩, q5, E', q6, q7⟩ := h1
  have hh : 64 ≤ h.1 := by rw [q1.1]; exact hg0
  have iv := hI.1.1
  have w := iv.1.1
  have hgi := wf_gi w.1
  have hdm := TI_dm hI
  obtain ⟨p1, p2⟩ := TI_pnt hI ha
  have r19 : sg_at h 19 (.inr (4, rd_l k 0 0 p 3 tp tv)) := by rw [q3]; exact rd_o hh
  have r20 : sg_at h 20 (.inl (false, 6, N)) := by rw [q3]; exact rd_n hh
  have kc := k_makeInode (g := h) (a := 21) (D := 34) (d := d') (by omega) (by decide) q5 hb hR iv (nI (pnt E a)) (nI b) (nI k)
  rw [← eV] at kc
  have es : s_make vd (nI (pnt E a)) (nI b) (nI k) = if (ino vd (pnt E a) b).isSome = true then (-2, vd) else mkA vd (mks vd (pnt E a) b k) := by
    unfold s_make
    have i1 : isDir vd (nI (pnt E a)) = true := by
      unfold isDir
      rw [isI_nI w.1 (by omega), nI_clamp (by omega), decide_eq_true p1, decide_eq_true p2]
      rfl
    rw [if_pos ⟨i1, by rw [inR_nI (by omega)]; exact decide_eq_true (by omega), by rw [inR_nI (by omega)]; exact decide_eq_true (by omega)⟩, nI_clamp (by omega), nI_clamp (by omega), nI_clamp (by omega), hI.2.1]
    simp only [Bool.false_eq_true, false_or]
  rw [es] at kc
  show sg_A MX7_tellLine 0 [some (.ref 0), none, none] [] _ _
  refine at_ld (i := 0) dX7_tellLine_0 rfl rfl rfl ?_
  refine at_get dX7_tellLine_1 fX7_44 q2 (by omega) rfl ?_
  refine at_ld (i := 0) dX7_tellLine_4 rfl rfl rfl ?_
  refine at_ld (i := 0) dX7_tellLine_5 rfl rfl rfl ?_
  refine at_get dX7_tellLine_6 fX7_37 q2 (by omega) rfl ?_
  refine at_get dX7_tellLine_9 fX7_79 r19 (by omega) rfl ?_
  refine at_k (nI 0) dX7_tellLine_12 rfl (by decide) ?_
  refine at_ald (0) dX7_tellLine_13 r20 rfl (by decide) (by decide) ?_
  rw [e0]
  refine at_rv [_] dX7_tellLine_14 mX7_toldParent ⟨Nat.le_of_ble_eq_true rfl, Nat.le_of_ble_eq_true rfl⟩ lX7_123 iX7_toldParent rfl rfl q2 (by omega) rfl (Nat.le_of_ble_eq_true rfl) (Nat.le_of_ble_eq_true rfl) ⟨rfl, rfl⟩ (k_toldParent h1c (by omega) a ha) ?_
  refine at_ld (i := 0) dX7_tellLine_17 rfl rfl rfl ?_
  refine at_get dX7_tellLine_18 fX7_37 q2 (by omega) rfl ?_
  refine at_get dX7_tellLine_21 fX7_79 r19 (by omega) rfl ?_
  refine at_k (nI 1) dX7_tellLine_24 rfl (by decide) ?_
  refine at_ald (1) dX7_tellLine_25 r20 rfl (by decide) (by decide) ?_
  rw [e1]
  -- a fault
  have flt : ∀ (x1 : Int32) (x2 : Option Value) (h' : sg_H) vd' dm' E2 (cd pc pr : Nat), TX g h' fl b0 b1 sd vd' N k 0 0 p 3 tp tv dm' E2 → (pc = 43 ∧ pr = 48 ∧ cd = 4 ∨ pc = 56 ∧ pr = 61 ∧ cd = 5 ∨ pc = 109 ∧ pr = 114 ∧ cd = 5) → sg_A MX7_tellLine pc [some (.ref 0), some (.int x1), x2] [] h' (fun r h' => r = some (.int (bI false)) ∧ TXF g h' fl b0 b1 cd tp) := by
    intro x1 x2 h' vd' dm' E2 cd pc pr ht hpc
    have hh' : 64 ≤ h'.1 := by rw [ht.1.1]; exact hg0
    have r19' : sg_at h' 19 (.inr (4, rd_l k 0 0 p 3 tp tv)) := by rw [ht.2.2.1]; exact rd_o hh'
    have kr := k_refuseLine (g := h') (N := N) (lk := k) (f := 0) (fp := 0) (nx := p) (ts := 3) (tp := tp) (tv := tv) hh' cd
    rw [← ht.2.2.1] at kr
    have fin := TX_F (TX_rd ht N k cd tp p 3 tp tv)
    rcases hpc with ⟨rfl, rfl, rfl⟩ | ⟨rfl, rfl, rfl⟩ | ⟨rfl, rfl, rfl⟩
    · refine at_ld (i := 0) dX7_tellLine_43 rfl rfl rfl ?_
      refine at_get dX7_tellLine_44 fX7_37 ht.2.1 (by omega) rfl ?_
      refine at_k (nI 4) dX7_tellLine_47 rfl (by decide) ?_
      refine at_wv [_] dX7_tellLine_48 mX4_refuseLine ⟨Nat.le_of_ble_eq_true rfl, Nat.le_of_ble_eq_true rfl⟩ lX7_134 iX4_refuseLine rfl rfl r19' (by omega) rfl (Nat.le_of_ble_eq_true rfl) (Nat.le_of_ble_eq_true rfl) ⟨rfl, rfl⟩ (kr) ⟨rfl, rfl⟩ ?_
      try dsimp only [Option.toList, List.cons_append, List.nil_append]
      refine at_ret dX7_tellLine_51 rfl rfl ?_
      exact ⟨rfl, fin⟩
    · refine at_ld (i := 0) dX7_tellLine_56 rfl rfl rfl ?_
      refine at_get dX7_tellLine_57 fX7_37 ht.2.1 (by omega) rfl ?_
      refine at_k (nI 5) dX7_tellLine_60 rfl (by decide) ?_
      refine at_wv [_] dX7_tellLine_61 mX4_refuseLine ⟨Nat.le_of_ble_eq_true rfl, Nat.le_of_ble_eq_true rfl⟩ lX7_134 iX4_refuseLine rfl rfl r19' (by omega) rfl (Nat.le_of_ble_eq_true rfl) (Nat.le_of_ble_eq_true rfl) ⟨rfl, rfl⟩ (kr) ⟨rfl, rfl⟩ ?_
      try dsimp only [Option.toList, List.cons_append, List.nil_append]
      refine at_ret dX7_tellLine_64 rfl rfl ?_
      exact ⟨rfl, fin⟩
    · refine at_ld (i := 0) dX7_tellLine_109 rfl rfl rfl ?_
      refine at_get dX7_tellLine_110 fX7_37 ht.2.1 (by omega) rfl ?_
      refine at_k (nI 5) dX7_tellLine_113 rfl (by decide) ?_
      refine at_wv [_] dX7_tellLine_114 mX4_refuseLine ⟨Nat.le_of_ble_eq_true rfl, Nat.le_of_ble_eq_true rfl⟩ lX7_134 iX4_refuseLine rfl rfl r19' (by omega) rfl (Nat.le_of_ble_eq_true rfl) (Nat.le_of_ble_eq_true rfl) ⟨rfl, rfl⟩ (kr) ⟨rfl, rfl⟩ ?_
      try dsimp only [Option.toList, List.cons_append, List.nil_append]
      refine at_ret dX7_tellLine_117 rfl rfl ?_
      exact ⟨rfl, fin⟩
  refine at_ld (i := 0) dX7_tellLine_26 rfl rfl rfl ?_
  refine at_get dX7_tellLine_27 fX7_37 q2 (by omega) rfl ?_
  refine at_get dX7_tellLine_30 fX7_127 r19 (by omega) rfl ?_
  refine at_cv [_, _, _] dX7_tellLine_33 mX0_makeInode ⟨Nat.le_of_ble_eq_true rfl, Nat.le_of_ble_eq_true rfl⟩ lX7_130 iX0_makeInode rfl rfl q5.1 (by omega) rfl (Nat.le_of_ble_eq_true rfl) (Nat.le_of_ble_eq_true rfl) (kc) ?_ ?_
  · rintro r h2 ⟨-, z⟩
    exact ⟨(ag_VS z).1, (ag_VS z).2.1⟩
  · rintro r h2 ⟨rfl, z⟩
    try dsimp only [Option.toList, List.cons_append, List.nil_append]
    by_cases hin : (ino vd (pnt E a) b).isSome = true
    · simp only [if_pos hin] at z ⊢
      have t2 := TX_vs h1c z
      refine at_st (i := 1) dX7_tellLine_36 rfl rfl (Nat.le_of_ble_eq_true rfl) rfl ?_
      try dsimp only [List.set_cons_succ, List.set_cons_zero]
      refine at_ld (i := 1) dX7_tellLine_37 rfl rfl rfl ?_
      refine at_k (-2) dX7_tellLine_38 rfl (by decide) ?_
      refine at_ine 52 dX7_tellLine_40 (by decide) (fun cz_ => absurd cz_ (fun q => q rfl)) (fun _ => ?_)
      exact flt _ _ _ _ _ _ 4 43 48 t2 (Or.inl ⟨rfl, rfl, rfl⟩)
    · simp only [if_neg hin] at z ⊢
      have ec : cmS vd (pnt E a) b k c = match mks vd (pnt E a) b k with | none => none | some q => if 0 < c then (match grw q.2 q.1 c with | none => none | some v2 => some (q.1, v2)) else some q := by
        unfold cmS
        cases mks vd (pnt E a) b k <;> rfl
      cases hm : mks vd (pnt E a) b k with
      | none =>
        rw [hm] at ec z
        rw [ec]
        have t2 := TX_vs h1c z
        refine at_st (i := 1) dX7_tellLine_36 rfl rfl (Nat.le_of_ble_eq_true rfl) rfl ?_
        try dsimp only [List.set_cons_succ, List.set_cons_zero]
        refine at_ld (i := 1) dX7_tellLine_37 rfl rfl rfl ?_
        refine at_k (-2) dX7_tellLine_38 rfl (by decide) ?_
        refine at_ine 52 dX7_tellLine_40 (by decide) (fun _ => ?_) (fun cz_ => absurd (show ¬ (-3 : Int32) = -2 by decide) cz_)
        refine at_ld (i := 1) dX7_tellLine_52 rfl rfl rfl ?_
        refine at_zge 65 dX7_tellLine_53 (by decide) (fun cz_ => absurd cz_ (show ¬ (0 : Int32) ≤ -3 by decide)) (fun _ => ?_)
        exact flt _ _ _ _ _ _ 5 56 61 t2 (Or.inr (Or.inl ⟨rfl, rfl, rfl⟩))
      | some q =>
        rw [hm] at ec z
        dsimp only at ec
        have t2 := TX_vs h1c z
        have t2' : TX g h2 fl b0 b1 sd q.2 N k 0 0 p 3 tp tv dm E := t2
        have hk12 : k = 1 ∨ k = 2 := by omega
        obtain ⟨m1, m2, m3, m4, -⟩ := mks_k w.1 hk12 (i := q.1) (v' := q.2) hm
        have hh2 : 64 ≤ h2.1 := by rw [t2.1.1]; exact hg0
        have r19' : sg_at h2 19 (.inr (4, rd_l k 0 0 p 3 tp tv)) := by rw [t2.2.2.1]; exact rd_o hh2
        have r20' : sg_at h2 20 (.inl (false, 6, N)) := by rw [t2.2.2.1]; exact rd_n hh2
        show sg_A MX7_tellLine 36 [some (.ref 0), none, none] [.int (nI q.1)] h2 _
        refine at_st (i := 1) dX7_tellLine_36 rfl rfl (Nat.le_of_ble_eq_true rfl) rfl ?_
        try dsimp only [List.set_cons_succ, List.set_cons_zero]
        refine at_ld (i := 1) dX7_tellLine_37 rfl rfl rfl ?_
        refine at_k (-2) dX7_tellLine_38 rfl (by decide) ?_
        refine at_ine 52 dX7_tellLine_40 (by decide) (fun _ => ?_) (fun cz_ => absurd (fun z => by have := congrArg Int32.toInt z; rw [nI_toInt (by omega)] at this; exact absurd this (by have : (-2 : Int32).toInt = -2 := rfl; omega)) cz_)
        refine at_ld (i := 1) dX7_tellLine_52 rfl rfl rfl ?_
        refine at_zge 65 dX7_tellLine_53 (by decide) (fun _ => ?_) (fun cz_ => absurd (nI_pos' (by omega)) cz_)
        refine at_ld (i := 0) dX7_tellLine_65 rfl rfl rfl ?_
        refine at_get dX7_tellLine_66 fX7_37 t2.2.1 (by omega) rfl ?_
        refine at_get dX7_tellLine_69 fX7_127 r19' (by omega) rfl ?_
        refine at_k (nI 1) dX7_tellLine_72 rfl (by decide) ?_
        rcases hk with ⟨rfl, rfl⟩ | rfl
        · refine at_ine 83 dX7_tellLine_73 (by decide) (fun cz_ => absurd cz_ (fun z => z rfl)) (fun _ => ?_)
          rw [if_neg (by decide)] at ec
          rw [ec]
          refine at_ld (i := 0) dX7_tellLine_76 rfl rfl rfl ?_
          refine at_ld (i := 1) dX7_tellLine_77 rfl rfl rfl ?_
          refine at_cv [_] dX7_tellLine_78 mX7_noteDirectory ⟨Nat.le_of_ble_eq_true rfl, Nat.le_of_ble_eq_true rfl⟩ lX7_137 iX7_noteDirectory rfl rfl t2.2.1 (by omega) rfl (Nat.le_of_ble_eq_true rfl) (Nat.le_of_ble_eq_true rfl) (k_noteDirectory t2' hdm q.1) ?_ ?_
          · rintro r h3 ⟨-, y⟩
            exact ⟨y.1.1.trans t2.1.1.symm, y.1.2.1.trans t2.1.2.1.symm⟩
          · rintro r h3 ⟨rfl, y⟩
            try dsimp only [Option.toList, List.cons_append, List.nil_append]
            refine at_k (nI 1) dX7_tellLine_81 rfl (by decide) ?_
            refine at_ret dX7_tellLine_82 rfl rfl ?_
            exact ⟨rfl, y⟩
        · have _ := trivial
          refine at_ine 83 dX7_tellLine_73 (by decide) (fun _ => ?_) (fun cz_ => absurd (by decide) cz_)
          refine at_ld (i := 0) dX7_tellLine_83 rfl rfl rfl ?_
          refine at_get dX7_tellLine_84 fX7_37 t2.2.1 (by omega) rfl ?_
          refine at_get dX7_tellLine_87 fX7_79 r19' (by omega) rfl ?_
          refine at_k (nI 2) dX7_tellLine_90 rfl (by decide) ?_
          refine at_ald (2) dX7_tellLine_91 r20' rfl (by decide) (by decide) ?_
          rw [e2 rfl]
          refine at_st (i := 2) dX7_tellLine_92 rfl rfl (Nat.le_of_ble_eq_true rfl) rfl ?_
          try dsimp only [List.set_cons_succ, List.set_cons_zero]
          refine at_ld (i := 2) dX7_tellLine_93 rfl rfl rfl ?_
          by_cases hc0 : c = 0
          · rw [if_neg (by omega)] at ec
            rw [ec]
            refine at_zle 118 dX7_tellLine_94 (by decide) (fun _ => ?_) (fun cz_ => absurd (by rw [hc0]; decide) cz_)
            refine at_k (nI 1) dX7_tellLine_118 rfl (by decide) ?_
            refine at_ret dX7_tellLine_119 rfl rfl ?_
            exact ⟨rfl, t2'⟩
          · rw [if_pos (by omega)] at ec
            refine at_zle 118 dX7_tellLine_94 (by decide) (fun cz_ => absurd cz_ (nI_nle (by omega) (by omega))) (fun _ => ?_)
            have iv1 := inv_mks iv p1 (by omega) (by omega) (Or.inr rfl) (i := q.1) (v' := q.2) hm
            have s1 := spt_mks iv hI.2.1 (Or.inr rfl) (i := q.1) (v' := q.2) hm
            obtain ⟨b2, d2, K2, eV2, hb2, hR2⟩ := t2'.2.2.2.1
            have kg := k_growFile (g := h2) (a := 21) (D := 34) (d := d2) (by omega) (by decide) t2.2.2.2.2.1 hb2 hR2 iv1 (nI q.1) (nI c)
            rw [← eV2] at kg
            have eg : s_grow q.2 (nI q.1) (nI c) = (grA q.2 q.1 c, (grw q.2 q.1 c).getD q.2) := by
              unfold s_grow
              have i1 : isFil q.2 (nI q.1) = true := by
                unfold isFil
                rw [isI_nI iv1.1.1.1 (by omega), nI_clamp (by omega), m1 0 (by decide), m1 2 (by decide), decide_eq_true m2, m4, if_pos rfl]
                rfl
              rw [if_pos ⟨i1, by rw [inR_nI (by omega)]; exact decide_eq_true (by omega)⟩, s1, nI_clamp (by omega), nI_clamp (by omega)]
              rfl
            rw [eg] at kg
            refine at_ld (i := 0) dX7_tellLine_97 rfl rfl rfl ?_
            refine at_get dX7_tellLine_98 fX7_44 t2.2.1 (by omega) rfl ?_
            refine at_ld (i := 1) dX7_tellLine_101 rfl rfl rfl ?_
            refine at_ld (i := 2) dX7_tellLine_102 rfl rfl rfl ?_
            refine at_cv [_, _] dX7_tellLine_103 mX0_growFile ⟨Nat.le_of_ble_eq_true rfl, Nat.le_of_ble_eq_true rfl⟩ lX7_141 iX0_growFile rfl rfl t2.2.2.2.2.1.1 (by omega) rfl (Nat.le_of_ble_eq_true rfl) (Nat.le_of_ble_eq_true rfl) (kg) ?_ ?_
            · rintro r h3 ⟨-, y, z⟩
              exact ⟨(ag_VS z).1, (ag_VS z).2.1⟩
            · rintro r h3 ⟨rfl, y, z2⟩
              try dsimp only [Option.toList, List.cons_append, List.nil_append]
              have t3 := TX_vs (TX_36 t2' y) z2
              have i24 := (wf_s iv1.1.1 (show q.1 < 24 by omega))
              cases hgw : grw q.2 q.1 c with
              | none =>
                rw [hgw] at ec
                rw [ec]
                have eA : grA q.2 q.1 c = -3 := by unfold grA; rw [hgw]; rfl
                rw [eA]
                refine at_zge 118 dX7_tellLine_106 (by decide) (fun cz_ => absurd cz_ (show ¬ (0 : Int32) ≤ -3 by decide)) (fun _ => ?_)
                exact flt _ _ _ _ _ _ 5 109 114 t3 (Or.inr (Or.inr ⟨rfl, rfl, rfl⟩))
              | some v2 =>
                rw [hgw] at ec t3
                rw [ec]
                have eA : grA q.2 q.1 c = nI (io q.2 q.1 3 + c) := by unfold grA; rw [hgw]; rfl
                rw [eA]
                refine at_zge 118 dX7_tellLine_106 (by decide) (fun _ => ?_) (fun cz_ => absurd (nI_pos' (by omega)) cz_)
                refine at_k (nI 1) dX7_tellLine_118 rfl (by decide) ?_
                refine at_ret dX7_tellLine_119 rfl rfl ?_
                exact ⟨rfl, t3⟩
end T2
