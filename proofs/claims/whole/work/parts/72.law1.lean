/-! THE LAW: a call of each, answered alike -/
abbrev ML_law : sg_M := (yL_law, cL_law, 4, some .boolean, { frames := 13, cells := 72, slots := 4859, locals := 311 })
theorem mv_self {g : sg_H} {A : Nat → Nat → Int32} {F : Nat → Int32} {v : Nat → Nat} (h : ∀ j, 64 ≤ j → j < 72 → g.2.2 j = (mv g A F v).2.2 j) : g = mv g A F v := by
  refine Prod.ext rfl (Prod.ext rfl ?_)
  funext j
  by_cases q : 64 ≤ j ∧ j < 72
  · exact h j q.1 q.2
  · show g.2.2 j = (if j = 64 then _ else if 65 ≤ j ∧ j < 72 then _ else g.2.2 j)
    rw [if_neg (by omega), if_neg (by omega)]
theorem mv_in (g h : sg_H) (A : Nat → Nat → Int32) (F : Nat → Int32) (v : Nat → Nat) {j : Nat} (h1 : 64 ≤ j) (h2 : j < 72) : (mv g A F v).2.2 j = (mv h A F v).2.2 j := by
  show (if j = 64 then _ else if 65 ≤ j ∧ j < 72 then _ else g.2.2 j) = (if j = 64 then _ else if 65 ≤ j ∧ j < 72 then _ else h.2.2 j)
  by_cases q : j = 64
  · rw [if_pos q, if_pos q]
  · rw [if_neg q, if_neg q, if_pos (by omega), if_pos (by omega)]
def in72 (j : Nat) : Prop := 64 ≤ j ∧ j < 72
theorem mv_ag {S : Nat → Prop} {g h : sg_H} {A : Nat → Nat → Int32} {F : Nat → Int32} {v : Nat → Nat} (hg : ag S g h) (h1 : g = mv g A F v) (hs : ∀ j, in72 j → ¬ S j) : h = mv h A F v := mv_self (fun j j1 j2 => by
  rw [hg.2.2 j (hs j ⟨j1, j2⟩), mv_in h g A F v j1 j2]
  exact congrArg (fun q : sg_H => q.2.2 j) h1)
theorem ag_mv (g : sg_H) (A : Nat → Nat → Int32) (F : Nat → Int32) (v : Nat → Nat) : ag in72 g (mv g A F v) := ⟨rfl, rfl, fun j hj => by
  have : ¬ (64 ≤ j ∧ j < 72) := hj
  show (if j = 64 then _ else if 65 ≤ j ∧ j < 72 then _ else g.2.2 j) = g.2.2 j
  rw [if_neg (by omega), if_neg (by omega)]⟩
theorem mv_mv (g : sg_H) (A A' : Nat → Nat → Int32) (F F' : Nat → Int32) (v v' : Nat → Nat) : mv (mv g A F v) A' F' v' = mv g A' F' v' := by
  refine Prod.ext rfl (Prod.ext rfl ?_)
  funext j
  by_cases q : 64 ≤ j ∧ j < 72
  · exact mv_in _ _ _ _ _ q.1 q.2
  · rw [(ag_mv (mv g A F v) A' F' v').2.2 j q, (ag_mv g A F v).2.2 j q, (ag_mv g A' F' v').2.2 j q]
theorem CS_ag {S : Nat → Prop} {g h : sg_H} {v t : Nat → Nat} {n fl : Nat} {ib : Nat → Bool} {u : Nat → Nat → Nat} (hC : CS g v t n fl ib u) (hg : ag S g h) (h1 : ∀ j, j < 64 → ¬ S j) (h2 : ∀ j, 1000 ≤ j → ¬ S j) : CS h v t n fl ib u := by
  obtain ⟨c0, ⟨tc, sd, c1⟩, c2, c3, c4, c5, c6, c7, ⟨E, c8⟩, ⟨c9, c10⟩, c11, c12, c13⟩ := hC
  exact ⟨by rw [hg.1]; exact c0, ⟨tc, sd, ag_at hg c1 (h1 _ (by omega))⟩, VV_ag hg c2 (fun o ho => h1 _ (by omega)), DE_ag hg c3 (fun o ho => h1 _ (by omega)), TP_ag hg c4 ⟨h1 _ (by omega), h1 _ (by omega)⟩, RX_ag hg c5 ⟨h1 _ (by omega), h1 _ (by omega)⟩, VX_ag hg c6 (fun o ho => h1 _ (by omega)), DE_ag hg c7 (fun o ho => h1 _ (by omega)), ⟨E, ag_at hg c8 (h1 _ (by omega))⟩, ⟨VX_ag hg c9 (fun o ho => h1 _ (by omega)), VX_ag hg c10 (fun o ho => h1 _ (by omega))⟩, fun q => VV_ag hg (c11 q) (fun o ho => h1 _ (by omega)), fun q => VV_ag hg (c12 q) (fun o ho => h1 _ (by omega)), SR_ag hg c13 h2⟩
/-- the reference's rows tell the same tape, fault, images -/
def RA (A : Nat → Nat → Int32) (F : Nat → Int32) (t : Nat → Nat) (n fl : Nat) (ib : Nat → Bool) (u : Nat → Nat → Nat) : Prop := F 6 = nI n ∧ F 11 = nI fl ∧ (∀ p, p < n → A 5 p = nI (t p)) ∧ (∀ k, k < 2 → A 4 k = bI (ib k)) ∧ ∀ k, k < 2 → ib k = true → ∀ c, c < 496 → A 3 (496 * k + c) = nI (u k c)
/-- both objects in the same state, the script behind them -/
def lwS (L : Nat) (xs : Nat → Int32) (g : sg_H) : Prop := ∃ v t n fl ib u A F, g.1 = 72 ∧ g.2.1 = 4859 ∧ CS g v t n fl ib u ∧ Inv v ∧ (∀ k, k < 2 → ib k = true → Inv (u k)) ∧ g = mv g A F v ∧ RA A F t n fl ib u ∧ sg_at g 1020 (.inl (false, L, xs))
theorem lwS_of {L : Nat} {xs : Nat → Int32} {g h1 : sg_H} {v' t' : Nat → Nat} {n' fl' : Nat} {ib' : Nat → Bool} {u' : Nat → Nat → Nat} {A' : Nat → Nat → Int32} {F' : Nat → Int32} (e1 : g.1 = 72) (e2 : g.2.1 = 4859) (hs : sg_at g 1020 (.inl (false, L, xs))) (hag : ag in64 g h1) (hC : CS h1 v' t' n' fl' ib' u') (iv : Inv v') (iu : ∀ k, k < 2 → ib' k = true → Inv (u' k)) (ra : RA A' F' t' n' fl' ib' u') : lwS L xs (mv h1 A' F' v') := by
  have hg := ag_mv h1 A' F' v'
  exact ⟨v', t', n', fl', ib', u', A', F', hg.1.trans (hag.1.trans e1), hg.2.1.trans (hag.2.1.trans e2), CS_ag hC hg (fun j hj q => by have := q.1; omega) (fun j hj q => by have := q.2; omega), iv, iu, (mv_mv _ _ _ _ _ _ _).symm, ra, ag_at hg (ag_at hag hs (fun q => by have : (1020 : Nat) < 64 := q; omega)) (fun q => by have := q.2; omega)⟩
theorem mv_5 (h : sg_H) (A : Nat → Nat → Int32) (F : Nat → Int32) (v : Nat → Nat) (y : Nat → Int32) : mh h (vf_upd (vf_upd A 0 (fun k => nI (v k))) 5 y) F = mv h (vf_upd A 5 y) F v := by
  unfold mv
  congr 1
  exact vu_comm A (by decide) _ _
theorem sg_mv {g : sg_H} {A : Nat → Nat → Int32} {F : Nat → Int32} {v : Nat → Nat} (h : g = mv g A F v) (hn : 72 ≤ g.1) : sg_at g 64 (.inr (8, mh_f F)) := by
  rw [h]; exact mv_o hn _ _ _
section LW
variable {L i : Nat} {xs : Nat → Int32} {g : sg_H} {Q : Option Value → sg_H → Prop}
set_option maxRecDepth 100000 in
theorem lw_feed (hL : L ≤ 2048) (hi : i + 4 ≤ L) (hls : lwS L xs g) (kk : ∀ h, lwS L xs h → sg_A ML_law 833 [some (.ref 1020), some (.ref 0), some (.ref 64), some (.int (nI i))] [] h Q) : sg_A ML_law 148 [some (.ref 1020), some (.ref 0), some (.ref 64), some (.int (nI i))] [] g Q := by
  obtain ⟨v, t, n, fl, ib, u, A, F, e1, e2, hC, iv, iu, hM, ra, hsc⟩ := hls
  have hn : 72 ≤ g.1 := by omega
  have w := iv.1.1.1
  have wp := iv.1.1.2.1
  have wt := iv.1.1.2.2
  have h0 := hC.2.1
  obtain ⟨tc, sd, h0⟩ := h0
  have h64 := sg_mv hM hn
  refine at_ld (i := 1) dL_law_148 rfl rfl rfl ?_
  refine at_ld (i := 0) dL_law_149 rfl rfl rfl ?_
  refine at_ld (i := 3) dL_law_150 rfl rfl rfl ?_
  refine at_k (nI 1) dL_law_151 rfl (by decide) ?_
  refine at_bin dL_law_152 rfl ?_
  refine at_ald (i + 1) dL_law_153 hsc (nI_add i 1) (by omega) (by omega) ?_
  refine at_cv [_] dL_law_154 mX7_feed ⟨Nat.le_of_ble_eq_true rfl, Nat.le_of_ble_eq_true rfl⟩ lL_13 iX7_feed rfl rfl h0 (by omega) rfl (Nat.le_of_ble_eq_true rfl) (Nat.le_of_ble_eq_true rfl) (x_feed hC (xs (i + 1))) ?_ ?_
  · rintro r h1 ⟨-, -, q⟩
    exact ⟨q.1, q.2.1⟩
  · rintro r h1 ⟨rfl, hC1, hag⟩
    try dsimp only [Option.toList, List.cons_append, List.nil_append]
    have hn1 : 72 ≤ h1.1 := by rw [hag.1]; exact hn
    have hM1 := mv_ag hag hM (fun j hj q => by have : j < 64 := q; have := hj.1; omega)
    have h64' := sg_mv hM1 hn1
    have hsc' := ag_at hag hsc (fun q => by have : (1020 : Nat) < 64 := q; omega)
    have h200 := hC.2.2.2.2.1.2.2.2
    have kc := c_feed (h := h1) (vf_upd A 0 (fun k => nI (v k))) F hn1 n ra.1 h200 (xs (i + 1))
    rw [show mh h1 (vf_upd A 0 (fun k => nI (v k))) F = h1 from hM1.symm, vu_n _ _ _ _ (show 5 ≠ 0 by decide), mv_5] at kc
    by_cases hin : inR (xs (i + 1)) 0 127 = true ∧ n ≠ 200
    · rw [if_pos hin] at kc hC1
      refine at_ld (i := 2) dL_law_157 rfl rfl rfl ?_
      refine at_ld (i := 0) dL_law_158 rfl rfl rfl ?_
      refine at_ld (i := 3) dL_law_159 rfl rfl rfl ?_
      refine at_k (nI 1) dL_law_160 rfl (by decide) ?_
      refine at_bin dL_law_161 rfl ?_
      refine at_ald (i + 1) dL_law_162 hsc' (nI_add i 1) (by omega) (by omega) ?_
      refine at_wv [_] dL_law_163 mX8_feed ⟨Nat.le_of_ble_eq_true rfl, Nat.le_of_ble_eq_true rfl⟩ lL_17 iX8_feed rfl rfl h64' (by omega) rfl (Nat.le_of_ble_eq_true rfl) (Nat.le_of_ble_eq_true rfl) ⟨rfl, rfl⟩ (kc) ⟨rfl, rfl⟩ ?_
      try dsimp only [Option.toList, List.cons_append, List.nil_append]
      refine at_ieq 833 dL_law_166 (by decide) (fun _ => ?_) (fun cz_ => absurd (rfl) cz_)
      obtain ⟨k, -, hk, ek⟩ := inR_of (by decide) hin.1
      refine kk _ (lwS_of e1 e2 hsc hag hC1 iv iu ⟨upd_s _ _ _, (upd_n _ _ _ _ (by decide)).trans ra.2.1, fun p hp => ?_, fun k hk => by rw [vu_n _ _ _ _ (by decide)]; exact ra.2.2.2.1 k hk, fun k hk q c hc => by rw [vu_n _ _ _ _ (by decide)]; exact ra.2.2.2.2 k hk q c hc⟩)
      rw [vu_s]
      by_cases z : p = n
      · subst z
        rw [upd_s, vu_s, ek, nI_clamp (by omega)]
      · rw [upd_n _ _ _ _ z, vu_n _ _ _ _ z]
        exact ra.2.2.1 p (by omega)
    · rw [if_neg hin] at kc hC1
      refine at_ld (i := 2) dL_law_157 rfl rfl rfl ?_
      refine at_ld (i := 0) dL_law_158 rfl rfl rfl ?_
      refine at_ld (i := 3) dL_law_159 rfl rfl rfl ?_
      refine at_k (nI 1) dL_law_160 rfl (by decide) ?_
      refine at_bin dL_law_161 rfl ?_
      refine at_ald (i + 1) dL_law_162 hsc' (nI_add i 1) (by omega) (by omega) ?_
      refine at_wv [_] dL_law_163 mX8_feed ⟨Nat.le_of_ble_eq_true rfl, Nat.le_of_ble_eq_true rfl⟩ lL_17 iX8_feed rfl rfl h64' (by omega) rfl (Nat.le_of_ble_eq_true rfl) (Nat.le_of_ble_eq_true rfl) ⟨rfl, rfl⟩ (kc) ⟨rfl, rfl⟩ ?_
      try dsimp only [Option.toList, List.cons_append, List.nil_append]
      refine at_ieq 833 dL_law_166 (by decide) (fun _ => ?_) (fun cz_ => absurd (rfl) cz_)
      have fin := lwS_of e1 e2 hsc hag hC1 iv iu ra
      rw [← hM1] at fin
      exact kk _ fin
set_option maxRecDepth 100000 in
theorem lw_end (hL : L ≤ 2048) (hi : i + 4 ≤ L) (hls : lwS L xs g) (kk : ∀ h, lwS L xs h → sg_A ML_law 833 [some (.ref 1020), some (.ref 0), some (.ref 64), some (.int (nI i))] [] h Q) : sg_A ML_law 171 [some (.ref 1020), some (.ref 0), some (.ref 64), some (.int (nI i))] [] g Q := by
  obtain ⟨v, t, n, fl, ib, u, A, F, e1, e2, hC, iv, iu, hM, ra, hsc⟩ := hls
  have hn : 72 ≤ g.1 := by omega
  have w := iv.1.1.1
  have wp := iv.1.1.2.1
  have wt := iv.1.1.2.2
  have h0 := hC.2.1
  obtain ⟨tc, sd, h0⟩ := h0
  have h64 := sg_mv hM hn
  refine at_ld (i := 1) dL_law_171 rfl rfl rfl ?_
  refine at_ld (i := 0) dL_law_172 rfl rfl rfl ?_
  refine at_ld (i := 3) dL_law_173 rfl rfl rfl ?_
  refine at_k (nI 1) dL_law_174 rfl (by decide) ?_
  refine at_bin dL_law_175 rfl ?_
  refine at_ald (i + 1) dL_law_176 hsc (nI_add i 1) (by omega) (by omega) ?_
  refine at_cv [_] dL_law_177 mX7_end ⟨Nat.le_of_ble_eq_true rfl, Nat.le_of_ble_eq_true rfl⟩ lL_18 iX7_end rfl rfl h0 (by omega) rfl (Nat.le_of_ble_eq_true rfl) (Nat.le_of_ble_eq_true rfl) (x_end hC (xs (i + 1))) ?_ ?_
  · rintro r h1 ⟨-, -, q⟩
    exact ⟨q.1, q.2.1⟩
  · rintro r h1 ⟨rfl, hC1, hag⟩
    try dsimp only [Option.toList, List.cons_append, List.nil_append]
    have hn1 : 72 ≤ h1.1 := by rw [hag.1]; exact hn
    have hM1 := mv_ag hag hM (fun j hj q => by have : j < 64 := q; have := hj.1; omega)
    have h64' := sg_mv hM1 hn1
    have hsc' := ag_at hag hsc (fun q => by have : (1020 : Nat) < 64 := q; omega)
    have h200 := hC.2.2.2.2.1.2.2.2
    have kc := c_end (h := h1) (vf_upd A 0 (fun k => nI (v k))) F hn1 n ra.1 h200 (xs (i + 1))
    rw [show mh h1 (vf_upd A 0 (fun k => nI (v k))) F = h1 from hM1.symm, show mh h1 (vf_upd A 0 (fun k => nI (v k))) (upd F 6 (xs (i + 1))) = mv h1 A (upd F 6 (xs (i + 1))) v from rfl] at kc
    by_cases hin : inR (xs (i + 1)) 0 n = true
    · rw [if_pos hin] at kc hC1
      refine at_ld (i := 2) dL_law_180 rfl rfl rfl ?_
      refine at_ld (i := 0) dL_law_181 rfl rfl rfl ?_
      refine at_ld (i := 3) dL_law_182 rfl rfl rfl ?_
      refine at_k (nI 1) dL_law_183 rfl (by decide) ?_
      refine at_bin dL_law_184 rfl ?_
      refine at_ald (i + 1) dL_law_185 hsc' (nI_add i 1) (by omega) (by omega) ?_
      refine at_wv [_] dL_law_186 mX8_end ⟨Nat.le_of_ble_eq_true rfl, Nat.le_of_ble_eq_true rfl⟩ lL_21 iX8_end rfl rfl h64' (by omega) rfl (Nat.le_of_ble_eq_true rfl) (Nat.le_of_ble_eq_true rfl) ⟨rfl, rfl⟩ (kc) ⟨rfl, rfl⟩ ?_
      try dsimp only [Option.toList, List.cons_append, List.nil_append]
      refine at_ieq 833 dL_law_189 (by decide) (fun _ => ?_) (fun cz_ => absurd (rfl) cz_)
      obtain ⟨k, -, hk, ek⟩ := inR_of (by omega) hin
      refine kk _ (lwS_of e1 e2 hsc hag hC1 iv iu ⟨?_, (upd_n _ _ _ _ (by decide)).trans ra.2.1, fun p hp => ?_, ra.2.2.2.1, ra.2.2.2.2⟩)
      · rw [upd_s, ek, nI_clamp (by omega)]
      · rw [ek, nI_clamp (by omega)] at hp
        exact ra.2.2.1 p (by omega)
    · rw [if_neg hin] at kc hC1
      refine at_ld (i := 2) dL_law_180 rfl rfl rfl ?_
      refine at_ld (i := 0) dL_law_181 rfl rfl rfl ?_
      refine at_ld (i := 3) dL_law_182 rfl rfl rfl ?_
      refine at_k (nI 1) dL_law_183 rfl (by decide) ?_
      refine at_bin dL_law_184 rfl ?_
      refine at_ald (i + 1) dL_law_185 hsc' (nI_add i 1) (by omega) (by omega) ?_
      refine at_wv [_] dL_law_186 mX8_end ⟨Nat.le_of_ble_eq_true rfl, Nat.le_of_ble_eq_true rfl⟩ lL_21 iX8_end rfl rfl h64' (by omega) rfl (Nat.le_of_ble_eq_true rfl) (Nat.le_of_ble_eq_true rfl) ⟨rfl, rfl⟩ (kc) ⟨rfl, rfl⟩ ?_
      try dsimp only [Option.toList, List.cons_append, List.nil_append]
      refine at_ieq 833 dL_law_189 (by decide) (fun _ => ?_) (fun cz_ => absurd (rfl) cz_)
      have fin := lwS_of e1 e2 hsc hag hC1 iv iu ra
      rw [← hM1] at fin
      exact kk _ fin
set_option maxRecDepth 100000 in
theorem lw_text (hL : L ≤ 2048) (hi : i + 4 ≤ L) (hls : lwS L xs g) (kk : ∀ h, lwS L xs h → sg_A ML_law 833 [some (.ref 1020), some (.ref 0), some (.ref 64), some (.int (nI i))] [] h Q) : sg_A ML_law 194 [some (.ref 1020), some (.ref 0), some (.ref 64), some (.int (nI i))] [] g Q := by
  obtain ⟨v, t, n, fl, ib, u, A, F, e1, e2, hC, iv, iu, hM, ra, hsc⟩ := hls
  have hn : 72 ≤ g.1 := by omega
  have w := iv.1.1.1
  have wp := iv.1.1.2.1
  have wt := iv.1.1.2.2
  have h0 := hC.2.1
  obtain ⟨tc, sd, h0⟩ := h0
  have h64 := sg_mv hM hn
  refine at_ld (i := 1) dL_law_194 rfl rfl rfl ?_
  refine at_cv [] dL_law_195 mX7_text ⟨Nat.le_of_ble_eq_true rfl, Nat.le_of_ble_eq_true rfl⟩ lL_22 iX7_text rfl rfl h0 (by omega) rfl (Nat.le_of_ble_eq_true rfl) (Nat.le_of_ble_eq_true rfl) (x_text hC iv.2) ?_ ?_
  · rintro r h1 ⟨-, -, q⟩
    exact ⟨q.1, q.2.1⟩
  · rintro r h1 ⟨rfl, hC1, hag⟩
    try dsimp only [Option.toList, List.cons_append, List.nil_append]
    have hn1 : 72 ≤ h1.1 := by rw [hag.1]; exact hn
    have hM1 := mv_ag hag hM (fun j hj q => by have : j < 64 := q; have := hj.1; omega)
    have h64' := sg_mv hM1 hn1
    have hsc' := ag_at hag hsc (fun q => by have : (1020 : Nat) < 64 := q; omega)
    have ht : tpo A F t n := ⟨hC.2.2.2.2.1.2.2.2, ra.1, fun p hp => ⟨ra.2.2.1 p hp, hC.2.2.2.2.1.2.2.1 p hp⟩⟩
    have kc := c_text A F v t n hn1 ht
    rw [← hM1] at kc
    refine at_ld (i := 2) dL_law_198 rfl rfl rfl ?_
    refine at_cv [] dL_law_199 mX8_text ⟨Nat.le_of_ble_eq_true rfl, Nat.le_of_ble_eq_true rfl⟩ lL_26 iX8_text rfl rfl h64' (by omega) rfl (Nat.le_of_ble_eq_true rfl) (Nat.le_of_ble_eq_true rfl) (kc) ?_ ?_
    · rintro r h2 ⟨-, A', F', rfl, -⟩
      exact ⟨rfl, rfl⟩
    · rintro r h2 ⟨rfl, A', F', rfl, a3, a5, a4, f6, f11⟩
      try dsimp only [Option.toList, List.cons_append, List.nil_append]
      refine at_ieq 833 dL_law_202 (by decide) (fun _ => ?_) (fun cz_ => absurd (rfl) cz_)
      refine kk _ (lwS_of e1 e2 hsc hag hC1 (Inv_text iv hC.2.2.2.2.1.2.2.2) ?_ ⟨f6, f11, fun p hp => by omega, ?_, ?_⟩)
      · intro k hk q
        split at q
        · cases q
        · exact iu k hk q
      · intro k hk
        rw [a4]
        split
        · rcases (show k = 0 ∨ k = 1 by omega) with rfl | rfl
          · rw [upd_n _ _ _ _ (by decide), upd_s]; rfl
          · rw [upd_s]; rfl
        · exact ra.2.2.2.1 k hk
      · intro k hk q c hc
        rw [a3]
        split at q
        · cases q
        · exact ra.2.2.2.2 k hk q c hc
set_option maxRecDepth 100000 in
theorem lw_fault (hL : L ≤ 2048) (hi : i + 4 ≤ L) (hls : lwS L xs g) (kk : ∀ h, lwS L xs h → sg_A ML_law 833 [some (.ref 1020), some (.ref 0), some (.ref 64), some (.int (nI i))] [] h Q) : sg_A ML_law 207 [some (.ref 1020), some (.ref 0), some (.ref 64), some (.int (nI i))] [] g Q := by
  obtain ⟨v, t, n, fl, ib, u, A, F, e1, e2, hC, iv, iu, hM, ra, hsc⟩ := hls
  have hn : 72 ≤ g.1 := by omega
  have w := iv.1.1.1
  have wp := iv.1.1.2.1
  have wt := iv.1.1.2.2
  have h0 := hC.2.1
  obtain ⟨tc, sd, h0⟩ := h0
  have h64 := sg_mv hM hn
  have kc := (c_fault (h := g) A F v).resolve_right (fun q => q hn)
  rw [← hM, ra.2.1] at kc
  refine at_ld (i := 1) dL_law_207 rfl rfl rfl ?_
  refine at_rv [] dL_law_208 mX7_fault ⟨Nat.le_of_ble_eq_true rfl, Nat.le_of_ble_eq_true rfl⟩ lL_27 iX7_fault rfl rfl h0 (by omega) rfl (Nat.le_of_ble_eq_true rfl) (Nat.le_of_ble_eq_true rfl) ⟨rfl, rfl⟩ (x_fault hC) ?_
  refine at_ld (i := 2) dL_law_211 rfl rfl rfl ?_
  refine at_rv [] dL_law_212 mX8_fault ⟨Nat.le_of_ble_eq_true rfl, Nat.le_of_ble_eq_true rfl⟩ lL_30 iX8_fault rfl rfl h64 (by omega) rfl (Nat.le_of_ble_eq_true rfl) (Nat.le_of_ble_eq_true rfl) ⟨rfl, rfl⟩ (kc) ?_
  refine at_ieq 833 dL_law_215 (by decide) (fun _ => ?_) (fun cz_ => absurd (rfl) cz_)
  exact kk g ⟨v, t, n, fl, ib, u, A, F, e1, e2, hC, iv, iu, hM, ra, hsc⟩
set_option maxRecDepth 100000 in
theorem lw_rule (hL : L ≤ 2048) (hi : i + 4 ≤ L) (hls : lwS L xs g) (kk : ∀ h, lwS L xs h → sg_A ML_law 833 [some (.ref 1020), some (.ref 0), some (.ref 64), some (.int (nI i))] [] h Q) : sg_A ML_law 220 [some (.ref 1020), some (.ref 0), some (.ref 64), some (.int (nI i))] [] g Q := by
  obtain ⟨v, t, n, fl, ib, u, A, F, e1, e2, hC, iv, iu, hM, ra, hsc⟩ := hls
  have hn : 72 ≤ g.1 := by omega
  have w := iv.1.1.1
  have wp := iv.1.1.2.1
  have wt := iv.1.1.2.2
  have h0 := hC.2.1
  obtain ⟨tc, sd, h0⟩ := h0
  have h64 := sg_mv hM hn
  have kc := c_rule A F v hn w (xs (i + 1))
  rw [← hM] at kc
  refine at_ld (i := 1) dL_law_220 rfl rfl rfl ?_
  refine at_ld (i := 0) dL_law_221 rfl rfl rfl ?_
  refine at_ld (i := 3) dL_law_222 rfl rfl rfl ?_
  refine at_k (nI 1) dL_law_223 rfl (by decide) ?_
  refine at_bin dL_law_224 rfl ?_
  refine at_ald (i + 1) dL_law_225 hsc (nI_add i 1) (by omega) (by omega) ?_
  refine at_rv [_] dL_law_226 mX7_rule ⟨Nat.le_of_ble_eq_true rfl, Nat.le_of_ble_eq_true rfl⟩ lL_31 iX7_rule rfl rfl h0 (by omega) rfl (Nat.le_of_ble_eq_true rfl) (Nat.le_of_ble_eq_true rfl) ⟨rfl, rfl⟩ (x_rule hC iv.1 (xs (i + 1))) ?_
  refine at_ld (i := 2) dL_law_229 rfl rfl rfl ?_
  refine at_ld (i := 0) dL_law_230 rfl rfl rfl ?_
  refine at_ld (i := 3) dL_law_231 rfl rfl rfl ?_
  refine at_k (nI 1) dL_law_232 rfl (by decide) ?_
  refine at_bin dL_law_233 rfl ?_
  refine at_ald (i + 1) dL_law_234 hsc (nI_add i 1) (by omega) (by omega) ?_
  refine at_rv [_] dL_law_235 mX8_rule ⟨Nat.le_of_ble_eq_true rfl, Nat.le_of_ble_eq_true rfl⟩ lL_34 iX8_rule rfl rfl h64 (by omega) rfl (Nat.le_of_ble_eq_true rfl) (Nat.le_of_ble_eq_true rfl) ⟨rfl, rfl⟩ (kc) ?_
  refine at_ieq 833 dL_law_238 (by decide) (fun _ => ?_) (fun cz_ => absurd (rfl) cz_)
  exact kk g ⟨v, t, n, fl, ib, u, A, F, e1, e2, hC, iv, iu, hM, ra, hsc⟩
set_option maxRecDepth 100000 in
theorem lw_group (hL : L ≤ 2048) (hi : i + 4 ≤ L) (hls : lwS L xs g) (kk : ∀ h, lwS L xs h → sg_A ML_law 833 [some (.ref 1020), some (.ref 0), some (.ref 64), some (.int (nI i))] [] h Q) : sg_A ML_law 243 [some (.ref 1020), some (.ref 0), some (.ref 64), some (.int (nI i))] [] g Q := by
  obtain ⟨v, t, n, fl, ib, u, A, F, e1, e2, hC, iv, iu, hM, ra, hsc⟩ := hls
  have hn : 72 ≤ g.1 := by omega
  have w := iv.1.1.1
  have wp := iv.1.1.2.1
  have wt := iv.1.1.2.2
  have h0 := hC.2.1
  obtain ⟨tc, sd, h0⟩ := h0
  have h64 := sg_mv hM hn
  have kc := c_group A F v hn w (xs (i + 1)) (xs (i + 2))
  rw [← hM] at kc
  refine at_ld (i := 1) dL_law_243 rfl rfl rfl ?_
  refine at_ld (i := 0) dL_law_244 rfl rfl rfl ?_
  refine at_ld (i := 3) dL_law_245 rfl rfl rfl ?_
  refine at_k (nI 1) dL_law_246 rfl (by decide) ?_
  refine at_bin dL_law_247 rfl ?_
  refine at_ald (i + 1) dL_law_248 hsc (nI_add i 1) (by omega) (by omega) ?_
  refine at_ld (i := 0) dL_law_249 rfl rfl rfl ?_
  refine at_ld (i := 3) dL_law_250 rfl rfl rfl ?_
  refine at_k (nI 2) dL_law_251 rfl (by decide) ?_
  refine at_bin dL_law_252 rfl ?_
  refine at_ald (i + 2) dL_law_253 hsc (nI_add i 2) (by omega) (by omega) ?_
  refine at_rv [_, _] dL_law_254 mX7_group ⟨Nat.le_of_ble_eq_true rfl, Nat.le_of_ble_eq_true rfl⟩ lL_35 iX7_group rfl rfl h0 (by omega) rfl (Nat.le_of_ble_eq_true rfl) (Nat.le_of_ble_eq_true rfl) ⟨rfl, rfl⟩ (x_group hC iv.1 (xs (i + 1)) (xs (i + 2))) ?_
  refine at_ld (i := 2) dL_law_257 rfl rfl rfl ?_
  refine at_ld (i := 0) dL_law_258 rfl rfl rfl ?_
  refine at_ld (i := 3) dL_law_259 rfl rfl rfl ?_
  refine at_k (nI 1) dL_law_260 rfl (by decide) ?_
  refine at_bin dL_law_261 rfl ?_
  refine at_ald (i + 1) dL_law_262 hsc (nI_add i 1) (by omega) (by omega) ?_
  refine at_ld (i := 0) dL_law_263 rfl rfl rfl ?_
  refine at_ld (i := 3) dL_law_264 rfl rfl rfl ?_
  refine at_k (nI 2) dL_law_265 rfl (by decide) ?_
  refine at_bin dL_law_266 rfl ?_
  refine at_ald (i + 2) dL_law_267 hsc (nI_add i 2) (by omega) (by omega) ?_
  refine at_rv [_, _] dL_law_268 mX8_group ⟨Nat.le_of_ble_eq_true rfl, Nat.le_of_ble_eq_true rfl⟩ lL_39 iX8_group rfl rfl h64 (by omega) rfl (Nat.le_of_ble_eq_true rfl) (Nat.le_of_ble_eq_true rfl) ⟨rfl, rfl⟩ (kc) ?_
  refine at_ieq 833 dL_law_271 (by decide) (fun _ => ?_) (fun cz_ => absurd (rfl) cz_)
  exact kk g ⟨v, t, n, fl, ib, u, A, F, e1, e2, hC, iv, iu, hM, ra, hsc⟩
set_option maxRecDepth 100000 in
theorem lw_inode (hL : L ≤ 2048) (hi : i + 4 ≤ L) (hls : lwS L xs g) (kk : ∀ h, lwS L xs h → sg_A ML_law 833 [some (.ref 1020), some (.ref 0), some (.ref 64), some (.int (nI i))] [] h Q) : sg_A ML_law 276 [some (.ref 1020), some (.ref 0), some (.ref 64), some (.int (nI i))] [] g Q := by
  obtain ⟨v, t, n, fl, ib, u, A, F, e1, e2, hC, iv, iu, hM, ra, hsc⟩ := hls
  have hn : 72 ≤ g.1 := by omega
  have w := iv.1.1.1
  have wp := iv.1.1.2.1
  have wt := iv.1.1.2.2
  have h0 := hC.2.1
  obtain ⟨tc, sd, h0⟩ := h0
  have h64 := sg_mv hM hn
  have kc := c_inode A F v hn w (xs (i + 1)) (xs (i + 2))
  rw [← hM] at kc
  refine at_ld (i := 1) dL_law_276 rfl rfl rfl ?_
  refine at_ld (i := 0) dL_law_277 rfl rfl rfl ?_
  refine at_ld (i := 3) dL_law_278 rfl rfl rfl ?_
  refine at_k (nI 1) dL_law_279 rfl (by decide) ?_
  refine at_bin dL_law_280 rfl ?_
  refine at_ald (i + 1) dL_law_281 hsc (nI_add i 1) (by omega) (by omega) ?_
  refine at_ld (i := 0) dL_law_282 rfl rfl rfl ?_
  refine at_ld (i := 3) dL_law_283 rfl rfl rfl ?_
  refine at_k (nI 2) dL_law_284 rfl (by decide) ?_
  refine at_bin dL_law_285 rfl ?_
  refine at_ald (i + 2) dL_law_286 hsc (nI_add i 2) (by omega) (by omega) ?_
  refine at_rv [_, _] dL_law_287 mX7_inode ⟨Nat.le_of_ble_eq_true rfl, Nat.le_of_ble_eq_true rfl⟩ lL_40 iX7_inode rfl rfl h0 (by omega) rfl (Nat.le_of_ble_eq_true rfl) (Nat.le_of_ble_eq_true rfl) ⟨rfl, rfl⟩ (x_inode hC iv.1 (xs (i + 1)) (xs (i + 2))) ?_
  refine at_ld (i := 2) dL_law_290 rfl rfl rfl ?_
  refine at_ld (i := 0) dL_law_291 rfl rfl rfl ?_
  refine at_ld (i := 3) dL_law_292 rfl rfl rfl ?_
  refine at_k (nI 1) dL_law_293 rfl (by decide) ?_
  refine at_bin dL_law_294 rfl ?_
  refine at_ald (i + 1) dL_law_295 hsc (nI_add i 1) (by omega) (by omega) ?_
  refine at_ld (i := 0) dL_law_296 rfl rfl rfl ?_
  refine at_ld (i := 3) dL_law_297 rfl rfl rfl ?_
  refine at_k (nI 2) dL_law_298 rfl (by decide) ?_
  refine at_bin dL_law_299 rfl ?_
  refine at_ald (i + 2) dL_law_300 hsc (nI_add i 2) (by omega) (by omega) ?_
  refine at_rv [_, _] dL_law_301 mX8_inode ⟨Nat.le_of_ble_eq_true rfl, Nat.le_of_ble_eq_true rfl⟩ lL_43 iX8_inode rfl rfl h64 (by omega) rfl (Nat.le_of_ble_eq_true rfl) (Nat.le_of_ble_eq_true rfl) ⟨rfl, rfl⟩ (kc) ?_
  refine at_ieq 833 dL_law_304 (by decide) (fun _ => ?_) (fun cz_ => absurd (rfl) cz_)
  exact kk g ⟨v, t, n, fl, ib, u, A, F, e1, e2, hC, iv, iu, hM, ra, hsc⟩
set_option maxRecDepth 100000 in
theorem lw_block (hL : L ≤ 2048) (hi : i + 4 ≤ L) (hls : lwS L xs g) (kk : ∀ h, lwS L xs h → sg_A ML_law 833 [some (.ref 1020), some (.ref 0), some (.ref 64), some (.int (nI i))] [] h Q) : sg_A ML_law 309 [some (.ref 1020), some (.ref 0), some (.ref 64), some (.int (nI i))] [] g Q := by
  obtain ⟨v, t, n, fl, ib, u, A, F, e1, e2, hC, iv, iu, hM, ra, hsc⟩ := hls
  have hn : 72 ≤ g.1 := by omega
  have w := iv.1.1.1
  have wp := iv.1.1.2.1
  have wt := iv.1.1.2.2
  have h0 := hC.2.1
  obtain ⟨tc, sd, h0⟩ := h0
  have h64 := sg_mv hM hn
  have kc := c_block A F v hn w (xs (i + 1)) (xs (i + 2))
  rw [← hM] at kc
  refine at_ld (i := 1) dL_law_309 rfl rfl rfl ?_
  refine at_ld (i := 0) dL_law_310 rfl rfl rfl ?_
  refine at_ld (i := 3) dL_law_311 rfl rfl rfl ?_
  refine at_k (nI 1) dL_law_312 rfl (by decide) ?_
  refine at_bin dL_law_313 rfl ?_
  refine at_ald (i + 1) dL_law_314 hsc (nI_add i 1) (by omega) (by omega) ?_
  refine at_ld (i := 0) dL_law_315 rfl rfl rfl ?_
  refine at_ld (i := 3) dL_law_316 rfl rfl rfl ?_
  refine at_k (nI 2) dL_law_317 rfl (by decide) ?_
  refine at_bin dL_law_318 rfl ?_
  refine at_ald (i + 2) dL_law_319 hsc (nI_add i 2) (by omega) (by omega) ?_
  refine at_rv [_, _] dL_law_320 mX7_block ⟨Nat.le_of_ble_eq_true rfl, Nat.le_of_ble_eq_true rfl⟩ lL_44 iX7_block rfl rfl h0 (by omega) rfl (Nat.le_of_ble_eq_true rfl) (Nat.le_of_ble_eq_true rfl) ⟨rfl, rfl⟩ (x_block hC iv.1 (xs (i + 1)) (xs (i + 2))) ?_
  refine at_ld (i := 2) dL_law_323 rfl rfl rfl ?_
  refine at_ld (i := 0) dL_law_324 rfl rfl rfl ?_
  refine at_ld (i := 3) dL_law_325 rfl rfl rfl ?_
  refine at_k (nI 1) dL_law_326 rfl (by decide) ?_
  refine at_bin dL_law_327 rfl ?_
  refine at_ald (i + 1) dL_law_328 hsc (nI_add i 1) (by omega) (by omega) ?_
  refine at_ld (i := 0) dL_law_329 rfl rfl rfl ?_
  refine at_ld (i := 3) dL_law_330 rfl rfl rfl ?_
  refine at_k (nI 2) dL_law_331 rfl (by decide) ?_
  refine at_bin dL_law_332 rfl ?_
  refine at_ald (i + 2) dL_law_333 hsc (nI_add i 2) (by omega) (by omega) ?_
  refine at_rv [_, _] dL_law_334 mX8_block ⟨Nat.le_of_ble_eq_true rfl, Nat.le_of_ble_eq_true rfl⟩ lL_47 iX8_block rfl rfl h64 (by omega) rfl (Nat.le_of_ble_eq_true rfl) (Nat.le_of_ble_eq_true rfl) ⟨rfl, rfl⟩ (kc) ?_
  refine at_ieq 833 dL_law_337 (by decide) (fun _ => ?_) (fun cz_ => absurd (rfl) cz_)
  exact kk g ⟨v, t, n, fl, ib, u, A, F, e1, e2, hC, iv, iu, hM, ra, hsc⟩
set_option maxRecDepth 100000 in
theorem lw_fragment (hL : L ≤ 2048) (hi : i + 4 ≤ L) (hls : lwS L xs g) (kk : ∀ h, lwS L xs h → sg_A ML_law 833 [some (.ref 1020), some (.ref 0), some (.ref 64), some (.int (nI i))] [] h Q) : sg_A ML_law 342 [some (.ref 1020), some (.ref 0), some (.ref 64), some (.int (nI i))] [] g Q := by
  obtain ⟨v, t, n, fl, ib, u, A, F, e1, e2, hC, iv, iu, hM, ra, hsc⟩ := hls
  have hn : 72 ≤ g.1 := by omega
  have w := iv.1.1.1
  have wp := iv.1.1.2.1
  have wt := iv.1.1.2.2
  have h0 := hC.2.1
  obtain ⟨tc, sd, h0⟩ := h0
  have h64 := sg_mv hM hn
  have kc := c_fragment A F v hn w (xs (i + 1)) (xs (i + 2))
  rw [← hM] at kc
  refine at_ld (i := 1) dL_law_342 rfl rfl rfl ?_
  refine at_ld (i := 0) dL_law_343 rfl rfl rfl ?_
  refine at_ld (i := 3) dL_law_344 rfl rfl rfl ?_
  refine at_k (nI 1) dL_law_345 rfl (by decide) ?_
  refine at_bin dL_law_346 rfl ?_
  refine at_ald (i + 1) dL_law_347 hsc (nI_add i 1) (by omega) (by omega) ?_
  refine at_ld (i := 0) dL_law_348 rfl rfl rfl ?_
  refine at_ld (i := 3) dL_law_349 rfl rfl rfl ?_
  refine at_k (nI 2) dL_law_350 rfl (by decide) ?_
  refine at_bin dL_law_351 rfl ?_
  refine at_ald (i + 2) dL_law_352 hsc (nI_add i 2) (by omega) (by omega) ?_
  refine at_rv [_, _] dL_law_353 mX7_fragment ⟨Nat.le_of_ble_eq_true rfl, Nat.le_of_ble_eq_true rfl⟩ lL_48 iX7_fragment rfl rfl h0 (by omega) rfl (Nat.le_of_ble_eq_true rfl) (Nat.le_of_ble_eq_true rfl) ⟨rfl, rfl⟩ (x_fragment hC iv.1 (xs (i + 1)) (xs (i + 2))) ?_
  refine at_ld (i := 2) dL_law_356 rfl rfl rfl ?_
  refine at_ld (i := 0) dL_law_357 rfl rfl rfl ?_
  refine at_ld (i := 3) dL_law_358 rfl rfl rfl ?_
  refine at_k (nI 1) dL_law_359 rfl (by decide) ?_
  refine at_bin dL_law_360 rfl ?_
  refine at_ald (i + 1) dL_law_361 hsc (nI_add i 1) (by omega) (by omega) ?_
  refine at_ld (i := 0) dL_law_362 rfl rfl rfl ?_
  refine at_ld (i := 3) dL_law_363 rfl rfl rfl ?_
  refine at_k (nI 2) dL_law_364 rfl (by decide) ?_
  refine at_bin dL_law_365 rfl ?_
  refine at_ald (i + 2) dL_law_366 hsc (nI_add i 2) (by omega) (by omega) ?_
  refine at_rv [_, _] dL_law_367 mX8_fragment ⟨Nat.le_of_ble_eq_true rfl, Nat.le_of_ble_eq_true rfl⟩ lL_51 iX8_fragment rfl rfl h64 (by omega) rfl (Nat.le_of_ble_eq_true rfl) (Nat.le_of_ble_eq_true rfl) ⟨rfl, rfl⟩ (kc) ?_
  refine at_ieq 833 dL_law_370 (by decide) (fun _ => ?_) (fun cz_ => absurd (rfl) cz_)
  exact kk g ⟨v, t, n, fl, ib, u, A, F, e1, e2, hC, iv, iu, hM, ra, hsc⟩
set_option maxRecDepth 100000 in
theorem lw_find (hL : L ≤ 2048) (hi : i + 4 ≤ L) (hls : lwS L xs g) (kk : ∀ h, lwS L xs h → sg_A ML_law 833 [some (.ref 1020), some (.ref 0), some (.ref 64), some (.int (nI i))] [] h Q) : sg_A ML_law 375 [some (.ref 1020), some (.ref 0), some (.ref 64), some (.int (nI i))] [] g Q := by
  obtain ⟨v, t, n, fl, ib, u, A, F, e1, e2, hC, iv, iu, hM, ra, hsc⟩ := hls
  have hn : 72 ≤ g.1 := by omega
  have w := iv.1.1.1
  have wp := iv.1.1.2.1
  have wt := iv.1.1.2.2
  have h0 := hC.2.1
  obtain ⟨tc, sd, h0⟩ := h0
  have h64 := sg_mv hM hn
  have kc := c_find A F v hn w wp (xs (i + 1)) (xs (i + 2))
  rw [← hM] at kc
  refine at_ld (i := 1) dL_law_375 rfl rfl rfl ?_
  refine at_ld (i := 0) dL_law_376 rfl rfl rfl ?_
  refine at_ld (i := 3) dL_law_377 rfl rfl rfl ?_
  refine at_k (nI 1) dL_law_378 rfl (by decide) ?_
  refine at_bin dL_law_379 rfl ?_
  refine at_ald (i + 1) dL_law_380 hsc (nI_add i 1) (by omega) (by omega) ?_
  refine at_ld (i := 0) dL_law_381 rfl rfl rfl ?_
  refine at_ld (i := 3) dL_law_382 rfl rfl rfl ?_
  refine at_k (nI 2) dL_law_383 rfl (by decide) ?_
  refine at_bin dL_law_384 rfl ?_
  refine at_ald (i + 2) dL_law_385 hsc (nI_add i 2) (by omega) (by omega) ?_
  refine at_rv [_, _] dL_law_386 mX7_find ⟨Nat.le_of_ble_eq_true rfl, Nat.le_of_ble_eq_true rfl⟩ lL_52 iX7_find rfl rfl h0 (by omega) rfl (Nat.le_of_ble_eq_true rfl) (Nat.le_of_ble_eq_true rfl) ⟨rfl, rfl⟩ (x_find hC iv.1 (xs (i + 1)) (xs (i + 2))) ?_
  refine at_ld (i := 2) dL_law_389 rfl rfl rfl ?_
  refine at_ld (i := 0) dL_law_390 rfl rfl rfl ?_
  refine at_ld (i := 3) dL_law_391 rfl rfl rfl ?_
  refine at_k (nI 1) dL_law_392 rfl (by decide) ?_
  refine at_bin dL_law_393 rfl ?_
  refine at_ald (i + 1) dL_law_394 hsc (nI_add i 1) (by omega) (by omega) ?_
  refine at_ld (i := 0) dL_law_395 rfl rfl rfl ?_
  refine at_ld (i := 3) dL_law_396 rfl rfl rfl ?_
  refine at_k (nI 2) dL_law_397 rfl (by decide) ?_
  refine at_bin dL_law_398 rfl ?_
  refine at_ald (i + 2) dL_law_399 hsc (nI_add i 2) (by omega) (by omega) ?_
  refine at_rv [_, _] dL_law_400 mX8_find ⟨Nat.le_of_ble_eq_true rfl, Nat.le_of_ble_eq_true rfl⟩ lL_55 iX8_find rfl rfl h64 (by omega) rfl (Nat.le_of_ble_eq_true rfl) (Nat.le_of_ble_eq_true rfl) ⟨rfl, rfl⟩ (kc) ?_
  refine at_ieq 833 dL_law_403 (by decide) (fun _ => ?_) (fun cz_ => absurd (rfl) cz_)
  exact kk g ⟨v, t, n, fl, ib, u, A, F, e1, e2, hC, iv, iu, hM, ra, hsc⟩
set_option maxRecDepth 100000 in
theorem lw_entry (hL : L ≤ 2048) (hi : i + 4 ≤ L) (hls : lwS L xs g) (kk : ∀ h, lwS L xs h → sg_A ML_law 833 [some (.ref 1020), some (.ref 0), some (.ref 64), some (.int (nI i))] [] h Q) : sg_A ML_law 408 [some (.ref 1020), some (.ref 0), some (.ref 64), some (.int (nI i))] [] g Q := by
  obtain ⟨v, t, n, fl, ib, u, A, F, e1, e2, hC, iv, iu, hM, ra, hsc⟩ := hls
  have hn : 72 ≤ g.1 := by omega
  have w := iv.1.1.1
  have wp := iv.1.1.2.1
  have wt := iv.1.1.2.2
  have h0 := hC.2.1
  obtain ⟨tc, sd, h0⟩ := h0
  have h64 := sg_mv hM hn
  have kc := c_entry A F v hn w wp (xs (i + 1)) (xs (i + 2))
  rw [← hM] at kc
  refine at_ld (i := 1) dL_law_408 rfl rfl rfl ?_
  refine at_ld (i := 0) dL_law_409 rfl rfl rfl ?_
  refine at_ld (i := 3) dL_law_410 rfl rfl rfl ?_
  refine at_k (nI 1) dL_law_411 rfl (by decide) ?_
  refine at_bin dL_law_412 rfl ?_
  refine at_ald (i + 1) dL_law_413 hsc (nI_add i 1) (by omega) (by omega) ?_
  refine at_ld (i := 0) dL_law_414 rfl rfl rfl ?_
  refine at_ld (i := 3) dL_law_415 rfl rfl rfl ?_
  refine at_k (nI 2) dL_law_416 rfl (by decide) ?_
  refine at_bin dL_law_417 rfl ?_
  refine at_ald (i + 2) dL_law_418 hsc (nI_add i 2) (by omega) (by omega) ?_
  refine at_rv [_, _] dL_law_419 mX7_entry ⟨Nat.le_of_ble_eq_true rfl, Nat.le_of_ble_eq_true rfl⟩ lL_56 iX7_entry rfl rfl h0 (by omega) rfl (Nat.le_of_ble_eq_true rfl) (Nat.le_of_ble_eq_true rfl) ⟨rfl, rfl⟩ (x_entry hC iv.1 (xs (i + 1)) (xs (i + 2))) ?_
  refine at_ld (i := 2) dL_law_422 rfl rfl rfl ?_
  refine at_ld (i := 0) dL_law_423 rfl rfl rfl ?_
  refine at_ld (i := 3) dL_law_424 rfl rfl rfl ?_
  refine at_k (nI 1) dL_law_425 rfl (by decide) ?_
  refine at_bin dL_law_426 rfl ?_
  refine at_ald (i + 1) dL_law_427 hsc (nI_add i 1) (by omega) (by omega) ?_
  refine at_ld (i := 0) dL_law_428 rfl rfl rfl ?_
  refine at_ld (i := 3) dL_law_429 rfl rfl rfl ?_
  refine at_k (nI 2) dL_law_430 rfl (by decide) ?_
  refine at_bin dL_law_431 rfl ?_
  refine at_ald (i + 2) dL_law_432 hsc (nI_add i 2) (by omega) (by omega) ?_
  refine at_rv [_, _] dL_law_433 mX8_entry ⟨Nat.le_of_ble_eq_true rfl, Nat.le_of_ble_eq_true rfl⟩ lL_59 iX8_entry rfl rfl h64 (by omega) rfl (Nat.le_of_ble_eq_true rfl) (Nat.le_of_ble_eq_true rfl) ⟨rfl, rfl⟩ (kc) ?_
  refine at_ieq 833 dL_law_436 (by decide) (fun _ => ?_) (fun cz_ => absurd (rfl) cz_)
  exact kk g ⟨v, t, n, fl, ib, u, A, F, e1, e2, hC, iv, iu, hM, ra, hsc⟩
set_option maxRecDepth 100000 in
theorem lw_where (hL : L ≤ 2048) (hi : i + 4 ≤ L) (hls : lwS L xs g) (kk : ∀ h, lwS L xs h → sg_A ML_law 833 [some (.ref 1020), some (.ref 0), some (.ref 64), some (.int (nI i))] [] h Q) : sg_A ML_law 441 [some (.ref 1020), some (.ref 0), some (.ref 64), some (.int (nI i))] [] g Q := by
  obtain ⟨v, t, n, fl, ib, u, A, F, e1, e2, hC, iv, iu, hM, ra, hsc⟩ := hls
  have hn : 72 ≤ g.1 := by omega
  have w := iv.1.1.1
  have wp := iv.1.1.2.1
  have wt := iv.1.1.2.2
  have h0 := hC.2.1
  obtain ⟨tc, sd, h0⟩ := h0
  have h64 := sg_mv hM hn
  have kc := c_where A F v hn w (xs (i + 1)) (xs (i + 2))
  rw [← hM] at kc
  refine at_ld (i := 1) dL_law_441 rfl rfl rfl ?_
  refine at_ld (i := 0) dL_law_442 rfl rfl rfl ?_
  refine at_ld (i := 3) dL_law_443 rfl rfl rfl ?_
  refine at_k (nI 1) dL_law_444 rfl (by decide) ?_
  refine at_bin dL_law_445 rfl ?_
  refine at_ald (i + 1) dL_law_446 hsc (nI_add i 1) (by omega) (by omega) ?_
  refine at_ld (i := 0) dL_law_447 rfl rfl rfl ?_
  refine at_ld (i := 3) dL_law_448 rfl rfl rfl ?_
  refine at_k (nI 2) dL_law_449 rfl (by decide) ?_
  refine at_bin dL_law_450 rfl ?_
  refine at_ald (i + 2) dL_law_451 hsc (nI_add i 2) (by omega) (by omega) ?_
  refine at_rv [_, _] dL_law_452 mX7_where ⟨Nat.le_of_ble_eq_true rfl, Nat.le_of_ble_eq_true rfl⟩ lL_60 iX7_where rfl rfl h0 (by omega) rfl (Nat.le_of_ble_eq_true rfl) (Nat.le_of_ble_eq_true rfl) ⟨rfl, rfl⟩ (x_where hC iv.1 (xs (i + 1)) (xs (i + 2))) ?_
  refine at_ld (i := 2) dL_law_455 rfl rfl rfl ?_
  refine at_ld (i := 0) dL_law_456 rfl rfl rfl ?_
  refine at_ld (i := 3) dL_law_457 rfl rfl rfl ?_
  refine at_k (nI 1) dL_law_458 rfl (by decide) ?_
  refine at_bin dL_law_459 rfl ?_
  refine at_ald (i + 1) dL_law_460 hsc (nI_add i 1) (by omega) (by omega) ?_
  refine at_ld (i := 0) dL_law_461 rfl rfl rfl ?_
  refine at_ld (i := 3) dL_law_462 rfl rfl rfl ?_
  refine at_k (nI 2) dL_law_463 rfl (by decide) ?_
  refine at_bin dL_law_464 rfl ?_
  refine at_ald (i + 2) dL_law_465 hsc (nI_add i 2) (by omega) (by omega) ?_
  refine at_rv [_, _] dL_law_466 mX8_where ⟨Nat.le_of_ble_eq_true rfl, Nat.le_of_ble_eq_true rfl⟩ lL_63 iX8_where rfl rfl h64 (by omega) rfl (Nat.le_of_ble_eq_true rfl) (Nat.le_of_ble_eq_true rfl) ⟨rfl, rfl⟩ (kc) ?_
  refine at_ieq 833 dL_law_469 (by decide) (fun _ => ?_) (fun cz_ => absurd (rfl) cz_)
  exact kk g ⟨v, t, n, fl, ib, u, A, F, e1, e2, hC, iv, iu, hM, ra, hsc⟩
set_option maxRecDepth 100000 in
theorem lw_make (hL : L ≤ 2048) (hi : i + 4 ≤ L) (hls : lwS L xs g) (kk : ∀ h, lwS L xs h → sg_A ML_law 833 [some (.ref 1020), some (.ref 0), some (.ref 64), some (.int (nI i))] [] h Q) : sg_A ML_law 474 [some (.ref 1020), some (.ref 0), some (.ref 64), some (.int (nI i))] [] g Q := by
  obtain ⟨v, t, n, fl, ib, u, A, F, e1, e2, hC, iv, iu, hM, ra, hsc⟩ := hls
  have hn : 72 ≤ g.1 := by omega
  have w := iv.1.1.1
  have wp := iv.1.1.2.1
  have wt := iv.1.1.2.2
  have h0 := hC.2.1
  obtain ⟨tc, sd, h0⟩ := h0
  have h64 := sg_mv hM hn
  refine at_ld (i := 1) dL_law_474 rfl rfl rfl ?_
  refine at_ld (i := 0) dL_law_475 rfl rfl rfl ?_
  refine at_ld (i := 3) dL_law_476 rfl rfl rfl ?_
  refine at_k (nI 1) dL_law_477 rfl (by decide) ?_
  refine at_bin dL_law_478 rfl ?_
  refine at_ald (i + 1) dL_law_479 hsc (nI_add i 1) (by omega) (by omega) ?_
  refine at_ld (i := 0) dL_law_480 rfl rfl rfl ?_
  refine at_ld (i := 3) dL_law_481 rfl rfl rfl ?_
  refine at_k (nI 2) dL_law_482 rfl (by decide) ?_
  refine at_bin dL_law_483 rfl ?_
  refine at_ald (i + 2) dL_law_484 hsc (nI_add i 2) (by omega) (by omega) ?_
  refine at_ld (i := 0) dL_law_485 rfl rfl rfl ?_
  refine at_ld (i := 3) dL_law_486 rfl rfl rfl ?_
  refine at_k (nI 3) dL_law_487 rfl (by decide) ?_
  refine at_bin dL_law_488 rfl ?_
  refine at_ald (i + 3) dL_law_489 hsc (nI_add i 3) (by omega) (by omega) ?_
  refine at_cv [_, _, _] dL_law_490 mX7_make ⟨Nat.le_of_ble_eq_true rfl, Nat.le_of_ble_eq_true rfl⟩ lL_64 iX7_make rfl rfl h0 (by omega) rfl (Nat.le_of_ble_eq_true rfl) (Nat.le_of_ble_eq_true rfl) (x_make hC iv.1 (xs (i + 1)) (xs (i + 2)) (xs (i + 3))) ?_ ?_
  · rintro r h1 ⟨-, -, q⟩
    exact ⟨q.1, q.2.1⟩
  · rintro r h1 ⟨rfl, hC1, hag⟩
    try dsimp only [Option.toList, List.cons_append, List.nil_append]
    have hn1 : 72 ≤ h1.1 := by rw [hag.1]; exact hn
    have hM1 := mv_ag hag hM (fun j hj q => by have : j < 64 := q; have := hj.1; omega)
    have h64' := sg_mv hM1 hn1
    have hsc' := ag_at hag hsc (fun q => by have : (1020 : Nat) < 64 := q; omega)
    have kc := c_make A F v hn1 w wp (xs (i + 1)) (xs (i + 2)) (xs (i + 3))
    rw [← hM1] at kc
    refine at_ld (i := 2) dL_law_493 rfl rfl rfl ?_
    refine at_ld (i := 0) dL_law_494 rfl rfl rfl ?_
    refine at_ld (i := 3) dL_law_495 rfl rfl rfl ?_
    refine at_k (nI 1) dL_law_496 rfl (by decide) ?_
    refine at_bin dL_law_497 rfl ?_
    refine at_ald (i + 1) dL_law_498 hsc' (nI_add i 1) (by omega) (by omega) ?_
    refine at_ld (i := 0) dL_law_499 rfl rfl rfl ?_
    refine at_ld (i := 3) dL_law_500 rfl rfl rfl ?_
    refine at_k (nI 2) dL_law_501 rfl (by decide) ?_
    refine at_bin dL_law_502 rfl ?_
    refine at_ald (i + 2) dL_law_503 hsc' (nI_add i 2) (by omega) (by omega) ?_
    refine at_ld (i := 0) dL_law_504 rfl rfl rfl ?_
    refine at_ld (i := 3) dL_law_505 rfl rfl rfl ?_
    refine at_k (nI 3) dL_law_506 rfl (by decide) ?_
    refine at_bin dL_law_507 rfl ?_
    refine at_ald (i + 3) dL_law_508 hsc' (nI_add i 3) (by omega) (by omega) ?_
    refine at_wv [_, _, _] dL_law_509 mX8_make ⟨Nat.le_of_ble_eq_true rfl, Nat.le_of_ble_eq_true rfl⟩ lL_68 iX8_make rfl rfl h64' (by omega) rfl (Nat.le_of_ble_eq_true rfl) (Nat.le_of_ble_eq_true rfl) ⟨rfl, rfl⟩ (kc) ⟨rfl, rfl⟩ ?_
    try dsimp only [Option.toList, List.cons_append, List.nil_append]
    refine at_ieq 833 dL_law_512 (by decide) (fun _ => ?_) (fun cz_ => absurd (rfl) cz_)
    exact kk _ (lwS_of e1 e2 hsc hag hC1 (Inv_make iv _ _ _) iu ra)
set_option maxRecDepth 100000 in
theorem lw_grow (hL : L ≤ 2048) (hi : i + 4 ≤ L) (hls : lwS L xs g) (kk : ∀ h, lwS L xs h → sg_A ML_law 833 [some (.ref 1020), some (.ref 0), some (.ref 64), some (.int (nI i))] [] h Q) : sg_A ML_law 517 [some (.ref 1020), some (.ref 0), some (.ref 64), some (.int (nI i))] [] g Q := by
  obtain ⟨v, t, n, fl, ib, u, A, F, e1, e2, hC, iv, iu, hM, ra, hsc⟩ := hls
  have hn : 72 ≤ g.1 := by omega
  have w := iv.1.1.1
  have wp := iv.1.1.2.1
  have wt := iv.1.1.2.2
  have h0 := hC.2.1
  obtain ⟨tc, sd, h0⟩ := h0
  have h64 := sg_mv hM hn
  refine at_ld (i := 1) dL_law_517 rfl rfl rfl ?_
  refine at_ld (i := 0) dL_law_518 rfl rfl rfl ?_
  refine at_ld (i := 3) dL_law_519 rfl rfl rfl ?_
  refine at_k (nI 1) dL_law_520 rfl (by decide) ?_
  refine at_bin dL_law_521 rfl ?_
  refine at_ald (i + 1) dL_law_522 hsc (nI_add i 1) (by omega) (by omega) ?_
  refine at_ld (i := 0) dL_law_523 rfl rfl rfl ?_
  refine at_ld (i := 3) dL_law_524 rfl rfl rfl ?_
  refine at_k (nI 2) dL_law_525 rfl (by decide) ?_
  refine at_bin dL_law_526 rfl ?_
  refine at_ald (i + 2) dL_law_527 hsc (nI_add i 2) (by omega) (by omega) ?_
  refine at_cv [_, _] dL_law_528 mX7_grow ⟨Nat.le_of_ble_eq_true rfl, Nat.le_of_ble_eq_true rfl⟩ lL_69 iX7_grow rfl rfl h0 (by omega) rfl (Nat.le_of_ble_eq_true rfl) (Nat.le_of_ble_eq_true rfl) (x_grow hC iv.1 (xs (i + 1)) (xs (i + 2))) ?_ ?_
  · rintro r h1 ⟨-, -, q⟩
    exact ⟨q.1, q.2.1⟩
  · rintro r h1 ⟨rfl, hC1, hag⟩
    try dsimp only [Option.toList, List.cons_append, List.nil_append]
    have hn1 : 72 ≤ h1.1 := by rw [hag.1]; exact hn
    have hM1 := mv_ag hag hM (fun j hj q => by have : j < 64 := q; have := hj.1; omega)
    have h64' := sg_mv hM1 hn1
    have hsc' := ag_at hag hsc (fun q => by have : (1020 : Nat) < 64 := q; omega)
    have kc := c_grow A F v hn1 w wt (xs (i + 1)) (xs (i + 2))
    rw [← hM1] at kc
    refine at_ld (i := 2) dL_law_531 rfl rfl rfl ?_
    refine at_ld (i := 0) dL_law_532 rfl rfl rfl ?_
    refine at_ld (i := 3) dL_law_533 rfl rfl rfl ?_
    refine at_k (nI 1) dL_law_534 rfl (by decide) ?_
    refine at_bin dL_law_535 rfl ?_
    refine at_ald (i + 1) dL_law_536 hsc' (nI_add i 1) (by omega) (by omega) ?_
    refine at_ld (i := 0) dL_law_537 rfl rfl rfl ?_
    refine at_ld (i := 3) dL_law_538 rfl rfl rfl ?_
    refine at_k (nI 2) dL_law_539 rfl (by decide) ?_
    refine at_bin dL_law_540 rfl ?_
    refine at_ald (i + 2) dL_law_541 hsc' (nI_add i 2) (by omega) (by omega) ?_
    refine at_cv [_, _] dL_law_542 mX8_grow ⟨Nat.le_of_ble_eq_true rfl, Nat.le_of_ble_eq_true rfl⟩ lL_72 iX8_grow rfl rfl h64' (by omega) rfl (Nat.le_of_ble_eq_true rfl) (Nat.le_of_ble_eq_true rfl) (kc) ?_ ?_
    · rintro r h2 ⟨-, B, rfl⟩
      exact ⟨rfl, rfl⟩
    · rintro r h2 ⟨rfl, B, rfl⟩
      try dsimp only [Option.toList, List.cons_append, List.nil_append]
      refine at_ieq 833 dL_law_545 (by decide) (fun _ => ?_) (fun cz_ => absurd (rfl) cz_)
      exact kk _ (lwS_of e1 e2 hsc hag hC1 (Inv_grow iv _ _) iu ⟨ra.1, ra.2.1, fun p hp => by rw [vu_n _ _ _ _ (by decide)]; exact ra.2.2.1 p hp, fun k hk => by rw [vu_n _ _ _ _ (by decide)]; exact ra.2.2.2.1 k hk, fun k hk q c hc => by rw [vu_n _ _ _ _ (by decide)]; exact ra.2.2.2.2 k hk q c hc⟩)
set_option maxRecDepth 100000 in
theorem lw_shrink (hL : L ≤ 2048) (hi : i + 4 ≤ L) (hls : lwS L xs g) (kk : ∀ h, lwS L xs h → sg_A ML_law 833 [some (.ref 1020), some (.ref 0), some (.ref 64), some (.int (nI i))] [] h Q) : sg_A ML_law 550 [some (.ref 1020), some (.ref 0), some (.ref 64), some (.int (nI i))] [] g Q := by
  obtain ⟨v, t, n, fl, ib, u, A, F, e1, e2, hC, iv, iu, hM, ra, hsc⟩ := hls
  have hn : 72 ≤ g.1 := by omega
  have w := iv.1.1.1
  have wp := iv.1.1.2.1
  have wt := iv.1.1.2.2
  have h0 := hC.2.1
  obtain ⟨tc, sd, h0⟩ := h0
  have h64 := sg_mv hM hn
  refine at_ld (i := 1) dL_law_550 rfl rfl rfl ?_
  refine at_ld (i := 0) dL_law_551 rfl rfl rfl ?_
  refine at_ld (i := 3) dL_law_552 rfl rfl rfl ?_
  refine at_k (nI 1) dL_law_553 rfl (by decide) ?_
  refine at_bin dL_law_554 rfl ?_
  refine at_ald (i + 1) dL_law_555 hsc (nI_add i 1) (by omega) (by omega) ?_
  refine at_ld (i := 0) dL_law_556 rfl rfl rfl ?_
  refine at_ld (i := 3) dL_law_557 rfl rfl rfl ?_
  refine at_k (nI 2) dL_law_558 rfl (by decide) ?_
  refine at_bin dL_law_559 rfl ?_
  refine at_ald (i + 2) dL_law_560 hsc (nI_add i 2) (by omega) (by omega) ?_
  refine at_cv [_, _] dL_law_561 mX7_shrink ⟨Nat.le_of_ble_eq_true rfl, Nat.le_of_ble_eq_true rfl⟩ lL_73 iX7_shrink rfl rfl h0 (by omega) rfl (Nat.le_of_ble_eq_true rfl) (Nat.le_of_ble_eq_true rfl) (x_shrink hC iv.1 (xs (i + 1)) (xs (i + 2))) ?_ ?_
  · rintro r h1 ⟨-, -, q⟩
    exact ⟨q.1, q.2.1⟩
  · rintro r h1 ⟨rfl, hC1, hag⟩
    try dsimp only [Option.toList, List.cons_append, List.nil_append]
    have hn1 : 72 ≤ h1.1 := by rw [hag.1]; exact hn
    have hM1 := mv_ag hag hM (fun j hj q => by have : j < 64 := q; have := hj.1; omega)
    have h64' := sg_mv hM1 hn1
    have hsc' := ag_at hag hsc (fun q => by have : (1020 : Nat) < 64 := q; omega)
    have kc := c_shrink A F v hn1 w wt (xs (i + 1)) (xs (i + 2))
    rw [← hM1] at kc
    refine at_ld (i := 2) dL_law_564 rfl rfl rfl ?_
    refine at_ld (i := 0) dL_law_565 rfl rfl rfl ?_
    refine at_ld (i := 3) dL_law_566 rfl rfl rfl ?_
    refine at_k (nI 1) dL_law_567 rfl (by decide) ?_
    refine at_bin dL_law_568 rfl ?_
    refine at_ald (i + 1) dL_law_569 hsc' (nI_add i 1) (by omega) (by omega) ?_
    refine at_ld (i := 0) dL_law_570 rfl rfl rfl ?_
    refine at_ld (i := 3) dL_law_571 rfl rfl rfl ?_
    refine at_k (nI 2) dL_law_572 rfl (by decide) ?_
    refine at_bin dL_law_573 rfl ?_
    refine at_ald (i + 2) dL_law_574 hsc' (nI_add i 2) (by omega) (by omega) ?_
    refine at_wv [_, _] dL_law_575 mX8_shrink ⟨Nat.le_of_ble_eq_true rfl, Nat.le_of_ble_eq_true rfl⟩ lL_76 iX8_shrink rfl rfl h64' (by omega) rfl (Nat.le_of_ble_eq_true rfl) (Nat.le_of_ble_eq_true rfl) ⟨rfl, rfl⟩ (kc) ⟨rfl, rfl⟩ ?_
    try dsimp only [Option.toList, List.cons_append, List.nil_append]
    refine at_ieq 833 dL_law_578 (by decide) (fun _ => ?_) (fun cz_ => absurd (rfl) cz_)
    exact kk _ (lwS_of e1 e2 hsc hag hC1 (Inv_shrink iv _ _) iu ra)
set_option maxRecDepth 100000 in
theorem lw_remove (hL : L ≤ 2048) (hi : i + 4 ≤ L) (hls : lwS L xs g) (kk : ∀ h, lwS L xs h → sg_A ML_law 833 [some (.ref 1020), some (.ref 0), some (.ref 64), some (.int (nI i))] [] h Q) : sg_A ML_law 583 [some (.ref 1020), some (.ref 0), some (.ref 64), some (.int (nI i))] [] g Q := by
  obtain ⟨v, t, n, fl, ib, u, A, F, e1, e2, hC, iv, iu, hM, ra, hsc⟩ := hls
  have hn : 72 ≤ g.1 := by omega
  have w := iv.1.1.1
  have wp := iv.1.1.2.1
  have wt := iv.1.1.2.2
  have h0 := hC.2.1
  obtain ⟨tc, sd, h0⟩ := h0
  have h64 := sg_mv hM hn
  refine at_ld (i := 1) dL_law_583 rfl rfl rfl ?_
  refine at_ld (i := 0) dL_law_584 rfl rfl rfl ?_
  refine at_ld (i := 3) dL_law_585 rfl rfl rfl ?_
  refine at_k (nI 1) dL_law_586 rfl (by decide) ?_
  refine at_bin dL_law_587 rfl ?_
  refine at_ald (i + 1) dL_law_588 hsc (nI_add i 1) (by omega) (by omega) ?_
  refine at_cv [_] dL_law_589 mX7_remove ⟨Nat.le_of_ble_eq_true rfl, Nat.le_of_ble_eq_true rfl⟩ lL_77 iX7_remove rfl rfl h0 (by omega) rfl (Nat.le_of_ble_eq_true rfl) (Nat.le_of_ble_eq_true rfl) (x_remove hC iv.1 (xs (i + 1))) ?_ ?_
  · rintro r h1 ⟨-, -, q⟩
    exact ⟨q.1, q.2.1⟩
  · rintro r h1 ⟨rfl, hC1, hag⟩
    try dsimp only [Option.toList, List.cons_append, List.nil_append]
    have hn1 : 72 ≤ h1.1 := by rw [hag.1]; exact hn
    have hM1 := mv_ag hag hM (fun j hj q => by have : j < 64 := q; have := hj.1; omega)
    have h64' := sg_mv hM1 hn1
    have hsc' := ag_at hag hsc (fun q => by have : (1020 : Nat) < 64 := q; omega)
    have kc := c_remove A F v hn1 w wp wt (xs (i + 1))
    rw [← hM1] at kc
    refine at_ld (i := 2) dL_law_592 rfl rfl rfl ?_
    refine at_ld (i := 0) dL_law_593 rfl rfl rfl ?_
    refine at_ld (i := 3) dL_law_594 rfl rfl rfl ?_
    refine at_k (nI 1) dL_law_595 rfl (by decide) ?_
    refine at_bin dL_law_596 rfl ?_
    refine at_ald (i + 1) dL_law_597 hsc' (nI_add i 1) (by omega) (by omega) ?_
    refine at_wv [_] dL_law_598 mX8_remove ⟨Nat.le_of_ble_eq_true rfl, Nat.le_of_ble_eq_true rfl⟩ lL_80 iX8_remove rfl rfl h64' (by omega) rfl (Nat.le_of_ble_eq_true rfl) (Nat.le_of_ble_eq_true rfl) ⟨rfl, rfl⟩ (kc) ⟨rfl, rfl⟩ ?_
    try dsimp only [Option.toList, List.cons_append, List.nil_append]
    refine at_ieq 833 dL_law_601 (by decide) (fun _ => ?_) (fun cz_ => absurd (rfl) cz_)
    exact kk _ (lwS_of e1 e2 hsc hag hC1 (Inv_remove iv _) iu ra)
set_option maxRecDepth 100000 in
theorem lw_move (hL : L ≤ 2048) (hi : i + 4 ≤ L) (hls : lwS L xs g) (kk : ∀ h, lwS L xs h → sg_A ML_law 833 [some (.ref 1020), some (.ref 0), some (.ref 64), some (.int (nI i))] [] h Q) : sg_A ML_law 606 [some (.ref 1020), some (.ref 0), some (.ref 64), some (.int (nI i))] [] g Q := by
  obtain ⟨v, t, n, fl, ib, u, A, F, e1, e2, hC, iv, iu, hM, ra, hsc⟩ := hls
  have hn : 72 ≤ g.1 := by omega
  have w := iv.1.1.1
  have wp := iv.1.1.2.1
  have wt := iv.1.1.2.2
  have h0 := hC.2.1
  obtain ⟨tc, sd, h0⟩ := h0
  have h64 := sg_mv hM hn
  refine at_ld (i := 1) dL_law_606 rfl rfl rfl ?_
  refine at_ld (i := 0) dL_law_607 rfl rfl rfl ?_
  refine at_ld (i := 3) dL_law_608 rfl rfl rfl ?_
  refine at_k (nI 1) dL_law_609 rfl (by decide) ?_
  refine at_bin dL_law_610 rfl ?_
  refine at_ald (i + 1) dL_law_611 hsc (nI_add i 1) (by omega) (by omega) ?_
  refine at_ld (i := 0) dL_law_612 rfl rfl rfl ?_
  refine at_ld (i := 3) dL_law_613 rfl rfl rfl ?_
  refine at_k (nI 2) dL_law_614 rfl (by decide) ?_
  refine at_bin dL_law_615 rfl ?_
  refine at_ald (i + 2) dL_law_616 hsc (nI_add i 2) (by omega) (by omega) ?_
  refine at_ld (i := 0) dL_law_617 rfl rfl rfl ?_
  refine at_ld (i := 3) dL_law_618 rfl rfl rfl ?_
  refine at_k (nI 3) dL_law_619 rfl (by decide) ?_
  refine at_bin dL_law_620 rfl ?_
  refine at_ald (i + 3) dL_law_621 hsc (nI_add i 3) (by omega) (by omega) ?_
  refine at_cv [_, _, _] dL_law_622 mX7_move ⟨Nat.le_of_ble_eq_true rfl, Nat.le_of_ble_eq_true rfl⟩ lL_81 iX7_move rfl rfl h0 (by omega) rfl (Nat.le_of_ble_eq_true rfl) (Nat.le_of_ble_eq_true rfl) (x_move hC iv.1 (xs (i + 1)) (xs (i + 2)) (xs (i + 3))) ?_ ?_
  · rintro r h1 ⟨-, -, q⟩
    exact ⟨q.1, q.2.1⟩
  · rintro r h1 ⟨rfl, hC1, hag⟩
    try dsimp only [Option.toList, List.cons_append, List.nil_append]
    have hn1 : 72 ≤ h1.1 := by rw [hag.1]; exact hn
    have hM1 := mv_ag hag hM (fun j hj q => by have : j < 64 := q; have := hj.1; omega)
    have h64' := sg_mv hM1 hn1
    have hsc' := ag_at hag hsc (fun q => by have : (1020 : Nat) < 64 := q; omega)
    have kc := c_move A F v hn1 w wp iv.1.2.1 (xs (i + 1)) (xs (i + 2)) (xs (i + 3))
    rw [← hM1] at kc
    refine at_ld (i := 2) dL_law_625 rfl rfl rfl ?_
    refine at_ld (i := 0) dL_law_626 rfl rfl rfl ?_
    refine at_ld (i := 3) dL_law_627 rfl rfl rfl ?_
    refine at_k (nI 1) dL_law_628 rfl (by decide) ?_
    refine at_bin dL_law_629 rfl ?_
    refine at_ald (i + 1) dL_law_630 hsc' (nI_add i 1) (by omega) (by omega) ?_
    refine at_ld (i := 0) dL_law_631 rfl rfl rfl ?_
    refine at_ld (i := 3) dL_law_632 rfl rfl rfl ?_
    refine at_k (nI 2) dL_law_633 rfl (by decide) ?_
    refine at_bin dL_law_634 rfl ?_
    refine at_ald (i + 2) dL_law_635 hsc' (nI_add i 2) (by omega) (by omega) ?_
    refine at_ld (i := 0) dL_law_636 rfl rfl rfl ?_
    refine at_ld (i := 3) dL_law_637 rfl rfl rfl ?_
    refine at_k (nI 3) dL_law_638 rfl (by decide) ?_
    refine at_bin dL_law_639 rfl ?_
    refine at_ald (i + 3) dL_law_640 hsc' (nI_add i 3) (by omega) (by omega) ?_
    refine at_wv [_, _, _] dL_law_641 mX8_move ⟨Nat.le_of_ble_eq_true rfl, Nat.le_of_ble_eq_true rfl⟩ lL_84 iX8_move rfl rfl h64' (by omega) rfl (Nat.le_of_ble_eq_true rfl) (Nat.le_of_ble_eq_true rfl) ⟨rfl, rfl⟩ (kc) ⟨rfl, rfl⟩ ?_
    try dsimp only [Option.toList, List.cons_append, List.nil_append]
    refine at_ieq 833 dL_law_644 (by decide) (fun _ => ?_) (fun cz_ => absurd (rfl) cz_)
    exact kk _ (lwS_of e1 e2 hsc hag hC1 (Inv_move iv _ _ _) iu ra)
set_option maxRecDepth 100000 in
theorem lw_gather (hL : L ≤ 2048) (hi : i + 4 ≤ L) (hls : lwS L xs g) (kk : ∀ h, lwS L xs h → sg_A ML_law 833 [some (.ref 1020), some (.ref 0), some (.ref 64), some (.int (nI i))] [] h Q) : sg_A ML_law 649 [some (.ref 1020), some (.ref 0), some (.ref 64), some (.int (nI i))] [] g Q := by
  obtain ⟨v, t, n, fl, ib, u, A, F, e1, e2, hC, iv, iu, hM, ra, hsc⟩ := hls
  have hn : 72 ≤ g.1 := by omega
  have w := iv.1.1.1
  have wp := iv.1.1.2.1
  have wt := iv.1.1.2.2
  have h0 := hC.2.1
  obtain ⟨tc, sd, h0⟩ := h0
  have h64 := sg_mv hM hn
  refine at_ld (i := 1) dL_law_649 rfl rfl rfl ?_
  refine at_ld (i := 0) dL_law_650 rfl rfl rfl ?_
  refine at_ld (i := 3) dL_law_651 rfl rfl rfl ?_
  refine at_k (nI 1) dL_law_652 rfl (by decide) ?_
  refine at_bin dL_law_653 rfl ?_
  refine at_ald (i + 1) dL_law_654 hsc (nI_add i 1) (by omega) (by omega) ?_
  refine at_cv [_] dL_law_655 mX7_gather ⟨Nat.le_of_ble_eq_true rfl, Nat.le_of_ble_eq_true rfl⟩ lL_85 iX7_gather rfl rfl h0 (by omega) rfl (Nat.le_of_ble_eq_true rfl) (Nat.le_of_ble_eq_true rfl) (x_gather hC iv.1 (xs (i + 1))) ?_ ?_
  · rintro r h1 ⟨-, -, q⟩
    exact ⟨q.1, q.2.1⟩
  · rintro r h1 ⟨rfl, hC1, hag⟩
    try dsimp only [Option.toList, List.cons_append, List.nil_append]
    have hn1 : 72 ≤ h1.1 := by rw [hag.1]; exact hn
    have hM1 := mv_ag hag hM (fun j hj q => by have : j < 64 := q; have := hj.1; omega)
    have h64' := sg_mv hM1 hn1
    have hsc' := ag_at hag hsc (fun q => by have : (1020 : Nat) < 64 := q; omega)
    have kc := c_gather A F v hn1 w (xs (i + 1))
    rw [← hM1] at kc
    refine at_ld (i := 2) dL_law_658 rfl rfl rfl ?_
    refine at_ld (i := 0) dL_law_659 rfl rfl rfl ?_
    refine at_ld (i := 3) dL_law_660 rfl rfl rfl ?_
    refine at_k (nI 1) dL_law_661 rfl (by decide) ?_
    refine at_bin dL_law_662 rfl ?_
    refine at_ald (i + 1) dL_law_663 hsc' (nI_add i 1) (by omega) (by omega) ?_
    refine at_wv [_] dL_law_664 mX8_gather ⟨Nat.le_of_ble_eq_true rfl, Nat.le_of_ble_eq_true rfl⟩ lL_88 iX8_gather rfl rfl h64' (by omega) rfl (Nat.le_of_ble_eq_true rfl) (Nat.le_of_ble_eq_true rfl) ⟨rfl, rfl⟩ (kc) ⟨rfl, rfl⟩ ?_
    try dsimp only [Option.toList, List.cons_append, List.nil_append]
    refine at_ieq 833 dL_law_667 (by decide) (fun _ => ?_) (fun cz_ => absurd (rfl) cz_)
    exact kk _ (lwS_of e1 e2 hsc hag hC1 (Inv_gather iv _) iu ra)
set_option maxRecDepth 100000 in
theorem lw_draw (hL : L ≤ 2048) (hi : i + 4 ≤ L) (hls : lwS L xs g) (kk : ∀ h, lwS L xs h → sg_A ML_law 833 [some (.ref 1020), some (.ref 0), some (.ref 64), some (.int (nI i))] [] h Q) : sg_A ML_law 672 [some (.ref 1020), some (.ref 0), some (.ref 64), some (.int (nI i))] [] g Q := by
  obtain ⟨v, t, n, fl, ib, u, A, F, e1, e2, hC, iv, iu, hM, ra, hsc⟩ := hls
  have hn : 72 ≤ g.1 := by omega
  have w := iv.1.1.1
  have wp := iv.1.1.2.1
  have wt := iv.1.1.2.2
  have h0 := hC.2.1
  obtain ⟨tc, sd, h0⟩ := h0
  have h64 := sg_mv hM hn
  refine at_ld (i := 1) dL_law_672 rfl rfl rfl ?_
  refine at_ld (i := 0) dL_law_673 rfl rfl rfl ?_
  refine at_ld (i := 3) dL_law_674 rfl rfl rfl ?_
  refine at_k (nI 1) dL_law_675 rfl (by decide) ?_
  refine at_bin dL_law_676 rfl ?_
  refine at_ald (i + 1) dL_law_677 hsc (nI_add i 1) (by omega) (by omega) ?_
  refine at_ld (i := 0) dL_law_678 rfl rfl rfl ?_
  refine at_ld (i := 3) dL_law_679 rfl rfl rfl ?_
  refine at_k (nI 2) dL_law_680 rfl (by decide) ?_
  refine at_bin dL_law_681 rfl ?_
  refine at_ald (i + 2) dL_law_682 hsc (nI_add i 2) (by omega) (by omega) ?_
  refine at_cv [_, _] dL_law_683 mX7_draw ⟨Nat.le_of_ble_eq_true rfl, Nat.le_of_ble_eq_true rfl⟩ lL_89 iX7_draw rfl rfl h0 (by omega) rfl (Nat.le_of_ble_eq_true rfl) (Nat.le_of_ble_eq_true rfl) (x_draw hC iv (xs (i + 1)) (xs (i + 2))) ?_ ?_
  · rintro r h1 ⟨-, -, q⟩
    exact ⟨q.1, q.2.1⟩
  · rintro r h1 ⟨rfl, hC1, hag⟩
    try dsimp only [Option.toList, List.cons_append, List.nil_append]
    have hn1 : 72 ≤ h1.1 := by rw [hag.1]; exact hn
    have hM1 := mv_ag hag hM (fun j hj q => by have : j < 64 := q; have := hj.1; omega)
    have h64' := sg_mv hM1 hn1
    have hsc' := ag_at hag hsc (fun q => by have : (1020 : Nat) < 64 := q; omega)
    have kc := c_draw A F v hn1 iv.1.1 (xs (i + 1)) (xs (i + 2))
    rw [← hM1] at kc
    refine at_ld (i := 2) dL_law_686 rfl rfl rfl ?_
    refine at_ld (i := 0) dL_law_687 rfl rfl rfl ?_
    refine at_ld (i := 3) dL_law_688 rfl rfl rfl ?_
    refine at_k (nI 1) dL_law_689 rfl (by decide) ?_
    refine at_bin dL_law_690 rfl ?_
    refine at_ald (i + 1) dL_law_691 hsc' (nI_add i 1) (by omega) (by omega) ?_
    refine at_ld (i := 0) dL_law_692 rfl rfl rfl ?_
    refine at_ld (i := 3) dL_law_693 rfl rfl rfl ?_
    refine at_k (nI 2) dL_law_694 rfl (by decide) ?_
    refine at_bin dL_law_695 rfl ?_
    refine at_ald (i + 2) dL_law_696 hsc' (nI_add i 2) (by omega) (by omega) ?_
    refine at_cv [_, _] dL_law_697 mX8_draw ⟨Nat.le_of_ble_eq_true rfl, Nat.le_of_ble_eq_true rfl⟩ lL_92 iX8_draw rfl rfl h64' (by omega) rfl (Nat.le_of_ble_eq_true rfl) (Nat.le_of_ble_eq_true rfl) (kc) ?_ ?_
    · rintro r h2 ⟨-, A', F', rfl, -⟩
      exact ⟨rfl, rfl⟩
    · rintro r h2 ⟨rfl, A', F', rfl, sc⟩
      try dsimp only [Option.toList, List.cons_append, List.nil_append]
      refine at_ieq 833 dL_law_700 (by decide) (fun _ => ?_) (fun cz_ => absurd (rfl) cz_)
      exact kk _ (lwS_of e1 e2 hsc hag hC1 (Inv_draw iv _ _) iu ⟨sc.2.1.trans ra.1, sc.2.2.trans ra.2.1, fun p hp => by rw [sc.1 5 (by omega)]; exact ra.2.2.1 p hp, fun k hk => by rw [sc.1 4 (by omega)]; exact ra.2.2.2.1 k hk, fun k hk q c hc => by rw [sc.1 3 (by omega)]; exact ra.2.2.2.2 k hk q c hc⟩)
set_option maxRecDepth 100000 in
theorem lw_flip (hL : L ≤ 2048) (hi : i + 4 ≤ L) (hls : lwS L xs g) (kk : ∀ h, lwS L xs h → sg_A ML_law 833 [some (.ref 1020), some (.ref 0), some (.ref 64), some (.int (nI i))] [] h Q) : sg_A ML_law 705 [some (.ref 1020), some (.ref 0), some (.ref 64), some (.int (nI i))] [] g Q := by
  obtain ⟨v, t, n, fl, ib, u, A, F, e1, e2, hC, iv, iu, hM, ra, hsc⟩ := hls
  have hn : 72 ≤ g.1 := by omega
  have w := iv.1.1.1
  have wp := iv.1.1.2.1
  have wt := iv.1.1.2.2
  have h0 := hC.2.1
  obtain ⟨tc, sd, h0⟩ := h0
  have h64 := sg_mv hM hn
  refine at_ld (i := 1) dL_law_705 rfl rfl rfl ?_
  refine at_ld (i := 0) dL_law_706 rfl rfl rfl ?_
  refine at_ld (i := 3) dL_law_707 rfl rfl rfl ?_
  refine at_k (nI 1) dL_law_708 rfl (by decide) ?_
  refine at_bin dL_law_709 rfl ?_
  refine at_ald (i + 1) dL_law_710 hsc (nI_add i 1) (by omega) (by omega) ?_
  refine at_cv [_] dL_law_711 mX7_flip ⟨Nat.le_of_ble_eq_true rfl, Nat.le_of_ble_eq_true rfl⟩ lL_93 iX7_flip rfl rfl h0 (by omega) rfl (Nat.le_of_ble_eq_true rfl) (Nat.le_of_ble_eq_true rfl) (x_flip hC iv.1 (xs (i + 1))) ?_ ?_
  · rintro r h1 ⟨-, -, q⟩
    exact ⟨q.1, q.2.1⟩
  · rintro r h1 ⟨rfl, hC1, hag⟩
    try dsimp only [Option.toList, List.cons_append, List.nil_append]
    have hn1 : 72 ≤ h1.1 := by rw [hag.1]; exact hn
    have hM1 := mv_ag hag hM (fun j hj q => by have : j < 64 := q; have := hj.1; omega)
    have h64' := sg_mv hM1 hn1
    have hsc' := ag_at hag hsc (fun q => by have : (1020 : Nat) < 64 := q; omega)
    have kc := c_flip A F v hn1 w (xs (i + 1))
    rw [← hM1] at kc
    refine at_ld (i := 2) dL_law_714 rfl rfl rfl ?_
    refine at_ld (i := 0) dL_law_715 rfl rfl rfl ?_
    refine at_ld (i := 3) dL_law_716 rfl rfl rfl ?_
    refine at_k (nI 1) dL_law_717 rfl (by decide) ?_
    refine at_bin dL_law_718 rfl ?_
    refine at_ald (i + 1) dL_law_719 hsc' (nI_add i 1) (by omega) (by omega) ?_
    refine at_wv [_] dL_law_720 mX8_flip ⟨Nat.le_of_ble_eq_true rfl, Nat.le_of_ble_eq_true rfl⟩ lL_96 iX8_flip rfl rfl h64' (by omega) rfl (Nat.le_of_ble_eq_true rfl) (Nat.le_of_ble_eq_true rfl) ⟨rfl, rfl⟩ (kc) ⟨rfl, rfl⟩ ?_
    try dsimp only [Option.toList, List.cons_append, List.nil_append]
    refine at_ieq 833 dL_law_723 (by decide) (fun _ => ?_) (fun cz_ => absurd (rfl) cz_)
    exact kk _ (lwS_of e1 e2 hsc hag hC1 (Inv_flip iv _) iu ra)
set_option maxRecDepth 100000 in
theorem lw_check (hL : L ≤ 2048) (hi : i + 4 ≤ L) (hls : lwS L xs g) (kk : ∀ h, lwS L xs h → sg_A ML_law 833 [some (.ref 1020), some (.ref 0), some (.ref 64), some (.int (nI i))] [] h Q) : sg_A ML_law 728 [some (.ref 1020), some (.ref 0), some (.ref 64), some (.int (nI i))] [] g Q := by
  obtain ⟨v, t, n, fl, ib, u, A, F, e1, e2, hC, iv, iu, hM, ra, hsc⟩ := hls
  have hn : 72 ≤ g.1 := by omega
  have w := iv.1.1.1
  have wp := iv.1.1.2.1
  have wt := iv.1.1.2.2
  have h0 := hC.2.1
  obtain ⟨tc, sd, h0⟩ := h0
  have h64 := sg_mv hM hn
  refine at_ld (i := 1) dL_law_728 rfl rfl rfl ?_
  refine at_ld (i := 0) dL_law_729 rfl rfl rfl ?_
  refine at_ld (i := 3) dL_law_730 rfl rfl rfl ?_
  refine at_k (nI 1) dL_law_731 rfl (by decide) ?_
  refine at_bin dL_law_732 rfl ?_
  refine at_ald (i + 1) dL_law_733 hsc (nI_add i 1) (by omega) (by omega) ?_
  refine at_cv [_] dL_law_734 mX7_check ⟨Nat.le_of_ble_eq_true rfl, Nat.le_of_ble_eq_true rfl⟩ lL_97 iX7_check rfl rfl h0 (by omega) rfl (Nat.le_of_ble_eq_true rfl) (Nat.le_of_ble_eq_true rfl) (x_check hC iv.1 (xs (i + 1))) ?_ ?_
  · rintro r h1 ⟨-, -, q⟩
    exact ⟨q.1, q.2.1⟩
  · rintro r h1 ⟨rfl, hC1, hag⟩
    try dsimp only [Option.toList, List.cons_append, List.nil_append]
    have hn1 : 72 ≤ h1.1 := by rw [hag.1]; exact hn
    have hM1 := mv_ag hag hM (fun j hj q => by have : j < 64 := q; have := hj.1; omega)
    have h64' := sg_mv hM1 hn1
    have hsc' := ag_at hag hsc (fun q => by have : (1020 : Nat) < 64 := q; omega)
    have kc := c_check A F v hn1 w (xs (i + 1))
    rw [← hM1] at kc
    refine at_ld (i := 2) dL_law_737 rfl rfl rfl ?_
    refine at_ld (i := 0) dL_law_738 rfl rfl rfl ?_
    refine at_ld (i := 3) dL_law_739 rfl rfl rfl ?_
    refine at_k (nI 1) dL_law_740 rfl (by decide) ?_
    refine at_bin dL_law_741 rfl ?_
    refine at_ald (i + 1) dL_law_742 hsc' (nI_add i 1) (by omega) (by omega) ?_
    refine at_rv [_] dL_law_743 mX8_check ⟨Nat.le_of_ble_eq_true rfl, Nat.le_of_ble_eq_true rfl⟩ lL_100 iX8_check rfl rfl h64' (by omega) rfl (Nat.le_of_ble_eq_true rfl) (Nat.le_of_ble_eq_true rfl) ⟨rfl, rfl⟩ (kc) ?_
    refine at_ieq 833 dL_law_746 (by decide) (fun _ => ?_) (fun cz_ => absurd (rfl) cz_)
    have fin := lwS_of e1 e2 hsc hag hC1 iv iu ra
    rw [← hM1] at fin
    exact kk _ fin
set_option maxRecDepth 100000 in
theorem lw_mend (hL : L ≤ 2048) (hi : i + 4 ≤ L) (hls : lwS L xs g) (kk : ∀ h, lwS L xs h → sg_A ML_law 833 [some (.ref 1020), some (.ref 0), some (.ref 64), some (.int (nI i))] [] h Q) : sg_A ML_law 751 [some (.ref 1020), some (.ref 0), some (.ref 64), some (.int (nI i))] [] g Q := by
  obtain ⟨v, t, n, fl, ib, u, A, F, e1, e2, hC, iv, iu, hM, ra, hsc⟩ := hls
  have hn : 72 ≤ g.1 := by omega
  have w := iv.1.1.1
  have wp := iv.1.1.2.1
  have wt := iv.1.1.2.2
  have h0 := hC.2.1
  obtain ⟨tc, sd, h0⟩ := h0
  have h64 := sg_mv hM hn
  refine at_ld (i := 1) dL_law_751 rfl rfl rfl ?_
  refine at_cv [] dL_law_752 mX7_mend ⟨Nat.le_of_ble_eq_true rfl, Nat.le_of_ble_eq_true rfl⟩ lL_101 iX7_mend rfl rfl h0 (by omega) rfl (Nat.le_of_ble_eq_true rfl) (Nat.le_of_ble_eq_true rfl) (x_mend hC iv.1) ?_ ?_
  · rintro r h1 ⟨-, -, q⟩
    exact ⟨q.1, q.2.1⟩
  · rintro r h1 ⟨rfl, hC1, hag⟩
    try dsimp only [Option.toList, List.cons_append, List.nil_append]
    have hn1 : 72 ≤ h1.1 := by rw [hag.1]; exact hn
    have hM1 := mv_ag hag hM (fun j hj q => by have : j < 64 := q; have := hj.1; omega)
    have h64' := sg_mv hM1 hn1
    have hsc' := ag_at hag hsc (fun q => by have : (1020 : Nat) < 64 := q; omega)
    have kc := c_mend A F v hn1 w
    rw [← hM1] at kc
    refine at_ld (i := 2) dL_law_755 rfl rfl rfl ?_
    refine at_wv [] dL_law_756 mX8_mend ⟨Nat.le_of_ble_eq_true rfl, Nat.le_of_ble_eq_true rfl⟩ lL_104 iX8_mend rfl rfl h64' (by omega) rfl (Nat.le_of_ble_eq_true rfl) (Nat.le_of_ble_eq_true rfl) ⟨rfl, rfl⟩ (kc) ⟨rfl, rfl⟩ ?_
    try dsimp only [Option.toList, List.cons_append, List.nil_append]
    refine at_ieq 833 dL_law_759 (by decide) (fun _ => ?_) (fun cz_ => absurd (rfl) cz_)
    exact kk _ (lwS_of e1 e2 hsc hag hC1 (Inv_mend iv) iu ra)
set_option maxRecDepth 100000 in
theorem lw_keep (hL : L ≤ 2048) (hi : i + 4 ≤ L) (hls : lwS L xs g) (kk : ∀ h, lwS L xs h → sg_A ML_law 833 [some (.ref 1020), some (.ref 0), some (.ref 64), some (.int (nI i))] [] h Q) : sg_A ML_law 764 [some (.ref 1020), some (.ref 0), some (.ref 64), some (.int (nI i))] [] g Q := by
  obtain ⟨v, t, n, fl, ib, u, A, F, e1, e2, hC, iv, iu, hM, ra, hsc⟩ := hls
  have hn : 72 ≤ g.1 := by omega
  have w := iv.1.1.1
  have wp := iv.1.1.2.1
  have wt := iv.1.1.2.2
  have h0 := hC.2.1
  obtain ⟨tc, sd, h0⟩ := h0
  have h64 := sg_mv hM hn
  refine at_ld (i := 1) dL_law_764 rfl rfl rfl ?_
  refine at_ld (i := 0) dL_law_765 rfl rfl rfl ?_
  refine at_ld (i := 3) dL_law_766 rfl rfl rfl ?_
  refine at_k (nI 1) dL_law_767 rfl (by decide) ?_
  refine at_bin dL_law_768 rfl ?_
  refine at_ald (i + 1) dL_law_769 hsc (nI_add i 1) (by omega) (by omega) ?_
  refine at_cv [_] dL_law_770 mX7_keep ⟨Nat.le_of_ble_eq_true rfl, Nat.le_of_ble_eq_true rfl⟩ lL_105 iX7_keep rfl rfl h0 (by omega) rfl (Nat.le_of_ble_eq_true rfl) (Nat.le_of_ble_eq_true rfl) (x_keep hC iv.1 (xs (i + 1))) ?_ ?_
  · rintro r h1 ⟨-, -, q⟩
    exact ⟨q.1, q.2.1⟩
  · rintro r h1 ⟨rfl, hC1, hag⟩
    try dsimp only [Option.toList, List.cons_append, List.nil_append]
    have hn1 : 72 ≤ h1.1 := by rw [hag.1]; exact hn
    have hM1 := mv_ag hag hM (fun j hj q => by have : j < 64 := q; have := hj.1; omega)
    have h64' := sg_mv hM1 hn1
    have hsc' := ag_at hag hsc (fun q => by have : (1020 : Nat) < 64 := q; omega)
    have kc := c_keep A F v hn1 (xs (i + 1)) ib ra.2.2.2.1
    rw [← hM1] at kc
    by_cases hin : inR (xs (i + 1)) 0 1 = true
    · rw [if_pos hin, if_pos hin] at kc
      rw [if_pos hin] at hC1 ⊢
      refine at_ld (i := 2) dL_law_773 rfl rfl rfl ?_
      refine at_ld (i := 0) dL_law_774 rfl rfl rfl ?_
      refine at_ld (i := 3) dL_law_775 rfl rfl rfl ?_
      refine at_k (nI 1) dL_law_776 rfl (by decide) ?_
      refine at_bin dL_law_777 rfl ?_
      refine at_ald (i + 1) dL_law_778 hsc' (nI_add i 1) (by omega) (by omega) ?_
      refine at_wv [_] dL_law_779 mX8_keep ⟨Nat.le_of_ble_eq_true rfl, Nat.le_of_ble_eq_true rfl⟩ lL_108 iX8_keep rfl rfl h64' (by omega) rfl (Nat.le_of_ble_eq_true rfl) (Nat.le_of_ble_eq_true rfl) ⟨rfl, rfl⟩ (kc) ⟨rfl, rfl⟩ ?_
      try dsimp only [Option.toList, List.cons_append, List.nil_append]
      refine at_ieq 833 dL_law_782 (by decide) (fun _ => ?_) (fun cz_ => absurd (rfl) cz_)
      obtain ⟨k0, -, hk0, ek⟩ := inR_of (by decide) hin
      rw [ek, nI_clamp (by omega)] at hC1 ⊢
      refine kk _ (lwS_of e1 e2 hsc hag hC1 iv ?_ ⟨ra.1, ra.2.1, fun p hp => by rw [vu_n _ _ _ _ (by decide), vu_n _ _ _ _ (by decide)]; exact ra.2.2.1 p hp, ?_, ?_⟩)
      · intro k hk q
        by_cases z : k = k0
        · subst z; rw [vu_s]; exact iv
        · rw [vu_n _ _ _ _ z]
          unfold ibs at q
          rw [if_neg z] at q
          exact iu k hk q
      · intro k hk
        rw [vu_n _ _ _ _ (by decide), vu_s]
        unfold ibs
        by_cases z : k = k0
        · subst z; rw [upd_s, if_pos rfl]; rfl
        · rw [upd_n _ _ _ _ z, if_neg z]; exact ra.2.2.2.1 k hk
      · intro k hk q c hc
        rw [vu_s]
        unfold kpt
        by_cases z : k = k0
        · subst z
          rw [if_pos (by omega), vu_s, show 496 * k + c - 496 * k = c by omega]
        · rw [if_neg (by omega), vu_n _ _ _ _ z]
          unfold ibs at q
          rw [if_neg z] at q
          exact ra.2.2.2.2 k hk q c hc
    · rw [if_neg hin, if_neg hin] at kc
      rw [if_neg hin] at hC1 ⊢
      refine at_ld (i := 2) dL_law_773 rfl rfl rfl ?_
      refine at_ld (i := 0) dL_law_774 rfl rfl rfl ?_
      refine at_ld (i := 3) dL_law_775 rfl rfl rfl ?_
      refine at_k (nI 1) dL_law_776 rfl (by decide) ?_
      refine at_bin dL_law_777 rfl ?_
      refine at_ald (i + 1) dL_law_778 hsc' (nI_add i 1) (by omega) (by omega) ?_
      refine at_wv [_] dL_law_779 mX8_keep ⟨Nat.le_of_ble_eq_true rfl, Nat.le_of_ble_eq_true rfl⟩ lL_108 iX8_keep rfl rfl h64' (by omega) rfl (Nat.le_of_ble_eq_true rfl) (Nat.le_of_ble_eq_true rfl) ⟨rfl, rfl⟩ (kc) ⟨rfl, rfl⟩ ?_
      try dsimp only [Option.toList, List.cons_append, List.nil_append]
      refine at_ieq 833 dL_law_782 (by decide) (fun _ => ?_) (fun cz_ => absurd (rfl) cz_)
      have fin := lwS_of e1 e2 hsc hag hC1 iv iu ra
      rw [← hM1] at fin
      exact kk _ fin
set_option maxRecDepth 100000 in
theorem lw_back (hL : L ≤ 2048) (hi : i + 4 ≤ L) (hls : lwS L xs g) (kk : ∀ h, lwS L xs h → sg_A ML_law 833 [some (.ref 1020), some (.ref 0), some (.ref 64), some (.int (nI i))] [] h Q) : sg_A ML_law 787 [some (.ref 1020), some (.ref 0), some (.ref 64), some (.int (nI i))] [] g Q := by
  obtain ⟨v, t, n, fl, ib, u, A, F, e1, e2, hC, iv, iu, hM, ra, hsc⟩ := hls
  have hn : 72 ≤ g.1 := by omega
  have w := iv.1.1.1
  have wp := iv.1.1.2.1
  have wt := iv.1.1.2.2
  have h0 := hC.2.1
  obtain ⟨tc, sd, h0⟩ := h0
  have h64 := sg_mv hM hn
  refine at_ld (i := 1) dL_law_787 rfl rfl rfl ?_
  refine at_ld (i := 0) dL_law_788 rfl rfl rfl ?_
  refine at_ld (i := 3) dL_law_789 rfl rfl rfl ?_
  refine at_k (nI 1) dL_law_790 rfl (by decide) ?_
  refine at_bin dL_law_791 rfl ?_
  refine at_ald (i + 1) dL_law_792 hsc (nI_add i 1) (by omega) (by omega) ?_
  refine at_cv [_] dL_law_793 mX7_back ⟨Nat.le_of_ble_eq_true rfl, Nat.le_of_ble_eq_true rfl⟩ lL_109 iX7_back rfl rfl h0 (by omega) rfl (Nat.le_of_ble_eq_true rfl) (Nat.le_of_ble_eq_true rfl) (x_back hC (fun k hk q => (iu k hk q).1) (xs (i + 1))) ?_ ?_
  · rintro r h1 ⟨-, -, q⟩
    exact ⟨q.1, q.2.1⟩
  · rintro r h1 ⟨rfl, hC1, hag⟩
    try dsimp only [Option.toList, List.cons_append, List.nil_append]
    have hn1 : 72 ≤ h1.1 := by rw [hag.1]; exact hn
    have hM1 := mv_ag hag hM (fun j hj q => by have : j < 64 := q; have := hj.1; omega)
    have h64' := sg_mv hM1 hn1
    have hsc' := ag_at hag hsc (fun q => by have : (1020 : Nat) < 64 := q; omega)
    have kc := c_back A F v hn1 (xs (i + 1)) ib u ra.2.2.2.1 (fun k hk q => ⟨(iu k hk q).1.1.1, (iu k hk q).2, ra.2.2.2.2 k hk q⟩) iv.2
    rw [← hM1] at kc
    by_cases hin : inR (xs (i + 1)) 0 1 = true ∧ ib (xs (i + 1)).toNatClampNeg = true
    · rw [if_pos hin] at hC1
      rw [if_pos (c := inR (xs (i + 1)) 0 1 = true ∧ ib (xs (i + 1)).toNatClampNeg = true) hin] at kc
      refine at_ld (i := 2) dL_law_796 rfl rfl rfl ?_
      refine at_ld (i := 0) dL_law_797 rfl rfl rfl ?_
      refine at_ld (i := 3) dL_law_798 rfl rfl rfl ?_
      refine at_k (nI 1) dL_law_799 rfl (by decide) ?_
      refine at_bin dL_law_800 rfl ?_
      refine at_ald (i + 1) dL_law_801 hsc' (nI_add i 1) (by omega) (by omega) ?_
      refine at_wv [_] dL_law_802 mX8_back ⟨Nat.le_of_ble_eq_true rfl, Nat.le_of_ble_eq_true rfl⟩ lL_112 iX8_back rfl rfl h64' (by omega) rfl (Nat.le_of_ble_eq_true rfl) (Nat.le_of_ble_eq_true rfl) ⟨rfl, rfl⟩ (kc) ⟨rfl, rfl⟩ ?_
      try dsimp only [Option.toList, List.cons_append, List.nil_append]
      refine at_ieq 833 dL_law_805 (by decide) (fun _ => ?_) (fun cz_ => absurd (rfl) cz_)
      obtain ⟨k0, -, hk0, ek⟩ := inR_of (by decide) hin.1
      have iv2 : Inv (u (xs (i + 1)).toNatClampNeg) := iu _ (by rw [ek, nI_clamp (by omega)]; omega) hin.2
      exact kk _ (lwS_of e1 e2 hsc hag hC1 iv2 iu ra)
    · rw [if_neg hin] at hC1
      rw [if_neg (c := inR (xs (i + 1)) 0 1 = true ∧ ib (xs (i + 1)).toNatClampNeg = true) hin] at kc
      refine at_ld (i := 2) dL_law_796 rfl rfl rfl ?_
      refine at_ld (i := 0) dL_law_797 rfl rfl rfl ?_
      refine at_ld (i := 3) dL_law_798 rfl rfl rfl ?_
      refine at_k (nI 1) dL_law_799 rfl (by decide) ?_
      refine at_bin dL_law_800 rfl ?_
      refine at_ald (i + 1) dL_law_801 hsc' (nI_add i 1) (by omega) (by omega) ?_
      refine at_wv [_] dL_law_802 mX8_back ⟨Nat.le_of_ble_eq_true rfl, Nat.le_of_ble_eq_true rfl⟩ lL_112 iX8_back rfl rfl h64' (by omega) rfl (Nat.le_of_ble_eq_true rfl) (Nat.le_of_ble_eq_true rfl) ⟨rfl, rfl⟩ (kc) ⟨rfl, rfl⟩ ?_
      try dsimp only [Option.toList, List.cons_append, List.nil_append]
      refine at_ieq 833 dL_law_805 (by decide) (fun _ => ?_) (fun cz_ => absurd (rfl) cz_)
      have fin := lwS_of e1 e2 hsc hag hC1 iv iu ra
      rw [← hM1] at fin
      exact kk _ fin
set_option maxRecDepth 100000 in
theorem lw_count (hL : L ≤ 2048) (hi : i + 4 ≤ L) (hls : lwS L xs g) (kk : ∀ h, lwS L xs h → sg_A ML_law 833 [some (.ref 1020), some (.ref 0), some (.ref 64), some (.int (nI i))] [] h Q) : sg_A ML_law 810 [some (.ref 1020), some (.ref 0), some (.ref 64), some (.int (nI i))] [] g Q := by
  obtain ⟨v, t, n, fl, ib, u, A, F, e1, e2, hC, iv, iu, hM, ra, hsc⟩ := hls
  have hn : 72 ≤ g.1 := by omega
  have w := iv.1.1.1
  have wp := iv.1.1.2.1
  have wt := iv.1.1.2.2
  have h0 := hC.2.1
  obtain ⟨tc, sd, h0⟩ := h0
  have h64 := sg_mv hM hn
  have kc := c_count (h := g) (vf_upd A 0 (fun k => nI (v k))) F hn (ib 0) (ib 1) n (by rw [vu_n _ _ _ _ (by decide)]; exact ra.2.2.2.1 0 (by decide)) (by rw [vu_n _ _ _ _ (by decide)]; exact ra.2.2.2.1 1 (by decide)) ra.1 (xs (i + 1))
  rw [show mh g (vf_upd A 0 (fun k => nI (v k))) F = g from hM.symm] at kc
  refine at_ld (i := 1) dL_law_810 rfl rfl rfl ?_
  refine at_ld (i := 0) dL_law_811 rfl rfl rfl ?_
  refine at_ld (i := 3) dL_law_812 rfl rfl rfl ?_
  refine at_k (nI 1) dL_law_813 rfl (by decide) ?_
  refine at_bin dL_law_814 rfl ?_
  refine at_ald (i + 1) dL_law_815 hsc (nI_add i 1) (by omega) (by omega) ?_
  refine at_rv [_] dL_law_816 mX7_count ⟨Nat.le_of_ble_eq_true rfl, Nat.le_of_ble_eq_true rfl⟩ lL_113 iX7_count rfl rfl h0 (by omega) rfl (Nat.le_of_ble_eq_true rfl) (Nat.le_of_ble_eq_true rfl) ⟨rfl, rfl⟩ (x_count hC (xs (i + 1))) ?_
  refine at_ld (i := 2) dL_law_819 rfl rfl rfl ?_
  refine at_ld (i := 0) dL_law_820 rfl rfl rfl ?_
  refine at_ld (i := 3) dL_law_821 rfl rfl rfl ?_
  refine at_k (nI 1) dL_law_822 rfl (by decide) ?_
  refine at_bin dL_law_823 rfl ?_
  refine at_ald (i + 1) dL_law_824 hsc (nI_add i 1) (by omega) (by omega) ?_
  refine at_rv [_] dL_law_825 mX8_count ⟨Nat.le_of_ble_eq_true rfl, Nat.le_of_ble_eq_true rfl⟩ lL_116 iX8_count rfl rfl h64 (by omega) rfl (Nat.le_of_ble_eq_true rfl) (Nat.le_of_ble_eq_true rfl) ⟨rfl, rfl⟩ (kc) ?_
  refine at_ieq 833 dL_law_828 (by decide) (fun _ => ?_) (fun cz_ => absurd (rfl) cz_)
  exact kk g ⟨v, t, n, fl, ib, u, A, F, e1, e2, hC, iv, iu, hM, ra, hsc⟩
end LW
