/-! THE LAW: round and round, and from the start -/
theorem at_to {g h : sg_H} (hn : g.1 ≤ h.1) {j : Nat} {e : sg_E} (he : h.2.2 j = g.2.2 j) (ha : sg_at g j e) : sg_at h j e := ⟨ha.1.imp (fun q => Nat.lt_of_lt_of_le q hn) id, he.trans ha.2⟩
theorem CS_to {g h : sg_H} {v t : Nat → Nat} {n fl : Nat} {ib : Nat → Bool} {u : Nat → Nat → Nat} (hn : g.1 ≤ h.1) (he : ∀ j, j < 64 ∨ 1000 ≤ j → h.2.2 j = g.2.2 j) (hC : CS g v t n fl ib u) : CS h v t n fl ib u := by
  have hA : ∀ {j : Nat} {e : sg_E}, j < 64 ∨ 1000 ≤ j → sg_at g j e → sg_at h j e := fun hj ha => at_to hn (he _ hj) ha
  have hV : ∀ {a : Nat} {w : Nat → Nat}, a ≤ 51 → VV g a w → VV h a w := by
    intro a w hw hv
    obtain ⟨b, d, K, e, hb, hR⟩ := hv
    exact ⟨b, d, K, vo2_self (fun o ho => by rw [he _ (by omega)]; exact vo2_c e ho), hb, hR⟩
  have hX : ∀ {a : Nat}, a ≤ 51 → VX g a → VX h a := by
    intro a hw hv
    obtain ⟨L, b, d, K, e, m, q⟩ := hv
    exact ⟨L, b, d, K, e, m, vo2_self (fun o ho => by rw [he _ (by omega)]; exact vo2_c q ho)⟩
  have hD : ∀ {a D : Nat}, D ≤ 51 → DE g a D → DE h a D := by
    intro a D hw hv
    obtain ⟨q1, q2, ⟨y, q3⟩, q4, q5⟩ := hv
    exact ⟨hA (by omega) q1, hA (by omega) q2, ⟨y, hA (by omega) q3⟩, q4, q5⟩
  obtain ⟨c0, ⟨tc, sd, c1⟩, c2, c3, ⟨p1, ⟨B, p2, p3⟩, p4⟩, ⟨N, lk, f, fp, nx, ts, tp, tv, c5⟩, c6, c7, ⟨E, c8⟩, ⟨c9, c10⟩, c11, c12, ⟨⟨f1, a1, b1⟩, ⟨f2, a2, b2⟩, f3, a3, b3⟩⟩ := hC
  obtain ⟨r1, r2⟩ := RX_c c5
  exact ⟨Nat.le_trans c0 hn, ⟨tc, sd, hA (by omega) c1⟩, hV (by omega) c2, hD (by omega) c3, ⟨hA (by omega) p1, ⟨B, hA (by omega) p2, p3⟩, p4⟩, ⟨N, lk, f, fp, nx, ts, tp, tv, RX_self (by rw [he _ (by omega)]; exact r1) (by rw [he _ (by omega)]; exact r2)⟩, hX (by omega) c6, hD (by omega) c7, ⟨E, hA (by omega) c8⟩, ⟨hX (by omega) c9, hX (by omega) c10⟩, fun q => hV (by omega) (c11 q), fun q => hV (by omega) (c12 q), ⟨⟨f1, hA (by omega) a1, b1⟩, ⟨f2, hA (by omega) a2, b2⟩, f3, hA (by omega) a3, b3⟩⟩
theorem ov_nil (p z : Nat) (C : Nat → sg_E) : OV p z C [] = (p, z, C) := by
  refine Prod.ext rfl (Prod.ext rfl ?_)
  funext j
  show ovr C p [] j = C j
  unfold ovr
  split <;> rfl
theorem sg_Ast {M : sg_M} {pc : Nat} {ls : sg_L} {st st2 : List Value} {h : sg_H} {Q : Option Value → sg_H → Prop} (e : st = st2) (k : sg_A M pc ls st2 h Q) : sg_A M pc ls st h Q := e ▸ k
section LP
variable {L : Nat} {xs : Nat → Int32}
def lwQ (r : Option Value) (h : sg_H) : Prop := r = some (.int 1) ∧ h.1 = 72 ∧ h.2.1 = 4859
set_option maxRecDepth 100000 in
set_option maxHeartbeats 4000000 in
theorem law_loop (hL : L ≤ 2048) : ∀ (m i : Nat) (g : sg_H), L + 4 ≤ m + i → i ≤ L + 3 → lwS L xs g → sg_A ML_law 18 [some (.ref 1020), some (.ref 0), some (.ref 64), some (.int (nI i))] [] g lwQ
  | 0, i, g, h1, h2, _ => by omega
  | m + 1, i, g, h1, h2, hls => by
    have hsc : sg_at g 1020 (.inl (false, L, xs)) := by
      obtain ⟨v, t, n, fl, ib, u, A, F, -, -, -, -, -, -, -, hsc⟩ := hls
      exact hsc
    have e1 : g.1 = 72 := by
      obtain ⟨v, t, n, fl, ib, u, A, F, q, -⟩ := hls
      exact q
    have e2 : g.2.1 = 4859 := by
      obtain ⟨v, t, n, fl, ib, u, A, F, -, q, -⟩ := hls
      exact q
    refine at_ld (i := 3) dL_law_18 rfl rfl rfl ?_
    refine at_ld (i := 0) dL_law_19 rfl rfl rfl ?_
    refine at_alen dL_law_20 hsc ?_
    refine at_k (nI 4) dL_law_21 rfl (by decide) ?_
    refine at_bin dL_law_22 rfl ?_
    refine at_igt 839 dL_law_23 (by decide) (fun c => ?_) (fun c => ?_)
    · refine at_k (nI 1) dL_law_839 rfl (by decide) ?_
      refine at_ret dL_law_840 rfl rfl ?_
      exact ⟨rfl, e1, e2⟩
    · have hi : i + 4 ≤ L := (nI_subge (by omega) (by decide) (by omega)).mp (Int32.not_lt.mp c)
      have kk : ∀ h, lwS L xs h → sg_A ML_law 833 [some (.ref 1020), some (.ref 0), some (.ref 64), some (.int (nI i))] [] h lwQ := by
        intro h hh
        refine at_iinc (nI 4) dL_law_833 rfl rfl (by decide) ?_
        try dsimp only [List.set_cons_succ, List.set_cons_zero]
        refine at_goto 18 dL_law_836 (by decide) ?_
        rw [nI_add]
        exact law_loop hL m (i + 4) h (by omega) (by omega) hh
      refine at_ld (i := 0) dL_law_26 rfl rfl rfl ?_
      refine at_ld (i := 3) dL_law_27 rfl rfl rfl ?_
      refine at_ald i dL_law_28 hsc rfl (by omega) (by omega) ?_
      refine at_k (nI 31) dL_law_29 rfl (by decide) ?_
      refine at_bin dL_law_31 rfl ?_
      obtain ⟨j, hj, e⟩ := pk_andE (xs i) (m := nI 31) 5 (by decide)
      refine sg_Ast (congrArg (fun q => [Value.int q]) e) ?_
      rcases Nat.lt_or_ge j 25 with q | q
      · rcases (show j = 0 ∨ j = 1 ∨ j = 2 ∨ j = 3 ∨ j = 4 ∨ j = 5 ∨ j = 6 ∨ j = 7 ∨ j = 8 ∨ j = 9 ∨ j = 10 ∨ j = 11 ∨ j = 12 ∨ j = 13 ∨ j = 14 ∨ j = 15 ∨ j = 16 ∨ j = 17 ∨ j = 18 ∨ j = 19 ∨ j = 20 ∨ j = 21 ∨ j = 22 ∨ j = 23 ∨ j = 24 by omega) with rfl | rfl | rfl | rfl | rfl | rfl | rfl | rfl | rfl | rfl | rfl | rfl | rfl | rfl | rfl | rfl | rfl | rfl | rfl | rfl | rfl | rfl | rfl | rfl | rfl
        · exact at_tin 148 dL_law_32 (by decide) (by decide) rfl (by decide) (lw_feed hL hi hls kk)
        · exact at_tin 171 dL_law_32 (by decide) (by decide) rfl (by decide) (lw_end hL hi hls kk)
        · exact at_tin 194 dL_law_32 (by decide) (by decide) rfl (by decide) (lw_text hL hi hls kk)
        · exact at_tin 207 dL_law_32 (by decide) (by decide) rfl (by decide) (lw_fault hL hi hls kk)
        · exact at_tin 220 dL_law_32 (by decide) (by decide) rfl (by decide) (lw_rule hL hi hls kk)
        · exact at_tin 243 dL_law_32 (by decide) (by decide) rfl (by decide) (lw_group hL hi hls kk)
        · exact at_tin 276 dL_law_32 (by decide) (by decide) rfl (by decide) (lw_inode hL hi hls kk)
        · exact at_tin 309 dL_law_32 (by decide) (by decide) rfl (by decide) (lw_block hL hi hls kk)
        · exact at_tin 342 dL_law_32 (by decide) (by decide) rfl (by decide) (lw_fragment hL hi hls kk)
        · exact at_tin 375 dL_law_32 (by decide) (by decide) rfl (by decide) (lw_find hL hi hls kk)
        · exact at_tin 408 dL_law_32 (by decide) (by decide) rfl (by decide) (lw_entry hL hi hls kk)
        · exact at_tin 441 dL_law_32 (by decide) (by decide) rfl (by decide) (lw_where hL hi hls kk)
        · exact at_tin 474 dL_law_32 (by decide) (by decide) rfl (by decide) (lw_make hL hi hls kk)
        · exact at_tin 517 dL_law_32 (by decide) (by decide) rfl (by decide) (lw_grow hL hi hls kk)
        · exact at_tin 550 dL_law_32 (by decide) (by decide) rfl (by decide) (lw_shrink hL hi hls kk)
        · exact at_tin 583 dL_law_32 (by decide) (by decide) rfl (by decide) (lw_remove hL hi hls kk)
        · exact at_tin 606 dL_law_32 (by decide) (by decide) rfl (by decide) (lw_move hL hi hls kk)
        · exact at_tin 649 dL_law_32 (by decide) (by decide) rfl (by decide) (lw_gather hL hi hls kk)
        · exact at_tin 672 dL_law_32 (by decide) (by decide) rfl (by decide) (lw_draw hL hi hls kk)
        · exact at_tin 705 dL_law_32 (by decide) (by decide) rfl (by decide) (lw_flip hL hi hls kk)
        · exact at_tin 728 dL_law_32 (by decide) (by decide) rfl (by decide) (lw_check hL hi hls kk)
        · exact at_tin 751 dL_law_32 (by decide) (by decide) rfl (by decide) (lw_mend hL hi hls kk)
        · exact at_tin 764 dL_law_32 (by decide) (by decide) rfl (by decide) (lw_keep hL hi hls kk)
        · exact at_tin 787 dL_law_32 (by decide) (by decide) rfl (by decide) (lw_back hL hi hls kk)
        · exact at_tin 810 dL_law_32 (by decide) (by decide) rfl (by decide) (lw_count hL hi hls kk)
      · rcases (show j = 25 ∨ j = 26 ∨ j = 27 ∨ j = 28 ∨ j = 29 ∨ j = 30 ∨ j = 31 by omega) with rfl | rfl | rfl | rfl | rfl | rfl | rfl <;> exact at_tout 833 dL_law_32 (Or.inr (by decide)) (by decide) (kk g hls)
set_option maxRecDepth 100000 in
set_option maxHeartbeats 4000000 in
theorem law_run {C : Nat → sg_E} (hS : SRc C) (hx : C 1020 = .inl (false, L, xs)) (hL : L ≤ 2048) : sg_K ML_law [.ref 1020] (0, 0, C) lwQ := by
  rw [← ov_nil]
  show sg_A ML_law 0 [some (.ref 1020), none, none, none] [] _ _
  refine at_ovnew (ci := 7) (rc := (RX7, TX7, 14)) (0) dL_law_0 rfl cL_7 xX7 zX7 tyX7_ok dfX7_ok rfl dfX7_cv (by omega) rfl ?_
  try dsimp only [List.cons_append, List.nil_append, List.set_cons_zero, List.set_cons_succ]
  refine at_dup dL_law_3 rfl ?_
  refine at_ci [] dL_law_4 mX7_init ⟨Nat.le_of_ble_eq_true rfl, Nat.le_of_ble_eq_true rfl⟩ lL_9 nX7_init rfl rfl rfl (Nat.le_of_ble_eq_true rfl) (Nat.le_of_ble_eq_true rfl) (x_init hS (fun _ => 0) (fun _ _ => 0)) ?_ ?_
  · rintro r h1 ⟨-, q1, q2, -⟩
    rw [q1, q2]
    exact ⟨rfl, rfl⟩
  · rintro r h1 ⟨rfl, q1, q2, hC, hf⟩
    try dsimp only [Option.toList, List.cons_append, List.nil_append]
    refine at_st (i := 1) dL_law_7 rfl rfl (Nat.le_of_ble_eq_true rfl) rfl ?_
    try dsimp only [List.set_cons_succ, List.set_cons_zero]
    have eh : h1 = OV 64 2121 h1.2.2 [] := by
      rw [ov_nil]
      exact Prod.ext q1 (Prod.ext q2 rfl)
    refine sg_Ah eh ?_
    refine at_ovnew (ci := 8) (rc := (RX8, TX8, 16)) (64) dL_law_8 rfl cL_10 xX8 zX8 tyX8_ok dfX8_ok rfl dfX8_cv (by omega) rfl ?_
    try dsimp only [List.cons_append, List.nil_append, List.set_cons_zero, List.set_cons_succ]
    refine at_dup dL_law_11 rfl ?_
    refine at_ci [] dL_law_12 mX8_init ⟨Nat.le_of_ble_eq_true rfl, Nat.le_of_ble_eq_true rfl⟩ lL_12 nX8_init rfl rfl rfl (Nat.le_of_ble_eq_true rfl) (Nat.le_of_ble_eq_true rfl) (i_X8) ?_ ?_
    · rintro r h2 ⟨-, rfl⟩
      exact ⟨rfl, rfl⟩
    · rintro r h2 ⟨rfl, rfl⟩
      try dsimp only [Option.toList, List.cons_append, List.nil_append]
      refine at_st (i := 2) dL_law_15 rfl rfl (Nat.le_of_ble_eq_true rfl) rfl ?_
      try dsimp only [List.set_cons_succ, List.set_cons_zero]
      refine at_k (nI 0) dL_law_16 rfl (by decide) ?_
      refine at_st (i := 3) dL_law_17 rfl rfl (Nat.le_of_ble_eq_true rfl) rfl ?_
      try dsimp only [List.set_cons_succ, List.set_cons_zero]
      refine law_loop (xs := xs) hL (L + 4) 0 _ (by omega) (by omega) ?_
      have hg := ag_mv (72, 4859, h1.2.2) (fun _ _ => 0) (fun _ => 0) (an1 V00)
      refine ⟨an1 V00, fun _ => 0, 0, 0, fun _ => false, fun _ _ => 0, fun _ _ => 0, fun _ => 0, rfl, rfl, CS_ag (CS_to (g := h1) (h := (72, 4859, h1.2.2)) (by rw [q1]; exact Nat.le_of_ble_eq_true rfl) (fun _ _ => rfl) hC) hg (fun j hj q => by have := q.1; omega) (fun j hj q => by have := q.2; omega), Inv_0, fun k hk q => (by cases q), (mv_mv _ _ _ _ _ _ _).symm, ⟨rfl, rfl, fun p hp => by omega, fun k hk => rfl, fun k hk q => by cases q⟩, ⟨Or.inr (by decide), ?_⟩⟩
      exact (hg.2.2 1020 (fun q => by have := q.2; omega)).trans ((hf 1020 (by decide)).trans hx)
end LP
