/-! THE CLASS ITSELF: the text -/
section T3
variable {g h : sg_H} {v t : Nat → Nat} {n fl : Nat} {ib : Nat → Bool} {u : Nat → Nat → Nat}
theorem CS_txt (hC : CS g v t n fl ib u) {f fp : Nat} (hx : TXF g h fl (ib 0) (ib 1) f fp) (tc sd : Int32) : CS (sg_up (sg_up h 17 (.inr (5, [.ref 18, .int (nI 0)]))) 0 (.inr (7, sgF tc f (ib 0) (ib 1) sd))) v t 0 f ib u ∧ ag in64 g (sg_up (sg_up h 17 (.inr (5, [.ref 18, .int (nI 0)]))) 0 (.inr (7, sgF tc f (ib 0) (ib 1) sd))) := by
  obtain ⟨a1, ⟨tc1, sd1, a2⟩, ⟨N, lk, p, ts, tp, tv, a3⟩, a4, a5, E', a6⟩ := hx
  obtain ⟨c0, ⟨tc2, sd2, c1⟩, c2, c3, c4, c5, c6, c7, ⟨E, c8⟩, ⟨c9, c10⟩, c11, c12, c13⟩ := hC
  have g1 := ag_up h 17 (.inr (5, [.ref 18, .int (nI 0)]))
  have g2 := ag_up (sg_up h 17 (.inr (5, [.ref 18, .int (nI 0)]))) 0 (.inr (7, sgF tc f (ib 0) (ib 1) sd))
  have gl : ag (fun j => j = 0 ∨ j = 17) h (sg_up (sg_up h 17 (.inr (5, [.ref 18, .int (nI 0)]))) 0 (.inr (7, sgF tc f (ib 0) (ib 1) sd))) := ag_t (ag_w g1 (fun j hj => Or.inr hj)) (ag_w g2 (fun j hj => Or.inl hj))
  have hg : ag (fun j => TXs j ∨ j = 17) g (sg_up (sg_up h 17 (.inr (5, [.ref 18, .int (nI 0)]))) 0 (.inr (7, sgF tc f (ib 0) (ib 1) sd))) := ag_t (ag_w a1 (fun j hj => Or.inl hj)) (ag_w gl (fun j hj => by rcases hj with z | z; exact Or.inl (Or.inl z); exact Or.inr z))
  have cT := TP_ag a1 c4 ⟨by unfold TXs; omega, by unfold TXs; omega⟩
  have cT2 := TP_17 cT (n' := 0) (Nat.zero_le _)
  refine ⟨⟨by rw [hg.1]; exact c0, ⟨tc, sd, up_e (up_n a2 _ (by decide)) _⟩, VV_ag hg c2 (fun o ho => by unfold TXs; omega), DE_ag hg c3 (fun o ho => by unfold TXs; omega), TP_ag g2 cT2 ⟨by omega, by omega⟩, ⟨N, lk, f, fp, p, ts, tp, tv, rd_ag gl a3 (by omega) (by omega)⟩, VX_ag gl a4 (fun o ho => by omega), DE_ag gl a5 (fun o ho => by omega), ⟨E', ag_at gl a6 (by omega)⟩, ⟨VX_ag hg c9 (fun o ho => by unfold TXs; omega), VX_ag hg c10 (fun o ho => by unfold TXs; omega)⟩, fun q => VV_ag hg (c11 q) (fun o ho => by unfold TXs; omega), fun q => VV_ag hg (c12 q) (fun o ho => by unfold TXs; omega), SR_ag hg c13 (fun j hj => by unfold TXs; omega)⟩, ag_w hg (fun j hj => by show j < 64; unfold TXs at hj; omega)⟩
/-- the volume becomes a copy of what stands at a2 -/
theorem CS_cp (hC : CS h v t n fl ib u) (a2 : Nat) (vk : Nat → Nat) (ha : a2 = 21 ∨ a2 = 38 ∨ a2 = 51) (hv : VV h a2 vk) (ivk : inv vk) : ∃ h1, sg_Kw MX6_copyFrom [.ref 1, .ref a2] h none h1 ∧ VS h 1 vk h1 := by
  obtain ⟨c0, -, ⟨b, d, K, eV, hb, hR⟩, -⟩ := hC
  obtain ⟨b4, d4, K4, e4, hb4, hR4⟩ := hv
  have hV4 : sg_at h a2 (.inr (6, [.ref (a2 + 1), .ref (a2 + 2), .ref (a2 + 4), .ref (a2 + 6), .int (nI (vk 6)), .int (nI (vk 7))])) := by rw [e4]; exact vo_V (by omega)
  have hF4 : FM h (a2 + 2) (a2 + 1) vk b4 := by rw [e4]; exact vo_F (by omega) (by omega)
  have hI4 : IN h (a2 + 6) (a2 + 1) vk K4 := by rw [e4]; exact vo_I (by omega) (by omega)
  have k1 := k_vcopy (g := h) (a := 1) (L := v) (b := b) (d := d) (K := K) (e := nI (v 6)) (m := nI (v 7)) (by omega) (by decide) hV4 hF4 hI4 (by omega)
  rw [← eV] at k1
  exact ⟨_, k1, _, _, _, rfl, mbq_cp hb4 _, iR_cp ivk.1.1 hR4⟩
theorem vu_67 {v : Nat → Nat} (h6 : v 6 = 0) (h7 : v 7 = 0) : vf_upd (vf_upd v 6 0) 7 0 = v := by
  funext j
  unfold vf_upd
  by_cases q : j = 7
  · rw [if_pos q, q, h7]
  · rw [if_neg q]
    by_cases q2 : j = 6
    · rw [if_pos q2, q2, h6]
    · rw [if_neg q2]
set_option maxRecDepth 100000 in
theorem x_txF (hC : CS g v t n fl ib u) {q : Nat × Nat} (hx : TXF g h fl (ib 0) (ib 1) q.1 q.2) (ht : txS t n v = .inl q) (z : Int32) (hz : z = 0) (y2 : Option Value) : sg_A MX7_text 94 [some (.ref 0), some (.int z), y2] [] h (fun r h' => r = some (.int (s_text t n v).1) ∧ CS h' (s_text t n v).2.1 t 0 (s_text t n v).2.2 (if (s_text t n v).2.2 = 0 then (fun _ => false) else ib) u ∧ ag in64 g h') := by
  have es : s_text t n v = (-10 - nI q.2, v, q.1) := by unfold s_text; rw [ht]
  have hnz := tx_nz ht
  rw [es]
  have hx0 := hx
  obtain ⟨a1, ⟨tc1, sd1, a2⟩, ⟨N, lk, p, ts, tp, tv, a3⟩, a4, a5, E', a6⟩ := hx
  have hh : 64 ≤ h.1 := by rw [a1.1]; exact hC.1
  have r19 : sg_at h 19 (.inr (4, rd_l lk q.1 q.2 p ts tp tv)) := by rw [a3]; exact rd_o hh
  have cT := TP_ag a1 hC.2.2.2.2.1 ⟨by unfold TXs; omega, by unfold TXs; omega⟩
  obtain ⟨f1, f2⟩ := CS_txt hC hx0 tc1 sd1
  refine at_ld (i := 0) dX7_text_94 rfl rfl rfl ?_
  refine at_get dX7_text_95 fX7_28 a2 (by omega) rfl ?_
  refine at_k (nI 0) dX7_text_98 rfl (by decide) ?_
  refine at_put dX7_text_99 fX7_68 ⟨_, _, rfl, Or.inl rfl, tyX5_ok 1 (by decide), fun _ => ⟨rfl, rfl⟩⟩ cT.1 (by omega) (Nat.le_of_ble_eq_true rfl) rfl ?_
  refine at_ld (i := 0) dX7_text_102 rfl rfl rfl ?_
  refine at_ld (i := 0) dX7_text_103 rfl rfl rfl ?_
  refine at_get dX7_text_104 fX7_37 (up_n a2 _ (by decide)) (by omega) rfl ?_
  refine at_get dX7_text_107 fX7_94 (up_n r19 _ (by decide)) (by omega) rfl ?_
  refine at_put dX7_text_110 fX7_97 ⟨_, _, rfl, Or.inl rfl, tyX7_ok 8 (by decide), fun _ => ⟨rfl, rfl⟩⟩ (up_n a2 _ (by decide)) (by omega) (Nat.le_of_ble_eq_true rfl) (show sg_up _ 0 _ = sg_up (sg_up h 17 (.inr (5, [.ref 18, .int (nI 0)]))) 0 (.inr (7, sgF tc1 q.1 (ib 0) (ib 1) sd1)) from rfl) ?_
  refine at_ld (i := 1) dX7_text_113 rfl rfl rfl ?_
  refine at_zne 128 dX7_text_114 (by decide) (fun cz_ => absurd cz_ (fun c => c hz)) (fun _ => ?_)
  refine at_k (-10) dX7_text_117 rfl (by decide) ?_
  refine at_ld (i := 0) dX7_text_119 rfl rfl rfl ?_
  refine at_get dX7_text_120 fX7_37 (up_e (up_n a2 _ (by decide)) _) (by omega) rfl ?_
  refine at_get dX7_text_123 fX7_100 (up_n (up_n r19 _ (by decide)) _ (by decide)) (by omega) rfl ?_
  refine at_bin dX7_text_126 rfl ?_
  refine at_ret dX7_text_127 rfl rfl ?_
  refine ⟨rfl, ?_, f2⟩
  show CS _ v t 0 q.1 (if q.1 = 0 then _ else ib) u
  rw [if_neg hnz]
  exact f1
set_option maxRecDepth 100000 in
theorem x_txT (hC : CS g v t n fl ib u) {sd : Int32} {vd : Nat → Nat} {N : Nat → Int32} {lk p ts tp : Nat} {tv : Int32} {dm : Nat} {E : Nat → Nat} (hx : TX g h fl (ib 0) (ib 1) sd vd N lk 0 0 p ts tp tv dm E) (hI : TI vd dm E) (ht : txS t n v = .inr vd) (z : Int32) (hz : ¬ z = 0) (y2 : Option Value) : sg_A MX7_text 94 [some (.ref 0), some (.int z), y2] [] h (fun r h' => r = some (.int (s_text t n v).1) ∧ CS h' (s_text t n v).2.1 t 0 (s_text t n v).2.2 (if (s_text t n v).2.2 = 0 then (fun _ => false) else ib) u ∧ ag in64 g h') := by
  have es : s_text t n v = (nI (nth vd), vd, 0) := by unfold s_text; rw [ht]; dsimp only; rw [vu_67 hI.2.2.1 hI.2.2.2.1]
  rw [es]
  have hxF := TX_F hx
  obtain ⟨a1, a2, a3, a4, a5, E', a6, a7⟩ := hx
  have hh : 64 ≤ h.1 := by rw [a1.1]; exact hC.1
  have r19 : sg_at h 19 (.inr (4, rd_l lk 0 0 p ts tp tv)) := by rw [a3]; exact rd_o hh
  have cT := TP_ag a1 hC.2.2.2.2.1 ⟨by unfold TXs; omega, by unfold TXs; omega⟩
  obtain ⟨f1, f2⟩ := CS_txt hC hxF (nI dm) sd
  have v21 : VV (sg_up (sg_up h 17 (.inr (5, [.ref 18, .int (nI 0)]))) 0 (.inr (7, sgF (nI dm) 0 (ib 0) (ib 1) sd))) 21 vd := VV_ag (ag_up _ _ _) (VV_ag (ag_up _ _ _) a4 (fun o ho => by omega)) (fun o ho => by omega)
  have z0 : sg_at (sg_up (sg_up h 17 (.inr (5, [.ref 18, .int (nI 0)]))) 0 (.inr (7, sgF (nI dm) 0 (ib 0) (ib 1) sd))) 0 (.inr (7, sgF (nI dm) 0 (ib 0) (ib 1) sd)) := up_e (up_n a2 _ (by decide)) _
  refine at_ld (i := 0) dX7_text_94 rfl rfl rfl ?_
  refine at_get dX7_text_95 fX7_28 a2 (by omega) rfl ?_
  refine at_k (nI 0) dX7_text_98 rfl (by decide) ?_
  refine at_put dX7_text_99 fX7_68 ⟨_, _, rfl, Or.inl rfl, tyX5_ok 1 (by decide), fun _ => ⟨rfl, rfl⟩⟩ cT.1 (by omega) (Nat.le_of_ble_eq_true rfl) rfl ?_
  refine at_ld (i := 0) dX7_text_102 rfl rfl rfl ?_
  refine at_ld (i := 0) dX7_text_103 rfl rfl rfl ?_
  refine at_get dX7_text_104 fX7_37 (up_n a2 _ (by decide)) (by omega) rfl ?_
  refine at_get dX7_text_107 fX7_94 (up_n r19 _ (by decide)) (by omega) rfl ?_
  refine at_put dX7_text_110 fX7_97 ⟨_, _, rfl, Or.inl rfl, tyX7_ok 8 (by decide), fun _ => ⟨rfl, rfl⟩⟩ (up_n a2 _ (by decide)) (by omega) (Nat.le_of_ble_eq_true rfl) (show sg_up _ 0 _ = sg_up (sg_up h 17 (.inr (5, [.ref 18, .int (nI 0)]))) 0 (.inr (7, sgF (nI dm) 0 (ib 0) (ib 1) sd)) from rfl) ?_
  generalize sg_up (sg_up h 17 (.inr (5, [.ref 18, .int (nI 0)]))) 0 (.inr (7, sgF (nI dm) 0 (ib 0) (ib 1) sd)) = h6 at *
  obtain ⟨h7, k7, v7⟩ := CS_cp f1 21 vd (Or.inl rfl) v21 hI.1.1
  have z7 := ag_VS v7
  have hV6 : ∃ e m, sg_at h6 1 (.inr (6, [.ref (1 + 1), .ref (1 + 2), .ref (1 + 4), .ref (1 + 6), .int e, .int m])) := by
    obtain ⟨c0, -, ⟨b, d, K, eV, -, -⟩, -⟩ := f1
    exact ⟨_, _, by rw [eV]; exact vo_V (by omega)⟩
  obtain ⟨e6, m6, hV6⟩ := hV6
  refine at_ld (i := 1) dX7_text_113 rfl rfl rfl ?_
  refine at_zne 128 dX7_text_114 (by decide) (fun _ => ?_) (fun cz_ => absurd (hz) cz_)
  refine at_ld (i := 0) dX7_text_128 rfl rfl rfl ?_
  refine at_get dX7_text_129 fX7_10 z0 (by omega) rfl ?_
  refine at_ld (i := 0) dX7_text_132 rfl rfl rfl ?_
  refine at_get dX7_text_133 fX7_41 z0 (by omega) rfl ?_
  refine at_wv [_] dX7_text_136 mX6_copyFrom ⟨Nat.le_of_ble_eq_true rfl, Nat.le_of_ble_eq_true rfl⟩ lX7_103 iX6_copyFrom rfl rfl hV6 (by omega) rfl (Nat.le_of_ble_eq_true rfl) (Nat.le_of_ble_eq_true rfl) ⟨rfl, rfl⟩ k7 ⟨z7.1, z7.2.1⟩ ?_
  try dsimp only [Option.toList, List.cons_append, List.nil_append]
  have f7 := CS_v f1 v7
  have y0 : sg_at h7 0 (.inr (7, sgF (nI dm) 0 (ib 0) (ib 1) sd)) := ag_at z7 z0 (by omega)
  have f8 := CS_0 f7 (nI dm) sd 0 (fun _ => false) u (fun q => by cases q) (fun q => by cases q)
  refine at_ld (i := 0) dX7_text_139 rfl rfl rfl ?_
  refine at_k (nI 0) dX7_text_140 rfl (by decide) ?_
  refine at_put dX7_text_141 fX7_106 ⟨_, _, rfl, Or.inl rfl, tyX7_ok 11 (by decide), fun _ => ⟨rfl, rfl⟩⟩ y0 (by omega) (Nat.le_of_ble_eq_true rfl) (show sg_up h7 0 _ = sg_up h7 0 (.inr (7, sgF (nI dm) 0 false (ib 1) sd)) from rfl) ?_
  refine at_ld (i := 0) dX7_text_144 rfl rfl rfl ?_
  refine at_k (nI 0) dX7_text_145 rfl (by decide) ?_
  refine at_put dX7_text_146 fX7_110 ⟨_, _, rfl, Or.inl rfl, tyX7_ok 12 (by decide), fun _ => ⟨rfl, rfl⟩⟩ (up_e y0 _) (by omega) (Nat.le_of_ble_eq_true rfl) (show sg_up (sg_up h7 0 _) 0 _ = sg_up (sg_up h7 0 (.inr (7, sgF (nI dm) 0 false (ib 1) sd))) 0 (.inr (7, sgF (nI dm) 0 false false sd)) from rfl) ?_
  rw [up_up]
  have a8 : ag in64 g (sg_up h7 0 (.inr (7, sgF (nI dm) 0 false false sd))) := ag_t f2 (ag_t (ag_v v7) (ag_w (ag_up _ _ _) (fun j hj => by show j < 64; omega)))
  have f8' : CS (sg_up h7 0 (.inr (7, sgF (nI dm) 0 false false sd))) vd t 0 0 (fun _ => false) u := f8
  have x0 : sg_at (sg_up h7 0 (.inr (7, sgF (nI dm) 0 false false sd))) 0 (.inr (7, sgF (nI dm) 0 false false sd)) := up_e y0 _
  generalize sg_up h7 0 (.inr (7, sgF (nI dm) 0 false false sd)) = h8 at *
  have f9 := f8'
  obtain ⟨c0, -, ⟨b, d, K, eV, hb, hR⟩, -⟩ := f8'
  have hV8 : sg_at h8 1 (.inr (6, [.ref (1 + 1), .ref (1 + 2), .ref (1 + 4), .ref (1 + 6), .int (nI (vd 6)), .int (nI (vd 7))])) := by rw [eV]; exact vo_V (by omega)
  have hI8 : IN h8 (1 + 6) (1 + 1) vd K := by rw [eV]; exact vo_I (by omega) (by decide)
  refine at_ld (i := 0) dX7_text_149 rfl rfl rfl ?_
  refine at_get dX7_text_150 fX7_10 x0 (by omega) rfl ?_
  refine at_get dX7_text_153 fX7_113 hV8 (by omega) rfl ?_
  refine at_rv [] dX7_text_156 mX2_howManyAreThere ⟨Nat.le_of_ble_eq_true rfl, Nat.le_of_ble_eq_true rfl⟩ lX7_117 iX2_howManyAreThere rfl rfl hI8.1 (by omega) rfl (Nat.le_of_ble_eq_true rfl) (Nat.le_of_ble_eq_true rfl) ⟨rfl, rfl⟩ (k_howManyAreThere hI8 hR hI.1.1.1.1) ?_
  refine at_ret dX7_text_159 rfl rfl ?_
  exact ⟨rfl, f9, a8⟩
set_option maxRecDepth 100000 in
theorem x_txLoop (hC : CS g v t n fl ib u) (sd : Int32) : ∀ f k vd p dm E N lk ts tp tv h (z : Int32), n < p + f → k < p → p ≤ n → TX g h fl (ib 0) (ib 1) sd vd N lk 0 0 p ts tp tv dm E → TI vd dm E → txS t n v = lpS t n f vd p dm E → ¬ z = 0 → sg_A MX7_text 40 [some (.ref 0), some (.int z), some (.int (nI k))] [] h (fun r h' => r = some (.int (s_text t n v).1) ∧ CS h' (s_text t n v).2.1 t 0 (s_text t n v).2.2 (if (s_text t n v).2.2 = 0 then (fun _ => false) else ib) u ∧ ag in64 g h') := by
  have hn := hC.2.2.2.2.1.2.2.2
  intro f
  induction f with
  | zero => intro k vd p dm E N lk ts tp tv h z h1 h2 h3; omega
  | succ f ih =>
    intro k vd p dm E N lk ts tp tv h z h1 h2 h3 hx hI ht hz
    have hh : 64 ≤ h.1 := by rw [hx.1.1]; exact hC.1
    have hdm := TI_dm hI
    have cT := TP_ag hx.1 hC.2.2.2.2.1 ⟨by unfold TXs; omega, by unfold TXs; omega⟩
    have r19 : sg_at h 19 (.inr (4, rd_l lk 0 0 p ts tp tv)) := by rw [hx.2.2.1]; exact rd_o hh
    have km := k_hasMore (g := h) (N := N) (lk := lk) (f := 0) (fp := 0) (ts := ts) (tp := tp) (tv := tv) hh cT p h3
    rw [← hx.2.2.1] at km
    have hB := tB_le (t := t) h3
    have hBg := tB_gx t n p
    have hx2 := TX_rd hx N lk 0 0 (tB t n p) ts tp tv
    -- behind a line with a fault
    have out : ∀ (q : Nat × Nat) h', TXF g h' fl (ib 0) (ib 1) q.1 q.2 → txS t n v = .inl q → sg_A MX7_text 86 [some (.ref 0), some (.int z), some (.int (nI k))] [] h' (fun r h' => r = some (.int (s_text t n v).1) ∧ CS h' (s_text t n v).2.1 t 0 (s_text t n v).2.2 (if (s_text t n v).2.2 = 0 then (fun _ => false) else ib) u ∧ ag in64 g h') := by
      intro q h' hf he
      obtain ⟨tc1, sd1, a2⟩ := hf.2.1
      refine at_k (nI 0) dX7_text_86 rfl (by decide) ?_
      refine at_st (i := 1) dX7_text_87 rfl rfl (Nat.le_of_ble_eq_true rfl) rfl ?_
      try dsimp only [List.set_cons_succ, List.set_cons_zero]
      refine at_iinc (nI 1) dX7_text_88 rfl rfl (by decide) ?_
      try dsimp only [List.set_cons_succ, List.set_cons_zero]
      refine at_goto 40 dX7_text_91 (by decide) ?_
      refine at_ld (i := 1) dX7_text_40 rfl rfl rfl ?_
      refine at_zeq 94 dX7_text_41 (by decide) (fun _ => ?_) (fun cz_ => absurd (rfl) cz_)
      exact x_txF hC hf he _ rfl _
    rw [lpS_s] at ht
    refine at_ld (i := 1) dX7_text_40 rfl rfl rfl ?_
    refine at_zeq 94 dX7_text_41 (by decide) (fun cz_ => absurd cz_ (hz)) (fun _ => ?_)
    refine at_ld (i := 2) dX7_text_44 rfl rfl rfl ?_
    refine at_k (nI 200) dX7_text_45 rfl (by decide) ?_
    refine at_ige 94 dX7_text_48 (by decide) (fun cz_ => absurd cz_ (nI_ge (show k < 200 by omega) (by decide))) (fun _ => ?_)
    refine at_ld (i := 0) dX7_text_51 rfl rfl rfl ?_
    refine at_get dX7_text_52 fX7_37 hx.2.1 (by omega) rfl ?_
    refine at_wv [] dX7_text_55 mX4_hasMore ⟨Nat.le_of_ble_eq_true rfl, Nat.le_of_ble_eq_true rfl⟩ lX7_85 iX4_hasMore rfl rfl r19 (by omega) rfl (Nat.le_of_ble_eq_true rfl) (Nat.le_of_ble_eq_true rfl) ⟨rfl, rfl⟩ (km) ⟨rfl, rfl⟩ ?_
    try dsimp only [Option.toList, List.cons_append, List.nil_append]
    by_cases hmo : tB t n p < n
    · refine at_zeq 94 dX7_text_58 (by decide) (fun cz_ => absurd cz_ (by rw [decide_eq_true hmo]; decide)) (fun _ => ?_)
      rw [if_neg (by omega)] at ht
      have kl := k_readLine (g := h) (N := N) (lk := lk) (f := 0) (fp := 0) (ts := ts) (tp := tp) (tv := tv) hh cT (tB t n p) hB dm (by omega)
      rw [ln_tB h3 hn] at kl
      have r19b : sg_at (rd h N lk 0 0 (tB t n p) ts tp tv) 19 (.inr (4, rd_l lk 0 0 (tB t n p) ts tp tv)) := rd_o hh
      refine at_ld (i := 0) dX7_text_61 rfl rfl rfl ?_
      refine at_get dX7_text_62 fX7_37 hx2.2.1 (by omega) rfl ?_
      refine at_ld (i := 0) dX7_text_65 rfl rfl rfl ?_
      refine at_get dX7_text_66 fX7_82 hx2.2.1 (by omega) rfl ?_
      refine at_cv [_] dX7_text_69 mX4_readLine ⟨Nat.le_of_ble_eq_true rfl, Nat.le_of_ble_eq_true rfl⟩ lX7_88 iX4_readLine rfl rfl r19b (by omega) rfl (Nat.le_of_ble_eq_true rfl) (Nat.le_of_ble_eq_true rfl) (kl) ?_ ?_
      · intro r h' hq
        unfold lnQ at hq
        split at hq
        · obtain ⟨-, N', lk', x, y, z, w, rfl⟩ := hq; exact ⟨rfl, rfl⟩
        · obtain ⟨-, N', w, rfl, -⟩ := hq; exact ⟨rfl, rfl⟩
      · intro r h' hq
        cases hl : lnS t n dm p with
        | inl q =>
          rw [hl] at hq ht
          obtain ⟨rfl, N', lk', x, y, z', w, rfl⟩ := hq
          try dsimp only [Option.toList, List.cons_append, List.nil_append]
          refine at_zeq 86 dX7_text_72 (by decide) (fun _ => ?_) (fun cz_ => absurd (rfl) cz_)
          exact out q _ (TX_F (TX_rd hx N' lk' q.1 q.2 x y z' w)) ht
        | inr q =>
          rw [hl] at hq ht
          obtain ⟨rfl, N', w, rfl, n0, n1, n2⟩ := hq
          try dsimp only [Option.toList, List.cons_append, List.nil_append]
          dsimp only at ht
          obtain ⟨l1, l2, l3, l4, l5⟩ := ln_in h3 hl
          have hadv := ln_adv hl
          have hx3 := TX_rd hx N' q.1 0 0 q.2.2.2.2.2 3 q.2.2.2.2.1 w
          have kt := k_tellLine hx3 hC.1 hI q.2.1 q.2.2.1 q.2.2.2.1 l2 l3 l4 l1 n0 n1 n2
          refine at_zeq 86 dX7_text_72 (by decide) (fun cz_ => absurd cz_ (show ¬ bI true = 0 by decide)) (fun _ => ?_)
          refine at_ld (i := 0) dX7_text_75 rfl rfl rfl ?_
          refine at_cv [] dX7_text_76 mX7_tellLine ⟨Nat.le_of_ble_eq_true rfl, Nat.le_of_ble_eq_true rfl⟩ lX7_91 iX7_tellLine rfl rfl hx3.2.1 (by omega) rfl (Nat.le_of_ble_eq_true rfl) (Nat.le_of_ble_eq_true rfl) (kt) ?_ ?_
          · intro r h' hq
            split at hq
            · exact ⟨hq.2.1.1.trans hx3.1.1.symm, hq.2.1.2.1.trans hx3.1.2.1.symm⟩
            · split at hq
              · exact ⟨hq.2.1.1.trans hx3.1.1.symm, hq.2.1.2.1.trans hx3.1.2.1.symm⟩
              · exact ⟨hq.2.1.1.trans hx3.1.1.symm, hq.2.1.2.1.trans hx3.1.2.1.symm⟩
          · intro r h' hq
            by_cases hin : (ino vd (pnt E q.2.1) q.2.2.1).isSome = true
            · rw [if_pos hin] at hq ht
              obtain ⟨rfl, hf⟩ := hq
              try dsimp only [Option.toList, List.cons_append, List.nil_append]
              refine at_zeq 86 dX7_text_79 (by decide) (fun _ => ?_) (fun cz_ => absurd (rfl) cz_)
              exact out (4, q.2.2.2.2.1) _ hf ht
            · rw [if_neg hin] at hq ht
              cases hc : cmS vd (pnt E q.2.1) q.2.2.1 q.1 q.2.2.2.1 with
              | none =>
                rw [hc] at hq ht
                obtain ⟨rfl, hf⟩ := hq
                try dsimp only [Option.toList, List.cons_append, List.nil_append]
                refine at_zeq 86 dX7_text_79 (by decide) (fun _ => ?_) (fun cz_ => absurd (rfl) cz_)
                exact out (5, q.2.2.2.2.1) _ hf ht
              | some m =>
                rw [hc] at hq ht
                obtain ⟨rfl, hx4⟩ := hq
                try dsimp only [Option.toList, List.cons_append, List.nil_append]
                refine at_zeq 86 dX7_text_79 (by decide) (fun cz_ => absurd cz_ (show ¬ bI true = 0 by decide)) (fun _ => ?_)
                refine at_k (nI 1) dX7_text_82 rfl (by decide) ?_
                refine at_goto 87 dX7_text_83 (by decide) ?_
                refine at_st (i := 1) dX7_text_87 rfl rfl (Nat.le_of_ble_eq_true rfl) rfl ?_
                try dsimp only [List.set_cons_succ, List.set_cons_zero]
                refine at_iinc (nI 1) dX7_text_88 rfl rfl (by decide) ?_
                try dsimp only [List.set_cons_succ, List.set_cons_zero]
                refine at_goto 40 dX7_text_91 (by decide) ?_
                rw [nI_add]
                exact ih (k + 1) _ _ _ _ _ _ _ _ _ _ (nI 1) (by omega) (by omega) l5 hx4 (TI_step hI l2 l3 l1 hc) ht (by decide)
    · refine at_zeq 94 dX7_text_58 (by decide) (fun _ => ?_) (fun cz_ => absurd (by rw [decide_eq_false hmo]; rfl) cz_)
      rw [if_pos (by omega)] at ht
      exact x_txT hC hx2 hI ht z hz _
set_option maxRecDepth 100000 in
theorem x_text (hC : CS g v t n fl ib u) (hv : tdy v) : sg_K MX7_text [.ref 0] g (fun r h' => r = some (.int (s_text t n v).1) ∧ CS h' (s_text t n v).2.1 t 0 (s_text t n v).2.2 (if (s_text t n v).2.2 = 0 then (fun _ => false) else ib) u ∧ ag in64 g h') := by
  have hC0 := hC
  obtain ⟨c0, ⟨tc, sd, h0⟩, c2, c3, hT, ⟨N, lk, f, fp, nx, ts, tp, tv, eR⟩, ⟨L2, b2, d2, K2, e2, m2, c6⟩, c7, ⟨E, c8⟩, -, -, -, c13⟩ := hC
  have r19 : sg_at g 19 (.inr (4, rd_l lk f fp nx ts tp tv)) := by rw [eR]; exact rd_o c0
  have kr := k_rewind (g := g) (N := N) (lk := lk) (f := f) (fp := fp) (nx := nx) (ts := ts) (tp := tp) (tv := tv) c0
  rw [← eR] at kr
  have kk := k_readRules (N := N) (lk := lk) (f := 0) (fp := 0) (ts := ts) (tp := tp) (tv := tv) c0 hT c13
  have r19b : sg_at (rd g N lk 0 0 0 ts tp tv) 19 (.inr (4, rd_l lk 0 0 0 ts tp tv)) := rd_o c0
  have agr : ∀ N lk f fp p ts tp tv, ag TXs g (rd g N lk f fp p ts tp tv) := fun N lk f fp p ts tp tv => ag_w (ag_rd g N lk f fp p ts tp tv) (fun j hj => by rcases hj with z | z; exact Or.inr (Or.inl z); exact Or.inr (Or.inr (Or.inl z)))
  show sg_A MX7_text 0 [some (.ref 0), none, none] [] _ _
  refine at_ld (i := 0) dX7_text_0 rfl rfl rfl ?_
  refine at_get dX7_text_1 fX7_37 h0 (by omega) rfl ?_
  refine at_wv [] dX7_text_4 mX4_rewind ⟨Nat.le_of_ble_eq_true rfl, Nat.le_of_ble_eq_true rfl⟩ lX7_72 iX4_rewind rfl rfl r19 (by omega) rfl (Nat.le_of_ble_eq_true rfl) (Nat.le_of_ble_eq_true rfl) ⟨rfl, rfl⟩ (kr) ⟨rfl, rfl⟩ ?_
  try dsimp only [Option.toList, List.cons_append, List.nil_append]
  refine at_ld (i := 0) dX7_text_7 rfl rfl rfl ?_
  refine at_get dX7_text_8 fX7_37 (rd_O h0 (by decide) (by decide)) (by omega) rfl ?_
  refine at_cv [] dX7_text_11 mX4_readRules ⟨Nat.le_of_ble_eq_true rfl, Nat.le_of_ble_eq_true rfl⟩ lX7_75 iX4_readRules rfl rfl r19b (by omega) rfl (Nat.le_of_ble_eq_true rfl) (Nat.le_of_ble_eq_true rfl) (kk) ?_ ?_
  · intro r h' hq
    split at hq
    · obtain ⟨-, N', x, y, z, w, rfl⟩ := hq; exact ⟨rfl, rfl⟩
    · obtain ⟨-, N', y, z, w, rfl, -⟩ := hq; exact ⟨rfl, rfl⟩
  · intro r h' hq
    cases hl : vlS t n 0 with
    | inl q =>
      rw [hl] at hq
      obtain ⟨rfl, N', x, y, z, w, rfl⟩ := hq
      try dsimp only [Option.toList, List.cons_append, List.nil_append]
      have hf : TXF g (rd g N' lk q.1 q.2 x y z w) fl (ib 0) (ib 1) q.1 q.2 := by
        have hg := ag_rd g N' lk q.1 q.2 x y z w
        exact ⟨agr _ _ _ _ _ _ _ _, ⟨tc, sd, ag_at hg h0 (by unfold in1920; omega)⟩, ⟨N', lk, x, y, z, w, (rd_rd _ _ _ _ _ _ _ _ _ _ _ _ _ _ _ _ _).symm⟩, VX_ag hg ⟨L2, b2, d2, K2, e2, m2, c6⟩ (fun o ho => by unfold in1920; omega), DE_ag hg c7 (fun o ho => by unfold in1920; omega), E, ag_at hg c8 (by unfold in1920; omega)⟩
      have ht : txS t n v = .inl q := by unfold txS; rw [hl]
      refine at_st (i := 1) dX7_text_14 rfl rfl (Nat.le_of_ble_eq_true rfl) rfl ?_
      try dsimp only [List.set_cons_succ, List.set_cons_zero]
      refine at_ld (i := 1) dX7_text_15 rfl rfl rfl ?_
      refine at_zeq 38 dX7_text_16 (by decide) (fun _ => ?_) (fun cz_ => absurd (rfl) cz_)
      refine at_k (nI 0) dX7_text_38 rfl (by decide) ?_
      refine at_st (i := 2) dX7_text_39 rfl rfl (Nat.le_of_ble_eq_true rfl) rfl ?_
      try dsimp only [List.set_cons_succ, List.set_cons_zero]
      refine at_ld (i := 1) dX7_text_40 rfl rfl rfl ?_
      refine at_zeq 94 dX7_text_41 (by decide) (fun _ => ?_) (fun cz_ => absurd (rfl) cz_)
      exact x_txF hC0 hf ht _ rfl _
    | inr q =>
      rw [hl] at hq
      obtain ⟨rfl, N', y, z, w, rfl, n0, n1, n2, n3, n4, n5⟩ := hq
      try dsimp only [Option.toList, List.cons_append, List.nil_append]
      obtain ⟨wg, hI⟩ := TI_vl hv hl (fun _ => 0)
      obtain ⟨p1, p2⟩ := vl_in2 (Nat.zero_le n) hl
      have hg := ag_rd g N' lk 0 0 q.2 y z w
      have c6' : VX (rd g N' lk 0 0 q.2 y z w) 21 := VX_ag hg ⟨L2, b2, d2, K2, e2, m2, c6⟩ (fun o ho => by unfold in1920; omega)
      have ht : txS t n v = lpS t n 201 (an1 (v6 v q.1.1 q.1.2.1 q.1.2.2.1 q.1.2.2.2.1 q.1.2.2.2.2.1 q.1.2.2.2.2.2)) q.2 0 (fun _ => 0) := by unfold txS; rw [hl]
      have hfv : ∀ k, k < 6 → N' k = nI (v6 v q.1.1 q.1.2.1 q.1.2.2.1 q.1.2.2.2.1 q.1.2.2.2.2.1 q.1.2.2.2.2.2 k) := by
        intro k hk
        rcases (show k = 0 ∨ k = 1 ∨ k = 2 ∨ k = 3 ∨ k = 4 ∨ k = 5 by omega) with rfl | rfl | rfl | rfl | rfl | rfl
        · exact n0
        · exact n1
        · exact n2
        · exact n3
        · exact n4
        · exact n5
      generalize v6 v q.1.1 q.1.2.1 q.1.2.2.1 q.1.2.2.2.1 q.1.2.2.2.2.1 q.1.2.2.2.2.2 = V at *
      have h02 : sg_at (rd g N' lk 0 0 q.2 y z w) 0 (.inr (7, sgF tc fl (ib 0) (ib 1) sd)) := rd_O h0 (by decide) (by decide)
      have r19c : sg_at (rd g N' lk 0 0 q.2 y z w) 19 (.inr (4, rd_l lk 0 0 q.2 y z w)) := rd_o c0
      have r20c : sg_at (rd g N' lk 0 0 q.2 y z w) 20 (.inl (false, 6, N')) := rd_n c0
      have ag2 := agr N' lk 0 0 q.2 y z w
      have eR2 : rd g N' lk 0 0 q.2 y z w = rd (rd g N' lk 0 0 q.2 y z w) N' lk 0 0 q.2 y z w := (rd_rd _ _ _ _ _ _ _ _ _ _ _ _ _ _ _ _ _).symm
      have c7' := DE_ag hg c7 (fun o ho => by unfold in1920; omega)
      have c8' := ag_at hg c8 (by unfold in1920; omega)
      have cg : 64 ≤ (rd g N' lk 0 0 q.2 y z w).1 := c0
      generalize rd g N' lk 0 0 q.2 y z w = h2 at *
      obtain ⟨L3, b3, d3, K3, e3, m3, c9⟩ := c6'
      have ks := k_startAnew (g := h2) (a := 21) (L := L3) (b := b3) (d := d3) (K := K3) (e := e3) (m := m3) (v := V) (by omega) (by decide) wg 20 (by omega) N' r20c hfv
      rw [← c9] at ks
      have hV2 : sg_at h2 21 (.inr (6, [.ref (21 + 1), .ref (21 + 2), .ref (21 + 4), .ref (21 + 6), .int e3, .int m3])) := by rw [c9]; exact vo_V (by omega)
      refine at_st (i := 1) dX7_text_14 rfl rfl (Nat.le_of_ble_eq_true rfl) rfl ?_
      try dsimp only [List.set_cons_succ, List.set_cons_zero]
      refine at_ld (i := 1) dX7_text_15 rfl rfl rfl ?_
      refine at_zeq 38 dX7_text_16 (by decide) (fun cz_ => absurd cz_ (show ¬ bI true = 0 by decide)) (fun _ => ?_)
      refine at_ld (i := 0) dX7_text_19 rfl rfl rfl ?_
      refine at_get dX7_text_20 fX7_41 h02 (by omega) rfl ?_
      refine at_ld (i := 0) dX7_text_23 rfl rfl rfl ?_
      refine at_get dX7_text_24 fX7_37 h02 (by omega) rfl ?_
      refine at_get dX7_text_27 fX7_79 r19c (by omega) rfl ?_
      refine at_cv [_] dX7_text_30 mX6_startAnew ⟨Nat.le_of_ble_eq_true rfl, Nat.le_of_ble_eq_true rfl⟩ lX7_60 iX6_startAnew rfl rfl hV2 (by omega) rfl (Nat.le_of_ble_eq_true rfl) (Nat.le_of_ble_eq_true rfl) (ks) ?_ ?_
      · rintro r h' ⟨-, z⟩
        exact ⟨(ag_VS z).1, (ag_VS z).2.1⟩
      · rintro r h3 ⟨rfl, vs⟩
        try dsimp only [Option.toList, List.cons_append, List.nil_append]
        have g3 := ag_VS vs
        have h03 := ag_at g3 h02 (by omega)
        refine at_ld (i := 0) dX7_text_33 rfl rfl rfl ?_
        refine at_k (nI 0) dX7_text_34 rfl (by decide) ?_
        refine at_put dX7_text_35 fX7_82 ⟨_, _, rfl, Or.inl rfl, tyX7_ok 7 (by decide), fun _ => ⟨rfl, rfl⟩⟩ h03 (by omega) (Nat.le_of_ble_eq_true rfl) (show sg_up h3 0 _ = sg_up h3 0 (.inr (7, sgF (nI 0) fl (ib 0) (ib 1) sd)) from rfl) ?_
        have g4 := ag_up h3 0 (.inr (7, sgF (nI 0) fl (ib 0) (ib 1) sd))
        have hx : TX g (sg_up h3 0 (.inr (7, sgF (nI 0) fl (ib 0) (ib 1) sd))) fl (ib 0) (ib 1) sd (an1 V) N' lk 0 0 q.2 y z w 0 (fun _ => 0) := by
          refine ⟨ag_t ag2 (ag_t (ag_w g3 (fun j hj => Or.inr (Or.inr (Or.inr (Or.inl ⟨by omega, by omega⟩))))) (ag_w g4 (fun j hj => Or.inl hj))), up_e h03 _, rd_ag g4 (rd_ag g3 eR2 (by omega) (by omega)) (by omega) (by omega), VV_ag g4 (VV_of vs) (fun o ho => by omega), DE_ag g4 (DE_ag g3 c7' (fun o ho => by omega)) (fun o ho => by omega), E, ag_at g4 (ag_at g3 c8' (by omega)) (by omega), fun j hj => by omega⟩
        refine at_k (nI 0) dX7_text_38 rfl (by decide) ?_
        refine at_st (i := 2) dX7_text_39 rfl rfl (Nat.le_of_ble_eq_true rfl) rfl ?_
        try dsimp only [List.set_cons_succ, List.set_cons_zero]
        exact x_txLoop hC0 sd 201 0 _ _ _ _ _ _ _ _ _ _ _ (by have := hT.2.2.2; omega) (by omega) p2 hx hI ht (show ¬ bI true = 0 by decide)
end T3
