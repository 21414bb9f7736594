/-! A new start: what holds of it; the class's -/
section C22a
variable {v : Nat → Nat}
theorem an1_has (w : wfg v) {i x : Nat} (hi : i < 24) : hasF (an1 v) i x = decide (i = 0 ∧ x = 0) := by
  have hgb := wf_gb w
  rw [hasF_sz]
  by_cases q : i = 0
  · subst q
    have e0 : sz (an1 v) 0 = 1 := by
      unfold sz
      rw [an1_io v hgb (by decide) (by decide), an1_io v hgb (by decide) (by decide)]
      rfl
    have e4 : io (an1 v) 0 4 = 0 := by rw [an1_io v hgb (by decide) (by decide)]; rfl
    rw [e0, e4]
    by_cases q2 : x = 0
    · subst q2; rfl
    · rw [decide_eq_false (show ¬ (0 < 1 % 4 ∧ 0 ≤ x ∧ x < 0 + 1 % 4) by omega), decide_eq_false (show ¬ (0 = 0 ∧ x = 0) by omega)]
      rfl
  · have e0 : sz (an1 v) i = 0 := by
      unfold sz
      rw [an1_io v hgb hi (by decide), if_neg q, if_pos rfl]
    rw [e0, decide_eq_false (show ¬ (i = 0 ∧ x = 0) by omega)]
    rfl
theorem an1_own (w : wfg v) (x : Nat) : (own (an1 v) x).isNone = decide (x ≠ 0) := by
  have hgi := wf_gi w
  have hge := gb_ge w.1.1 w.2.2.1.1
  rw [own_none, an1_lo v (by decide), an1_lo v (by decide)]
  by_cases q : x = 0
  · rw [anyB_t (p := fun i => hasF (an1 v) i x) _ 0 (by omega) (by rw [an1_has w (by decide)]; exact decide_eq_true ⟨rfl, q⟩), decide_eq_false (fun z => z q)]
    rfl
  · rw [anyB_f (p := fun i => hasF (an1 v) i x) _ (fun k hk => by rw [an1_has w (by omega)]; exact decide_eq_false (fun z => q z.2)), decide_eq_true q]
    rfl
theorem an1_due (w : wfg v) {x : Nat} (hx : x < 128) : fr (an1 v) x = due (an1 v) x := by
  unfold due fr
  rw [an1_own w, an1_m v hx, an1_lo v (by decide), an1_lo v (by decide), fragI]
  by_cases q : x = 0
  · rw [if_neg (by omega), decide_eq_false (show ¬ x ≠ 0 by omega), Bool.and_false]
    rfl
  · rw [decide_eq_true (show x ≠ 0 from q), Bool.and_true]
    by_cases q2 : x < 4 * (v 0 * v 1)
    · rw [if_pos (by omega), decide_eq_true q2]; rfl
    · rw [if_neg (by omega), decide_eq_false q2]; rfl
theorem an1_spt (w : wfg v) : spt (an1 v) = false := spt_t (ivr_an1 w).1.1 (fun x hx => an1_due w hx)
theorem inv_an1 (w : wfg v) : inv (an1 v) := by
  have hgb := wf_gb w
  have hgi := wf_gi w
  have hge := gb_ge w.1.1 w.2.2.1.1
  have hgb1 := gb_ge w.1.1 w.2.1.1
  refine ⟨ivr_an1 w, ⟨?_, fun k hk h => ?_⟩, fun x h1 hx => ?_, fun i h1 hi => ?_, fun i hi => ?_, ?_⟩
  · rw [an1_io v hgb (by decide) (by decide)]; rfl
  · rw [an1_lo v (by decide), an1_lo v (by decide)] at hk
    rw [an1_io v hgb (by omega) (by decide)] at h
    have : k = 0 := by
      rcases Nat.eq_zero_or_pos k with q | q
      · exact q
      · rw [if_neg (by omega)] at h; exact absurd rfl h
    exact ⟨0, by decide, this⟩
  · rw [an1_lo v (by decide), an1_lo v (by decide)] at h1
    unfold fr
    rw [an1_m v hx, fragI, if_neg (by omega)]
    rfl
  · rw [an1_lo v (by decide), an1_lo v (by decide)] at h1
    rw [an1_io v hgb hi (by decide), if_neg (by omega)]
  · rw [an1_lo v (by decide), an1_lo v (by decide)]
    refine ⟨?_, fun k hk => ?_⟩
    · rw [an1_io v hgb hi (by decide)]
      split
      · rw [if_neg (by decide), if_neg (by decide)]; omega
      · omega
    · rw [an1_io v hgb hi (by omega)]
      split
      · rw [if_neg (by omega), if_neg (by omega)]; omega
      · omega
  · rw [an1_io v hgb (by decide) (by decide)]; rfl
end C22a
theorem m4 : nI 4294967292 = -4 := by decide
theorem vo_hz {g : sg_H} {a : Nat} {L L' : Nat → Nat} {b b' d d' : Nat → Int32} {K K' : Nat → Nat → Int32} {e e' m m' : Int32} : (vo g a L' b' d' K' e' m').1 = (vo g a L b d K e m).1 ∧ (vo g a L' b' d' K' e' m').2.1 = (vo g a L b d K e m).2.1 := ⟨rfl, rfl⟩
section C22
variable {g : sg_H} {a : Nat} {L : Nat → Nat} {b d : Nat → Int32} {K : Nat → Nat → Int32} {e m : Int32} {v : Nat → Nat}
theorem iR_an1 (w : wfg v) : iR (an1 v) (kSz (kBe (kCl K 24) 0 (nI 1) (-4) (-4)) 0 (nI 1) (nI 0)) := by
  have hgb := wf_gb w
  intro i hi
  by_cases q : i = 0
  · subst q
    have z : ∀ f, f < 15 → io (an1 v) 0 f = if f = 0 ∨ f = 3 then 1 else if f = 1 ∨ f = 2 then 4294967292 else 0 := fun f hf => by rw [an1_io v hgb (by decide) hf, if_pos rfl]
    have e0 : sz (an1 v) 0 = 1 := by unfold sz; rw [z 0 (by decide), z 3 (by decide)]; rfl
    refine ⟨?_, ?_, ?_, fun _ => ⟨?_, ?_⟩, fun k hk => by rw [e0] at hk; omega⟩
    · rw [z 0 (by decide), kSz_at, if_neg (by omega), if_neg (by omega), kBe_at, if_pos ⟨by decide, rfl⟩]; rfl
    · rw [e0, kSz_at, if_pos ⟨rfl, rfl⟩]
    · rw [kSz_at, if_neg (by omega), if_pos ⟨rfl, rfl⟩]; unfold tlI; rw [e0, z 4 (by decide)]; rfl
    · rw [z 1 (by decide), kSz_at, if_neg (by omega), if_neg (by omega), kBe_at, if_pos ⟨by decide, rfl⟩]; exact m4.symm
    · rw [z 2 (by decide), kSz_at, if_neg (by omega), if_neg (by omega), kBe_at, if_pos ⟨by decide, rfl⟩]; exact m4.symm
  · have z : ∀ f, f < 15 → io (an1 v) i f = 0 := fun f hf => by rw [an1_io v hgb hi hf, if_neg q]
    have e0 : sz (an1 v) i = 0 := by unfold sz; rw [z 0 (by decide), if_pos rfl]
    have zk : ∀ f, f < 5 → kSz (kBe (kCl K 24) 0 (nI 1) (-4) (-4)) 0 (nI 1) (nI 0) f i = if f = 0 then 0 else if f = 1 then -4 else if f = 2 then -4 else if f = 3 then 0 else -4 := fun f hf => by rw [kSz_at, if_neg (by omega), if_neg (by omega), kBe_at, if_neg (by omega), kCl_at, if_pos ⟨hf, hi⟩]
    refine ⟨?_, ?_, ?_, fun h => absurd (z 0 (by decide)) h, fun k hk => by rw [e0] at hk; omega⟩
    · rw [z 0 (by decide), zk 0 (by decide)]; rfl
    · rw [e0, zk 3 (by decide)]; rfl
    · rw [zk 4 (by decide)]; unfold tlI; rw [e0]; rfl
set_option maxRecDepth 100000 in
theorem k_startAnew (hg : a + 13 ≤ g.1) (ha : a < 800) (w : wfg v) (r : Nat) (hr : r < a ∨ a + 13 ≤ r) (f : Nat → Int32) (hf : sg_at g r (.inl (false, 6, f))) (hfv : ∀ k, k < 6 → f k = nI (v k)) : sg_K MX6_startAnew [.ref a, .ref r] (vo g a L b d K e m) (fun r h' => r = none ∧ VS g a (an1 v) h') := by
  have ivr1 := ivr_an1 w
  have k1 := k_lset (vo_Y (g := g) (a := a) (L := L) (b := b) (d := d) (K := K) (e := e) (m := m) hg) rfl (by omega) f (vo_O (by omega) hf) (by omega) v hfv
  rw [vo_ul] at k1
  have eL : ∀ b d K e m, vo g a v b d K e m = vo g a (an1 v) b d K e m := fun b d K e m => vo_L (an1 v) (fun c hc => an1_lo v hc)
  have kc := k_clear (g := g) (a := a) (L := v) (b := b) (d := d) (K := K) (e := e) (m := m) hg ha
  have hI1 := iR_an1 (K := K) w
  generalize kCl K 24 = K2 at kc hI1
  generalize hK3 : kSz (kBe K2 0 (nI 1) (-4) (-4)) 0 (nI 1) (nI 0) = K3 at hI1
  have ks := k_setSize (g := g) (a := a) (L := v) (b := b) (d := d) (K := kBe K2 0 (nI 1) (-4) (-4)) (e := e) (m := m) hg ha 0 (by decide) (nI 1) (nI 0)
  have eL3 := eL b d K3 e m
  rw [hK3, eL3] at ks
  have km := k_mendMap (g := g) (a := a) (v := an1 v) (b := b) (d := d) (K := K3) (e := e) (m := m) hg ha hI1 ivr1.1 ivr1.2.2
  have z6 := an1_67 v (Or.inl rfl)
  have z7 := an1_67 v (Or.inr rfl)
  have hdu := fun x hx => an1_due w (x := x) hx
  generalize an1 v = v1 at *
  show sg_A MX6_startAnew 0 [some (.ref a), some (.ref r)] [] _ _
  refine at_ld (i := 0) dX6_startAnew_0 rfl rfl rfl ?_
  refine at_get dX6_startAnew_1 fX6_12 (vo_V hg) (by omega) rfl ?_
  refine at_ld (i := 1) dX6_startAnew_4 rfl rfl rfl ?_
  refine at_wv [_] dX6_startAnew_5 mX3_set ⟨Nat.le_of_ble_eq_true rfl, Nat.le_of_ble_eq_true rfl⟩ lX6_37 iX3_set rfl rfl (vo_Y hg) (by omega) rfl (Nat.le_of_ble_eq_true rfl) (Nat.le_of_ble_eq_true rfl) ⟨rfl, rfl⟩ (k1) vo_hz ?_
  try dsimp only [Option.toList, List.cons_append, List.nil_append]
  refine at_ld (i := 0) dX6_startAnew_8 rfl rfl rfl ?_
  refine at_get dX6_startAnew_9 fX6_33 (vo_V hg) (by omega) rfl ?_
  refine at_wv [] dX6_startAnew_12 mX2_clear ⟨Nat.le_of_ble_eq_true rfl, Nat.le_of_ble_eq_true rfl⟩ lX6_41 iX2_clear rfl rfl (vo_I hg ha).1 (by omega) rfl (Nat.le_of_ble_eq_true rfl) (Nat.le_of_ble_eq_true rfl) ⟨rfl, rfl⟩ (kc) vo_hz ?_
  try dsimp only [Option.toList, List.cons_append, List.nil_append]
  refine at_ld (i := 0) dX6_startAnew_15 rfl rfl rfl ?_
  refine at_get dX6_startAnew_16 fX6_33 (vo_V hg) (by omega) rfl ?_
  refine at_k (nI 0) dX6_startAnew_19 rfl (by decide) ?_
  refine at_k (nI 1) dX6_startAnew_20 rfl (by decide) ?_
  refine at_k (-4) dX6_startAnew_21 rfl (by decide) ?_
  refine at_k (-4) dX6_startAnew_23 rfl (by decide) ?_
  refine at_wv [_, _, _, _] dX6_startAnew_25 mX2_become ⟨Nat.le_of_ble_eq_true rfl, Nat.le_of_ble_eq_true rfl⟩ lX6_44 iX2_become rfl rfl (vo_I hg ha).1 (by omega) rfl (Nat.le_of_ble_eq_true rfl) (Nat.le_of_ble_eq_true rfl) ⟨rfl, rfl⟩ (k_become hg ha 0 (by decide) (nI 1) (-4) (-4)) vo_hz ?_
  try dsimp only [Option.toList, List.cons_append, List.nil_append]
  refine at_ld (i := 0) dX6_startAnew_28 rfl rfl rfl ?_
  refine at_get dX6_startAnew_29 fX6_33 (vo_V hg) (by omega) rfl ?_
  refine at_k (nI 0) dX6_startAnew_32 rfl (by decide) ?_
  refine at_k (nI 1) dX6_startAnew_33 rfl (by decide) ?_
  refine at_k (nI 0) dX6_startAnew_34 rfl (by decide) ?_
  refine at_wv [_, _, _] dX6_startAnew_35 mX2_setSize ⟨Nat.le_of_ble_eq_true rfl, Nat.le_of_ble_eq_true rfl⟩ lX6_48 iX2_setSize rfl rfl (vo_I hg ha).1 (by omega) rfl (Nat.le_of_ble_eq_true rfl) (Nat.le_of_ble_eq_true rfl) ⟨rfl, rfl⟩ (ks) vo_hz ?_
  try dsimp only [Option.toList, List.cons_append, List.nil_append]
  refine at_ld (i := 0) dX6_startAnew_38 rfl rfl rfl ?_
  refine at_cv [] dX6_startAnew_39 mX6_mendMap ⟨Nat.le_of_ble_eq_true rfl, Nat.le_of_ble_eq_true rfl⟩ lX6_52 iX6_mendMap rfl rfl (vo_V hg) (by omega) rfl (Nat.le_of_ble_eq_true rfl) (Nat.le_of_ble_eq_true rfl) (km) ?_ ?_
  · rintro r h1 ⟨-, b', d', rfl, -⟩
    exact ⟨rfl, rfl⟩
  · rintro r h1 ⟨rfl, b', d', rfl, hb'⟩
    try dsimp only [Option.toList, List.cons_append, List.nil_append]
    refine at_ld (i := 0) dX6_startAnew_42 rfl rfl rfl ?_
    refine at_k (nI 0) dX6_startAnew_43 rfl (by decide) ?_
    refine at_put dX6_startAnew_44 fX6_55 ⟨_, _, rfl, Or.inl rfl, tyX6_ok 4 (by decide), fun _ => ⟨rfl, rfl⟩⟩ (vo_V hg) (by omega) (Nat.le_of_ble_eq_true rfl) (vo_ue _) ?_
    refine at_ld (i := 0) dX6_startAnew_47 rfl rfl rfl ?_
    refine at_k (nI 0) dX6_startAnew_48 rfl (by decide) ?_
    refine at_put dX6_startAnew_49 fX6_59 ⟨_, _, rfl, Or.inl rfl, tyX6_ok 5 (by decide), fun _ => ⟨rfl, rfl⟩⟩ (vo_V hg) (by omega) (Nat.le_of_ble_eq_true rfl) (vo_um _) ?_
    refine at_vret dX6_startAnew_52 rfl ?_
    exact ⟨rfl, VS_of (fun c hc => rfl) (by rw [z6]) (by rw [z7]) (mbq_e (fun x hx => (hdu x hx).symm) hb') hI1⟩
end C22
