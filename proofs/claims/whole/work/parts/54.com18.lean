/-! THE CLASS: deeds: gather -/
theorem setq_4 (q : Nat → Bool) (B z : Nat) (f : Bool) : setq q (4 * B) 4 f z = if z / 4 = B then f else q z := by
  unfold setq
  by_cases h : z / 4 = B
  · rw [if_pos h, if_pos (by omega)]
  · rw [if_neg h, if_neg (by omega)]
/-- the k-th block of a gathered row -/
def nwb (v : Nat → Nat) (G P k : Nat) : Nat := v 1 * G + P + k * (1 + v 3)
def gq (v : Nat → Nat) (i G P : Nat) : Nat → Nat → Bool
  | 0 => fr v
  | k + 1 => setq (setq (gq v i G P k) (4 * io v i (5 + k)) 4 true) (4 * nwb v G P k) 4 false
theorem anyB_s (p : Nat → Bool) (n : Nat) : anyB p (n + 1) = (anyB p n || p n) := rfl
theorem gq_e {v : Nat → Nat} {i G P q : Nat} (hd : ∀ j l, j < q → l < q → io v i (5 + j) ≠ nwb v G P l) (z : Nat) : ∀ k, k ≤ q → gq v i G P k z = ((fr v z || anyB (fun j => decide (z / 4 = io v i (5 + j))) k) && !(anyB (fun j => decide (z / 4 = nwb v G P j)) k)) := by
  intro k
  induction k with
  | zero => intro _; show fr v z = ((fr v z || false) && !false); rw [Bool.or_false]; exact (Bool.and_true _).symm
  | succ k ih =>
    intro hk
    simp only [gq]
    rw [setq_4, setq_4, ih (by omega), anyB_s, anyB_s]
    by_cases h1 : z / 4 = nwb v G P k
    · rw [if_pos h1, decide_eq_true h1, Bool.or_true, Bool.not_true, Bool.and_false]
    · rw [if_neg h1, decide_eq_false h1, Bool.or_false]
      by_cases h2 : z / 4 = io v i (5 + k)
      · rw [if_pos h2, decide_eq_true h2, Bool.or_true, Bool.or_true, Bool.true_and]
        rw [anyB_f (p := fun j => decide (z / 4 = nwb v G P j)) k (fun j hj => decide_eq_false (fun q => hd k j (by omega) (by omega) (by rw [← h2, q])))]
        rfl
      · rw [if_neg h2, decide_eq_false h2, Bool.or_false]
theorem gts_fr {v : Nat → Nat} {i G P : Nat} {z : Nat} (hz : z < 128) : ∀ m k u, u 1 = v 1 → u 3 = v 3 → fr (gts u i G P m k) z = (fr u z && !(anyB (fun j => decide (z / 4 = nwb v G P (k + j))) m)) := by
  intro m
  induction m with
  | zero => intro k u _ _; exact (Bool.and_true _).symm
  | succ m ih =>
    intro k u h1 h3
    simp only [gts]
    rw [ih (k + 1) _ (by rw [c_v _ _ (by decide), h1]) (by rw [c_v _ _ (by decide), h3]), fr_v _ _ hz, setq_4]
    have e : u 1 * G + P + k * (1 + u 3) = nwb v G P k := by unfold nwb; rw [h1, h3]
    rw [e]
    have sw : anyB (fun j => decide (z / 4 = nwb v G P (k + j))) (m + 1) = (decide (z / 4 = nwb v G P k) || anyB (fun j => decide (z / 4 = nwb v G P (k + 1 + j))) m) := by
      clear ih
      induction m with
      | zero => simp only [anyB, Nat.add_zero, Bool.false_or, Bool.or_false]
      | succ m ih => rw [anyB_s, ih, anyB_s, Bool.or_assoc]; rw [show k + (m + 1) = k + 1 + m by omega]
    rw [sw]
    by_cases h : z / 4 = nwb v G P k
    · rw [if_pos h, decide_eq_true h, Bool.true_or, Bool.not_true, Bool.and_false, Bool.false_and]
    · rw [if_neg h, decide_eq_false h, Bool.false_or]
theorem gts_io {v : Nat → Nat} {i G P : Nat} (hb : ∀ k, k < 10 → k * (1 + v 3) ≤ 40 → True) : ∀ m k u, k + m ≤ 10 → u 1 = v 1 → u 3 = v 3 → (∀ j, k ≤ j → j < k + m → nwb v G P j < 32) → ∀ j, j < 10 → io (gts u i G P m k) i (5 + j) = if k ≤ j ∧ j < k + m then nwb v G P j else io u i (5 + j) := by
  intro m
  induction m with
  | zero => intro k u _ _ _ _ j _; rw [if_neg (by omega)]; rfl
  | succ m ih =>
    intro k u hk h1 h3 hn j hj
    have e : u 1 * G + P + k * (1 + u 3) = nwb v G P k := by unfold nwb; rw [h1, h3]
    have hnk := hn k (by omega) (by omega)
    simp only [gts]
    rw [e, ih (k + 1) _ (by omega) (by rw [c_v _ _ (by decide), h1]) (by rw [c_v _ _ (by decide), h3]) (fun j q1 q2 => hn j (by omega) (by omega)) j hj, io_v _ _ (by omega) (by omega) (by omega)]
    by_cases q : j = k
    · subst q
      rw [if_neg (by omega), if_pos ⟨rfl, rfl⟩, if_pos (by omega)]
    · by_cases q2 : k + 1 ≤ j ∧ j < k + 1 + m
      · rw [if_pos q2, if_pos (by omega)]
      · rw [if_neg q2, if_neg (by omega), if_neg (by omega)]
theorem srch_map {α β : Type} (f : Nat → Option α) (h : α → β) : ∀ m k, srch (fun p => (f p).map h) k m = (srch f k m).map h := by
  intro m
  induction m with
  | zero => intro k; rfl
  | succ m ih =>
    intro k
    simp only [srch]
    cases f k with
    | none => exact ih (k + 1)
    | some x => rfl
def gin (v : Nat → Nat) (a q : Nat) : Option (Nat × Nat) := srch (fun p => if rfr v a p q = true then some (a, p) else none) 0 (v 1)
theorem grw1_e (v : Nat → Nat) (a q : Nat) : grw1 v a q = (gin v a q).map (fun gp => v 1 * gp.1 + gp.2) := by
  unfold grw1 gin
  rw [← srch_map]
  congr 1
  funext p
  split <;> rfl
theorem gin_of {v : Nat → Nat} {a q : Nat} {gp : Nat × Nat} (h : gin v a q = some gp) : gp.1 = a ∧ gp.2 < v 1 ∧ rfr v a gp.2 q = true := by
  obtain ⟨j, h1, h2, e⟩ := sr_ge _ _ h
  split at e
  · next c => cases e; exact ⟨rfl, by omega, c⟩
  · cases e
theorem rfr_of {v : Nat → Nat} {G P q : Nat} (h : rfr v G P q = true) {k : Nat} (hk : k < q) : P + k * (1 + v 3) < v 1 ∧ fbk v (nwb v G P k) = true := by
  have h1 := allB_of q h k hk
  rw [Bool.and_eq_true] at h1
  refine ⟨of_decide_eq_true h1.1, ?_⟩
  unfold nwb
  rw [Nat.add_assoc]
  exact h1.2
section C18
variable {g : sg_H} {a D : Nat} {v : Nat → Nat} {b d : Nat → Int32} {K : Nat → Nat → Int32} {e m : Int32}
theorem gth_wf {v : Nat → Nat} (w : wf v) {i G P : Nat} (hi : i < 24) (hn : ∀ j, j < io v i 3 / 4 → nwb v G P j < 32) : wf (gth v i G P) ∧ sb v (gth v i G P) ∧ (∀ j f, f < 15 → (j ≠ i ∨ f < 5) → io (gth v i G P) j f = io v j f) ∧ (∀ j, j < 10 → io (gth v i G P) i (5 + j) = if j < io v i 3 / 4 then nwb v G P j else io v i (5 + j)) ∧ (∀ c, c < 7 → gth v i G P c = v c) ∧ gth v i G P 7 = v 7 + io v i 3 / 4 := by
  have h40 := wf_s w hi
  obtain ⟨f1, f2, f3⟩ := frb_p (i := i) hi (io v i 3 / 4) 0 w (by omega)
  have fc := fun c hc => frb_c (i := i) (io v i 3 / 4) 0 v c hc
  obtain ⟨g1, g2, g3, g4⟩ := gts_p (i := i) (g := G) (p := P) hi (io v i 3 / 4) 0 f1 (by omega) (fun j _ hj => by rw [fc 1 (by decide), fc 3 (by decide)]; exact hn j (by omega))
  have gio := gts_io (v := v) (i := i) (G := G) (P := P) (fun _ _ _ => trivial) (io v i 3 / 4) 0 (frb v i (io v i 3 / 4) 0) (by omega) (fc 1 (by decide)) (fc 3 (by decide)) (fun j _ hj => hn j (by omega))
  have ioe : ∀ j f, io (gth v i G P) j f = io (gts (frb v i (io v i 3 / 4) 0) i G P (io v i 3 / 4) 0) j f := fun j f => vu_n _ _ _ _ (by omega)
  refine ⟨wf_c g1 7 _ (Or.inr rfl), sb_t f2 (sb_t g2 (sb_u _ (by decide))), fun j f hf hj => by rw [ioe, g3 j f hf hj, f3], fun j hj => ?_, fun c hc => ?_, ?_⟩
  · rw [ioe, gio j hj, f3]
    by_cases q : j < io v i 3 / 4
    · rw [if_pos q, if_pos (by omega)]
    · rw [if_neg q, if_neg (by omega)]
  · unfold gth
    rw [vu_n _ _ _ _ (by omega), g4 c (by omega), fc c (by omega)]
  · unfold gth
    rw [vu_s, g4 7 (by decide), fc 7 (by decide)]
set_option maxRecDepth 100000 in
theorem k_gatherAt (hg : a + 13 ≤ g.1) (ha : a < 800) (hD : DE g a D) (hb : mbq (fr v) b) (hR : iR v K) (iv : inv v) (hs : spt v = false) (i G P : Nat) (hi : i < v 0 * v 2) (hth : io v i 0 ≠ 0) (hG : G < v 0) (hr : rfr v G P (io v i 3 / 4) = true) (hP : P < v 1) : sg_K MX0_gatherAt [.ref D, .int (nI i), .int (nI (v 1 * G + P))] (vo g a v b d K (nI (v 6)) (nI (v 7))) (fun r h' => r = none ∧ VS g a (gth v i G P) h') := by
  have w := iv.1.1
  have hgi := wf_gi w.1
  have hgb := wf_gb w.1
  have hD8 := hD.2.2.2.1
  have es : sz v i = io v i 3 := sz_t hth
  have hs40 := wf_s w (show i < 24 by omega)
  have hnw : ∀ k, k < io v i 3 / 4 → nwb v G P k < 32 := by
    intro k hk
    have h1 := gb_lt hG (rfr_of hr hk).1
    unfold nwb
    rw [Nat.add_assoc]
    omega
  have h3 := w.1.2.2.2.1
  have hold : ∀ k, k < 10 → io v i (5 + k) < 32 := (w.2.2 i (by omega)).2.2.2
  have hdis : ∀ j l, j < io v i 3 / 4 → l < io v i 3 / 4 → io v i (5 + j) ≠ nwb v G P l := by
    intro j l hj hl q
    have hf := (rfr_of hr hl).2
    have hf2 := allB_of 4 hf 0 (by decide)
    have hf3 : fr v (4 * nwb v G P l + 0) = true := hf2
    have := hnw l hl
    rw [fr_own iv.2.2.1 hs (i := i) (by omega) hi (hasF_b hth hj (by rw [q]; omega))] at hf3
    cases hf3
  have hbl : ∀ k, k < io v i 3 / 4 → K 5 (i * 10 + k) = nI (io v i (5 + k)) := fun k hk => (hR i (by omega)).2.2.2.2 k (by rw [es]; omega)
  obtain ⟨gw, -, gio, gio5, gc, g7⟩ := gth_wf w (show i < 24 by omega) hnw
  have kbo := k_blocksOf (vo_I (g := g) (a := a) (L := v) (b := b) (d := d) (K := K) (e := nI (v 6)) (m := nI (v 7)) hg ha) hR w i (by omega)
  rw [es] at kbo
  show sg_A MX0_gatherAt 0 [some (.ref D), some (.int (nI i)), some (.int (nI (v 1 * G + P))), none, none, none] [] _ _
  refine at_ld (i := 0) dX0_gatherAt_0 rfl rfl rfl ?_
  refine at_get dX0_gatherAt_1 fX0_31 (de_O hD) (by omega) rfl ?_
  refine at_ld (i := 1) dX0_gatherAt_4 rfl rfl rfl ?_
  refine at_rv [_] dX0_gatherAt_5 mX2_blocksOf ⟨Nat.le_of_ble_eq_true rfl, Nat.le_of_ble_eq_true rfl⟩ lX0_95 iX2_blocksOf rfl rfl (vo_I hg ha).1 (by omega) rfl (Nat.le_of_ble_eq_true rfl) (Nat.le_of_ble_eq_true rfl) ⟨rfl, rfl⟩ (kbo) ?_
  refine at_st (i := 3) dX0_gatherAt_8 rfl rfl (Nat.le_of_ble_eq_true rfl) rfl ?_
  try dsimp only [List.set_cons_succ, List.set_cons_zero]
  refine at_k (nI 0) dX0_gatherAt_9 rfl (by decide) ?_
  refine at_st (i := 4) dX0_gatherAt_10 rfl rfl (Nat.le_of_ble_eq_true rfl) rfl ?_
  try dsimp only [List.set_cons_succ, List.set_cons_zero]
  have loop : ∀ n k b1 K1 y5, k + n = io v i 3 / 4 → mbq (gq v i G P k) b1 → (∀ f j, K1 f j = if f = 5 ∧ i * 10 ≤ j ∧ j < i * 10 + k then nI (nwb v G P (j - i * 10)) else K f j) → sg_A MX0_gatherAt 12 [some (.ref D), some (.int (nI i)), some (.int (nI (v 1 * G + P))), some (.int (nI (io v i 3 / 4))), some (.int (nI k)), y5] [] (vo g a v b1 d K1 (nI (v 6)) (nI (v 7))) (fun r h' => r = none ∧ VS g a (gth v i G P) h') := by
    intro n
    induction n with
    | zero =>
      intro k b1 K1 y5 hk hb1 hK1
      refine at_ld (i := 4) dX0_gatherAt_12 rfl rfl rfl ?_
      refine at_ld (i := 3) dX0_gatherAt_14 rfl rfl rfl ?_
      refine at_ige 86 dX0_gatherAt_15 (by decide) (fun _ => ?_) (fun c => absurd (nI_le (by omega) (by omega)) c)
      refine at_ld (i := 0) dX0_gatherAt_86 rfl rfl rfl ?_
      refine at_get dX0_gatherAt_87 fX0_9 (de_O hD) (by omega) rfl ?_
      refine at_dup dX0_gatherAt_90 rfl ?_
      refine at_get dX0_gatherAt_91 fX0_124 (vo_V hg) (by omega) rfl ?_
      refine at_ld (i := 3) dX0_gatherAt_94 rfl rfl rfl ?_
      refine at_bin dX0_gatherAt_95 rfl ?_
      try dsimp only
      rw [nI_add]
      refine at_put dX0_gatherAt_96 fX0_124 ⟨_, _, rfl, Or.inl rfl, tyX6_ok 5 (by decide), fun _ => ⟨rfl, rfl⟩⟩ (vo_V hg) (by omega) (Nat.le_of_ble_eq_true rfl) (vo_um _) ?_
      refine at_vret dX0_gatherAt_99 rfl ?_
      have hkq : k = io v i 3 / 4 := by omega
      subst hkq
      refine ⟨rfl, VS_of (v' := gth v i G P) (fun c hc => gc c (by omega)) (by rw [gc 6 (by decide)]) (by rw [g7]) (mbq_e (fun z hz => ?_) hb1) ?_⟩
      · rw [gq_e hdis z _ (Nat.le_refl _)]
        have e1 : fr (gth v i G P) z = fr (gts (frb v i (io v i 3 / 4) 0) i G P (io v i 3 / 4) 0) z := by
          unfold fr gth
          rw [vu_n _ _ _ _ (by omega)]
        rw [e1, gts_fr (v := v) hz _ _ _ (frb_c _ _ _ _ (by decide)) (frb_c _ _ _ _ (by decide)), fr_frb w (by omega) z _ _ _ (by omega) (fun _ _ => rfl), fbq_i]
        simp only [Nat.zero_add]
      · intro j hj
        by_cases q : j = i
        · subst q
          have es2 : sz (gth v j G P) j = io v j 3 := by
            unfold sz
            rw [gio j 0 (by decide) (Or.inr (by decide)), if_neg hth, gio j 3 (by decide) (Or.inr (by decide))]
          obtain ⟨q0, q1, q2, q3, q4⟩ := hR j hj
          have z : ∀ f, f < 5 → K1 f j = K f j := fun f hf => by rw [hK1, if_neg (by omega)]
          refine ⟨?_, ?_, ?_, fun _ => ?_, fun k hk => ?_⟩
          · rw [z 0 (by decide), gio j 0 (by decide) (Or.inr (by decide))]; exact q0
          · rw [z 3 (by decide), es2, ← es]; exact q1
          · rw [z 4 (by decide), q2]
            unfold tlI
            rw [es2, es, gio j 4 (by decide) (Or.inr (by decide))]
          · rw [z 1 (by decide), z 2 (by decide), gio j 1 (by decide) (Or.inr (by decide)), gio j 2 (by decide) (Or.inr (by decide))]
            exact q3 hth
          · rw [es2] at hk
            rw [hK1, if_pos (by omega), gio5 k (by omega), if_pos hk, show j * 10 + k - j * 10 = k by omega]
        · refine iR1_e w hj (hR j hj) (fun f hf => gio j f hf (Or.inl q)) (fun f hf => ?_) (fun k hk => ?_)
          · rw [hK1, if_neg (by omega)]
          · rw [hK1, if_neg (by omega)]
    | succ n ih =>
      intro k b1 K1 y5 hk hb1 hK1
      have hok := hold k (by omega)
      have hnk := hnw k (by omega)
      have ka := k_blockAtX (vo_I (g := g) (a := a) (L := v) (b := b1) (d := d) (K := K1) (e := nI (v 6)) (m := nI (v 7)) hg ha) i k (by omega) (by omega)
      rw [hK1, if_neg (by omega), hbl k (by omega)] at ka
      have kp1 := k_put (vo_F (g := g) (a := a) (L := v) (b := b1) (d := d) (K := K1) (e := nI (v 6)) (m := nI (v 7)) hg ha) (4 * io v i (5 + k)) 4 true (by omega) (by omega)
      rw [vo_ub1] at kp1
      have kp2 := k_put (vo_F (g := g) (a := a) (L := v) (b := bput b1 (4 * io v i (5 + k)) 4 true) (d := d) (K := K1) (e := nI (v 6)) (m := nI (v 7)) hg ha) (4 * nwb v G P k) 4 false (by omega) (by omega)
      rw [vo_ub1] at kp2
      have en : v 1 * G + P + k * (1 + v 3) = nwb v G P k := rfl
      refine at_ld (i := 4) dX0_gatherAt_12 rfl rfl rfl ?_
      refine at_ld (i := 3) dX0_gatherAt_14 rfl rfl rfl ?_
      refine at_ige 86 dX0_gatherAt_15 (by decide) (fun c => absurd c (nI_ge (by omega) (by omega))) (fun _ => ?_)
      refine at_ld (i := 2) dX0_gatherAt_18 rfl rfl rfl ?_
      refine at_ld (i := 4) dX0_gatherAt_19 rfl rfl rfl ?_
      refine at_k (nI 1) dX0_gatherAt_21 rfl (by decide) ?_
      refine at_ld (i := 0) dX0_gatherAt_22 rfl rfl rfl ?_
      refine at_get dX0_gatherAt_23 fX0_21 (de_O hD) (by omega) rfl ?_
      refine at_get dX0_gatherAt_26 fX0_184 (vo_Y hg) (by omega) rfl ?_
      refine at_bin dX0_gatherAt_29 rfl ?_
      try dsimp only
      rw [nI_add]
      refine at_bin dX0_gatherAt_30 rfl ?_
      try dsimp only
      rw [nI_mul]
      refine at_bin dX0_gatherAt_31 rfl ?_
      try dsimp only
      rw [nI_add, en]
      refine at_st (i := 5) dX0_gatherAt_32 rfl rfl (Nat.le_of_ble_eq_true rfl) rfl ?_
      try dsimp only [List.set_cons_succ, List.set_cons_zero]
      refine at_ld (i := 0) dX0_gatherAt_34 rfl rfl rfl ?_
      refine at_get dX0_gatherAt_35 fX0_26 (de_O hD) (by omega) rfl ?_
      refine at_ld (i := 0) dX0_gatherAt_38 rfl rfl rfl ?_
      refine at_get dX0_gatherAt_39 fX0_31 (de_O hD) (by omega) rfl ?_
      refine at_ld (i := 1) dX0_gatherAt_42 rfl rfl rfl ?_
      refine at_ld (i := 4) dX0_gatherAt_43 rfl rfl rfl ?_
      refine at_rv [_, _] dX0_gatherAt_45 mX2_blockAt ⟨Nat.le_of_ble_eq_true rfl, Nat.le_of_ble_eq_true rfl⟩ lX0_133 iX2_blockAt rfl rfl (vo_I hg ha).1 (by omega) rfl (Nat.le_of_ble_eq_true rfl) (Nat.le_of_ble_eq_true rfl) ⟨rfl, rfl⟩ (ka) ?_
      refine at_k (nI 4) dX0_gatherAt_48 rfl (by decide) ?_
      refine at_bin dX0_gatherAt_49 rfl ?_
      try dsimp only
      rw [nI_mul, Nat.mul_comm _ 4]
      refine at_k (nI 4) dX0_gatherAt_50 rfl (by decide) ?_
      refine at_k (nI 1) dX0_gatherAt_51 rfl (by decide) ?_
      refine at_wv [_, _, _] dX0_gatherAt_52 mX1_put ⟨Nat.le_of_ble_eq_true rfl, Nat.le_of_ble_eq_true rfl⟩ lX0_114 iX1_put rfl rfl (vo_F hg ha).1 (by omega) rfl (Nat.le_of_ble_eq_true rfl) (Nat.le_of_ble_eq_true rfl) ⟨rfl, rfl⟩ (kp1) ⟨rfl, rfl⟩ ?_
      try dsimp only [Option.toList, List.cons_append, List.nil_append]
      refine at_ld (i := 0) dX0_gatherAt_55 rfl rfl rfl ?_
      refine at_get dX0_gatherAt_56 fX0_26 (de_O hD) (by omega) rfl ?_
      refine at_ld (i := 5) dX0_gatherAt_59 rfl rfl rfl ?_
      refine at_k (nI 4) dX0_gatherAt_61 rfl (by decide) ?_
      refine at_bin dX0_gatherAt_62 rfl ?_
      try dsimp only
      rw [nI_mul, Nat.mul_comm _ 4]
      refine at_k (nI 4) dX0_gatherAt_63 rfl (by decide) ?_
      refine at_k (nI 0) dX0_gatherAt_64 rfl (by decide) ?_
      refine at_wv [_, _, _] dX0_gatherAt_65 mX1_put ⟨Nat.le_of_ble_eq_true rfl, Nat.le_of_ble_eq_true rfl⟩ lX0_114 iX1_put rfl rfl (vo_F hg ha).1 (by omega) rfl (Nat.le_of_ble_eq_true rfl) (Nat.le_of_ble_eq_true rfl) ⟨rfl, rfl⟩ (kp2) ⟨rfl, rfl⟩ ?_
      try dsimp only [Option.toList, List.cons_append, List.nil_append]
      refine at_ld (i := 0) dX0_gatherAt_68 rfl rfl rfl ?_
      refine at_get dX0_gatherAt_69 fX0_31 (de_O hD) (by omega) rfl ?_
      refine at_ld (i := 1) dX0_gatherAt_72 rfl rfl rfl ?_
      refine at_ld (i := 4) dX0_gatherAt_73 rfl rfl rfl ?_
      refine at_ld (i := 5) dX0_gatherAt_75 rfl rfl rfl ?_
      refine at_wv [_, _, _] dX0_gatherAt_77 mX2_setBlock ⟨Nat.le_of_ble_eq_true rfl, Nat.le_of_ble_eq_true rfl⟩ lX0_127 iX2_setBlock rfl rfl (vo_I hg ha).1 (by omega) rfl (Nat.le_of_ble_eq_true rfl) (Nat.le_of_ble_eq_true rfl) ⟨rfl, rfl⟩ (k_setBlock hg ha i k (by omega) (by omega) (nI (nwb v G P k))) ⟨rfl, rfl⟩ ?_
      try dsimp only [Option.toList, List.cons_append, List.nil_append]
      refine at_iinc (nI 1) dX0_gatherAt_80 rfl rfl (by decide) ?_
      try dsimp only [List.set_cons_succ, List.set_cons_zero]
      refine at_goto 12 dX0_gatherAt_83 (by decide) ?_
      rw [nI_add]
      refine ih (k + 1) _ _ _ (by omega) (mbq_put (mbq_put hb1 (by omega) (by omega) true) (by omega) (by omega) false) (fun f j => ?_)
      rw [kBl_at, hK1]
      by_cases q1 : f = 5 ∧ j = i * 10 + k
      · rw [if_pos q1, if_pos (by omega), q1.2, show i * 10 + k - i * 10 = k by omega]
      · rw [if_neg q1]
        by_cases q2 : f = 5 ∧ i * 10 ≤ j ∧ j < i * 10 + k
        · rw [if_pos q2, if_pos (by omega)]
        · rw [if_neg q2, if_neg (by omega)]
  exact loop (io v i 3 / 4) 0 b K none (by omega) hb (fun f j => by rw [if_neg (by omega)])
set_option maxRecDepth 100000 in
theorem k_gatherFile (hg : a + 13 ≤ g.1) (ha : a < 800) (hD : DE g a D) (hb : mbq (fr v) b) (hR : iR v K) (iv : inv v) (x : Int32) : sg_K MX0_gatherFile [.ref D, .int x] (vo g a v b d K (nI (v 6)) (nI (v 7))) (fun r h' => r = some (.int (s_gather v x).1) ∧ VS g a (s_gather v x).2 h') := by
  have w := iv.1.1
  have wT := iv.1.2.2
  have hgi := wf_gi w.1
  have hgb := wf_gb w.1
  have h04 := w.1.1
  have hD8 := hD.2.2.2.1
  generalize hS : s_gather v x = S
  show sg_A MX0_gatherFile 0 [some (.ref D), some (.int x), none, none, none, none] [] _ _
  refine at_ld (i := 0) dX0_gatherFile_0 rfl rfl rfl ?_
  refine at_get dX0_gatherFile_1 fX0_31 (de_O hD) (by omega) rfl ?_
  refine at_ld (i := 1) dX0_gatherFile_4 rfl rfl rfl ?_
  refine at_rv [_] dX0_gatherFile_5 mX2_kindOf ⟨Nat.le_of_ble_eq_true rfl, Nat.le_of_ble_eq_true rfl⟩ lX0_40 iX2_kindOf rfl rfl (vo_I hg ha).1 (by omega) rfl (Nat.le_of_ble_eq_true rfl) (Nat.le_of_ble_eq_true rfl) ⟨rfl, rfl⟩ (k_kindX (vo_I hg ha) hR w.1 iv.2.2.2.1 x) ?_
  refine at_k (nI 2) dX0_gatherFile_8 rfl (by decide) ?_
  have hk2 := kdX_le w x
  refine at_ieq 14 dX0_gatherFile_9 (by decide) (fun c => ?_) (fun c => ?_)
  · have c1 : isFil v x = true := by
      rw [isFil_k]
      exact decide_eq_true ((nI_eq32 (by omega) (by decide)).mp c)
    obtain ⟨i, hi, rfl, hi2⟩ := isFil_of w.1 c1
    have hth : io v i 0 ≠ 0 := by omega
    have es : sz v i = io v i 3 := sz_t hth
    have hs40 := wf_s w (show i < 24 by omega)
    rw [s_gather, if_pos c1, nI_clamp (by omega)] at hS
    have kbo := k_blocksOf (vo_I (g := g) (a := a) (L := v) (b := b) (d := d) (K := K) (e := nI (v 6)) (m := nI (v 7)) hg ha) hR w i (by omega)
    rw [es] at kbo
    refine at_ld (i := 0) dX0_gatherFile_14 rfl rfl rfl ?_
    refine at_get dX0_gatherFile_15 fX0_31 (de_O hD) (by omega) rfl ?_
    refine at_ld (i := 1) dX0_gatherFile_18 rfl rfl rfl ?_
    refine at_rv [_] dX0_gatherFile_19 mX2_blocksOf ⟨Nat.le_of_ble_eq_true rfl, Nat.le_of_ble_eq_true rfl⟩ lX0_95 iX2_blocksOf rfl rfl (vo_I hg ha).1 (by omega) rfl (Nat.le_of_ble_eq_true rfl) (Nat.le_of_ble_eq_true rfl) ⟨rfl, rfl⟩ (kbo) ?_
    refine at_st (i := 2) dX0_gatherFile_22 rfl rfl (Nat.le_of_ble_eq_true rfl) rfl ?_
    try dsimp only [List.set_cons_succ, List.set_cons_zero]
    refine at_ld (i := 0) dX0_gatherFile_23 rfl rfl rfl ?_
    refine at_get dX0_gatherFile_24 fX0_9 (de_O hD) (by omega) rfl ?_
    refine at_cv [] dX0_gatherFile_27 mX6_isSpoilt ⟨Nat.le_of_ble_eq_true rfl, Nat.le_of_ble_eq_true rfl⟩ lX0_50 iX6_isSpoilt rfl rfl (vo_V hg) (by omega) rfl (Nat.le_of_ble_eq_true rfl) (Nat.le_of_ble_eq_true rfl) (k_isSpoilt hg ha hb hR w iv.1.2.2 iv.2.2.1) ?_ ?_
    · rintro r h1 ⟨-, d', rfl⟩
      exact ⟨rfl, rfl⟩
    · rintro r h1 ⟨rfl, d', rfl⟩
      try dsimp only [Option.toList, List.cons_append, List.nil_append]
      have st : (spt v = true ∨ io v i 3 / 4 < 2) → sg_A MX0_gatherFile 38 [some (.ref D), some (.int (nI i)), some (.int (nI (io v i 3 / 4))), none, none, none] [] (vo g a v b d' K (nI (v 6)) (nI (v 7))) (fun r h' => r = some (.int S.1) ∧ VS g a S.2 h') := by
        intro q
        rw [if_pos q] at hS
        subst hS
        refine at_k (-2) dX0_gatherFile_38 rfl (by decide) ?_
        refine at_ret dX0_gatherFile_40 rfl rfl ?_
        exact ⟨rfl, b, d', K, rfl, hb, hR⟩
      refine at_zne 38 dX0_gatherFile_30 (by decide) (fun c4 => ?_) (fun c4 => ?_)
      · exact st (Or.inl (bI_1 c4))
      · have c4' : spt v = false := (bI_0 _).mp (Classical.not_not.mp c4)
        refine at_ld (i := 2) dX0_gatherFile_33 rfl rfl rfl ?_
        refine at_k (nI 2) dX0_gatherFile_34 rfl (by decide) ?_
        refine at_ige 41 dX0_gatherFile_35 (by decide) (fun c5 => ?_) (fun c5 => st (Or.inr ?_))
        · have c5' := (nI_leI (by decide) (by omega)).mp c5
          rw [if_neg (show ¬ (spt v = true ∨ io v i 3 / 4 < 2) by rw [c4']; rintro (q | q); cases q; omega)] at hS
          refine at_ld (i := 0) dX0_gatherFile_41 rfl rfl rfl ?_
          refine at_get dX0_gatherFile_42 fX0_21 (de_O hD) (by omega) rfl ?_
          refine at_ld (i := 1) dX0_gatherFile_45 rfl rfl rfl ?_
          refine at_rv [_] dX0_gatherFile_46 mX3_groupOfInode ⟨Nat.le_of_ble_eq_true rfl, Nat.le_of_ble_eq_true rfl⟩ lX0_136 iX3_groupOfInode rfl rfl (vo_Y hg) (by omega) rfl (Nat.le_of_ble_eq_true rfl) (Nat.le_of_ble_eq_true rfl) ⟨rfl, rfl⟩ (k_groupOfInode (vo_Y hg) (by omega) w.1 i (by omega)) ?_
          refine at_st (i := 3) dX0_gatherFile_49 rfl rfl (Nat.le_of_ble_eq_true rfl) rfl ?_
          try dsimp only [List.set_cons_succ, List.set_cons_zero]
          refine at_k (nI 0) dX0_gatherFile_50 rfl (by decide) ?_
          refine at_st (i := 4) dX0_gatherFile_51 rfl rfl (Nat.le_of_ble_eq_true rfl) rfl ?_
          try dsimp only [List.set_cons_succ, List.set_cons_zero]
          have hnear := gi_lt hi
          have egf : gfind v i = srch (fun n => gin v (bh v (i / v 2) n) (io v i 3 / 4)) 0 (v 0) := rfl
          have loop : ∀ n k y5, k + n = v 0 → gfind v i = srch (fun n => gin v (bh v (i / v 2) n) (io v i 3 / 4)) k (v 0 - k) → sg_A MX0_gatherFile 53 [some (.ref D), some (.int (nI i)), some (.int (nI (io v i 3 / 4))), some (.int (nI (i / v 2))), some (.int (nI k)), y5] [] (vo g a v b d' K (nI (v 6)) (nI (v 7))) (fun r h' => r = some (.int S.1) ∧ VS g a S.2 h') := by
            intro n
            induction n with
            | zero =>
              intro k y5 hk he
              have : k = v 0 := by omega
              subst this
              rw [sr_0] at he
              rw [he] at hS
              subst hS
              refine at_ld (i := 4) dX0_gatherFile_53 rfl rfl rfl ?_
              refine at_ld (i := 0) dX0_gatherFile_55 rfl rfl rfl ?_
              refine at_get dX0_gatherFile_56 fX0_21 (de_O hD) (by omega) rfl ?_
              refine at_get dX0_gatherFile_59 fX0_167 (vo_Y hg) (by omega) rfl ?_
              refine at_ige 115 dX0_gatherFile_62 (by decide) (fun _ => ?_) (fun c => absurd (nI_le (Nat.le_refl _) (by omega)) c)
              refine at_k (-3) dX0_gatherFile_115 rfl (by decide) ?_
              refine at_ret dX0_gatherFile_117 rfl rfl ?_
              exact ⟨rfl, b, d', K, rfl, hb, hR⟩
            | succ n ih =>
              intro k y5 hk he
              have hG := bh_lt w.1 (i / v 2) k
              have kr := k_gatheredRowIn (vo_F (g := g) (a := a) (L := v) (b := b) (d := d') (K := K) (e := nI (v 6)) (m := nI (v 7)) hg ha) hb w.1 (bh v (i / v 2) k) (io v i 3 / 4) hG (by omega) (by omega)
              rw [grw1_e] at kr
              refine at_ld (i := 4) dX0_gatherFile_53 rfl rfl rfl ?_
              refine at_ld (i := 0) dX0_gatherFile_55 rfl rfl rfl ?_
              refine at_get dX0_gatherFile_56 fX0_21 (de_O hD) (by omega) rfl ?_
              refine at_get dX0_gatherFile_59 fX0_167 (vo_Y hg) (by omega) rfl ?_
              refine at_ige 115 dX0_gatherFile_62 (by decide) (fun c => absurd c (nI_ge (by omega) (by omega))) (fun _ => ?_)
              cases hgn : gin v (bh v (i / v 2) k) (io v i 3 / 4) with
              | none =>
                rw [hgn] at kr
                refine at_ld (i := 0) dX0_gatherFile_65 rfl rfl rfl ?_
                refine at_get dX0_gatherFile_66 fX0_26 (de_O hD) (by omega) rfl ?_
                refine at_ld (i := 0) dX0_gatherFile_69 rfl rfl rfl ?_
                refine at_get dX0_gatherFile_70 fX0_21 (de_O hD) (by omega) rfl ?_
                refine at_ld (i := 3) dX0_gatherFile_73 rfl rfl rfl ?_
                refine at_ld (i := 4) dX0_gatherFile_74 rfl rfl rfl ?_
                refine at_rv [_, _] dX0_gatherFile_76 mX3_behind ⟨Nat.le_of_ble_eq_true rfl, Nat.le_of_ble_eq_true rfl⟩ lX0_170 iX3_behind rfl rfl (vo_Y hg) (by omega) rfl (Nat.le_of_ble_eq_true rfl) (Nat.le_of_ble_eq_true rfl) ⟨rfl, rfl⟩ (k_behind (vo_Y hg) (by omega) w.1 (i / v 2) k hnear (by omega)) ?_
                refine at_ld (i := 2) dX0_gatherFile_79 rfl rfl rfl ?_
                refine at_rv [_, _] dX0_gatherFile_80 mX1_gatheredRowIn ⟨Nat.le_of_ble_eq_true rfl, Nat.le_of_ble_eq_true rfl⟩ lX0_173 iX1_gatheredRowIn rfl rfl (vo_F hg ha).1 (by omega) rfl (Nat.le_of_ble_eq_true rfl) (Nat.le_of_ble_eq_true rfl) ⟨rfl, rfl⟩ (kr) ?_
                refine at_st (i := 5) dX0_gatherFile_83 rfl rfl (Nat.le_of_ble_eq_true rfl) rfl ?_
                try dsimp only [List.set_cons_succ, List.set_cons_zero]
                refine at_ld (i := 5) dX0_gatherFile_85 rfl rfl rfl ?_
                refine at_k (-4) dX0_gatherFile_87 rfl (by decide) ?_
                refine at_ieq 109 dX0_gatherFile_89 (by decide) (fun _ => ?_) (fun c => absurd (rfl) c)
                refine at_iinc (nI 1) dX0_gatherFile_109 rfl rfl (by decide) ?_
                try dsimp only [List.set_cons_succ, List.set_cons_zero]
                refine at_goto 53 dX0_gatherFile_112 (by decide) ?_
                rw [nI_add]
                exact ih (k + 1) _ (by omega) (by rw [he, sr_n (f := fun n => gin v (bh v (i / v 2) n) (io v i 3 / 4)) (k := k) (n := v 0) (by omega) hgn])
              | some gp =>
                obtain ⟨e1, e2, e3⟩ := gin_of hgn
                rw [sr_s (f := fun n => gin v (bh v (i / v 2) n) (io v i 3 / 4)) (k := k) (n := v 0) (by omega) hgn] at he
                rw [he] at hS
                dsimp only at hS
                obtain ⟨G, P⟩ := gp
                dsimp only at e1 e2 e3 hS
                subst e1
                have kr2 : sg_Kr MX1_gatheredRowIn [.ref (a + 2), .int (nI (bh v (i / v 2) k)), .int (nI (io v i 3 / 4))] (vo g a v b d' K (nI (v 6)) (nI (v 7))) (.int (nI (v 1 * bh v (i / v 2) k + P))) := by
                  rw [hgn] at kr
                  exact kr
                have hlt := gb_lt hG e2
                generalize hGe : bh v (i / v 2) k = G at hS kr2 hG e3 hlt
                have kbh := k_behind (vo_Y (g := g) (a := a) (L := v) (b := b) (d := d') (K := K) (e := nI (v 6)) (m := nI (v 7)) hg) (by omega) w.1 (i / v 2) k hnear (by omega)
                rw [hGe] at kbh
                have hnw : ∀ j, j < io v i 3 / 4 → nwb v G P j < 32 := by
                  intro j hj
                  have h1 := gb_lt hG (rfr_of e3 hj).1
                  unfold nwb
                  rw [Nat.add_assoc]
                  omega
                obtain ⟨gw, -, gio, -, gc, -⟩ := gth_wf w (show i < 24 by omega) hnw
                refine at_ld (i := 0) dX0_gatherFile_65 rfl rfl rfl ?_
                refine at_get dX0_gatherFile_66 fX0_26 (de_O hD) (by omega) rfl ?_
                refine at_ld (i := 0) dX0_gatherFile_69 rfl rfl rfl ?_
                refine at_get dX0_gatherFile_70 fX0_21 (de_O hD) (by omega) rfl ?_
                refine at_ld (i := 3) dX0_gatherFile_73 rfl rfl rfl ?_
                refine at_ld (i := 4) dX0_gatherFile_74 rfl rfl rfl ?_
                refine at_rv [_, _] dX0_gatherFile_76 mX3_behind ⟨Nat.le_of_ble_eq_true rfl, Nat.le_of_ble_eq_true rfl⟩ lX0_170 iX3_behind rfl rfl (vo_Y hg) (by omega) rfl (Nat.le_of_ble_eq_true rfl) (Nat.le_of_ble_eq_true rfl) ⟨rfl, rfl⟩ (kbh) ?_
                refine at_ld (i := 2) dX0_gatherFile_79 rfl rfl rfl ?_
                refine at_rv [_, _] dX0_gatherFile_80 mX1_gatheredRowIn ⟨Nat.le_of_ble_eq_true rfl, Nat.le_of_ble_eq_true rfl⟩ lX0_173 iX1_gatheredRowIn rfl rfl (vo_F hg ha).1 (by omega) rfl (Nat.le_of_ble_eq_true rfl) (Nat.le_of_ble_eq_true rfl) ⟨rfl, rfl⟩ (kr2) ?_
                refine at_st (i := 5) dX0_gatherFile_83 rfl rfl (Nat.le_of_ble_eq_true rfl) rfl ?_
                try dsimp only [List.set_cons_succ, List.set_cons_zero]
                refine at_ld (i := 5) dX0_gatherFile_85 rfl rfl rfl ?_
                refine at_k (-4) dX0_gatherFile_87 rfl (by decide) ?_
                refine at_ieq 109 dX0_gatherFile_89 (by decide) (fun c => absurd c (oI_n (by omega))) (fun _ => ?_)
                refine at_ld (i := 0) dX0_gatherFile_92 rfl rfl rfl ?_
                refine at_ld (i := 1) dX0_gatherFile_93 rfl rfl rfl ?_
                refine at_ld (i := 5) dX0_gatherFile_94 rfl rfl rfl ?_
                refine at_cv [_, _] dX0_gatherFile_96 mX0_gatherAt ⟨Nat.le_of_ble_eq_true rfl, Nat.le_of_ble_eq_true rfl⟩ lX0_176 iX0_gatherAt rfl rfl (de_O hD) (by omega) rfl (Nat.le_of_ble_eq_true rfl) (Nat.le_of_ble_eq_true rfl) (k_gatherAt hg ha hD hb hR iv c4' i G P hi hth hG e3 e2) ?_ ?_
                · rintro r h1 ⟨-, b', d2, K', rfl, -, -⟩
                  exact ⟨rfl, rfl⟩
                · rintro r h1 ⟨rfl, b', d2, K', rfl, hb', hR'⟩
                  try dsimp only [Option.toList, List.cons_append, List.nil_append]
                  have kpr := k_pairsOf (g := g) (a := a) (v := gth v i G P) (b := b') (d := d2) (K := K') (e := nI (gth v i G P 6)) (m := nI (gth v i G P 7)) hg ha hR' gw i (by omega) true
                  rw [prn_t (by rw [gio i 0 (by decide) (Or.inr (by decide))]; exact hth)] at kpr
                  refine at_ld (i := 0) dX0_gatherFile_99 rfl rfl rfl ?_
                  refine at_get dX0_gatherFile_100 fX0_9 (de_O hD) (by omega) rfl ?_
                  refine at_ld (i := 1) dX0_gatherFile_103 rfl rfl rfl ?_
                  refine at_k (nI 1) dX0_gatherFile_104 rfl (by decide) ?_
                  refine at_rv [_, _] dX0_gatherFile_105 mX6_pairsOf ⟨Nat.le_of_ble_eq_true rfl, Nat.le_of_ble_eq_true rfl⟩ lX0_180 iX6_pairsOf rfl rfl (vo_V hg) (by omega) rfl (Nat.le_of_ble_eq_true rfl) (Nat.le_of_ble_eq_true rfl) ⟨rfl, rfl⟩ (kpr) ?_
                  refine at_ret dX0_gatherFile_108 rfl rfl ?_
                  subst hS
                  exact ⟨rfl, b', d2, K', rfl, hb', hR'⟩
          exact loop (v 0) 0 none (by omega) egf
        · rcases Nat.lt_or_ge (io v i 3 / 4) 2 with q | q
          · exact q
          · exact absurd (nI_le q (by omega)) c5
  · refine at_k (-1) dX0_gatherFile_12 rfl (by decide) ?_
    refine at_ret dX0_gatherFile_13 rfl rfl ?_
    rw [s_gather, if_neg (fun q => c (by rw [isFil_k] at q; rw [of_decide_eq_true q]))] at hS
    subst hS
    exact ⟨rfl, b, d, K, rfl, hb, hR⟩
end C18
