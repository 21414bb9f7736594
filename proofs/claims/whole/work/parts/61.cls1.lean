/-! THE CLASS ITSELF: its state, what it tells -/
def ag (S : Nat → Prop) (g h : sg_H) : Prop := h.1 = g.1 ∧ h.2.1 = g.2.1 ∧ ∀ j, ¬ S j → h.2.2 j = g.2.2 j
theorem ag_r (S : Nat → Prop) (g : sg_H) : ag S g g := ⟨rfl, rfl, fun _ _ => rfl⟩
theorem ag_t {S : Nat → Prop} {a b c : sg_H} (h1 : ag S a b) (h2 : ag S b c) : ag S a c := ⟨h2.1.trans h1.1, h2.2.1.trans h1.2.1, fun j hj => (h2.2.2 j hj).trans (h1.2.2 j hj)⟩
theorem ag_w {S S' : Nat → Prop} {a b : sg_H} (h : ag S a b) (hs : ∀ j, S j → S' j) : ag S' a b := ⟨h.1, h.2.1, fun j hj => h.2.2 j (fun q => hj (hs j q))⟩
theorem ag_at {S : Nat → Prop} {g h : sg_H} (hg : ag S g h) {j : Nat} {e : sg_E} (ha : sg_at g j e) (hj : ¬ S j) : sg_at h j e := ⟨by rw [hg.1]; exact ha.1, by rw [hg.2.2 j hj]; exact ha.2⟩
theorem ag_up (g : sg_H) (k : Nat) (e : sg_E) : ag (fun j => j = k) g (sg_up g k e) := ⟨rfl, rfl, fun j hj => if_neg hj⟩
theorem ag_vo2 (g : sg_H) (a : Nat) (C : Nat → sg_E) : ag (fun j => a ≤ j ∧ j < a + 13) g (vo2 g a C) := ⟨rfl, rfl, fun j hj => if_neg hj⟩
theorem ag_vo (g : sg_H) (a : Nat) (L : Nat → Nat) (b d : Nat → Int32) (K : Nat → Nat → Int32) (e m : Int32) : ag (fun j => a ≤ j ∧ j < a + 13) g (vo g a L b d K e m) := ag_vo2 g a _
theorem ag_VS {g h : sg_H} {a : Nat} {v : Nat → Nat} (h1 : VS g a v h) : ag (fun j => a ≤ j ∧ j < a + 13) g h := by
  obtain ⟨b, d, K, rfl, -, -⟩ := h1
  exact ag_vo _ _ _ _ _ _ _ _
theorem vo2_self {g : sg_H} {a : Nat} {C : Nat → sg_E} (h : ∀ o, o < 13 → g.2.2 (a + o) = C o) : g = vo2 g a C := by
  refine Prod.ext rfl (Prod.ext rfl ?_)
  funext j
  show g.2.2 j = if a ≤ j ∧ j < a + 13 then C (j - a) else g.2.2 j
  split
  · next q =>
    have := h (j - a) (by omega)
    rw [show a + (j - a) = j by omega] at this
    exact this
  · rfl
theorem vo2_c {g : sg_H} {a : Nat} {C : Nat → sg_E} (h : g = vo2 g a C) {o : Nat} (ho : o < 13) : g.2.2 (a + o) = C o := by
  have := congrArg (fun q : sg_H => q.2.2 (a + o)) h
  have e : (vo2 g a C).2.2 (a + o) = C o := by
    show (if a ≤ a + o ∧ a + o < a + 13 then C (a + o - a) else _) = _
    rw [if_pos (by omega), show a + o - a = o by omega]
  exact this.trans e
theorem vo2_ag {S : Nat → Prop} {g h : sg_H} {a : Nat} {C : Nat → sg_E} (hg : ag S g h) (h1 : g = vo2 g a C) (hs : ∀ o, o < 13 → ¬ S (a + o)) : h = vo2 h a C := vo2_self (fun o ho => by rw [hg.2.2 _ (hs o ho)]; exact vo2_c h1 ho)
theorem vo_vo (g : sg_H) (a : Nat) (C C' : Nat → sg_E) : vo2 (vo2 g a C) a C' = vo2 g a C' := by
  refine Prod.ext rfl (Prod.ext rfl ?_)
  funext j
  show (if a ≤ j ∧ j < a + 13 then C' (j - a) else if a ≤ j ∧ j < a + 13 then C (j - a) else g.2.2 j) = if a ≤ j ∧ j < a + 13 then C' (j - a) else g.2.2 j
  split
  · rfl
  · rfl
def VV (g : sg_H) (a : Nat) (v : Nat → Nat) : Prop := VS g a v g
def VX (g : sg_H) (a : Nat) : Prop := ∃ L b d K e m, g = vo g a L b d K e m
theorem VV_of {g h : sg_H} {a : Nat} {v : Nat → Nat} (h1 : VS g a v h) : VV h a v := by
  obtain ⟨b, d, K, rfl, hb, hR⟩ := h1
  exact ⟨b, d, K, (vo_vo _ _ _ _).symm, hb, hR⟩
theorem VV_ag {S : Nat → Prop} {g h : sg_H} {a : Nat} {v : Nat → Nat} (hg : ag S g h) (h1 : VV g a v) (hs : ∀ o, o < 13 → ¬ S (a + o)) : VV h a v := by
  obtain ⟨b, d, K, e, hb, hR⟩ := h1
  exact ⟨b, d, K, vo2_ag hg e hs, hb, hR⟩
theorem VX_ag {S : Nat → Prop} {g h : sg_H} {a : Nat} (hg : ag S g h) (h1 : VX g a) (hs : ∀ o, o < 13 → ¬ S (a + o)) : VX h a := by
  obtain ⟨L, b, d, K, e, m, q⟩ := h1
  exact ⟨L, b, d, K, e, m, vo2_ag hg q hs⟩
theorem VX_V {g : sg_H} {a : Nat} {v : Nat → Nat} (h : VV g a v) : VX g a := by
  obtain ⟨b, d, K, e, -, -⟩ := h
  exact ⟨v, b, d, K, _, _, e⟩
theorem DE_ag {S : Nat → Prop} {g h : sg_H} {a D : Nat} (hg : ag S g h) (h1 : DE g a D) (hs : ∀ o, o < 3 → ¬ S (D + o)) : DE h a D := by
  obtain ⟨q1, q2, ⟨y, q3⟩, q4, q5⟩ := h1
  exact ⟨ag_at hg q1 (hs 0 (by decide)), ag_at hg q2 (hs 1 (by decide)), ⟨y, ag_at hg q3 (hs 2 (by decide))⟩, q4, q5⟩
theorem TP_ag {S : Nat → Prop} {g h : sg_H} {t : Nat → Nat} {n : Nat} (hg : ag S g h) (h1 : TP g t n) (hs : ¬ S 17 ∧ ¬ S 18) : TP h t n := by
  obtain ⟨q1, ⟨B, q2, q3⟩, q4⟩ := h1
  exact ⟨ag_at hg q1 hs.1, ⟨B, ag_at hg q2 hs.2, q3⟩, q4⟩
theorem SR_ag {S : Nat → Prop} {g h : sg_H} (hg : ag S g h) (h1 : SR g) (hs : ∀ j, 1000 ≤ j → ¬ S j) : SR h := by
  obtain ⟨⟨f1, a1, b1⟩, ⟨f2, a2, b2⟩, f3, a3, b3⟩ := h1
  exact ⟨⟨f1, ag_at hg a1 (hs _ (by decide)), b1⟩, ⟨f2, ag_at hg a2 (hs _ (by decide)), b2⟩, f3, ag_at hg a3 (hs _ (by decide)), b3⟩
/-- the reader -/
def RX (g : sg_H) : Prop := ∃ N lk f fp nx ts tp tv, g = rd g N lk f fp nx ts tp tv
theorem RX_self {g : sg_H} {N : Nat → Int32} {lk f fp nx ts tp : Nat} {tv : Int32} (h1 : g.2.2 19 = .inr (4, rd_l lk f fp nx ts tp tv)) (h2 : g.2.2 20 = .inl (false, 6, N)) : g = rd g N lk f fp nx ts tp tv := by
  refine Prod.ext rfl (Prod.ext rfl ?_)
  funext j
  show g.2.2 j = if j = 19 then .inr (4, rd_l lk f fp nx ts tp tv) else if j = 20 then .inl (false, 6, N) else g.2.2 j
  by_cases q : j = 19
  · rw [if_pos q, q, h1]
  · rw [if_neg q]
    by_cases q2 : j = 20
    · rw [if_pos q2, q2, h2]
    · rw [if_neg q2]
theorem RX_c {g : sg_H} {N : Nat → Int32} {lk f fp nx ts tp : Nat} {tv : Int32} (h : g = rd g N lk f fp nx ts tp tv) : g.2.2 19 = .inr (4, rd_l lk f fp nx ts tp tv) ∧ g.2.2 20 = .inl (false, 6, N) := ⟨(congrArg (fun q : sg_H => q.2.2 19) h).trans rfl, (congrArg (fun q : sg_H => q.2.2 20) h).trans rfl⟩
theorem RX_ag {S : Nat → Prop} {g h : sg_H} (hg : ag S g h) (h1 : RX g) (hs : ¬ S 19 ∧ ¬ S 20) : RX h := by
  obtain ⟨N, lk, f, fp, nx, ts, tp, tv, q⟩ := h1
  obtain ⟨c1, c2⟩ := RX_c q
  exact ⟨N, lk, f, fp, nx, ts, tp, tv, RX_self (by rw [hg.2.2 _ hs.1]; exact c1) (by rw [hg.2.2 _ hs.2]; exact c2)⟩
/-- the object's own fields -/
def sgF (tc : Int32) (fl : Nat) (b0 b1 : Bool) (sd : Int32) : List Value := [.ref 1, .ref 14, .ref 17, .ref 19, .ref 21, .ref 34, .ref 37, .int tc, .int (nI fl), .ref 38, .ref 51, .int (bI b0), .int (bI b1), .int sd]
/-- the object's state: the volume's v, the tape t of n, the fault, which images there are, what they are -/
def CS (g : sg_H) (v t : Nat → Nat) (n fl : Nat) (ib : Nat → Bool) (u : Nat → Nat → Nat) : Prop :=
  64 ≤ g.1 ∧ (∃ tc sd, sg_at g 0 (.inr (7, sgF tc fl (ib 0) (ib 1) sd))) ∧ VV g 1 v ∧ DE g 1 14 ∧ TP g t n ∧ RX g ∧ VX g 21 ∧ DE g 21 34 ∧ (∃ E, sg_at g 37 (.inl (false, 24, E))) ∧ (VX g 38 ∧ VX g 51) ∧ (ib 0 = true → VV g 38 (u 0)) ∧ (ib 1 = true → VV g 51 (u 1)) ∧ SR g
theorem CS_v {g h : sg_H} {v v' t : Nat → Nat} {n fl : Nat} {ib : Nat → Bool} {u : Nat → Nat → Nat} (hC : CS g v t n fl ib u) (h1 : VS g 1 v' h) : CS h v' t n fl ib u := by
  have hg := ag_VS h1
  obtain ⟨c0, ⟨tc, sd, c1⟩, c2, c3, c4, c5, c6, c7, ⟨E, c8⟩, ⟨c9, c10⟩, c11, c12, c13⟩ := hC
  exact ⟨by rw [hg.1]; exact c0, ⟨tc, sd, ag_at hg c1 (by omega)⟩, VV_of h1, DE_ag hg c3 (fun o ho => by omega), TP_ag hg c4 ⟨by omega, by omega⟩, RX_ag hg c5 ⟨by omega, by omega⟩, VX_ag hg c6 (fun o ho => by omega), DE_ag hg c7 (fun o ho => by omega), ⟨E, ag_at hg c8 (by omega)⟩, ⟨VX_ag hg c9 (fun o ho => by omega), VX_ag hg c10 (fun o ho => by omega)⟩, fun q => VV_ag hg (c11 q) (fun o ho => by omega), fun q => VV_ag hg (c12 q) (fun o ho => by omega), SR_ag hg c13 (fun j hj => by omega)⟩
theorem CS_16 {g : sg_H} {v t : Nat → Nat} {n fl : Nat} {ib : Nat → Bool} {u : Nat → Nat → Nat} (hC : CS g v t n fl ib u) (q : Nat → Int32) : CS (sg_up g (14 + 1 + 1) (.inl (false, 32, q))) v t n fl ib u := by
  have hg := ag_up g (14 + 1 + 1) (.inl (false, 32, q))
  obtain ⟨c0, ⟨tc, sd, c1⟩, c2, c3, c4, c5, c6, c7, ⟨E, c8⟩, ⟨c9, c10⟩, c11, c12, c13⟩ := hC
  exact ⟨by rw [hg.1]; exact c0, ⟨tc, sd, ag_at hg c1 (by omega)⟩, VV_ag hg c2 (fun o ho => by omega), de_up c3 q, TP_ag hg c4 ⟨by omega, by omega⟩, RX_ag hg c5 ⟨by omega, by omega⟩, VX_ag hg c6 (fun o ho => by omega), DE_ag hg c7 (fun o ho => by omega), ⟨E, ag_at hg c8 (by omega)⟩, ⟨VX_ag hg c9 (fun o ho => by omega), VX_ag hg c10 (fun o ho => by omega)⟩, fun q => VV_ag hg (c11 q) (fun o ho => by omega), fun q => VV_ag hg (c12 q) (fun o ho => by omega), SR_ag hg c13 (fun j hj => by omega)⟩
/-- what a call of the class may change -/
def in64 (j : Nat) : Prop := j < 64
theorem ag_v {g h : sg_H} {v : Nat → Nat} (h1 : VS g 1 v h) : ag in64 g h := ag_w (ag_VS h1) (fun j hj => by show j < 64; omega)
section K1
variable {g : sg_H} {v t : Nat → Nat} {n fl : Nat} {ib : Nat → Bool} {u : Nat → Nat → Nat}
set_option maxRecDepth 100000 in
theorem x_rule (hC : CS g v t n fl ib u) (iv : inv v) (x : Int32) : sg_Kr MX7_rule [.ref 0, .int x] g (.int (s_rule v x)) := by
  have w := iv.1.1
  obtain ⟨c0, ⟨tc, sd, h0⟩, ⟨b, d, K, eV, hb, hR⟩, hD, hT, hX, -⟩ := hC
  have hV : sg_at g 1 (.inr (6, [.ref (1 + 1), .ref (1 + 2), .ref (1 + 4), .ref (1 + 6), .int (nI (v 6)), .int (nI (v 7))])) := by rw [eV]; exact vo_V (by omega)
  have hY : sg_at g (1 + 1) (.inr (3, lay v)) := by rw [eV]; exact vo_Y (by omega)
  have hF : FM g (1 + 2) (1 + 1) v b := by rw [eV]; exact vo_F (by omega) (by decide)
  have hI : IN g (1 + 6) (1 + 1) v K := by rw [eV]; exact vo_I (by omega) (by decide)
  show sg_A MX7_rule 0 [some (.ref 0), some (.int x)] [] _ _
  have kp := fun f => k_pairsOfAll (g := g) (a := 1) (v := v) (b := b) (d := d) (K := K) (e := nI (v 6)) (m := nI (v 7)) (by omega) (by decide) hR w f
  rw [← eV] at kp
  by_cases q : inR x 0 14 = true
  · have es : s_rule v x = nI (rl15 v x.toNatClampNeg) := by unfold s_rule; rw [if_pos q]
    rw [es]
    obtain ⟨k, -, hk, rfl⟩ := inR_of (by decide) q
    rw [nI_clamp (by omega)]
    refine at_ld (i := 1) dX7_rule_0 rfl rfl rfl ?_
    refine at_zlt 10 dX7_rule_1 (by decide) (fun cz_ => absurd cz_ (nI_pos (by omega))) (fun _ => ?_)
    refine at_ld (i := 1) dX7_rule_4 rfl rfl rfl ?_
    refine at_k (nI 14) dX7_rule_5 rfl (by decide) ?_
    refine at_ile 12 dX7_rule_7 (by decide) (fun _ => ?_) (fun cz_ => absurd (nI_le hk (by decide)) cz_)
    refine at_ld (i := 1) dX7_rule_12 rfl rfl rfl ?_
    rcases Nat.lt_or_ge k 6 with c | c
    · refine at_tout 155 dX7_rule_13 (Or.inl (by rw [nI_toInt (by omega)]; omega)) (by decide) ?_
      refine at_ld (i := 0) dX7_rule_155 rfl rfl rfl ?_
      refine at_get dX7_rule_156 fX7_10 h0 (by omega) rfl ?_
      refine at_get dX7_rule_159 fX7_173 hV (by omega) rfl ?_
      refine at_ld (i := 1) dX7_rule_162 rfl rfl rfl ?_
      refine at_rv [_] dX7_rule_163 mX3_number ⟨Nat.le_of_ble_eq_true rfl, Nat.le_of_ble_eq_true rfl⟩ lX7_177 iX3_number rfl rfl hY (by omega) rfl (Nat.le_of_ble_eq_true rfl) (Nat.le_of_ble_eq_true rfl) ⟨rfl, rfl⟩ (k_number hY (by decide) k c) ?_
      refine at_ret dX7_rule_166 rfl rfl ?_
      unfold rl15
      rw [if_pos c]
      exact ⟨rfl, rfl⟩
    · rcases (show k = 6 ∨ k = 7 ∨ k = 8 ∨ k = 9 ∨ k = 10 ∨ k = 11 ∨ k = 12 ∨ k = 13 ∨ k = 14 by omega) with rfl | rfl | rfl | rfl | rfl | rfl | rfl | rfl | rfl
      · refine at_tin 64 dX7_rule_13 (by decide) (by decide) rfl (by decide) ?_
        refine at_ld (i := 0) dX7_rule_64 rfl rfl rfl ?_
        refine at_get dX7_rule_65 fX7_10 h0 (by omega) rfl ?_
        refine at_get dX7_rule_68 fX7_145 hV (by omega) rfl ?_
        refine at_rv [] dX7_rule_71 mX1_freeFragments ⟨Nat.le_of_ble_eq_true rfl, Nat.le_of_ble_eq_true rfl⟩ lX7_149 iX1_freeFragments rfl rfl hF.1 (by omega) rfl (Nat.le_of_ble_eq_true rfl) (Nat.le_of_ble_eq_true rfl) ⟨rfl, rfl⟩ (k_freeFragments hF hb w.1) ?_
        refine at_ret dX7_rule_74 rfl rfl ?_
        exact ⟨rfl, rfl⟩
      · refine at_tin 75 dX7_rule_13 (by decide) (by decide) rfl (by decide) ?_
        refine at_ld (i := 0) dX7_rule_75 rfl rfl rfl ?_
        refine at_get dX7_rule_76 fX7_10 h0 (by omega) rfl ?_
        refine at_get dX7_rule_79 fX7_145 hV (by omega) rfl ?_
        refine at_rv [] dX7_rule_82 mX1_freeBlocks ⟨Nat.le_of_ble_eq_true rfl, Nat.le_of_ble_eq_true rfl⟩ lX7_154 iX1_freeBlocks rfl rfl hF.1 (by omega) rfl (Nat.le_of_ble_eq_true rfl) (Nat.le_of_ble_eq_true rfl) ⟨rfl, rfl⟩ (k_freeBlocks hF hb w.1) ?_
        refine at_ret dX7_rule_85 rfl rfl ?_
        exact ⟨rfl, rfl⟩
      · refine at_tin 86 dX7_rule_13 (by decide) (by decide) rfl (by decide) ?_
        refine at_ld (i := 0) dX7_rule_86 rfl rfl rfl ?_
        refine at_get dX7_rule_87 fX7_10 h0 (by omega) rfl ?_
        refine at_get dX7_rule_90 fX7_113 hV (by omega) rfl ?_
        refine at_k (nI 1) dX7_rule_93 rfl (by decide) ?_
        refine at_rv [_] dX7_rule_94 mX2_howMany ⟨Nat.le_of_ble_eq_true rfl, Nat.le_of_ble_eq_true rfl⟩ lX7_157 iX2_howMany rfl rfl hI.1 (by omega) rfl (Nat.le_of_ble_eq_true rfl) (Nat.le_of_ble_eq_true rfl) ⟨rfl, rfl⟩ (k_howMany hI hR w 1 (by decide)) ?_
        refine at_ret dX7_rule_97 rfl rfl ?_
        exact ⟨rfl, rfl⟩
      · refine at_tin 98 dX7_rule_13 (by decide) (by decide) rfl (by decide) ?_
        refine at_ld (i := 0) dX7_rule_98 rfl rfl rfl ?_
        refine at_get dX7_rule_99 fX7_10 h0 (by omega) rfl ?_
        refine at_get dX7_rule_102 fX7_113 hV (by omega) rfl ?_
        refine at_k (nI 2) dX7_rule_105 rfl (by decide) ?_
        refine at_rv [_] dX7_rule_106 mX2_howMany ⟨Nat.le_of_ble_eq_true rfl, Nat.le_of_ble_eq_true rfl⟩ lX7_157 iX2_howMany rfl rfl hI.1 (by omega) rfl (Nat.le_of_ble_eq_true rfl) (Nat.le_of_ble_eq_true rfl) ⟨rfl, rfl⟩ (k_howMany hI hR w 2 (by decide)) ?_
        refine at_ret dX7_rule_109 rfl rfl ?_
        exact ⟨rfl, rfl⟩
      · refine at_tin 110 dX7_rule_13 (by decide) (by decide) rfl (by decide) ?_
        refine at_ld (i := 0) dX7_rule_110 rfl rfl rfl ?_
        refine at_get dX7_rule_111 fX7_10 h0 (by omega) rfl ?_
        refine at_get dX7_rule_114 fX7_113 hV (by omega) rfl ?_
        refine at_rv [] dX7_rule_117 mX2_sizesOfAll ⟨Nat.le_of_ble_eq_true rfl, Nat.le_of_ble_eq_true rfl⟩ lX7_160 iX2_sizesOfAll rfl rfl hI.1 (by omega) rfl (Nat.le_of_ble_eq_true rfl) (Nat.le_of_ble_eq_true rfl) ⟨rfl, rfl⟩ (k_sizesOfAll hI hR w) ?_
        refine at_ret dX7_rule_120 rfl rfl ?_
        exact ⟨rfl, rfl⟩
      · refine at_tin 121 dX7_rule_13 (by decide) (by decide) rfl (by decide) ?_
        refine at_ld (i := 0) dX7_rule_121 rfl rfl rfl ?_
        refine at_get dX7_rule_122 fX7_10 h0 (by omega) rfl ?_
        refine at_k (nI 0) dX7_rule_125 rfl (by decide) ?_
        refine at_rv [_] dX7_rule_126 mX6_pairsOfAll ⟨Nat.le_of_ble_eq_true rfl, Nat.le_of_ble_eq_true rfl⟩ lX7_163 iX6_pairsOfAll rfl rfl hV (by omega) rfl (Nat.le_of_ble_eq_true rfl) (Nat.le_of_ble_eq_true rfl) ⟨rfl, rfl⟩ (kp false) ?_
        refine at_ret dX7_rule_129 rfl rfl ?_
        exact ⟨rfl, rfl⟩
      · refine at_tin 130 dX7_rule_13 (by decide) (by decide) rfl (by decide) ?_
        refine at_ld (i := 0) dX7_rule_130 rfl rfl rfl ?_
        refine at_get dX7_rule_131 fX7_10 h0 (by omega) rfl ?_
        refine at_k (nI 1) dX7_rule_134 rfl (by decide) ?_
        refine at_rv [_] dX7_rule_135 mX6_pairsOfAll ⟨Nat.le_of_ble_eq_true rfl, Nat.le_of_ble_eq_true rfl⟩ lX7_163 iX6_pairsOfAll rfl rfl hV (by omega) rfl (Nat.le_of_ble_eq_true rfl) (Nat.le_of_ble_eq_true rfl) ⟨rfl, rfl⟩ (kp true) ?_
        refine at_ret dX7_rule_138 rfl rfl ?_
        exact ⟨rfl, rfl⟩
      · refine at_tin 139 dX7_rule_13 (by decide) (by decide) rfl (by decide) ?_
        refine at_ld (i := 0) dX7_rule_139 rfl rfl rfl ?_
        refine at_get dX7_rule_140 fX7_10 h0 (by omega) rfl ?_
        refine at_get dX7_rule_143 fX7_167 hV (by omega) rfl ?_
        refine at_ret dX7_rule_146 rfl rfl ?_
        exact ⟨rfl, rfl⟩
      · refine at_tin 147 dX7_rule_13 (by decide) (by decide) rfl (by decide) ?_
        refine at_ld (i := 0) dX7_rule_147 rfl rfl rfl ?_
        refine at_get dX7_rule_148 fX7_10 h0 (by omega) rfl ?_
        refine at_get dX7_rule_151 fX7_170 hV (by omega) rfl ?_
        refine at_ret dX7_rule_154 rfl rfl ?_
        exact ⟨rfl, rfl⟩
  · have es : s_rule v x = -1 := by unfold s_rule; rw [if_neg q]
    rw [es]
    have bad : sg_A MX7_rule 10 [some (.ref 0), some (.int x)] [] g (fun r h' => r = some (.int (-1)) ∧ h' = g) := by
      refine at_k (-1) dX7_rule_10 rfl (by decide) ?_
      refine at_ret dX7_rule_11 rfl rfl ?_
      exact ⟨rfl, rfl⟩
    refine at_ld (i := 1) dX7_rule_0 rfl rfl rfl ?_
    refine at_zlt 10 dX7_rule_1 (by decide) (fun c => ?_) (fun c => ?_)
    · exact bad
    · obtain ⟨k, hk, rfl⟩ := nI_of c
      refine at_ld (i := 1) dX7_rule_4 rfl rfl rfl ?_
      refine at_k (nI 14) dX7_rule_5 rfl (by decide) ?_
      refine at_ile 12 dX7_rule_7 (by decide) (fun c2 => absurd ?_ q) (fun _ => bad)
      rw [inR_nI hk]
      exact decide_eq_true ⟨by omega, (nI_leI hk (by decide)).mp c2⟩
set_option maxRecDepth 100000 in
theorem x_group (hC : CS g v t n fl ib u) (iv : inv v) (x y : Int32) : sg_Kr MX7_group [.ref 0, .int x, .int y] g (.int (s_group v x y)) := by
  have w := iv.1.1
  have h04 := w.1.1
  obtain ⟨c0, ⟨tc, sd, h0⟩, ⟨b, d, K, eV, hb, hR⟩, hD, hT, hX, -⟩ := hC
  have hV : sg_at g 1 (.inr (6, [.ref (1 + 1), .ref (1 + 2), .ref (1 + 4), .ref (1 + 6), .int (nI (v 6)), .int (nI (v 7))])) := by rw [eV]; exact vo_V (by omega)
  have hY : sg_at g (1 + 1) (.inr (3, lay v)) := by rw [eV]; exact vo_Y (by omega)
  have hF : FM g (1 + 2) (1 + 1) v b := by rw [eV]; exact vo_F (by omega) (by decide)
  have hI : IN g (1 + 6) (1 + 1) v K := by rw [eV]; exact vo_I (by omega) (by decide)
  show sg_A MX7_group 0 [some (.ref 0), some (.int x), some (.int y)] [] _ _
  have bad : (¬ inR x 0 (v 0 - 1) = true ∨ ¬ inR y 0 6 = true) → sg_A MX7_group 28 [some (.ref 0), some (.int x), some (.int y)] [] g (fun r h' => r = some (.int (s_group v x y)) ∧ h' = g) := by
    intro q
    refine at_k (-1) dX7_group_28 rfl (by decide) ?_
    refine at_ret dX7_group_29 rfl rfl ?_
    unfold s_group
    rcases q with q | q
    · rw [if_neg q]; exact ⟨rfl, rfl⟩
    · rw [if_neg q]
      split <;> exact ⟨rfl, rfl⟩
  refine at_ld (i := 1) dX7_group_0 rfl rfl rfl ?_
  refine at_zlt 28 dX7_group_1 (by decide) (fun c => ?_) (fun c => ?_)
  · refine bad (Or.inl (fun q => ?_))
    obtain ⟨k, -, hk, rfl⟩ := inR_of (by omega) q
    exact nI_pos (by omega) c
  · obtain ⟨a, ha, rfl⟩ := nI_of c
    refine at_ld (i := 1) dX7_group_4 rfl rfl rfl ?_
    refine at_ld (i := 0) dX7_group_5 rfl rfl rfl ?_
    refine at_get dX7_group_6 fX7_10 h0 (by omega) rfl ?_
    refine at_get dX7_group_9 fX7_173 hV (by omega) rfl ?_
    refine at_get dX7_group_12 fX7_182 hY (by omega) rfl ?_
    refine at_ige 28 dX7_group_15 (by decide) (fun c1 => ?_) (fun c1 => ?_)
    · refine bad (Or.inl (fun q => ?_))
      rw [inR_nI ha] at q
      have := of_decide_eq_true q
      have := (nI_leI (by omega) ha).mp c1
      omega
    · have ha0 : a < v 0 := by
        rcases Nat.lt_or_ge a (v 0) with z | z
        · exact z
        · exact absurd (nI_le z ha) c1
      refine at_ld (i := 2) dX7_group_18 rfl rfl rfl ?_
      refine at_zlt 28 dX7_group_19 (by decide) (fun c2 => ?_) (fun c2 => ?_)
      · refine bad (Or.inr (fun q => ?_))
        obtain ⟨k, -, hk, rfl⟩ := inR_of (by omega) q
        exact nI_pos (by omega) c2
      · obtain ⟨k, hk, rfl⟩ := nI_of c2
        refine at_ld (i := 2) dX7_group_22 rfl rfl rfl ?_
        refine at_k (nI 6) dX7_group_23 rfl (by decide) ?_
        refine at_ile 30 dX7_group_25 (by decide) (fun c3 => ?_) (fun c3 => bad (Or.inr (fun q => ?_)))
        · have hk6 := (nI_leI hk (by decide)).mp c3
          have es : s_group v (nI a) (nI k) = nI (grp v a k) := by
            unfold s_group
            rw [inR_nI ha, inR_nI hk, decide_eq_true (show 0 ≤ a ∧ a ≤ v 0 - 1 by omega), decide_eq_true (show 0 ≤ k ∧ k ≤ 6 by omega), if_pos rfl, if_pos rfl, nI_clamp ha, nI_clamp hk]
          rw [es]
          refine at_ld (i := 2) dX7_group_30 rfl rfl rfl ?_
          rcases Nat.lt_or_ge k 4 with d1 | d1
          · rcases (show k = 0 ∨ k = 1 ∨ k = 2 ∨ k = 3 by omega) with rfl | rfl | rfl | rfl
            · refine at_tin 60 dX7_group_31 (by decide) (by decide) rfl (by decide) ?_
              refine at_ld (i := 0) dX7_group_60 rfl rfl rfl ?_
              refine at_get dX7_group_61 fX7_10 h0 (by omega) rfl ?_
              refine at_get dX7_group_64 fX7_145 hV (by omega) rfl ?_
              refine at_ld (i := 1) dX7_group_67 rfl rfl rfl ?_
              refine at_rv [_] dX7_group_68 mX1_freeFragmentsIn ⟨Nat.le_of_ble_eq_true rfl, Nat.le_of_ble_eq_true rfl⟩ lX7_185 iX1_freeFragmentsIn rfl rfl hF.1 (by omega) rfl (Nat.le_of_ble_eq_true rfl) (Nat.le_of_ble_eq_true rfl) ⟨rfl, rfl⟩ (k_freeFragmentsIn hF hb w.1 a ha0) ?_
              refine at_ret dX7_group_71 rfl rfl ?_
              exact ⟨rfl, rfl⟩
            · refine at_tin 72 dX7_group_31 (by decide) (by decide) rfl (by decide) ?_
              refine at_ld (i := 0) dX7_group_72 rfl rfl rfl ?_
              refine at_get dX7_group_73 fX7_10 h0 (by omega) rfl ?_
              refine at_get dX7_group_76 fX7_145 hV (by omega) rfl ?_
              refine at_ld (i := 1) dX7_group_79 rfl rfl rfl ?_
              refine at_rv [_] dX7_group_80 mX1_freeBlocksIn ⟨Nat.le_of_ble_eq_true rfl, Nat.le_of_ble_eq_true rfl⟩ lX7_188 iX1_freeBlocksIn rfl rfl hF.1 (by omega) rfl (Nat.le_of_ble_eq_true rfl) (Nat.le_of_ble_eq_true rfl) ⟨rfl, rfl⟩ (k_freeBlocksIn hF hb w.1 a ha0) ?_
              refine at_ret dX7_group_83 rfl rfl ?_
              exact ⟨rfl, rfl⟩
            · refine at_tin 84 dX7_group_31 (by decide) (by decide) rfl (by decide) ?_
              refine at_ld (i := 0) dX7_group_84 rfl rfl rfl ?_
              refine at_get dX7_group_85 fX7_10 h0 (by omega) rfl ?_
              refine at_get dX7_group_88 fX7_113 hV (by omega) rfl ?_
              refine at_ld (i := 1) dX7_group_91 rfl rfl rfl ?_
              refine at_k (nI 0) dX7_group_92 rfl (by decide) ?_
              refine at_rv [_, _] dX7_group_93 mX2_howManyIn ⟨Nat.le_of_ble_eq_true rfl, Nat.le_of_ble_eq_true rfl⟩ lX7_191 iX2_howManyIn rfl rfl hI.1 (by omega) rfl (Nat.le_of_ble_eq_true rfl) (Nat.le_of_ble_eq_true rfl) ⟨rfl, rfl⟩ (k_howManyIn hI hR w a 0 ha0 (by decide)) ?_
              refine at_ret dX7_group_96 rfl rfl ?_
              exact ⟨rfl, rfl⟩
            · refine at_tin 97 dX7_group_31 (by decide) (by decide) rfl (by decide) ?_
              refine at_ld (i := 0) dX7_group_97 rfl rfl rfl ?_
              refine at_get dX7_group_98 fX7_10 h0 (by omega) rfl ?_
              refine at_get dX7_group_101 fX7_113 hV (by omega) rfl ?_
              refine at_ld (i := 1) dX7_group_104 rfl rfl rfl ?_
              refine at_k (nI 1) dX7_group_105 rfl (by decide) ?_
              refine at_rv [_, _] dX7_group_106 mX2_howManyIn ⟨Nat.le_of_ble_eq_true rfl, Nat.le_of_ble_eq_true rfl⟩ lX7_191 iX2_howManyIn rfl rfl hI.1 (by omega) rfl (Nat.le_of_ble_eq_true rfl) (Nat.le_of_ble_eq_true rfl) ⟨rfl, rfl⟩ (k_howManyIn hI hR w a 1 ha0 (by decide)) ?_
              refine at_ret dX7_group_109 rfl rfl ?_
              exact ⟨rfl, rfl⟩
          · refine at_tout 110 dX7_group_31 (Or.inr (by rw [nI_toInt hk]; omega)) (by decide) ?_
            refine at_ld (i := 0) dX7_group_110 rfl rfl rfl ?_
            refine at_get dX7_group_111 fX7_10 h0 (by omega) rfl ?_
            refine at_get dX7_group_114 fX7_145 hV (by omega) rfl ?_
            refine at_ld (i := 1) dX7_group_117 rfl rfl rfl ?_
            refine at_ld (i := 2) dX7_group_118 rfl rfl rfl ?_
            refine at_k (nI 3) dX7_group_119 rfl (by decide) ?_
            refine at_bin dX7_group_120 rfl ?_
            try dsimp only
            rw [nI_sub (show 3 ≤ k by omega)]
            refine at_rv [_, _] dX7_group_121 mX1_runsIn ⟨Nat.le_of_ble_eq_true rfl, Nat.le_of_ble_eq_true rfl⟩ lX7_194 iX1_runsIn rfl rfl hF.1 (by omega) rfl (Nat.le_of_ble_eq_true rfl) (Nat.le_of_ble_eq_true rfl) ⟨rfl, rfl⟩ (k_runsIn hF hb w.1 a (k - 3) ha0 (by omega)) ?_
            refine at_ret dX7_group_124 rfl rfl ?_
            unfold grp
            rw [if_neg (by omega), if_neg (by omega), if_neg (by omega), if_neg (by omega)]
            exact ⟨rfl, rfl⟩
        · rw [inR_nI hk] at q
          exact c3 (nI_le (of_decide_eq_true q).2 (by decide))
end K1
