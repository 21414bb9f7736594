/-! THE CLASS ITSELF: images, the tape, draw -/
theorem pk_ush (s : Int32) : ((s.toUInt32 >>> ((nI 16).toUInt32 &&& Int32.toUInt32 31)).toInt32 &&& nI 32767) = nI (sdo s) := by
  rw [pk_and _ 15 (by decide), pk_ushr s (nI 16) 16 (by decide)]
  unfold sdo
  congr 1
  have h : (s >>> (nI 16 &&& 31)).toBitVec.toInt = s.toBitVec.toInt >>> 16 := pk_shr s (nI 16 &&& 31) 16 (by decide)
  rw [Int.shiftRight_eq_div_pow, BitVec.toInt_eq_toNat_cond, BitVec.toInt_eq_toNat_cond] at h
  have hb1 := s.toBitVec.isLt
  have hb2 := (s >>> (nI 16 &&& 31)).toBitVec.isLt
  generalize (s >>> (nI 16 &&& 31)).toBitVec.toNat = y at *
  generalize s.toBitVec.toNat = x at *
  split at h <;> split at h <;> omega
section K4
variable {g : sg_H} {v t : Nat → Nat} {n fl : Nat} {ib : Nat → Bool} {u : Nat → Nat → Nat}
theorem CS_38 {h : sg_H} {v' : Nat → Nat} (hC : CS g v t n fl ib u) (h1 : VS g 38 v' h) : CS h v t n fl ib (vf_upd u 0 v') ∧ VV h 38 v' := by
  have hg := ag_VS h1
  obtain ⟨c0, ⟨tc, sd, c1⟩, c2, c3, c4, c5, c6, c7, ⟨E, c8⟩, ⟨c9, c10⟩, c11, c12, c13⟩ := hC
  exact ⟨⟨by rw [hg.1]; exact c0, ⟨tc, sd, ag_at hg c1 (by omega)⟩, VV_ag hg c2 (fun o ho => by omega), DE_ag hg c3 (fun o ho => by omega), TP_ag hg c4 ⟨by omega, by omega⟩, RX_ag hg c5 ⟨by omega, by omega⟩, VX_ag hg c6 (fun o ho => by omega), DE_ag hg c7 (fun o ho => by omega), ⟨E, ag_at hg c8 (by omega)⟩, ⟨VX_V (VV_of h1), VX_ag hg c10 (fun o ho => by omega)⟩, fun q => by rw [vu_s]; exact VV_of h1, fun q => by rw [vu_n _ _ _ _ (by decide)]; exact VV_ag hg (c12 q) (fun o ho => by omega), SR_ag hg c13 (fun j hj => by omega)⟩, VV_of h1⟩
theorem CS_51 {h : sg_H} {v' : Nat → Nat} (hC : CS g v t n fl ib u) (h1 : VS g 51 v' h) : CS h v t n fl ib (vf_upd u 1 v') ∧ VV h 51 v' := by
  have hg := ag_VS h1
  obtain ⟨c0, ⟨tc, sd, c1⟩, c2, c3, c4, c5, c6, c7, ⟨E, c8⟩, ⟨c9, c10⟩, c11, c12, c13⟩ := hC
  exact ⟨⟨by rw [hg.1]; exact c0, ⟨tc, sd, ag_at hg c1 (by omega)⟩, VV_ag hg c2 (fun o ho => by omega), DE_ag hg c3 (fun o ho => by omega), TP_ag hg c4 ⟨by omega, by omega⟩, RX_ag hg c5 ⟨by omega, by omega⟩, VX_ag hg c6 (fun o ho => by omega), DE_ag hg c7 (fun o ho => by omega), ⟨E, ag_at hg c8 (by omega)⟩, ⟨VX_ag hg c9 (fun o ho => by omega), VX_V (VV_of h1)⟩, fun q => by rw [vu_n _ _ _ _ (by decide)]; exact VV_ag hg (c11 q) (fun o ho => by omega), fun q => by rw [vu_s]; exact VV_of h1, SR_ag hg c13 (fun j hj => by omega)⟩, VV_of h1⟩
/-- k's image there -/
def ibs (ib : Nat → Bool) (k : Nat) : Nat → Bool := fun j => if j = k then true else ib j
set_option maxRecDepth 100000 in
theorem x_keep (hC : CS g v t n fl ib u) (iv : inv v) (x : Int32) : sg_K MX7_keep [.ref 0, .int x] g (fun r h' => r = some (.int (if inR x 0 1 = true then bI (ib x.toNatClampNeg) else -1)) ∧ (if inR x 0 1 = true then CS h' v t n fl (ibs ib x.toNatClampNeg) (vf_upd u x.toNatClampNeg v) else CS h' v t n fl ib u) ∧ ag in64 g h') := by
  have w := iv.1.1
  have hC0 := hC
  obtain ⟨c0, ⟨tc, sd, h0⟩, ⟨b, d, K, eV, hb, hR⟩, hD, hT, hX, c6, c7, c8, ⟨⟨L2, b2, d2, K2, e2, m2, c9⟩, ⟨L3, b3, d3, K3, e3, m3, c10⟩⟩, c11, c12, c13⟩ := hC
  have hV : sg_at g 1 (.inr (6, [.ref (1 + 1), .ref (1 + 2), .ref (1 + 4), .ref (1 + 6), .int (nI (v 6)), .int (nI (v 7))])) := by rw [eV]; exact vo_V (by omega)
  have hF : FM g (1 + 2) (1 + 1) v b := by rw [eV]; exact vo_F (by omega) (by decide)
  have hI : IN g (1 + 6) (1 + 1) v K := by rw [eV]; exact vo_I (by omega) (by decide)
  show sg_A MX7_keep 0 [some (.ref 0), some (.int x), none] [] _ _
  have bad : ¬ inR x 0 1 = true → sg_A MX7_keep 9 [some (.ref 0), some (.int x), none] [] g (fun r h' => r = some (.int (if inR x 0 1 = true then bI (ib x.toNatClampNeg) else -1)) ∧ (if inR x 0 1 = true then CS h' v t n fl (ibs ib x.toNatClampNeg) (vf_upd u x.toNatClampNeg v) else CS h' v t n fl ib u) ∧ ag in64 g h') := by
    intro q
    refine at_k (-1) dX7_keep_9 rfl (by decide) ?_
    refine at_ret dX7_keep_10 rfl rfl ?_
    rw [if_neg q, if_neg q]
    exact ⟨rfl, hC0, ag_r _ _⟩
  have v1 := k_vcopy (g := g) (a := 38) (L := L2) (b := b2) (d := d2) (K := K2) (e := e2) (m := m2) (by omega) (by decide) hV hF hI (by omega)
  have v2 := k_vcopy (g := g) (a := 51) (L := L3) (b := b3) (d := d3) (K := K3) (e := e3) (m := m3) (by omega) (by decide) hV hF hI (by omega)
  have hV38 : sg_at g 38 (.inr (6, [.ref (38 + 1), .ref (38 + 2), .ref (38 + 4), .ref (38 + 6), .int e2, .int m2])) := by rw [c9]; exact vo_V (by omega)
  have hV51 : sg_at g 51 (.inr (6, [.ref (51 + 1), .ref (51 + 2), .ref (51 + 4), .ref (51 + 6), .int e3, .int m3])) := by rw [c10]; exact vo_V (by omega)
  rw [← c9] at v1
  rw [← c10] at v2
  refine at_ld (i := 1) dX7_keep_0 rfl rfl rfl ?_
  refine at_zlt 9 dX7_keep_1 (by decide) (fun c => ?_) (fun c => ?_)
  · refine bad (fun q => ?_)
    obtain ⟨k, -, hk, rfl⟩ := inR_of (by omega) q
    exact nI_pos (by omega) c
  · obtain ⟨k, hk, rfl⟩ := nI_of c
    refine at_ld (i := 1) dX7_keep_4 rfl rfl rfl ?_
    refine at_k (nI 1) dX7_keep_5 rfl (by decide) ?_
    refine at_ile 11 dX7_keep_6 (by decide) (fun c2 => ?_) (fun c2 => bad (fun q => ?_))
    · have hk2 := (nI_leI hk (by decide)).mp c2
      have hin : inR (nI k) 0 1 = true := by rw [inR_nI hk]; exact decide_eq_true ⟨by omega, hk2⟩
      simp only [if_pos hin, nI_clamp hk]
      refine at_ld (i := 0) dX7_keep_11 rfl rfl rfl ?_
      refine at_ld (i := 1) dX7_keep_12 rfl rfl rfl ?_
      refine at_rv [_] dX7_keep_13 mX7_hasImage ⟨Nat.le_of_ble_eq_true rfl, Nat.le_of_ble_eq_true rfl⟩ lX7_284 iX7_hasImage rfl rfl h0 (by omega) rfl (Nat.le_of_ble_eq_true rfl) (Nat.le_of_ble_eq_true rfl) ⟨rfl, rfl⟩ (x_hasImage hC0 k (by omega)) ?_
      refine at_st (i := 2) dX7_keep_16 rfl rfl (Nat.le_of_ble_eq_true rfl) rfl ?_
      try dsimp only [List.set_cons_succ, List.set_cons_zero]
      refine at_ld (i := 1) dX7_keep_17 rfl rfl rfl ?_
      have fin : ∀ h', CS h' v t n fl (ibs ib k) (vf_upd u k v) → ag in64 g h' → sg_A MX7_keep 56 [some (.ref 0), some (.int (nI k)), some (.int (bI (ib k)))] [] h' (fun r h' => r = some (.int (bI (ib k))) ∧ CS h' v t n fl (ibs ib k) (vf_upd u k v) ∧ ag in64 g h') := by
        intro h' hc ha
        refine at_ld (i := 2) dX7_keep_56 rfl rfl rfl ?_
        cases hi : ib k with
        | true =>
          refine at_zeq 64 dX7_keep_57 (by decide) (fun cz_ => absurd cz_ ((by decide))) (fun _ => ?_)
          refine at_k (nI 1) dX7_keep_60 rfl (by decide) ?_
          refine at_goto 65 dX7_keep_61 (by decide) ?_
          refine at_ret dX7_keep_65 rfl rfl ?_
          exact ⟨rfl, hc, ha⟩
        | false =>
          refine at_zeq 64 dX7_keep_57 (by decide) (fun _ => ?_) (fun cz_ => absurd (rfl) cz_)
          refine at_k (nI 0) dX7_keep_64 rfl (by decide) ?_
          refine at_ret dX7_keep_65 rfl rfl ?_
          exact ⟨rfl, hc, ha⟩
      rcases (show k = 0 ∨ k = 1 by omega) with rfl | rfl
      · have f1 : VS g 38 v (vo g 38 v (va_cpy b b2 0 0 32) d2 (kCp K2 K) (nI (v 6)) (nI (v 7))) := ⟨_, _, _, rfl, mbq_cp hb _, iR_cp w hR⟩
        obtain ⟨f2, f3⟩ := CS_38 hC0 f1
        have f4 := CS_0 f2 tc sd fl (ibs ib 0) (vf_upd u 0 v) (fun _ => by rw [vu_s]; exact f3) (fun q => f2.2.2.2.2.2.2.2.2.2.2.2.1 q)
        refine at_zne 40 dX7_keep_18 (by decide) (fun cz_ => absurd cz_ (fun q => q rfl)) (fun _ => ?_)
        refine at_ld (i := 0) dX7_keep_21 rfl rfl rfl ?_
        refine at_get dX7_keep_22 fX7_51 h0 (by omega) rfl ?_
        refine at_ld (i := 0) dX7_keep_25 rfl rfl rfl ?_
        refine at_get dX7_keep_26 fX7_10 h0 (by omega) rfl ?_
        refine at_wv [_] dX7_keep_29 mX6_copyFrom ⟨Nat.le_of_ble_eq_true rfl, Nat.le_of_ble_eq_true rfl⟩ lX7_103 iX6_copyFrom rfl rfl hV38 (by omega) rfl (Nat.le_of_ble_eq_true rfl) (Nat.le_of_ble_eq_true rfl) ⟨rfl, rfl⟩ (v1) ⟨rfl, rfl⟩ ?_
        try dsimp only [Option.toList, List.cons_append, List.nil_append]
        refine at_ld (i := 0) dX7_keep_32 rfl rfl rfl ?_
        refine at_k (nI 1) dX7_keep_33 rfl (by decide) ?_
        refine at_put dX7_keep_34 fX7_106 ⟨_, _, rfl, Or.inl rfl, tyX7_ok 11 (by decide), fun _ => ⟨rfl, rfl⟩⟩ (vo_O (by omega) h0) (by omega) (Nat.le_of_ble_eq_true rfl) rfl ?_
        refine at_goto 56 dX7_keep_37 (by decide) ?_
        refine fin _ f4 (ag_t (ag_w (ag_VS f1) (fun j hj => by show j < 64; omega)) (ag_w (ag_up _ _ _) (fun j hj => by show j < 64; omega)))
      · have f1 : VS g 51 v (vo g 51 v (va_cpy b b3 0 0 32) d3 (kCp K3 K) (nI (v 6)) (nI (v 7))) := ⟨_, _, _, rfl, mbq_cp hb _, iR_cp w hR⟩
        obtain ⟨f2, f3⟩ := CS_51 hC0 f1
        have f4 := CS_0 f2 tc sd fl (ibs ib 1) (vf_upd u 1 v) (fun q => f2.2.2.2.2.2.2.2.2.2.2.1 q) (fun _ => by rw [vu_s]; exact f3)
        refine at_zne 40 dX7_keep_18 (by decide) (fun _ => ?_) (fun cz_ => absurd ((by decide)) cz_)
        refine at_ld (i := 0) dX7_keep_40 rfl rfl rfl ?_
        refine at_get dX7_keep_41 fX7_54 h0 (by omega) rfl ?_
        refine at_ld (i := 0) dX7_keep_44 rfl rfl rfl ?_
        refine at_get dX7_keep_45 fX7_10 h0 (by omega) rfl ?_
        refine at_wv [_] dX7_keep_48 mX6_copyFrom ⟨Nat.le_of_ble_eq_true rfl, Nat.le_of_ble_eq_true rfl⟩ lX7_103 iX6_copyFrom rfl rfl hV51 (by omega) rfl (Nat.le_of_ble_eq_true rfl) (Nat.le_of_ble_eq_true rfl) ⟨rfl, rfl⟩ (v2) ⟨rfl, rfl⟩ ?_
        try dsimp only [Option.toList, List.cons_append, List.nil_append]
        refine at_ld (i := 0) dX7_keep_51 rfl rfl rfl ?_
        refine at_k (nI 1) dX7_keep_52 rfl (by decide) ?_
        refine at_put dX7_keep_53 fX7_110 ⟨_, _, rfl, Or.inl rfl, tyX7_ok 12 (by decide), fun _ => ⟨rfl, rfl⟩⟩ (vo_O (by omega) h0) (by omega) (Nat.le_of_ble_eq_true rfl) rfl ?_
        refine fin _ f4 (ag_t (ag_w (ag_VS f1) (fun j hj => by show j < 64; omega)) (ag_w (ag_up _ _ _) (fun j hj => by show j < 64; omega)))
    · rw [inR_nI hk] at q
      exact c2 (nI_le (of_decide_eq_true q).2 (by decide))
set_option maxRecDepth 100000 in
theorem x_back (hC : CS g v t n fl ib u) (hu : ∀ k, k < 2 → ib k = true → inv (u k)) (x : Int32) : sg_K MX7_back [.ref 0, .int x] g (fun r h' => r = some (.int (if inR x 0 1 = true then (if ib x.toNatClampNeg = true then nI (nth (u x.toNatClampNeg)) else -2) else -1)) ∧ CS h' (if inR x 0 1 = true ∧ ib x.toNatClampNeg = true then u x.toNatClampNeg else v) t n fl ib u ∧ ag in64 g h') := by
  have hC0 := hC
  obtain ⟨c0, ⟨tc, sd, h0⟩, ⟨b, d, K, eV, hb, hR⟩, hD, hT, hX, c6, c7, c8, ⟨⟨L2, b2, d2, K2, e2, m2, c9⟩, ⟨L3, b3, d3, K3, e3, m3, c10⟩⟩, c11, c12, c13⟩ := hC
  have hV : sg_at g 1 (.inr (6, [.ref (1 + 1), .ref (1 + 2), .ref (1 + 4), .ref (1 + 6), .int (nI (v 6)), .int (nI (v 7))])) := by rw [eV]; exact vo_V (by omega)
  show sg_A MX7_back 0 [some (.ref 0), some (.int x)] [] _ _
  have bad : ¬ inR x 0 1 = true → sg_A MX7_back 9 [some (.ref 0), some (.int x)] [] g (fun r h' => r = some (.int (if inR x 0 1 = true then (if ib x.toNatClampNeg = true then nI (nth (u x.toNatClampNeg)) else -2) else -1)) ∧ CS h' (if inR x 0 1 = true ∧ ib x.toNatClampNeg = true then u x.toNatClampNeg else v) t n fl ib u ∧ ag in64 g h') := by
    intro q
    refine at_k (-1) dX7_back_9 rfl (by decide) ?_
    refine at_ret dX7_back_10 rfl rfl ?_
    rw [if_neg q, if_neg (fun z => q z.1)]
    exact ⟨rfl, hC0, ag_r _ _⟩
  -- the volume becomes a copy of what stands at a2
  have cp : ∀ a2 vk, (a2 = 38 ∨ a2 = 51) → VV g a2 vk → inv vk → ∃ h1, sg_Kw MX6_copyFrom [.ref 1, .ref a2] g none h1 ∧ VS g 1 vk h1 := by
    rintro a2 vk ha ⟨b4, d4, K4, e4, hb4, hR4⟩ ivk
    have hV4 : sg_at g a2 (.inr (6, [.ref (a2 + 1), .ref (a2 + 2), .ref (a2 + 4), .ref (a2 + 6), .int (nI (vk 6)), .int (nI (vk 7))])) := by rw [e4]; exact vo_V (by omega)
    have hF4 : FM g (a2 + 2) (a2 + 1) vk b4 := by rw [e4]; exact vo_F (by omega) (by omega)
    have hI4 : IN g (a2 + 6) (a2 + 1) vk K4 := by rw [e4]; exact vo_I (by omega) (by omega)
    have k1 := k_vcopy (g := g) (a := 1) (L := v) (b := b) (d := d) (K := K) (e := nI (v 6)) (m := nI (v 7)) (by omega) (by decide) hV4 hF4 hI4 (by omega)
    rw [← eV] at k1
    exact ⟨_, k1, _, _, _, rfl, mbq_cp hb4 _, iR_cp ivk.1.1 hR4⟩
  refine at_ld (i := 1) dX7_back_0 rfl rfl rfl ?_
  refine at_zlt 9 dX7_back_1 (by decide) (fun c => ?_) (fun c => ?_)
  · refine bad (fun q => ?_)
    obtain ⟨k, -, hk, rfl⟩ := inR_of (by omega) q
    exact nI_pos (by omega) c
  · obtain ⟨k, hk, rfl⟩ := nI_of c
    refine at_ld (i := 1) dX7_back_4 rfl rfl rfl ?_
    refine at_k (nI 1) dX7_back_5 rfl (by decide) ?_
    refine at_ile 11 dX7_back_6 (by decide) (fun c2 => ?_) (fun c2 => bad (fun q => ?_))
    · have hk2 := (nI_leI hk (by decide)).mp c2
      have hin : inR (nI k) 0 1 = true := by rw [inR_nI hk]; exact decide_eq_true ⟨by omega, hk2⟩
      simp only [hin, nI_clamp hk]
      simp only [if_true, true_and]
      refine at_ld (i := 0) dX7_back_11 rfl rfl rfl ?_
      refine at_ld (i := 1) dX7_back_12 rfl rfl rfl ?_
      refine at_rv [_] dX7_back_13 mX7_hasImage ⟨Nat.le_of_ble_eq_true rfl, Nat.le_of_ble_eq_true rfl⟩ lX7_284 iX7_hasImage rfl rfl h0 (by omega) rfl (Nat.le_of_ble_eq_true rfl) (Nat.le_of_ble_eq_true rfl) ⟨rfl, rfl⟩ (x_hasImage hC0 k (by omega)) ?_
      cases hi : ib k with
      | false =>
        refine at_zne 22 dX7_back_16 (by decide) (fun cz_ => absurd cz_ (fun q => q rfl)) (fun _ => ?_)
        refine at_k (-2) dX7_back_19 rfl (by decide) ?_
        refine at_ret dX7_back_21 rfl rfl ?_
        exact ⟨rfl, hC0, ag_r _ _⟩
      | true =>
        refine at_zne 22 dX7_back_16 (by decide) (fun _ => ?_) (fun cz_ => absurd ((by decide)) cz_)
        have fin : ∀ h1, VS g 1 (u k) h1 → sg_A MX7_back 44 [some (.ref 0), some (.int (nI k))] [] h1 (fun r h' => r = some (.int (nI (nth (u k)))) ∧ CS h' (u k) t n fl ib u ∧ ag in64 g h') := by
          intro h1 hv
          have hcs := CS_v hC0 hv
          have hag := ag_v hv
          obtain ⟨b5, d5, K5, rfl, hb5, hR5⟩ := hv
          refine at_ld (i := 0) dX7_back_44 rfl rfl rfl ?_
          refine at_get dX7_back_45 fX7_10 (vo_O (by omega) h0) (by omega) rfl ?_
          refine at_get dX7_back_48 fX7_113 (vo_V (by omega)) (by omega) rfl ?_
          refine at_rv [] dX7_back_51 mX2_howManyAreThere ⟨Nat.le_of_ble_eq_true rfl, Nat.le_of_ble_eq_true rfl⟩ lX7_117 iX2_howManyAreThere rfl rfl (vo_I (by omega) (by decide)).1 (by omega) rfl (Nat.le_of_ble_eq_true rfl) (Nat.le_of_ble_eq_true rfl) ⟨rfl, rfl⟩ (k_howManyAreThere (vo_I (by omega) (by decide)) hR5 (hu k (by omega) hi).1.1) ?_
          refine at_ret dX7_back_54 rfl rfl ?_
          exact ⟨rfl, hcs, hag⟩
        simp only [if_true]
        rcases (show k = 0 ∨ k = 1 by omega) with rfl | rfl
        · obtain ⟨h1, k1, hv⟩ := cp 38 (u 0) (Or.inl rfl) (c11 hi) (hu 0 (by decide) hi)
          have hz := ag_VS hv
          refine at_ld (i := 0) dX7_back_22 rfl rfl rfl ?_
          refine at_get dX7_back_23 fX7_10 h0 (by omega) rfl ?_
          refine at_ld (i := 1) dX7_back_26 rfl rfl rfl ?_
          refine at_zne 37 dX7_back_27 (by decide) (fun cz_ => absurd cz_ (fun q => q rfl)) (fun _ => ?_)
          refine at_ld (i := 0) dX7_back_30 rfl rfl rfl ?_
          refine at_get dX7_back_31 fX7_51 h0 (by omega) rfl ?_
          refine at_goto 41 dX7_back_34 (by decide) ?_
          refine at_wv [_] dX7_back_41 mX6_copyFrom ⟨Nat.le_of_ble_eq_true rfl, Nat.le_of_ble_eq_true rfl⟩ lX7_103 iX6_copyFrom rfl rfl hV (by omega) rfl (Nat.le_of_ble_eq_true rfl) (Nat.le_of_ble_eq_true rfl) ⟨rfl, rfl⟩ k1 ⟨hz.1, hz.2.1⟩ ?_
          exact fin h1 hv
        · obtain ⟨h1, k1, hv⟩ := cp 51 (u 1) (Or.inr rfl) (c12 hi) (hu 1 (by decide) hi)
          have hz := ag_VS hv
          refine at_ld (i := 0) dX7_back_22 rfl rfl rfl ?_
          refine at_get dX7_back_23 fX7_10 h0 (by omega) rfl ?_
          refine at_ld (i := 1) dX7_back_26 rfl rfl rfl ?_
          refine at_zne 37 dX7_back_27 (by decide) (fun _ => ?_) (fun cz_ => absurd ((by decide)) cz_)
          refine at_ld (i := 0) dX7_back_37 rfl rfl rfl ?_
          refine at_get dX7_back_38 fX7_54 h0 (by omega) rfl ?_
          refine at_wv [_] dX7_back_41 mX6_copyFrom ⟨Nat.le_of_ble_eq_true rfl, Nat.le_of_ble_eq_true rfl⟩ lX7_103 iX6_copyFrom rfl rfl hV (by omega) rfl (Nat.le_of_ble_eq_true rfl) (Nat.le_of_ble_eq_true rfl) ⟨rfl, rfl⟩ k1 ⟨hz.1, hz.2.1⟩ ?_
          exact fin h1 hv
    · rw [inR_nI hk] at q
      exact c2 (nI_le (of_decide_eq_true q).2 (by decide))
/-- the tape anew -/
theorem CS_T {h : sg_H} {t' : Nat → Nat} {n' : Nat} (hC : CS g v t n fl ib u) (hg : ag (fun j => j = 17 ∨ j = 18) g h) (hT : TP h t' n') : CS h v t' n' fl ib u := by
  obtain ⟨c0, ⟨tc, sd, c1⟩, c2, c3, c4, c5, c6, c7, ⟨E, c8⟩, ⟨c9, c10⟩, c11, c12, c13⟩ := hC
  exact ⟨by rw [hg.1]; exact c0, ⟨tc, sd, ag_at hg c1 (by omega)⟩, VV_ag hg c2 (fun o ho => by omega), DE_ag hg c3 (fun o ho => by omega), hT, RX_ag hg c5 ⟨by omega, by omega⟩, VX_ag hg c6 (fun o ho => by omega), DE_ag hg c7 (fun o ho => by omega), ⟨E, ag_at hg c8 (by omega)⟩, ⟨VX_ag hg c9 (fun o ho => by omega), VX_ag hg c10 (fun o ho => by omega)⟩, fun q => VV_ag hg (c11 q) (fun o ho => by omega), fun q => VV_ag hg (c12 q) (fun o ho => by omega), SR_ag hg c13 (fun j hj => by omega)⟩
theorem TP_17 (hT : TP g t n) {n' : Nat} (hn : n' ≤ n) : TP (sg_up g 17 (.inr (5, [.ref 18, .int (nI n')]))) t n' := by
  obtain ⟨q1, ⟨B, q2, q3⟩, q4, q5⟩ := hT
  exact ⟨up_e q1 _, ⟨B, up_n q2 _ (by decide), fun p hp => q3 p (by omega)⟩, fun p hp => q4 p (by omega), by omega⟩
set_option maxRecDepth 100000 in
theorem x_append (hT : TP g t n) (c : Nat) (hc : c ≤ 127) : sg_K MX5_append [.ref 17, .int (nI c)] g (fun r h' => if n = 200 then r = some (.int (bI false)) ∧ h' = g else r = some (.int (bI true)) ∧ TP h' (vf_upd t n c) (n + 1) ∧ ag (fun j => j = 17 ∨ j = 18) g h') := by
  obtain ⟨q1, ⟨B, q2, q3⟩, q4, q5⟩ := hT
  show sg_A MX5_append 0 [some (.ref 17), some (.int (nI c))] [] _ _
  refine at_ld (i := 0) dX5_append_0 rfl rfl rfl ?_
  refine at_get dX5_append_1 fX5_15 q1 (by omega) rfl ?_
  refine at_zlt 19 dX5_append_4 (by decide) (fun cz_ => absurd cz_ (nI_pos (by omega))) (fun _ => ?_)
  refine at_ld (i := 0) dX5_append_7 rfl rfl rfl ?_
  refine at_get dX5_append_8 fX5_15 q1 (by omega) rfl ?_
  refine at_ld (i := 0) dX5_append_11 rfl rfl rfl ?_
  refine at_get dX5_append_12 fX5_9 q1 (by omega) rfl ?_
  refine at_alen dX5_append_15 q2 ?_
  by_cases e : n = 200
  · refine at_ilt 21 dX5_append_16 (by decide) (fun cz_ => absurd cz_ (by rw [e]; decide)) (fun _ => ?_)
    simp only [if_pos e]
    refine at_k (nI 0) dX5_append_19 rfl (by decide) ?_
    refine at_ret dX5_append_20 rfl rfl ?_
    exact ⟨rfl, rfl⟩
  · refine at_ilt 21 dX5_append_16 (by decide) (fun _ => ?_) (fun cz_ => absurd (nI_lt (by omega) (by decide)) cz_)
    simp only [if_neg e]
    refine at_ld (i := 0) dX5_append_21 rfl rfl rfl ?_
    refine at_get dX5_append_22 fX5_9 q1 (by omega) rfl ?_
    refine at_ld (i := 0) dX5_append_25 rfl rfl rfl ?_
    refine at_get dX5_append_26 fX5_15 q1 (by omega) rfl ?_
    refine at_ld (i := 1) dX5_append_29 rfl rfl rfl ?_
    refine at_ast n dX5_append_30 q2 (by decide) rfl (by omega) (by decide) rfl ?_
    refine at_ld (i := 0) dX5_append_31 rfl rfl rfl ?_
    refine at_dup dX5_append_32 rfl ?_
    refine at_get dX5_append_33 fX5_15 (up_n q1 _ (by decide)) (by omega) rfl ?_
    refine at_k (nI 1) dX5_append_36 rfl (by decide) ?_
    refine at_bin dX5_append_37 rfl ?_
    try dsimp only
    rw [nI_add]
    refine at_put dX5_append_38 fX5_15 ⟨_, _, rfl, Or.inl rfl, tyX5_ok 1 (by decide), fun _ => ⟨rfl, rfl⟩⟩ (up_n q1 _ (by decide)) (by omega) (Nat.le_of_ble_eq_true rfl) rfl ?_
    refine at_k (nI 1) dX5_append_41 rfl (by decide) ?_
    refine at_ret dX5_append_42 rfl rfl ?_
    refine ⟨rfl, ⟨up_e (up_n q1 _ (by decide)) _, ⟨_, up_n (up_e q2 _) _ (by decide), fun p hp => ?_⟩, fun p hp => ?_, by omega⟩, ?_⟩
    · by_cases z : p = n
      · subst z; rw [upd_s, vu_s]
      · rw [upd_n _ _ _ _ z, vu_n _ _ _ _ z]; exact q3 p (by omega)
    · by_cases z : p = n
      · subst z; rw [vu_s]; exact hc
      · rw [vu_n _ _ _ _ z]; exact q4 p (by omega)
    · exact ag_t (ag_w (ag_up _ _ _) (fun j hj => Or.inr hj)) (ag_w (ag_up _ _ _) (fun j hj => Or.inl hj))
set_option maxRecDepth 100000 in
theorem x_feed (hC : CS g v t n fl ib u) (x : Int32) : sg_K MX7_feed [.ref 0, .int x] g (fun r h' => r = some (.int (s_feed n x)) ∧ (if inR x 0 127 = true ∧ n ≠ 200 then CS h' v (vf_upd t n x.toNatClampNeg) (n + 1) fl ib u else CS h' v t n fl ib u) ∧ ag in64 g h') := by
  have hC0 := hC
  obtain ⟨c0, ⟨tc, sd, h0⟩, ⟨b, d, K, eV, hb, hR⟩, hD, hT, hX, c6, c7, c8, ⟨⟨L2, b2, d2, K2, e2, m2, c9⟩, ⟨L3, b3, d3, K3, e3, m3, c10⟩⟩, c11, c12, c13⟩ := hC
  show sg_A MX7_feed 0 [some (.ref 0), some (.int x)] [] _ _
  have bad : ¬ inR x 0 127 = true → sg_A MX7_feed 10 [some (.ref 0), some (.int x)] [] g (fun r h' => r = some (.int (s_feed n x)) ∧ (if inR x 0 127 = true ∧ n ≠ 200 then CS h' v (vf_upd t n x.toNatClampNeg) (n + 1) fl ib u else CS h' v t n fl ib u) ∧ ag in64 g h') := by
    intro q
    refine at_k (-1) dX7_feed_10 rfl (by decide) ?_
    refine at_ret dX7_feed_11 rfl rfl ?_
    unfold s_feed
    rw [if_neg q, if_neg (fun z => q z.1)]
    exact ⟨rfl, hC0, ag_r _ _⟩
  refine at_ld (i := 1) dX7_feed_0 rfl rfl rfl ?_
  refine at_zlt 10 dX7_feed_1 (by decide) (fun c => ?_) (fun c => ?_)
  · refine bad (fun q => ?_)
    obtain ⟨k, -, hk, rfl⟩ := inR_of (by omega) q
    exact nI_pos (by omega) c
  · obtain ⟨k, hk, rfl⟩ := nI_of c
    refine at_ld (i := 1) dX7_feed_4 rfl rfl rfl ?_
    refine at_k (nI 127) dX7_feed_5 rfl (by decide) ?_
    refine at_ile 12 dX7_feed_7 (by decide) (fun c2 => ?_) (fun c2 => bad (fun q => ?_))
    · have hk2 := (nI_leI hk (by decide)).mp c2
      have hin : inR (nI k) 0 127 = true := by rw [inR_nI hk]; exact decide_eq_true ⟨by omega, hk2⟩
      unfold s_feed
      simp only [hin, nI_clamp hk]
      simp only [if_true, true_and]
      refine at_ld (i := 0) dX7_feed_12 rfl rfl rfl ?_
      refine at_get dX7_feed_13 fX7_28 h0 (by omega) rfl ?_
      refine at_ld (i := 1) dX7_feed_16 rfl rfl rfl ?_
      refine at_cv [_] dX7_feed_17 mX5_append ⟨Nat.le_of_ble_eq_true rfl, Nat.le_of_ble_eq_true rfl⟩ lX7_64 iX5_append rfl rfl hT.1 (by omega) rfl (Nat.le_of_ble_eq_true rfl) (Nat.le_of_ble_eq_true rfl) (x_append hT k hk2) ?_ ?_
      · intro r h1 hq
        split at hq
        · rw [hq.2]; exact ⟨rfl, rfl⟩
        · exact ⟨hq.2.2.1, hq.2.2.2.1⟩
      · intro r h1 hq
        split at hq
        · next e =>
          obtain ⟨rfl, rfl⟩ := hq
          try dsimp only [Option.toList, List.cons_append, List.nil_append]
          refine at_zeq 33 dX7_feed_20 (by decide) (fun _ => ?_) (fun cz_ => absurd (rfl) cz_)
          refine at_k (-3) dX7_feed_33 rfl (by decide) ?_
          refine at_ret dX7_feed_35 rfl rfl ?_
          rw [if_pos e, if_neg (fun z => z e)]
          exact ⟨rfl, hC0, ag_r _ _⟩
        · next e =>
          obtain ⟨rfl, hT1, hag⟩ := hq
          try dsimp only [Option.toList, List.cons_append, List.nil_append]
          refine at_zeq 33 dX7_feed_20 (by decide) (fun cz_ => absurd cz_ (show ¬ bI true = 0 by decide)) (fun _ => ?_)
          refine at_ld (i := 0) dX7_feed_23 rfl rfl rfl ?_
          refine at_get dX7_feed_24 fX7_28 (ag_at hag h0 (by omega)) (by omega) rfl ?_
          refine at_get dX7_feed_27 fX7_68 hT1.1 (by omega) rfl ?_
          refine at_goto 35 dX7_feed_30 (by decide) ?_
          refine at_ret dX7_feed_35 rfl rfl ?_
          rw [if_neg e, if_pos e]
          exact ⟨rfl, CS_T hC0 hag hT1, ag_w hag (fun j hj => by show j < 64; omega)⟩
    · rw [inR_nI hk] at q
      exact c2 (nI_le (of_decide_eq_true q).2 (by decide))
set_option maxRecDepth 100000 in
theorem x_end (hC : CS g v t n fl ib u) (x : Int32) : sg_K MX7_end [.ref 0, .int x] g (fun r h' => r = some (.int (s_end n x)) ∧ CS h' v t (if inR x 0 n = true then x.toNatClampNeg else n) fl ib u ∧ ag in64 g h') := by
  have hC0 := hC
  obtain ⟨c0, ⟨tc, sd, h0⟩, ⟨b, d, K, eV, hb, hR⟩, hD, hT, hX, c6, c7, c8, ⟨⟨L2, b2, d2, K2, e2, m2, c9⟩, ⟨L3, b3, d3, K3, e3, m3, c10⟩⟩, c11, c12, c13⟩ := hC
  have hn := hT.2.2.2
  show sg_A MX7_end 0 [some (.ref 0), some (.int x), none] [] _ _
  have bad : ¬ inR x 0 n = true → sg_A MX7_end 15 [some (.ref 0), some (.int x), none] [] g (fun r h' => r = some (.int (s_end n x)) ∧ CS h' v t (if inR x 0 n = true then x.toNatClampNeg else n) fl ib u ∧ ag in64 g h') := by
    intro q
    refine at_k (-1) dX7_end_15 rfl (by decide) ?_
    refine at_ret dX7_end_16 rfl rfl ?_
    unfold s_end
    rw [if_neg q, if_neg q]
    exact ⟨rfl, hC0, ag_r _ _⟩
  refine at_ld (i := 1) dX7_end_0 rfl rfl rfl ?_
  refine at_zlt 15 dX7_end_1 (by decide) (fun c => ?_) (fun c => ?_)
  · refine bad (fun q => ?_)
    obtain ⟨k, -, hk, rfl⟩ := inR_of (by omega) q
    exact nI_pos (by omega) c
  · obtain ⟨k, hk, rfl⟩ := nI_of c
    refine at_ld (i := 1) dX7_end_4 rfl rfl rfl ?_
    refine at_ld (i := 0) dX7_end_5 rfl rfl rfl ?_
    refine at_get dX7_end_6 fX7_28 h0 (by omega) rfl ?_
    refine at_get dX7_end_9 fX7_68 hT.1 (by omega) rfl ?_
    refine at_ile 17 dX7_end_12 (by decide) (fun c2 => ?_) (fun c2 => bad (fun q => ?_))
    · have hk2 := (nI_leI hk (by omega)).mp c2
      have hin : inR (nI k) 0 n = true := by rw [inR_nI hk]; exact decide_eq_true ⟨by omega, hk2⟩
      unfold s_end
      simp only [if_pos hin, nI_clamp hk]
      refine at_ld (i := 0) dX7_end_17 rfl rfl rfl ?_
      refine at_get dX7_end_18 fX7_28 h0 (by omega) rfl ?_
      refine at_get dX7_end_21 fX7_68 hT.1 (by omega) rfl ?_
      refine at_st (i := 2) dX7_end_24 rfl rfl (Nat.le_of_ble_eq_true rfl) rfl ?_
      try dsimp only [List.set_cons_succ, List.set_cons_zero]
      refine at_ld (i := 0) dX7_end_25 rfl rfl rfl ?_
      refine at_get dX7_end_26 fX7_28 h0 (by omega) rfl ?_
      refine at_ld (i := 1) dX7_end_29 rfl rfl rfl ?_
      refine at_put dX7_end_30 fX7_68 ⟨_, _, rfl, Or.inl rfl, tyX5_ok 1 (by decide), fun _ => ⟨rfl, rfl⟩⟩ hT.1 (by omega) (Nat.le_of_ble_eq_true rfl) rfl ?_
      refine at_ld (i := 2) dX7_end_33 rfl rfl rfl ?_
      refine at_ret dX7_end_34 rfl rfl ?_
      refine ⟨rfl, CS_T hC0 (ag_w (ag_up _ _ _) (fun j hj => Or.inl hj)) (TP_17 hT hk2), ag_w (ag_up _ _ _) (fun j hj => by show j < 64; omega)⟩
    · rw [inR_nI hk] at q
      exact c2 (nI_le (of_decide_eq_true q).2 (by omega))
end K4
