/-! THE CLASS: deeds: remove, move, gather -/
section C17
variable {g : sg_H} {a D : Nat} {v : Nat → Nat} {b d : Nat → Int32} {K : Nat → Nat → Int32} {e m : Int32}
theorem fr_rmv {v : Nat → Nat} (w : wf v) (wt : wfT v) {i : Nat} (hi : i < 24) (hth : io v i 0 ≠ 0) {z : Nat} (hz : z < 128) : fr (rmv v i) z = paq v i 0 true (fr v) z := by
  have hT := wt i hi
  have h4 := (w.2.2 i hi).2.2.1
  have h40 := wf_s w hi
  unfold rmv
  rw [fr_io _ hz, fr_frb w hi z _ _ _ (by omega) (fun j f => io_lta _ _ (by omega) _ _), fbq_i, fr_lta]
  unfold paq
  rw [sz_t hth]
  split
  · next e0 =>
    rw [fbq_i, e0]
    congr 1
    unfold setq
    rw [if_neg (by omega)]
  · unfold setq
    by_cases z1 : io v i 4 ≤ z ∧ z < io v i 4 + io v i 3 % 4
    · rw [if_pos z1, if_pos z1, Bool.true_or]
    · rw [if_neg z1, if_neg z1, fbq_i]
      rfl
set_option maxRecDepth 100000 in
theorem k_removeInode (hg : a + 13 ≤ g.1) (ha : a < 800) (hD : DE g a D) (hb : mbq (fr v) b) (hR : iR v K) (iv : inv v) (x : Int32) : sg_K MX0_removeInode [.ref D, .int x] (vo g a v b d K (nI (v 6)) (nI (v 7))) (fun r h' => r = some (.int (s_remove v x).1) ∧ VS g a (s_remove v x).2 h') := by
  have w := iv.1.1
  have wT := iv.1.2.2
  have hgi := wf_gi w.1
  have hgb := wf_gb w.1
  have hD8 := hD.2.2.2.1
  generalize hS : s_remove v x = S
  show sg_A MX0_removeInode 0 [some (.ref D), some (.int x), none] [] _ _
  refine at_ld (i := 0) dX0_removeInode_0 rfl rfl rfl ?_
  refine at_get dX0_removeInode_1 fX0_31 (de_O hD) (by omega) rfl ?_
  refine at_ld (i := 1) dX0_removeInode_4 rfl rfl rfl ?_
  refine at_rv [_] dX0_removeInode_5 mX2_kindOf ⟨Nat.le_of_ble_eq_true rfl, Nat.le_of_ble_eq_true rfl⟩ lX0_40 iX2_kindOf rfl rfl (vo_I hg ha).1 (by omega) rfl (Nat.le_of_ble_eq_true rfl) (Nat.le_of_ble_eq_true rfl) ⟨rfl, rfl⟩ (k_kindX (vo_I hg ha) hR w.1 iv.2.2.2.1 x) ?_
  have hk2 := kdX_le w x
  refine at_zne 13 dX0_removeInode_8 (by decide) (fun c => ?_) (fun c => ?_)
  · have c1 : there v x = true := by
      rw [there_k]
      exact decide_eq_true (fun q => c (by rw [q]; rfl))
    obtain ⟨i, hi, rfl, hth⟩ := there_of w.1 c1
    have es : sz v i = io v i 3 := sz_t hth
    have hs40 := wf_s w (show i < 24 by omega)
    rw [s_remove, if_pos c1, nI_clamp (by omega)] at hS
    refine at_ld (i := 0) dX0_removeInode_13 rfl rfl rfl ?_
    refine at_get dX0_removeInode_14 fX0_9 (de_O hD) (by omega) rfl ?_
    refine at_cv [] dX0_removeInode_17 mX6_isSpoilt ⟨Nat.le_of_ble_eq_true rfl, Nat.le_of_ble_eq_true rfl⟩ lX0_50 iX6_isSpoilt rfl rfl (vo_V hg) (by omega) rfl (Nat.le_of_ble_eq_true rfl) (Nat.le_of_ble_eq_true rfl) (k_isSpoilt hg ha hb hR w iv.1.2.2 iv.2.2.1) ?_ ?_
    · rintro r h1 ⟨-, d', rfl⟩
      exact ⟨rfl, rfl⟩
    · rintro r h1 ⟨rfl, d', rfl⟩
      try dsimp only [Option.toList, List.cons_append, List.nil_append]
      have st : (spt v = true ∨ nI i = 0 ∨ hso v i = true) → sg_A MX0_removeInode 38 [some (.ref D), some (.int (nI i)), none] [] (vo g a v b d' K (nI (v 6)) (nI (v 7))) (fun r h' => r = some (.int S.1) ∧ VS g a S.2 h') := by
        intro q
        rw [if_pos q] at hS
        subst hS
        refine at_k (-2) dX0_removeInode_38 rfl (by decide) ?_
        refine at_ret dX0_removeInode_40 rfl rfl ?_
        exact ⟨rfl, b, d', K, rfl, hb, hR⟩
      refine at_zne 38 dX0_removeInode_20 (by decide) (fun c4 => ?_) (fun c4 => ?_)
      · exact st (Or.inl (bI_1 c4))
      · have c4' : spt v = false := (bI_0 _).mp (Classical.not_not.mp c4)
        refine at_ld (i := 1) dX0_removeInode_23 rfl rfl rfl ?_
        refine at_zeq 38 dX0_removeInode_24 (by decide) (fun c5 => ?_) (fun c5 => ?_)
        · exact st (Or.inr (Or.inl c5))
        · refine at_ld (i := 0) dX0_removeInode_27 rfl rfl rfl ?_
          refine at_get dX0_removeInode_28 fX0_31 (de_O hD) (by omega) rfl ?_
          refine at_ld (i := 1) dX0_removeInode_31 rfl rfl rfl ?_
          refine at_rv [_] dX0_removeInode_32 mX2_hasOthers ⟨Nat.le_of_ble_eq_true rfl, Nat.le_of_ble_eq_true rfl⟩ lX0_158 iX2_hasOthers rfl rfl (vo_I hg ha).1 (by omega) rfl (Nat.le_of_ble_eq_true rfl) (Nat.le_of_ble_eq_true rfl) ⟨rfl, rfl⟩ (k_hasOthers (vo_I hg ha) hR w iv.1.2.1 iv.2.1.1 i (by omega)) ?_
          refine at_zeq 41 dX0_removeInode_35 (by decide) (fun c6 => ?_) (fun c6 => st (Or.inr (Or.inr (bI_1 c6))))
          have c6' := (bI_0 _).mp c6
          rw [if_neg (show ¬ (spt v = true ∨ nI i = 0 ∨ hso v i = true) by rw [c4', c6']; rintro (q | q | q); cases q; exact c5 q; cases q)] at hS
          subst hS
          have ks := k_sizeOf (vo_I (g := g) (a := a) (L := v) (b := b) (d := d') (K := K) (e := nI (v 6)) (m := nI (v 7)) hg ha) hR i (by omega)
          rw [es] at ks
          refine at_ld (i := 0) dX0_removeInode_41 rfl rfl rfl ?_
          refine at_get dX0_removeInode_42 fX0_31 (de_O hD) (by omega) rfl ?_
          refine at_ld (i := 1) dX0_removeInode_45 rfl rfl rfl ?_
          refine at_rv [_] dX0_removeInode_46 mX2_sizeOf ⟨Nat.le_of_ble_eq_true rfl, Nat.le_of_ble_eq_true rfl⟩ lX0_88 iX2_sizeOf rfl rfl (vo_I hg ha).1 (by omega) rfl (Nat.le_of_ble_eq_true rfl) (Nat.le_of_ble_eq_true rfl) ⟨rfl, rfl⟩ (ks) ?_
          refine at_st (i := 2) dX0_removeInode_49 rfl rfl (Nat.le_of_ble_eq_true rfl) rfl ?_
          try dsimp only [List.set_cons_succ, List.set_cons_zero]
          refine at_ld (i := 0) dX0_removeInode_50 rfl rfl rfl ?_
          refine at_get dX0_removeInode_51 fX0_9 (de_O hD) (by omega) rfl ?_
          refine at_ld (i := 1) dX0_removeInode_54 rfl rfl rfl ?_
          refine at_k (nI 0) dX0_removeInode_55 rfl (by decide) ?_
          refine at_ld (i := 0) dX0_removeInode_56 rfl rfl rfl ?_
          refine at_get dX0_removeInode_57 fX0_26 (de_O hD) (by omega) rfl ?_
          refine at_k (nI 1) dX0_removeInode_60 rfl (by decide) ?_
          refine at_cv [_, _, _, _] dX0_removeInode_61 mX6_putAllOf ⟨Nat.le_of_ble_eq_true rfl, Nat.le_of_ble_eq_true rfl⟩ lX0_154 iX6_putAllOf rfl rfl (vo_V hg) (by omega) rfl (Nat.le_of_ble_eq_true rfl) (Nat.le_of_ble_eq_true rfl) (k_putAll hg ha hb hR w wT i 0 (by omega) (by omega)) ?_ ?_
          · rintro r h1 ⟨-, b', rfl, -⟩
            exact ⟨rfl, rfl⟩
          · rintro r h1 ⟨rfl, b', rfl, hb'⟩
            try dsimp only [Option.toList, List.cons_append, List.nil_append]
            refine at_ld (i := 0) dX0_removeInode_64 rfl rfl rfl ?_
            refine at_get dX0_removeInode_65 fX0_31 (de_O hD) (by omega) rfl ?_
            refine at_ld (i := 1) dX0_removeInode_68 rfl rfl rfl ?_
            refine at_k (nI 0) dX0_removeInode_69 rfl (by decide) ?_
            refine at_k (-4) dX0_removeInode_70 rfl (by decide) ?_
            refine at_k (-4) dX0_removeInode_72 rfl (by decide) ?_
            refine at_wv [_, _, _, _] dX0_removeInode_74 mX2_become ⟨Nat.le_of_ble_eq_true rfl, Nat.le_of_ble_eq_true rfl⟩ lX0_70 iX2_become rfl rfl (vo_I hg ha).1 (by omega) rfl (Nat.le_of_ble_eq_true rfl) (Nat.le_of_ble_eq_true rfl) ⟨rfl, rfl⟩ (k_become hg ha i (by omega) 0 (-4) (-4)) ⟨rfl, rfl⟩ ?_
            try dsimp only [Option.toList, List.cons_append, List.nil_append]
            refine at_ld (i := 2) dX0_removeInode_77 rfl rfl rfl ?_
            refine at_ret dX0_removeInode_78 rfl rfl ?_
            have hf1 := frb_p (i := i) (by omega) (io v i 3 / 4) 0 (wf_lta w true (x := io v i 4) (n := io v i 3 % 4) (by have := wT i (by omega); have := (w.2.2 i (by omega)).2.2.1; omega)) (by omega)
            have hio : ∀ j f, f < 15 → io (rmv v i) j f = if j = i ∧ f = 0 then 0 else io v j f := by
              intro j f hf
              unfold rmv
              rw [io_u _ (by decide) hf, hf1.2.2, io_lta _ _ (by have := wT i (by omega); have := (w.2.2 i (by omega)).2.2.1; omega)]
            have hc : ∀ c, c < 8 → rmv v i c = v c := by
              intro c hc
              unfold rmv
              rw [vu_n _ _ _ _ (by omega), frb_c _ _ _ _ hc, lta_out _ _ _ _ _ (by omega)]
            exact ⟨rfl, VS_of (v' := rmv v i) (fun c hc2 => hc c (by omega)) (by rw [hc 6 (by decide)]) (by rw [hc 7 (by decide)]) (mbq_e (fun z hz => (fr_rmv w wT (by omega) hth hz).symm) hb') (iR_rm w hR _ (by rw [hio i 0 (by decide), if_pos ⟨rfl, rfl⟩]) (fun j f hf hj => by rw [hio j f hf, if_neg (by omega)]))⟩
  · have c1 : kdX v x = 0 := (nI_eq32 (b := 0) (by omega) (by decide)).mp (Classical.not_not.mp c)
    refine at_k (-1) dX0_removeInode_11 rfl (by decide) ?_
    refine at_ret dX0_removeInode_12 rfl rfl ?_
    rw [s_remove, if_neg (show ¬ there v x = true by rw [there_k, c1]; decide)] at hS
    subst hS
    exact ⟨rfl, b, d, K, rfl, hb, hR⟩
theorem mvv_c (v : Nat → Nat) {i d nm c : Nat} (hc : c < 136) : mvv v i d nm c = v c := by
  unfold mvv
  rw [vu_n _ _ _ _ (by omega), vu_n _ _ _ _ (by omega)]
theorem wf_mvv {v : Nat → Nat} (w : wf v) {i d nm : Nat} : wf (mvv v i d nm) := wf_set (wf_set w (by decide) (fun q => by omega) (fun q => by omega) (fun q => by omega) (fun q => by omega)) (by decide) (fun q => by omega) (fun q => by omega) (fun q => by omega) (fun q => by omega)
set_option maxRecDepth 100000 in
theorem k_moveInode (hg : a + 13 ≤ g.1) (ha : a < 800) (hD : DE g a D) (hb : mbq (fr v) b) (hR : iR v K) (iv : inv v) (x y z : Int32) : sg_K MX0_moveInode [.ref D, .int x, .int y, .int z] (vo g a v b d K (nI (v 6)) (nI (v 7))) (fun r h' => r = some (.int (s_move v x y z).1) ∧ VS g a (s_move v x y z).2 h') := by
  have w := iv.1.1
  have hgi := wf_gi w.1
  have hD8 := hD.2.2.2.1
  generalize hS : s_move v x y z = S
  show sg_A MX0_moveInode 0 [some (.ref D), some (.int x), some (.int y), some (.int z), none] [] _ _
  have bad : ¬ (there v x = true ∧ isDir v y = true ∧ inR z 0 9 = true) → sg_A MX0_moveInode 30 [some (.ref D), some (.int x), some (.int y), some (.int z), none] [] (vo g a v b d K (nI (v 6)) (nI (v 7))) (fun r h' => r = some (.int S.1) ∧ VS g a S.2 h') := by
    intro q
    refine at_k (-1) dX0_moveInode_30 rfl (by decide) ?_
    refine at_ret dX0_moveInode_31 rfl rfl ?_
    rw [s_move, if_neg q] at hS
    subst hS
    exact ⟨rfl, b, d, K, rfl, hb, hR⟩
  have hk2 := kdX_le w x
  have hky := kdX_le w y
  refine at_ld (i := 0) dX0_moveInode_0 rfl rfl rfl ?_
  refine at_get dX0_moveInode_1 fX0_31 (de_O hD) (by omega) rfl ?_
  refine at_ld (i := 1) dX0_moveInode_4 rfl rfl rfl ?_
  refine at_rv [_] dX0_moveInode_5 mX2_kindOf ⟨Nat.le_of_ble_eq_true rfl, Nat.le_of_ble_eq_true rfl⟩ lX0_40 iX2_kindOf rfl rfl (vo_I hg ha).1 (by omega) rfl (Nat.le_of_ble_eq_true rfl) (Nat.le_of_ble_eq_true rfl) ⟨rfl, rfl⟩ (k_kindX (vo_I hg ha) hR w.1 iv.2.2.2.1 x) ?_
  refine at_zeq 30 dX0_moveInode_8 (by decide) (fun c => ?_) (fun c => ?_)
  · have c1 : kdX v x = 0 := (nI_eq32 (b := 0) (by omega) (by decide)).mp c
    exact bad (fun q => by have q1 := q.1; rw [there_k, c1] at q1; exact absurd q1 (by decide))
  · have c1 : there v x = true := by
      rw [there_k]
      exact decide_eq_true (fun q => c (by rw [q]; rfl))
    refine at_ld (i := 0) dX0_moveInode_11 rfl rfl rfl ?_
    refine at_get dX0_moveInode_12 fX0_31 (de_O hD) (by omega) rfl ?_
    refine at_ld (i := 2) dX0_moveInode_15 rfl rfl rfl ?_
    refine at_rv [_] dX0_moveInode_16 mX2_kindOf ⟨Nat.le_of_ble_eq_true rfl, Nat.le_of_ble_eq_true rfl⟩ lX0_40 iX2_kindOf rfl rfl (vo_I hg ha).1 (by omega) rfl (Nat.le_of_ble_eq_true rfl) (Nat.le_of_ble_eq_true rfl) ⟨rfl, rfl⟩ (k_kindX (vo_I hg ha) hR w.1 iv.2.2.2.1 y) ?_
    refine at_k (nI 1) dX0_moveInode_19 rfl (by decide) ?_
    refine at_ine 30 dX0_moveInode_20 (by decide) (fun c2 => ?_) (fun c2 => ?_)
    · exact bad (fun q => c2 (by have q1 := q.2.1; rw [isDir_k] at q1; rw [of_decide_eq_true q1]))
    · have c2' : isDir v y = true := by
        rw [isDir_k]
        exact decide_eq_true ((nI_eq32 (by omega) (by decide)).mp (Classical.not_not.mp c2))
      refine at_ld (i := 3) dX0_moveInode_23 rfl rfl rfl ?_
      refine at_rs [_] dX0_moveInode_24 mX7_isName ⟨Nat.le_of_ble_eq_true rfl, Nat.le_of_ble_eq_true rfl⟩ lX0_46 tX7_isName rfl (Nat.le_of_ble_eq_true rfl) (Nat.le_of_ble_eq_true rfl) ⟨rfl, rfl⟩ (k_isName _ z) ?_
      refine at_zne 32 dX0_moveInode_27 (by decide) (fun c3 => ?_) (fun c3 => bad (fun q => c3 (by rw [q.2.2]; decide)))
      have c3' := bI_1 c3
      rw [s_move, if_pos ⟨c1, c2', c3'⟩] at hS
      obtain ⟨i, hi, rfl, hth⟩ := there_of w.1 c1
      obtain ⟨dd, hd, rfl, hd1⟩ := isDir_of w.1 c2'
      obtain ⟨nm, -, hnm, rfl⟩ := inR_of (by decide) c3'
      rw [nI_clamp (by omega), nI_clamp (by omega), nI_clamp (by omega)] at hS
      obtain ⟨n, hn, hcn⟩ := iv.2.1.2 dd hd (by omega)
      refine at_ld (i := 0) dX0_moveInode_32 rfl rfl rfl ?_
      refine at_get dX0_moveInode_33 fX0_31 (de_O hD) (by omega) rfl ?_
      refine at_ld (i := 2) dX0_moveInode_36 rfl rfl rfl ?_
      refine at_ld (i := 3) dX0_moveInode_37 rfl rfl rfl ?_
      refine at_rv [_, _] dX0_moveInode_38 mX2_named ⟨Nat.le_of_ble_eq_true rfl, Nat.le_of_ble_eq_true rfl⟩ lX0_54 iX2_named rfl rfl (vo_I hg ha).1 (by omega) rfl (Nat.le_of_ble_eq_true rfl) (Nat.le_of_ble_eq_true rfl) ⟨rfl, rfl⟩ (k_named (vo_I hg ha) hR w iv.1.2.1 iv.2.1.1 dd nm (by omega) (by omega)) ?_
      refine at_st (i := 4) dX0_moveInode_41 rfl rfl (Nat.le_of_ble_eq_true rfl) rfl ?_
      try dsimp only [List.set_cons_succ, List.set_cons_zero]
      refine at_ld (i := 0) dX0_moveInode_43 rfl rfl rfl ?_
      refine at_get dX0_moveInode_44 fX0_9 (de_O hD) (by omega) rfl ?_
      refine at_cv [] dX0_moveInode_47 mX6_isSpoilt ⟨Nat.le_of_ble_eq_true rfl, Nat.le_of_ble_eq_true rfl⟩ lX0_50 iX6_isSpoilt rfl rfl (vo_V hg) (by omega) rfl (Nat.le_of_ble_eq_true rfl) (Nat.le_of_ble_eq_true rfl) (k_isSpoilt hg ha hb hR w iv.1.2.2 iv.2.2.1) ?_ ?_
      · rintro r h1 ⟨-, d', rfl⟩
        exact ⟨rfl, rfl⟩
      · rintro r h1 ⟨rfl, d', rfl⟩
        try dsimp only [Option.toList, List.cons_append, List.nil_append]
        have st : (spt v = true ∨ nI i = 0 ∨ wthF v i 24 dd = true ∨ (ino v dd nm ≠ none ∧ ino v dd nm ≠ some i)) → sg_A MX0_moveInode 84 [some (.ref D), some (.int (nI i)), some (.int (nI dd)), some (.int (nI nm)), some (.int (oI (ino v dd nm)))] [] (vo g a v b d' K (nI (v 6)) (nI (v 7))) (fun r h' => r = some (.int S.1) ∧ VS g a S.2 h') := by
          intro q
          rw [if_pos q] at hS
          subst hS
          refine at_k (-2) dX0_moveInode_84 rfl (by decide) ?_
          refine at_ret dX0_moveInode_86 rfl rfl ?_
          exact ⟨rfl, b, d', K, rfl, hb, hR⟩
        refine at_zne 84 dX0_moveInode_50 (by decide) (fun c4 => ?_) (fun c4 => ?_)
        · exact st (Or.inl (bI_1 c4))
        · have c4' : spt v = false := (bI_0 _).mp (Classical.not_not.mp c4)
          refine at_ld (i := 1) dX0_moveInode_53 rfl rfl rfl ?_
          refine at_zeq 84 dX0_moveInode_54 (by decide) (fun c5 => ?_) (fun c5 => ?_)
          · exact st (Or.inr (Or.inl c5))
          · have hi0 : i ≠ 0 := fun q => c5 (by rw [q]; rfl)
            have kd := k_depthBelow (vo_I (g := g) (a := a) (L := v) (b := b) (d := d') (K := K) (e := nI (v 6)) (m := nI (v 7)) hg ha) hR w iv.2.1.1 (by rw [iv.2.2.2.2.2]; decide) i dd n (by omega) hn hcn
            have ewt : wthF v i 24 dd = wth v i n dd := wthF_eq v i n 24 dd hcn hn
            have edw := dpB_w v i n dd
            refine at_ld (i := 0) dX0_moveInode_57 rfl rfl rfl ?_
            refine at_get dX0_moveInode_58 fX0_31 (de_O hD) (by omega) rfl ?_
            refine at_ld (i := 1) dX0_moveInode_61 rfl rfl rfl ?_
            refine at_ld (i := 2) dX0_moveInode_62 rfl rfl rfl ?_
            refine at_rv [_, _] dX0_moveInode_63 mX2_depthBelow ⟨Nat.le_of_ble_eq_true rfl, Nat.le_of_ble_eq_true rfl⟩ lX0_161 iX2_depthBelow rfl rfl (vo_I hg ha).1 (by omega) rfl (Nat.le_of_ble_eq_true rfl) (Nat.le_of_ble_eq_true rfl) ⟨rfl, rfl⟩ (kd) ?_
            refine at_k (-4) dX0_moveInode_66 rfl (by decide) ?_
            cases hdp : dpB v i n dd with
            | some k =>
              have := dpB_le v i n dd k hdp
              refine at_ine 84 dX0_moveInode_68 (by decide) (fun _ => ?_) (fun c => absurd (oI_n (by omega)) c)
              exact st (Or.inr (Or.inr (Or.inl (by rw [ewt, ← edw, hdp]; rfl))))
            | none =>
              refine at_ine 84 dX0_moveInode_68 (by decide) (fun c => absurd c (fun q => q rfl)) (fun _ => ?_)
              have hwf : wth v i n dd = false := by rw [← edw, hdp]; rfl
              have good : ¬ (ino v dd nm ≠ none ∧ ino v dd nm ≠ some i) → sg_A MX0_moveInode 87 [some (.ref D), some (.int (nI i)), some (.int (nI dd)), some (.int (nI nm)), some (.int (oI (ino v dd nm)))] [] (vo g a v b d' K (nI (v 6)) (nI (v 7))) (fun r h' => r = some (.int S.1) ∧ VS g a S.2 h') := by
                intro hno
                rw [if_neg (show ¬ (spt v = true ∨ nI i = 0 ∨ wthF v i 24 dd = true ∨ (ino v dd nm ≠ none ∧ ino v dd nm ≠ some i)) by rw [c4', ewt, hwf]; rintro (q | q | q | q); cases q; exact c5 q; cases q; exact hno q)] at hS
                have hch := chn_mvv (nm := nm) hi0 hi hth hcn hwf
                have hch2 := chn_lt (wf_mvv w).1 hch
                rw [mvv_c v (by decide), mvv_c v (by decide)] at hch2
                have hR' := iR_en (i := i) (d := dd) (nm := nm) w hR
                have eV : vo g a v b d' (kEn K i (nI dd) (nI nm)) (nI (v 6)) (nI (v 7)) = vo g a (mvv v i dd nm) b d' (kEn K i (nI dd) (nI nm)) (nI (v 6)) (nI (v 7)) := vo_L (mvv v i dd nm) (fun c hc => mvv_c v (by omega))
                have kd2 := k_depthBelow (vo_I (g := g) (a := a) (L := mvv v i dd nm) (b := b) (d := d') (K := kEn K i (nI dd) (nI nm)) (e := nI (v 6)) (m := nI (v 7)) hg ha) hR' (wf_mvv w) (by rw [io_mvv _ _ _ _ _ _ (by decide), if_neg (by omega), if_neg (by omega)]; exact iv.2.1.1) (by rw [io_mvv _ _ _ _ _ _ (by decide), if_neg (by omega), if_neg (by omega), iv.2.2.2.2.2]; decide) 0 i (n + 1) (by decide) (by omega) hch
                rw [dpB_0 _ _ _ hch, ← eV] at kd2
                rw [dpt_eq _ (n + 1) 30 i hch (by omega)] at hS
                subst hS
                refine at_ld (i := 0) dX0_moveInode_87 rfl rfl rfl ?_
                refine at_get dX0_moveInode_88 fX0_31 (de_O hD) (by omega) rfl ?_
                refine at_ld (i := 1) dX0_moveInode_91 rfl rfl rfl ?_
                refine at_ld (i := 2) dX0_moveInode_92 rfl rfl rfl ?_
                refine at_ld (i := 3) dX0_moveInode_93 rfl rfl rfl ?_
                refine at_wv [_, _, _] dX0_moveInode_94 mX2_setEntry ⟨Nat.le_of_ble_eq_true rfl, Nat.le_of_ble_eq_true rfl⟩ lX0_164 iX2_setEntry rfl rfl (vo_I hg ha).1 (by omega) rfl (Nat.le_of_ble_eq_true rfl) (Nat.le_of_ble_eq_true rfl) ⟨rfl, rfl⟩ (k_setEntry hg ha i (by omega) (nI dd) (nI nm)) ⟨rfl, rfl⟩ ?_
                try dsimp only [Option.toList, List.cons_append, List.nil_append]
                refine at_ld (i := 0) dX0_moveInode_97 rfl rfl rfl ?_
                refine at_get dX0_moveInode_98 fX0_31 (de_O hD) (by omega) rfl ?_
                refine at_k (nI 0) dX0_moveInode_101 rfl (by decide) ?_
                refine at_ld (i := 1) dX0_moveInode_102 rfl rfl rfl ?_
                refine at_rv [_, _] dX0_moveInode_103 mX2_depthBelow ⟨Nat.le_of_ble_eq_true rfl, Nat.le_of_ble_eq_true rfl⟩ lX0_161 iX2_depthBelow rfl rfl (vo_I hg ha).1 (by omega) rfl (Nat.le_of_ble_eq_true rfl) (Nat.le_of_ble_eq_true rfl) ⟨rfl, rfl⟩ (kd2) ?_
                refine at_ret dX0_moveInode_106 rfl rfl ?_
                refine ⟨rfl, VS_of (v' := mvv v i dd nm) (fun c hc => mvv_c v (by omega)) (by rw [mvv_c v (by decide)]) (by rw [mvv_c v (by decide)]) (mbq_e (fun q hq => ?_) hb) hR'⟩
                unfold fr
                rw [mvv_c v (by omega)]
              refine at_ld (i := 4) dX0_moveInode_71 rfl rfl rfl ?_
              refine at_k (-4) dX0_moveInode_73 rfl (by decide) ?_
              cases hno : ino v dd nm with
              | none =>
                refine at_ieq 87 dX0_moveInode_75 (by decide) (fun _ => ?_) (fun c => absurd (rfl) c)
                rw [hno] at good
                exact good (fun q => q.1 rfl)
              | some j =>
                have hj := ino_lt hno
                refine at_ieq 87 dX0_moveInode_75 (by decide) (fun c => absurd c (oI_n (by omega))) (fun _ => ?_)
                rw [hno] at good st
                refine at_ld (i := 4) dX0_moveInode_78 rfl rfl rfl ?_
                refine at_ld (i := 1) dX0_moveInode_80 rfl rfl rfl ?_
                refine at_ieq 87 dX0_moveInode_81 (by decide) (fun c7 => ?_) (fun c7 => ?_)
                · have : j = i := (nI_eq32 (by omega) (by omega)).mp c7
                  subst this
                  exact good (fun q => q.2 rfl)
                · exact st (Or.inr (Or.inr (Or.inr ⟨fun q => (by cases q), fun q => c7 (by cases q; rfl)⟩)))
end C17
