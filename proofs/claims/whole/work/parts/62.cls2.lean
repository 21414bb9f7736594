/-! THE CLASS ITSELF: what it tells of inodes, fragments, entries -/
section K2
variable {g : sg_H} {v t : Nat → Nat} {n fl : Nat} {ib : Nat → Bool} {u : Nat → Nat → Nat}
set_option maxRecDepth 100000 in
theorem x_inode (hC : CS g v t n fl ib u) (iv : inv v) (x y : Int32) : sg_Kr MX7_inode [.ref 0, .int x, .int y] g (.int (s_inode v x y)) := by
  have w := iv.1.1
  have hgi := wf_gi w.1
  obtain ⟨c0, ⟨tc, sd, h0⟩, ⟨b, d, K, eV, hb, hR⟩, hD, hT, hX, -⟩ := hC
  have hV : sg_at g 1 (.inr (6, [.ref (1 + 1), .ref (1 + 2), .ref (1 + 4), .ref (1 + 6), .int (nI (v 6)), .int (nI (v 7))])) := by rw [eV]; exact vo_V (by omega)
  have hY : sg_at g (1 + 1) (.inr (3, lay v)) := by rw [eV]; exact vo_Y (by omega)
  have hF : FM g (1 + 2) (1 + 1) v b := by rw [eV]; exact vo_F (by omega) (by decide)
  have hI : IN g (1 + 6) (1 + 1) v K := by rw [eV]; exact vo_I (by omega) (by decide)
  show sg_A MX7_inode 0 [some (.ref 0), some (.int x), some (.int y), none] [] _ _
  have kp := fun i hi f => k_pairsOf (g := g) (a := 1) (v := v) (b := b) (d := d) (K := K) (e := nI (v 6)) (m := nI (v 7)) (by omega) (by decide) hR w i hi f
  rw [← eV] at kp
  have bad : ¬ (isI v x = true ∧ inR y 0 7 = true) → sg_A MX7_inode 24 [some (.ref 0), some (.int x), some (.int y), none] [] g (fun r h' => r = some (.int (s_inode v x y)) ∧ h' = g) := by
    intro q
    refine at_k (-1) dX7_inode_24 rfl (by decide) ?_
    refine at_ret dX7_inode_25 rfl rfl ?_
    unfold s_inode
    rw [if_neg q]
    exact ⟨rfl, rfl⟩
  refine at_ld (i := 0) dX7_inode_0 rfl rfl rfl ?_
  refine at_get dX7_inode_1 fX7_10 h0 (by omega) rfl ?_
  refine at_get dX7_inode_4 fX7_113 hV (by omega) rfl ?_
  refine at_ld (i := 1) dX7_inode_7 rfl rfl rfl ?_
  refine at_rv [_] dX7_inode_8 mX2_isNumber ⟨Nat.le_of_ble_eq_true rfl, Nat.le_of_ble_eq_true rfl⟩ lX7_197 iX2_isNumber rfl rfl hI.1 (by omega) rfl (Nat.le_of_ble_eq_true rfl) (Nat.le_of_ble_eq_true rfl) ⟨rfl, rfl⟩ (k_isNumber hI w.1 x) ?_
  refine at_zeq 24 dX7_inode_11 (by decide) (fun c => ?_) (fun c => ?_)
  · exact bad (fun q => by rw [q.1] at c; exact absurd c (by decide))
  · have c1 := bI_1 c
    obtain ⟨i, hi, rfl⟩ := isI_of w.1 c1
    refine at_ld (i := 2) dX7_inode_14 rfl rfl rfl ?_
    refine at_zlt 24 dX7_inode_15 (by decide) (fun c2 => ?_) (fun c2 => ?_)
    · refine bad (fun q => ?_)
      obtain ⟨k, -, hk, rfl⟩ := inR_of (by omega) q.2
      exact nI_pos (by omega) c2
    · obtain ⟨k, hk, rfl⟩ := nI_of c2
      refine at_ld (i := 2) dX7_inode_18 rfl rfl rfl ?_
      refine at_k (nI 7) dX7_inode_19 rfl (by decide) ?_
      refine at_ile 26 dX7_inode_21 (by decide) (fun c3 => ?_) (fun c3 => bad (fun q => ?_))
      · have hk7 := (nI_leI hk (by decide)).mp c3
        have es : s_inode v (nI i) (nI k) = ind v i k := by
          unfold s_inode
          rw [if_pos ⟨c1, by rw [inR_nI hk]; exact decide_eq_true ⟨by omega, hk7⟩⟩, nI_clamp (by omega), nI_clamp hk]
        rw [es]
        have hk2 := wf_k w i (by omega)
        refine at_ld (i := 0) dX7_inode_26 rfl rfl rfl ?_
        refine at_get dX7_inode_27 fX7_10 h0 (by omega) rfl ?_
        refine at_get dX7_inode_30 fX7_113 hV (by omega) rfl ?_
        refine at_ld (i := 1) dX7_inode_33 rfl rfl rfl ?_
        refine at_rv [_] dX7_inode_34 mX2_kindOf ⟨Nat.le_of_ble_eq_true rfl, Nat.le_of_ble_eq_true rfl⟩ lX7_200 iX2_kindOf rfl rfl hI.1 (by omega) rfl (Nat.le_of_ble_eq_true rfl) (Nat.le_of_ble_eq_true rfl) ⟨rfl, rfl⟩ (k_kindOf hI hR i (by omega)) ?_
        refine at_st (i := 3) dX7_inode_37 rfl rfl (Nat.le_of_ble_eq_true rfl) rfl ?_
        try dsimp only [List.set_cons_succ, List.set_cons_zero]
        refine at_ld (i := 2) dX7_inode_38 rfl rfl rfl ?_
        unfold ind
        by_cases k0 : k = 0
        · subst k0
          refine at_zne 44 dX7_inode_39 (by decide) (fun cz_ => absurd cz_ (fun q => q rfl)) (fun _ => ?_)
          refine at_ld (i := 3) dX7_inode_42 rfl rfl rfl ?_
          refine at_ret dX7_inode_43 rfl rfl ?_
          exact ⟨rfl, rfl⟩
        · refine at_zne 44 dX7_inode_39 (by decide) (fun _ => ?_) (fun cz_ => absurd (nI_ne0 (by omega) hk) cz_)
          simp only [if_neg k0]
          refine at_ld (i := 3) dX7_inode_44 rfl rfl rfl ?_
          by_cases hth : io v i 0 = 0
          · refine at_zne 51 dX7_inode_45 (by decide) (fun cz_ => absurd cz_ (fun q => q (by rw [hth]; rfl))) (fun _ => ?_)
            simp only [if_pos hth]
            refine at_k (-4) dX7_inode_48 rfl (by decide) ?_
            refine at_ret dX7_inode_50 rfl rfl ?_
            exact ⟨rfl, rfl⟩
          · refine at_zne 51 dX7_inode_45 (by decide) (fun _ => ?_) (fun cz_ => absurd (nI_ne0 (by omega) (by omega)) cz_)
            simp only [if_neg hth]
            have es3 : sz v i = io v i 3 := sz_t hth
            refine at_ld (i := 2) dX7_inode_51 rfl rfl rfl ?_
            rcases Nat.lt_or_ge k 6 with d1 | d1
            · rcases (show k = 1 ∨ k = 2 ∨ k = 3 ∨ k = 4 ∨ k = 5 by omega) with rfl | rfl | rfl | rfl | rfl
              · refine at_tin 88 dX7_inode_52 (by decide) (by decide) rfl (by decide) ?_
                refine at_ld (i := 0) dX7_inode_88 rfl rfl rfl ?_
                refine at_get dX7_inode_89 fX7_10 h0 (by omega) rfl ?_
                refine at_get dX7_inode_92 fX7_113 hV (by omega) rfl ?_
                refine at_ld (i := 1) dX7_inode_95 rfl rfl rfl ?_
                refine at_rv [_] dX7_inode_96 mX2_parentOf ⟨Nat.le_of_ble_eq_true rfl, Nat.le_of_ble_eq_true rfl⟩ lX7_203 iX2_parentOf rfl rfl hI.1 (by omega) rfl (Nat.le_of_ble_eq_true rfl) (Nat.le_of_ble_eq_true rfl) ⟨rfl, rfl⟩ (k_parentOf hI hR i (by omega) hth) ?_
                refine at_ret dX7_inode_99 rfl rfl ?_
                exact ⟨rfl, rfl⟩
              · refine at_tin 100 dX7_inode_52 (by decide) (by decide) rfl (by decide) ?_
                refine at_ld (i := 0) dX7_inode_100 rfl rfl rfl ?_
                refine at_get dX7_inode_101 fX7_10 h0 (by omega) rfl ?_
                refine at_get dX7_inode_104 fX7_113 hV (by omega) rfl ?_
                refine at_ld (i := 1) dX7_inode_107 rfl rfl rfl ?_
                refine at_rv [_] dX7_inode_108 mX2_nameOf ⟨Nat.le_of_ble_eq_true rfl, Nat.le_of_ble_eq_true rfl⟩ lX7_206 iX2_nameOf rfl rfl hI.1 (by omega) rfl (Nat.le_of_ble_eq_true rfl) (Nat.le_of_ble_eq_true rfl) ⟨rfl, rfl⟩ (k_nameOf hI hR i (by omega) hth) ?_
                refine at_ret dX7_inode_111 rfl rfl ?_
                exact ⟨rfl, rfl⟩
              · refine at_tin 112 dX7_inode_52 (by decide) (by decide) rfl (by decide) ?_
                refine at_ld (i := 0) dX7_inode_112 rfl rfl rfl ?_
                refine at_get dX7_inode_113 fX7_10 h0 (by omega) rfl ?_
                refine at_get dX7_inode_116 fX7_113 hV (by omega) rfl ?_
                refine at_ld (i := 1) dX7_inode_119 rfl rfl rfl ?_
                refine at_rv [_] dX7_inode_120 mX2_sizeOf ⟨Nat.le_of_ble_eq_true rfl, Nat.le_of_ble_eq_true rfl⟩ lX7_209 iX2_sizeOf rfl rfl hI.1 (by omega) rfl (Nat.le_of_ble_eq_true rfl) (Nat.le_of_ble_eq_true rfl) ⟨rfl, rfl⟩ (k_sizeOf hI hR i (by omega)) ?_
                refine at_ret dX7_inode_123 rfl rfl ?_
                rw [es3]
                exact ⟨rfl, rfl⟩
              · refine at_tin 124 dX7_inode_52 (by decide) (by decide) rfl (by decide) ?_
                refine at_ld (i := 0) dX7_inode_124 rfl rfl rfl ?_
                refine at_get dX7_inode_125 fX7_10 h0 (by omega) rfl ?_
                refine at_get dX7_inode_128 fX7_113 hV (by omega) rfl ?_
                refine at_ld (i := 1) dX7_inode_131 rfl rfl rfl ?_
                refine at_rv [_] dX7_inode_132 mX2_blocksOf ⟨Nat.le_of_ble_eq_true rfl, Nat.le_of_ble_eq_true rfl⟩ lX7_212 iX2_blocksOf rfl rfl hI.1 (by omega) rfl (Nat.le_of_ble_eq_true rfl) (Nat.le_of_ble_eq_true rfl) ⟨rfl, rfl⟩ (k_blocksOf hI hR w i (by omega)) ?_
                refine at_ret dX7_inode_135 rfl rfl ?_
                rw [es3]
                exact ⟨rfl, rfl⟩
              · refine at_tin 136 dX7_inode_52 (by decide) (by decide) rfl (by decide) ?_
                refine at_ld (i := 0) dX7_inode_136 rfl rfl rfl ?_
                refine at_get dX7_inode_137 fX7_10 h0 (by omega) rfl ?_
                refine at_get dX7_inode_140 fX7_113 hV (by omega) rfl ?_
                refine at_ld (i := 1) dX7_inode_143 rfl rfl rfl ?_
                refine at_rv [_] dX7_inode_144 mX2_tailOf ⟨Nat.le_of_ble_eq_true rfl, Nat.le_of_ble_eq_true rfl⟩ lX7_215 iX2_tailOf rfl rfl hI.1 (by omega) rfl (Nat.le_of_ble_eq_true rfl) (Nat.le_of_ble_eq_true rfl) ⟨rfl, rfl⟩ (k_tailOf hI hR i (by omega)) ?_
                refine at_ret dX7_inode_147 rfl rfl ?_
                unfold tlI
                rw [es3]
                exact ⟨rfl, rfl⟩
            · refine at_tout 148 dX7_inode_52 (Or.inr (by rw [nI_toInt hk]; omega)) (by decide) ?_
              rcases (show k = 6 ∨ k = 7 by omega) with rfl | rfl
              · refine at_ld (i := 0) dX7_inode_148 rfl rfl rfl ?_
                refine at_get dX7_inode_149 fX7_10 h0 (by omega) rfl ?_
                refine at_ld (i := 1) dX7_inode_152 rfl rfl rfl ?_
                refine at_ld (i := 2) dX7_inode_153 rfl rfl rfl ?_
                refine at_k (nI 7) dX7_inode_154 rfl (by decide) ?_
                refine at_ine 163 dX7_inode_156 (by decide) (fun _ => ?_) (fun cz_ => absurd ((by decide)) cz_)
                refine at_k (nI 0) dX7_inode_163 rfl (by decide) ?_
                refine at_rv [_, _] dX7_inode_164 mX6_pairsOf ⟨Nat.le_of_ble_eq_true rfl, Nat.le_of_ble_eq_true rfl⟩ lX7_218 iX6_pairsOf rfl rfl hV (by omega) rfl (Nat.le_of_ble_eq_true rfl) (Nat.le_of_ble_eq_true rfl) ⟨rfl, rfl⟩ (kp i (by omega) false) ?_
                refine at_ret dX7_inode_167 rfl rfl ?_
                rw [prn_f hth]
                exact ⟨rfl, rfl⟩
              · refine at_ld (i := 0) dX7_inode_148 rfl rfl rfl ?_
                refine at_get dX7_inode_149 fX7_10 h0 (by omega) rfl ?_
                refine at_ld (i := 1) dX7_inode_152 rfl rfl rfl ?_
                refine at_ld (i := 2) dX7_inode_153 rfl rfl rfl ?_
                refine at_k (nI 7) dX7_inode_154 rfl (by decide) ?_
                refine at_ine 163 dX7_inode_156 (by decide) (fun cz_ => absurd cz_ (fun q => q rfl)) (fun _ => ?_)
                refine at_k (nI 1) dX7_inode_159 rfl (by decide) ?_
                refine at_goto 164 dX7_inode_160 (by decide) ?_
                refine at_rv [_, _] dX7_inode_164 mX6_pairsOf ⟨Nat.le_of_ble_eq_true rfl, Nat.le_of_ble_eq_true rfl⟩ lX7_218 iX6_pairsOf rfl rfl hV (by omega) rfl (Nat.le_of_ble_eq_true rfl) (Nat.le_of_ble_eq_true rfl) ⟨rfl, rfl⟩ (kp i (by omega) true) ?_
                refine at_ret dX7_inode_167 rfl rfl ?_
                rw [prn_t hth]
                exact ⟨rfl, rfl⟩
      · have q2 := q.2
        rw [inR_nI hk] at q2
        exact c3 (nI_le (of_decide_eq_true q2).2 (by decide))
set_option maxRecDepth 100000 in
theorem x_block (hC : CS g v t n fl ib u) (iv : inv v) (x y : Int32) : sg_Kr MX7_block [.ref 0, .int x, .int y] g (.int (s_block v x y)) := by
  have w := iv.1.1
  have hgi := wf_gi w.1
  obtain ⟨c0, ⟨tc, sd, h0⟩, ⟨b, d, K, eV, hb, hR⟩, hD, hT, hX, -⟩ := hC
  have hV : sg_at g 1 (.inr (6, [.ref (1 + 1), .ref (1 + 2), .ref (1 + 4), .ref (1 + 6), .int (nI (v 6)), .int (nI (v 7))])) := by rw [eV]; exact vo_V (by omega)
  have hI : IN g (1 + 6) (1 + 1) v K := by rw [eV]; exact vo_I (by omega) (by decide)
  show sg_A MX7_block 0 [some (.ref 0), some (.int x), some (.int y)] [] _ _
  have bad : ¬ (isI v x = true ∧ ¬ y < 0) → sg_A MX7_block 18 [some (.ref 0), some (.int x), some (.int y)] [] g (fun r h' => r = some (.int (s_block v x y)) ∧ h' = g) := by
    intro q
    refine at_k (-1) dX7_block_18 rfl (by decide) ?_
    refine at_ret dX7_block_19 rfl rfl ?_
    unfold s_block
    rw [if_neg q]
    exact ⟨rfl, rfl⟩
  refine at_ld (i := 0) dX7_block_0 rfl rfl rfl ?_
  refine at_get dX7_block_1 fX7_10 h0 (by omega) rfl ?_
  refine at_get dX7_block_4 fX7_113 hV (by omega) rfl ?_
  refine at_ld (i := 1) dX7_block_7 rfl rfl rfl ?_
  refine at_rv [_] dX7_block_8 mX2_isNumber ⟨Nat.le_of_ble_eq_true rfl, Nat.le_of_ble_eq_true rfl⟩ lX7_197 iX2_isNumber rfl rfl hI.1 (by omega) rfl (Nat.le_of_ble_eq_true rfl) (Nat.le_of_ble_eq_true rfl) ⟨rfl, rfl⟩ (k_isNumber hI w.1 x) ?_
  refine at_zeq 18 dX7_block_11 (by decide) (fun c => ?_) (fun c => ?_)
  · exact bad (fun q => by rw [q.1] at c; exact absurd c (by decide))
  · have c1 := bI_1 c
    obtain ⟨i, hi, rfl⟩ := isI_of w.1 c1
    refine at_ld (i := 2) dX7_block_14 rfl rfl rfl ?_
    refine at_zge 20 dX7_block_15 (by decide) (fun c2 => ?_) (fun c2 => bad (fun q => c2 (Int32.not_lt.mp q.2)))
    obtain ⟨k, hk, rfl⟩ := nI_of (Int32.not_lt.mpr c2)
    have hs := sz_le w (show i < 24 by omega)
    have es : s_block v (nI i) (nI k) = if io v i 0 ≠ 0 ∧ k < io v i 3 / 4 then nI (io v i (5 + k)) else -4 := by
      unfold s_block
      rw [if_pos ⟨c1, nI_pos hk⟩, nI_clamp (by omega), nI_clamp hk]
    rw [es]
    refine at_ld (i := 2) dX7_block_20 rfl rfl rfl ?_
    refine at_ld (i := 0) dX7_block_21 rfl rfl rfl ?_
    refine at_get dX7_block_22 fX7_10 h0 (by omega) rfl ?_
    refine at_get dX7_block_25 fX7_113 hV (by omega) rfl ?_
    refine at_ld (i := 1) dX7_block_28 rfl rfl rfl ?_
    refine at_rv [_] dX7_block_29 mX2_blocksOf ⟨Nat.le_of_ble_eq_true rfl, Nat.le_of_ble_eq_true rfl⟩ lX7_212 iX2_blocksOf rfl rfl hI.1 (by omega) rfl (Nat.le_of_ble_eq_true rfl) (Nat.le_of_ble_eq_true rfl) ⟨rfl, rfl⟩ (k_blocksOf hI hR w i (by omega)) ?_
    refine at_ige 50 dX7_block_32 (by decide) (fun c3 => ?_) (fun c3 => ?_)
    · have c4 := (nI_leI (by omega) hk).mp c3
      refine at_k (-4) dX7_block_50 rfl (by decide) ?_
      refine at_ret dX7_block_52 rfl rfl ?_
      rw [if_neg (fun q => by rw [sz_t q.1] at c4; omega)]
      exact ⟨rfl, rfl⟩
    · have c4 : k < sz v i / 4 := by
        rcases Nat.lt_or_ge k (sz v i / 4) with z | z
        · exact z
        · exact absurd (nI_le z hk) c3
      have hth : io v i 0 ≠ 0 := fun q => by unfold sz at c4; rw [if_pos q] at c4; omega
      refine at_ld (i := 0) dX7_block_35 rfl rfl rfl ?_
      refine at_get dX7_block_36 fX7_10 h0 (by omega) rfl ?_
      refine at_get dX7_block_39 fX7_113 hV (by omega) rfl ?_
      refine at_ld (i := 1) dX7_block_42 rfl rfl rfl ?_
      refine at_ld (i := 2) dX7_block_43 rfl rfl rfl ?_
      refine at_rv [_, _] dX7_block_44 mX2_blockAt ⟨Nat.le_of_ble_eq_true rfl, Nat.le_of_ble_eq_true rfl⟩ lX7_222 iX2_blockAt rfl rfl hI.1 (by omega) rfl (Nat.le_of_ble_eq_true rfl) (Nat.le_of_ble_eq_true rfl) ⟨rfl, rfl⟩ (k_blockAt hI hR i k (by omega) (by omega) c4) ?_
      refine at_goto 52 dX7_block_47 (by decide) ?_
      refine at_ret dX7_block_52 rfl rfl ?_
      rw [if_pos ⟨hth, by rw [← sz_t hth]; exact c4⟩]
      exact ⟨rfl, rfl⟩
set_option maxRecDepth 100000 in
theorem x_fragment (hC : CS g v t n fl ib u) (iv : inv v) (x y : Int32) : sg_Kr MX7_fragment [.ref 0, .int x, .int y] g (.int (s_fragment v x y)) := by
  have w := iv.1.1
  have hgb := wf_gb w.1
  have hge := gb_ge w.1.1.1 w.1.2.1.1
  obtain ⟨c0, ⟨tc, sd, h0⟩, ⟨b, d, K, eV, hb, hR⟩, hD, hT, hX, -⟩ := hC
  have hV : sg_at g 1 (.inr (6, [.ref (1 + 1), .ref (1 + 2), .ref (1 + 4), .ref (1 + 6), .int (nI (v 6)), .int (nI (v 7))])) := by rw [eV]; exact vo_V (by omega)
  have hY : sg_at g (1 + 1) (.inr (3, lay v)) := by rw [eV]; exact vo_Y (by omega)
  have hF : FM g (1 + 2) (1 + 1) v b := by rw [eV]; exact vo_F (by omega) (by decide)
  have hI : IN g (1 + 6) (1 + 1) v K := by rw [eV]; exact vo_I (by omega) (by decide)
  show sg_A MX7_fragment 0 [some (.ref 0), some (.int x), some (.int y)] [] _ _
  have bad : ¬ (inR x 0 (4 * v 0 * v 1 - 1) = true ∧ inR y 0 1 = true) → sg_A MX7_fragment 23 [some (.ref 0), some (.int x), some (.int y)] [] g (fun r h' => r = some (.int (s_fragment v x y)) ∧ h' = g) := by
    intro q
    refine at_k (-1) dX7_fragment_23 rfl (by decide) ?_
    refine at_ret dX7_fragment_24 rfl rfl ?_
    unfold s_fragment
    rw [if_neg q]
    exact ⟨rfl, rfl⟩
  refine at_ld (i := 0) dX7_fragment_0 rfl rfl rfl ?_
  refine at_get dX7_fragment_1 fX7_10 h0 (by omega) rfl ?_
  refine at_get dX7_fragment_4 fX7_173 hV (by omega) rfl ?_
  refine at_ld (i := 1) dX7_fragment_7 rfl rfl rfl ?_
  refine at_rv [_] dX7_fragment_8 mX3_isFragment ⟨Nat.le_of_ble_eq_true rfl, Nat.le_of_ble_eq_true rfl⟩ lX7_225 iX3_isFragment rfl rfl hY (by omega) rfl (Nat.le_of_ble_eq_true rfl) (Nat.le_of_ble_eq_true rfl) ⟨rfl, rfl⟩ (k_isFragment hY (by decide) w.1 x) ?_
  refine at_zeq 23 dX7_fragment_11 (by decide) (fun c => ?_) (fun c => ?_)
  · exact bad (fun q => by rw [q.1] at c; exact absurd c (by decide))
  · have c1 := bI_1 c
    have c1' := c1
    rw [fragI] at c1'
    obtain ⟨i, -, hi, rfl⟩ := inR_of (by omega) c1'
    refine at_ld (i := 2) dX7_fragment_14 rfl rfl rfl ?_
    refine at_zlt 23 dX7_fragment_15 (by decide) (fun c2 => ?_) (fun c2 => ?_)
    · refine bad (fun q => ?_)
      obtain ⟨k, -, hk, rfl⟩ := inR_of (by omega) q.2
      exact nI_pos (by omega) c2
    · obtain ⟨k, hk, rfl⟩ := nI_of c2
      refine at_ld (i := 2) dX7_fragment_18 rfl rfl rfl ?_
      refine at_k (nI 1) dX7_fragment_19 rfl (by decide) ?_
      refine at_ile 25 dX7_fragment_20 (by decide) (fun c3 => ?_) (fun c3 => bad (fun q => ?_))
      · have hk1 := (nI_leI hk (by decide)).mp c3
        have es : s_fragment v (nI i) (nI k) = if nI k = 0 then bI (fr v i) else oI (own v i) := by
          unfold s_fragment
          rw [if_pos ⟨c1, by rw [inR_nI hk]; exact decide_eq_true ⟨by omega, hk1⟩⟩, nI_clamp (by omega)]
        rw [es]
        refine at_ld (i := 2) dX7_fragment_25 rfl rfl rfl ?_
        refine at_zne 49 dX7_fragment_26 (by decide) (fun c4 => ?_) (fun c4 => ?_)
        · rw [if_neg c4]
          refine at_ld (i := 0) dX7_fragment_49 rfl rfl rfl ?_
          refine at_get dX7_fragment_50 fX7_10 h0 (by omega) rfl ?_
          refine at_get dX7_fragment_53 fX7_113 hV (by omega) rfl ?_
          refine at_ld (i := 1) dX7_fragment_56 rfl rfl rfl ?_
          refine at_rv [_] dX7_fragment_57 mX2_ownerOf ⟨Nat.le_of_ble_eq_true rfl, Nat.le_of_ble_eq_true rfl⟩ lX7_231 iX2_ownerOf rfl rfl hI.1 (by omega) rfl (Nat.le_of_ble_eq_true rfl) (Nat.le_of_ble_eq_true rfl) ⟨rfl, rfl⟩ (k_ownerOf hI hR w i (by omega)) ?_
          refine at_ret dX7_fragment_60 rfl rfl ?_
          exact ⟨rfl, rfl⟩
        · rw [if_pos (Classical.not_not.mp c4)]
          refine at_ld (i := 0) dX7_fragment_29 rfl rfl rfl ?_
          refine at_get dX7_fragment_30 fX7_10 h0 (by omega) rfl ?_
          refine at_get dX7_fragment_33 fX7_145 hV (by omega) rfl ?_
          refine at_ld (i := 1) dX7_fragment_36 rfl rfl rfl ?_
          refine at_rv [_] dX7_fragment_37 mX1_isFree ⟨Nat.le_of_ble_eq_true rfl, Nat.le_of_ble_eq_true rfl⟩ lX7_228 iX1_isFree rfl rfl hF.1 (by omega) rfl (Nat.le_of_ble_eq_true rfl) (Nat.le_of_ble_eq_true rfl) ⟨rfl, rfl⟩ (k_isFree hF hb i (by omega)) ?_
          cases hf : fr v i with
          | true =>
            refine at_zeq 47 dX7_fragment_40 (by decide) (fun cz_ => absurd cz_ ((by decide))) (fun _ => ?_)
            refine at_k (nI 1) dX7_fragment_43 rfl (by decide) ?_
            refine at_goto 48 dX7_fragment_44 (by decide) ?_
            refine at_ret dX7_fragment_48 rfl rfl ?_
            exact ⟨rfl, rfl⟩
          | false =>
            refine at_zeq 47 dX7_fragment_40 (by decide) (fun _ => ?_) (fun cz_ => absurd (rfl) cz_)
            refine at_k (nI 0) dX7_fragment_47 rfl (by decide) ?_
            refine at_ret dX7_fragment_48 rfl rfl ?_
            exact ⟨rfl, rfl⟩
      · have q2 := q.2
        rw [inR_nI hk] at q2
        exact c3 (nI_le (of_decide_eq_true q2).2 (by decide))
set_option maxRecDepth 100000 in
theorem x_find (hC : CS g v t n fl ib u) (iv : inv v) (x y : Int32) : sg_Kr MX7_find [.ref 0, .int x, .int y] g (.int (s_find v x y)) := by
  have w := iv.1.1
  have hgi := wf_gi w.1
  have hk2 := kdX_le w x
  obtain ⟨c0, ⟨tc, sd, h0⟩, ⟨b, d, K, eV, hb, hR⟩, hD, hT, hX, -⟩ := hC
  have hV : sg_at g 1 (.inr (6, [.ref (1 + 1), .ref (1 + 2), .ref (1 + 4), .ref (1 + 6), .int (nI (v 6)), .int (nI (v 7))])) := by rw [eV]; exact vo_V (by omega)
  have hI : IN g (1 + 6) (1 + 1) v K := by rw [eV]; exact vo_I (by omega) (by decide)
  show sg_A MX7_find 0 [some (.ref 0), some (.int x), some (.int y)] [] _ _
  have bad : ¬ (isDir v x = true ∧ inR y 0 9 = true) → sg_A MX7_find 22 [some (.ref 0), some (.int x), some (.int y)] [] g (fun r h' => r = some (.int (s_find v x y)) ∧ h' = g) := by
    intro q
    refine at_k (-1) dX7_find_22 rfl (by decide) ?_
    refine at_ret dX7_find_23 rfl rfl ?_
    unfold s_find
    rw [if_neg q]
    exact ⟨rfl, rfl⟩
  refine at_ld (i := 0) dX7_find_0 rfl rfl rfl ?_
  refine at_get dX7_find_1 fX7_10 h0 (by omega) rfl ?_
  refine at_get dX7_find_4 fX7_113 hV (by omega) rfl ?_
  refine at_ld (i := 1) dX7_find_7 rfl rfl rfl ?_
  refine at_rv [_] dX7_find_8 mX2_kindOf ⟨Nat.le_of_ble_eq_true rfl, Nat.le_of_ble_eq_true rfl⟩ lX7_200 iX2_kindOf rfl rfl hI.1 (by omega) rfl (Nat.le_of_ble_eq_true rfl) (Nat.le_of_ble_eq_true rfl) ⟨rfl, rfl⟩ (k_kindX hI hR w.1 iv.2.2.2.1 x) ?_
  refine at_k (nI 1) dX7_find_11 rfl (by decide) ?_
  refine at_ine 22 dX7_find_12 (by decide) (fun c => ?_) (fun c => ?_)
  · exact bad (fun q => c (by have q1 := q.1; rw [isDir_k] at q1; rw [of_decide_eq_true q1]))
  · have c1 : isDir v x = true := by
      rw [isDir_k]
      exact decide_eq_true ((nI_eq32 (by omega) (by decide)).mp (Classical.not_not.mp c))
    refine at_ld (i := 2) dX7_find_15 rfl rfl rfl ?_
    refine at_rs [_] dX7_find_16 mX7_isName ⟨Nat.le_of_ble_eq_true rfl, Nat.le_of_ble_eq_true rfl⟩ lX7_234 tX7_isName rfl (Nat.le_of_ble_eq_true rfl) (Nat.le_of_ble_eq_true rfl) ⟨rfl, rfl⟩ (k_isName _ y) ?_
    refine at_zne 24 dX7_find_19 (by decide) (fun c2 => ?_) (fun c2 => bad (fun q => c2 (by rw [q.2]; decide)))
    have c3 := bI_1 c2
    have es : s_find v x y = oI (ino v x.toNatClampNeg y.toNatClampNeg) := by unfold s_find; rw [if_pos ⟨c1, c3⟩]
    rw [es]
    obtain ⟨dd, hd, rfl, hd1⟩ := isDir_of w.1 c1
    obtain ⟨nm, -, hnm, rfl⟩ := inR_of (by decide) c3
    rw [nI_clamp (by omega), nI_clamp (by omega)]
    refine at_ld (i := 0) dX7_find_24 rfl rfl rfl ?_
    refine at_get dX7_find_25 fX7_10 h0 (by omega) rfl ?_
    refine at_get dX7_find_28 fX7_113 hV (by omega) rfl ?_
    refine at_ld (i := 1) dX7_find_31 rfl rfl rfl ?_
    refine at_ld (i := 2) dX7_find_32 rfl rfl rfl ?_
    refine at_rv [_, _] dX7_find_33 mX2_named ⟨Nat.le_of_ble_eq_true rfl, Nat.le_of_ble_eq_true rfl⟩ lX7_237 iX2_named rfl rfl hI.1 (by omega) rfl (Nat.le_of_ble_eq_true rfl) (Nat.le_of_ble_eq_true rfl) ⟨rfl, rfl⟩ (k_named hI hR w iv.1.2.1 iv.2.1.1 dd nm (by omega) (by omega)) ?_
    refine at_ret dX7_find_36 rfl rfl ?_
    exact ⟨rfl, rfl⟩
set_option maxRecDepth 100000 in
theorem x_where (hC : CS g v t n fl ib u) (iv : inv v) (x y : Int32) : sg_Kr MX7_where [.ref 0, .int x, .int y] g (.int (s_where v x y)) := by
  have w := iv.1.1
  have hgi := wf_gi w.1
  have hk2 := kdX_le w x
  obtain ⟨c0, ⟨tc, sd, h0⟩, ⟨b, d, K, eV, hb, hR⟩, hD, hT, hX, -⟩ := hC
  have hV : sg_at g 1 (.inr (6, [.ref (1 + 1), .ref (1 + 2), .ref (1 + 4), .ref (1 + 6), .int (nI (v 6)), .int (nI (v 7))])) := by rw [eV]; exact vo_V (by omega)
  have hI : IN g (1 + 6) (1 + 1) v K := by rw [eV]; exact vo_I (by omega) (by decide)
  have kg := fun i0 kd hd hkd => k_groupFor (g := g) (a := 1) (v := v) (b := b) (d := d) (K := K) (e := nI (v 6)) (m := nI (v 7)) (by omega) (by decide) hR w i0 kd hd hkd
  rw [← eV] at kg
  show sg_A MX7_where 0 [some (.ref 0), some (.int x), some (.int y)] [] _ _
  have bad : ¬ (isDir v x = true ∧ inR y 1 2 = true) → sg_A MX7_where 25 [some (.ref 0), some (.int x), some (.int y)] [] g (fun r h' => r = some (.int (s_where v x y)) ∧ h' = g) := by
    intro q
    refine at_k (-1) dX7_where_25 rfl (by decide) ?_
    refine at_ret dX7_where_26 rfl rfl ?_
    unfold s_where
    rw [if_neg q]
    exact ⟨rfl, rfl⟩
  refine at_ld (i := 0) dX7_where_0 rfl rfl rfl ?_
  refine at_get dX7_where_1 fX7_10 h0 (by omega) rfl ?_
  refine at_get dX7_where_4 fX7_113 hV (by omega) rfl ?_
  refine at_ld (i := 1) dX7_where_7 rfl rfl rfl ?_
  refine at_rv [_] dX7_where_8 mX2_kindOf ⟨Nat.le_of_ble_eq_true rfl, Nat.le_of_ble_eq_true rfl⟩ lX7_200 iX2_kindOf rfl rfl hI.1 (by omega) rfl (Nat.le_of_ble_eq_true rfl) (Nat.le_of_ble_eq_true rfl) ⟨rfl, rfl⟩ (k_kindX hI hR w.1 iv.2.2.2.1 x) ?_
  refine at_k (nI 1) dX7_where_11 rfl (by decide) ?_
  refine at_ine 25 dX7_where_12 (by decide) (fun c => ?_) (fun c => ?_)
  · exact bad (fun q => c (by have q1 := q.1; rw [isDir_k] at q1; rw [of_decide_eq_true q1]))
  · have c1 : isDir v x = true := by
      rw [isDir_k]
      exact decide_eq_true ((nI_eq32 (by omega) (by decide)).mp (Classical.not_not.mp c))
    have good : ∀ kd, kd = 1 ∨ kd = 2 → y = nI kd → sg_A MX7_where 27 [some (.ref 0), some (.int x), some (.int y)] [] g (fun r h' => r = some (.int (s_where v x y)) ∧ h' = g) := by
      rintro kd hkd rfl
      have c3 : inR (nI kd) 1 2 = true := by rw [inR_nI (by omega)]; exact decide_eq_true (by omega)
      have es : s_where v x (nI kd) = oI (gfr v x.toNatClampNeg kd) := by unfold s_where; rw [if_pos ⟨c1, c3⟩, nI_clamp (by omega)]
      rw [es]
      obtain ⟨dd, hd, rfl, hd1⟩ := isDir_of w.1 c1
      rw [nI_clamp (by omega)]
      refine at_ld (i := 0) dX7_where_27 rfl rfl rfl ?_
      refine at_get dX7_where_28 fX7_10 h0 (by omega) rfl ?_
      refine at_ld (i := 1) dX7_where_31 rfl rfl rfl ?_
      refine at_ld (i := 2) dX7_where_32 rfl rfl rfl ?_
      refine at_rv [_, _] dX7_where_33 mX6_groupFor ⟨Nat.le_of_ble_eq_true rfl, Nat.le_of_ble_eq_true rfl⟩ lX7_240 iX6_groupFor rfl rfl hV (by omega) rfl (Nat.le_of_ble_eq_true rfl) (Nat.le_of_ble_eq_true rfl) ⟨rfl, rfl⟩ (kg dd kd hd (by omega)) ?_
      refine at_ret dX7_where_36 rfl rfl ?_
      exact ⟨rfl, rfl⟩
    refine at_ld (i := 2) dX7_where_15 rfl rfl rfl ?_
    refine at_k (nI 1) dX7_where_16 rfl (by decide) ?_
    refine at_ieq 27 dX7_where_17 (by decide) (fun c3 => ?_) (fun c3 => ?_)
    · exact good 1 (Or.inl rfl) c3
    · refine at_ld (i := 2) dX7_where_20 rfl rfl rfl ?_
      refine at_k (nI 2) dX7_where_21 rfl (by decide) ?_
      refine at_ieq 27 dX7_where_22 (by decide) (fun c4 => ?_) (fun c4 => ?_)
      · exact good 2 (Or.inr rfl) c4
      · refine bad (fun q => ?_)
        obtain ⟨k, h1, h2, rfl⟩ := inR_of (by decide) q.2
        rcases (show k = 1 ∨ k = 2 by omega) with rfl | rfl
        · exact c3 rfl
        · exact c4 rfl
set_option maxRecDepth 100000 in
theorem x_entry (hC : CS g v t n fl ib u) (iv : inv v) (x y : Int32) : sg_Kr MX7_entry [.ref 0, .int x, .int y] g (.int (s_entry v x y)) := by
  have w := iv.1.1
  have hgi := wf_gi w.1
  have hk2 := kdX_le w x
  obtain ⟨c0, ⟨tc, sd, h0⟩, ⟨b, d, K, eV, hb, hR⟩, hD, hT, hX, -⟩ := hC
  have hV : sg_at g 1 (.inr (6, [.ref (1 + 1), .ref (1 + 2), .ref (1 + 4), .ref (1 + 6), .int (nI (v 6)), .int (nI (v 7))])) := by rw [eV]; exact vo_V (by omega)
  have hI : IN g (1 + 6) (1 + 1) v K := by rw [eV]; exact vo_I (by omega) (by decide)
  show sg_A MX7_entry 0 [some (.ref 0), some (.int x), some (.int y), none, none, none] [] _ _
  have bad : ¬ (isDir v x = true ∧ ¬ y < 0) → sg_A MX7_entry 19 [some (.ref 0), some (.int x), some (.int y), none, none, none] [] g (fun r h' => r = some (.int (s_entry v x y)) ∧ h' = g) := by
    intro q
    refine at_k (-1) dX7_entry_19 rfl (by decide) ?_
    refine at_ret dX7_entry_20 rfl rfl ?_
    unfold s_entry
    rw [if_neg q]
    exact ⟨rfl, rfl⟩
  refine at_ld (i := 0) dX7_entry_0 rfl rfl rfl ?_
  refine at_get dX7_entry_1 fX7_10 h0 (by omega) rfl ?_
  refine at_get dX7_entry_4 fX7_113 hV (by omega) rfl ?_
  refine at_ld (i := 1) dX7_entry_7 rfl rfl rfl ?_
  refine at_rv [_] dX7_entry_8 mX2_kindOf ⟨Nat.le_of_ble_eq_true rfl, Nat.le_of_ble_eq_true rfl⟩ lX7_200 iX2_kindOf rfl rfl hI.1 (by omega) rfl (Nat.le_of_ble_eq_true rfl) (Nat.le_of_ble_eq_true rfl) ⟨rfl, rfl⟩ (k_kindX hI hR w.1 iv.2.2.2.1 x) ?_
  refine at_k (nI 1) dX7_entry_11 rfl (by decide) ?_
  refine at_ine 19 dX7_entry_12 (by decide) (fun c => ?_) (fun c => ?_)
  · exact bad (fun q => c (by have q1 := q.1; rw [isDir_k] at q1; rw [of_decide_eq_true q1]))
  · have c1 : isDir v x = true := by
      rw [isDir_k]
      exact decide_eq_true ((nI_eq32 (by omega) (by decide)).mp (Classical.not_not.mp c))
    refine at_ld (i := 2) dX7_entry_15 rfl rfl rfl ?_
    refine at_zge 21 dX7_entry_16 (by decide) (fun c2 => ?_) (fun c2 => bad (fun q => c2 (Int32.not_lt.mp q.2)))
    have c3 := Int32.not_lt.mpr c2
    have es : s_entry v x y = oI (ents v x.toNatClampNeg 10 0 y.toNatClampNeg) := by unfold s_entry; rw [if_pos ⟨c1, c3⟩]
    rw [es]
    obtain ⟨dd, hd, rfl, hd1⟩ := isDir_of w.1 c1
    obtain ⟨i, hi, rfl⟩ := nI_of c3
    rw [nI_clamp (by omega), nI_clamp hi]
    refine at_k (nI 0) dX7_entry_21 rfl (by decide) ?_
    refine at_st (i := 3) dX7_entry_22 rfl rfl (Nat.le_of_ble_eq_true rfl) rfl ?_
    try dsimp only [List.set_cons_succ, List.set_cons_zero]
    refine at_k (nI 0) dX7_entry_23 rfl (by decide) ?_
    refine at_st (i := 4) dX7_entry_24 rfl rfl (Nat.le_of_ble_eq_true rfl) rfl ?_
    try dsimp only [List.set_cons_succ, List.set_cons_zero]
    have loop : ∀ m nm l y5, nm + m = 10 → l ≤ i → sg_A MX7_entry 26 [some (.ref 0), some (.int (nI dd)), some (.int (nI i)), some (.int (nI l)), some (.int (nI nm)), y5] [] g (fun r h' => r = some (.int (oI (ents v dd m nm (i - l)))) ∧ h' = g) := by
      intro m
      induction m with
      | zero =>
        intro nm l y5 h1 h2
        refine at_ld (i := 4) dX7_entry_26 rfl rfl rfl ?_
        refine at_k (nI 10) dX7_entry_28 rfl (by decide) ?_
        refine at_ige 72 dX7_entry_30 (by decide) (fun _ => ?_) (fun cz_ => absurd (nI_le (by omega) (by omega)) cz_)
        refine at_k (-4) dX7_entry_72 rfl (by decide) ?_
        refine at_ret dX7_entry_74 rfl rfl ?_
        exact ⟨rfl, rfl⟩
      | succ m ih =>
        intro nm l y5 h1 h2
        simp only [ents]
        refine at_ld (i := 4) dX7_entry_26 rfl rfl rfl ?_
        refine at_k (nI 10) dX7_entry_28 rfl (by decide) ?_
        refine at_ige 72 dX7_entry_30 (by decide) (fun cz_ => absurd cz_ (nI_ge (by omega) (by decide))) (fun _ => ?_)
        refine at_ld (i := 0) dX7_entry_33 rfl rfl rfl ?_
        refine at_get dX7_entry_34 fX7_10 h0 (by omega) rfl ?_
        refine at_get dX7_entry_37 fX7_113 hV (by omega) rfl ?_
        refine at_ld (i := 1) dX7_entry_40 rfl rfl rfl ?_
        refine at_ld (i := 4) dX7_entry_41 rfl rfl rfl ?_
        refine at_rv [_, _] dX7_entry_43 mX2_named ⟨Nat.le_of_ble_eq_true rfl, Nat.le_of_ble_eq_true rfl⟩ lX7_237 iX2_named rfl rfl hI.1 (by omega) rfl (Nat.le_of_ble_eq_true rfl) (Nat.le_of_ble_eq_true rfl) ⟨rfl, rfl⟩ (k_named hI hR w iv.1.2.1 iv.2.1.1 dd nm (by omega) (by omega)) ?_
        refine at_st (i := 5) dX7_entry_46 rfl rfl (Nat.le_of_ble_eq_true rfl) rfl ?_
        try dsimp only [List.set_cons_succ, List.set_cons_zero]
        refine at_ld (i := 5) dX7_entry_48 rfl rfl rfl ?_
        refine at_k (-4) dX7_entry_50 rfl (by decide) ?_
        cases hno : ino v dd nm with
        | none =>
          refine at_ieq 66 dX7_entry_52 (by decide) (fun _ => ?_) (fun cz_ => absurd (rfl) cz_)
          refine at_iinc (nI 1) dX7_entry_66 rfl rfl (by decide) ?_
          try dsimp only [List.set_cons_succ, List.set_cons_zero]
          refine at_goto 26 dX7_entry_69 (by decide) ?_
          rw [nI_add]
          exact ih (nm + 1) l _ (by omega) h2
        | some j =>
          have hj := ino_lt hno
          refine at_ieq 66 dX7_entry_52 (by decide) (fun cz_ => absurd cz_ (oI_n (by omega))) (fun _ => ?_)
          refine at_ld (i := 3) dX7_entry_55 rfl rfl rfl ?_
          refine at_ld (i := 2) dX7_entry_56 rfl rfl rfl ?_
          dsimp only
          by_cases e : l = i
          · subst e
            refine at_ine 63 dX7_entry_57 (by decide) (fun cz_ => absurd cz_ (fun q => q rfl)) (fun _ => ?_)
            rw [if_pos (Nat.sub_self l)]
            refine at_ld (i := 5) dX7_entry_60 rfl rfl rfl ?_
            refine at_ret dX7_entry_62 rfl rfl ?_
            exact ⟨rfl, rfl⟩
          · refine at_ine 63 dX7_entry_57 (by decide) (fun _ => ?_) (fun cz_ => absurd (fun q => e ((nI_eq32 (by omega) (by omega)).mp q)) cz_)
            rw [if_neg (by omega)]
            refine at_iinc (nI 1) dX7_entry_63 rfl rfl (by decide) ?_
            try dsimp only [List.set_cons_succ, List.set_cons_zero]
            refine at_iinc (nI 1) dX7_entry_66 rfl rfl (by decide) ?_
            try dsimp only [List.set_cons_succ, List.set_cons_zero]
            refine at_goto 26 dX7_entry_69 (by decide) ?_
            rw [nI_add, nI_add]
            have := ih (nm + 1) (l + 1) (some (.int (oI (some j)))) (by omega) (by omega)
            rw [show i - (l + 1) = i - l - 1 by omega] at this
            exact this
    have := loop 10 0 0 none (by omega) (by omega)
    rw [Nat.sub_zero] at this
    exact this
set_option maxRecDepth 100000 in
theorem x_fault (hC : CS g v t n fl ib u) : sg_Kr MX7_fault [.ref 0] g (.int (nI fl)) := by
  obtain ⟨c0, ⟨tc, sd, h0⟩, ⟨b, d, K, eV, hb, hR⟩, hD, hT, hX, -⟩ := hC
  show sg_A MX7_fault 0 [some (.ref 0)] [] _ _
  refine at_ld (i := 0) dX7_fault_0 rfl rfl rfl ?_
  refine at_get dX7_fault_1 fX7_97 h0 (by omega) rfl ?_
  refine at_ret dX7_fault_4 rfl rfl ?_
  exact ⟨rfl, rfl⟩
set_option maxRecDepth 100000 in
theorem x_count (hC : CS g v t n fl ib u) (x : Int32) : sg_Kr MX7_count [.ref 0, .int x] g (.int (s_count (ib 0) (ib 1) n x)) := by
  obtain ⟨c0, ⟨tc, sd, h0⟩, ⟨b, d, K, eV, hb, hR⟩, hD, hT, hX, -⟩ := hC
  show sg_A MX7_count 0 [some (.ref 0), some (.int x)] [] _ _
  have bad : ¬ (x = 0 ∨ x = 1) → sg_A MX7_count 9 [some (.ref 0), some (.int x)] [] g (fun r h' => r = some (.int (s_count (ib 0) (ib 1) n x)) ∧ h' = g) := by
    intro q
    refine at_k (-1) dX7_count_9 rfl (by decide) ?_
    refine at_ret dX7_count_10 rfl rfl ?_
    unfold s_count
    rw [if_neg (fun z => q (Or.inl z)), if_neg (fun z => q (Or.inr z))]
    exact ⟨rfl, rfl⟩
  refine at_ld (i := 1) dX7_count_0 rfl rfl rfl ?_
  refine at_zlt 9 dX7_count_1 (by decide) (fun c => ?_) (fun c => ?_)
  · exact bad (fun q => by rcases q with rfl | rfl <;> exact absurd c (by decide))
  · obtain ⟨k, hk, rfl⟩ := nI_of c
    refine at_ld (i := 1) dX7_count_4 rfl rfl rfl ?_
    refine at_k (nI 1) dX7_count_5 rfl (by decide) ?_
    refine at_ile 11 dX7_count_6 (by decide) (fun c2 => ?_) (fun c2 => bad (fun q => ?_))
    · have hk1 := (nI_leI hk (by decide)).mp c2
      rcases (show k = 0 ∨ k = 1 by omega) with rfl | rfl
      · refine at_ld (i := 1) dX7_count_11 rfl rfl rfl ?_
        refine at_k (nI 1) dX7_count_12 rfl (by decide) ?_
        refine at_ine 24 dX7_count_13 (by decide) (fun _ => ?_) (fun cz_ => absurd ((by decide)) cz_)
        have es : s_count (ib 0) (ib 1) n (nI 0) = bI (ib 0) + bI (ib 1) := rfl
        rw [es]
        refine at_ld (i := 0) dX7_count_24 rfl rfl rfl ?_
        refine at_get dX7_count_25 fX7_106 h0 (by omega) rfl ?_
        have snd : ∀ z : Int32, z = bI (ib 0) → sg_A MX7_count 36 [some (.ref 0), some (.int (nI 0))] [.int z] g (fun r h' => r = some (.int (bI (ib 0) + bI (ib 1))) ∧ h' = g) := by
          rintro z rfl
          refine at_ld (i := 0) dX7_count_36 rfl rfl rfl ?_
          refine at_get dX7_count_37 fX7_110 h0 (by omega) rfl ?_
          cases h1 : ib 1 with
          | true =>
            refine at_zeq 47 dX7_count_40 (by decide) (fun cz_ => absurd cz_ ((by decide))) (fun _ => ?_)
            refine at_k (nI 1) dX7_count_43 rfl (by decide) ?_
            refine at_goto 48 dX7_count_44 (by decide) ?_
            refine at_bin dX7_count_48 rfl ?_
            refine at_ret dX7_count_49 rfl rfl ?_
            exact ⟨rfl, rfl⟩
          | false =>
            refine at_zeq 47 dX7_count_40 (by decide) (fun _ => ?_) (fun cz_ => absurd (rfl) cz_)
            refine at_k (nI 0) dX7_count_47 rfl (by decide) ?_
            refine at_bin dX7_count_48 rfl ?_
            refine at_ret dX7_count_49 rfl rfl ?_
            exact ⟨rfl, rfl⟩
        cases h2 : ib 0 with
        | true =>
          rw [h2] at snd
          refine at_zeq 35 dX7_count_28 (by decide) (fun cz_ => absurd cz_ ((by decide))) (fun _ => ?_)
          refine at_k (nI 1) dX7_count_31 rfl (by decide) ?_
          refine at_goto 36 dX7_count_32 (by decide) ?_
          exact snd _ rfl
        | false =>
          rw [h2] at snd
          refine at_zeq 35 dX7_count_28 (by decide) (fun _ => ?_) (fun cz_ => absurd (rfl) cz_)
          refine at_k (nI 0) dX7_count_35 rfl (by decide) ?_
          exact snd _ rfl
      · refine at_ld (i := 1) dX7_count_11 rfl rfl rfl ?_
        refine at_k (nI 1) dX7_count_12 rfl (by decide) ?_
        refine at_ine 24 dX7_count_13 (by decide) (fun cz_ => absurd cz_ (fun q => q rfl)) (fun _ => ?_)
        refine at_ld (i := 0) dX7_count_16 rfl rfl rfl ?_
        refine at_get dX7_count_17 fX7_28 h0 (by omega) rfl ?_
        refine at_get dX7_count_20 fX7_68 hT.1 (by omega) rfl ?_
        refine at_ret dX7_count_23 rfl rfl ?_
        exact ⟨rfl, rfl⟩
    · rcases q with q | q
      · rw [q] at c2; exact c2 (by decide)
      · rw [q] at c2; exact c2 (by decide)
end K2
