/-! THE CLASS: deeds: grow -/
theorem de_same {g : sg_H} {a D : Nat} (h : DE g a D) : ∃ q, sg_up g (D + 1 + 1) (.inl (false, 32, q)) = g := by
  obtain ⟨y, hy⟩ := h.2.2.1
  exact ⟨y, up_self hy⟩
theorem de_up {g : sg_H} {a D : Nat} (h : DE g a D) (q : Nat → Int32) : DE (sg_up g (D + 1 + 1) (.inl (false, 32, q))) a D := by
  obtain ⟨h1, h2, ⟨y, h3⟩, h4, h5⟩ := h
  exact ⟨up_n h1 _ (by omega), up_n h2 _ (by omega), ⟨q, up_e h3 _⟩, h4, h5⟩
theorem de_B {g : sg_H} {a D : Nat} {v : Nat → Nat} {b d : Nat → Int32} {K : Nat → Nat → Int32} {e m : Int32} (hg : a + 13 ≤ g.1) (ha : a < 800) (h : DE g a D) {y : Nat → Int32} (hy : sg_at g (D + 1 + 1) (.inl (false, 32, y))) : FM (vo g a v b d K e m) (D + 1) (a + 1) v y := by
  have h5 := h.2.2.2.2
  have h4 := h.2.2.2.1
  exact ⟨vo_O (by omega) h.2.1, vo_Y hg, vo_O (by omega) hy, by omega, by omega, by omega⟩
section C15
variable {g : sg_H} {a D : Nat} {v : Nat → Nat} {b d : Nat → Int32} {K : Nat → Nat → Int32} {e m : Int32}
set_option maxRecDepth 100000 in
theorem k_growFile (hg : a + 13 ≤ g.1) (ha : a < 800) (hD : DE g a D) (hb : mbq (fr v) b) (hR : iR v K) (iv : inv v) (x y : Int32) : sg_K MX0_growFile [.ref D, .int x, .int y] (vo g a v b d K (nI (v 6)) (nI (v 7))) (fun r h' => r = some (.int (s_grow v x y).1) ∧ ∃ q, VS (sg_up g (D + 1 + 1) (.inl (false, 32, q))) a (s_grow v x y).2 h') := by
  have w := iv.1.1
  have hgi := wf_gi w.1
  have hD8 := hD.2.2.2.1
  have hD5 := hD.2.2.2.2
  obtain ⟨q0, hq0⟩ := de_same hD
  obtain ⟨y0, hy0⟩ := hD.2.2.1
  generalize hS : s_grow v x y = S
  show sg_A MX0_growFile 0 [some (.ref D), some (.int x), some (.int y), none, none] [] _ _
  have same : ∀ d', VS (sg_up g (D + 1 + 1) (.inl (false, 32, q0))) a v (vo g a v b d' K (nI (v 6)) (nI (v 7))) := fun d' => by rw [hq0]; exact ⟨b, d', K, rfl, hb, hR⟩
  have bad : ¬ (isFil v x = true ∧ inR y 1 40 = true) → sg_A MX0_growFile 23 [some (.ref D), some (.int x), some (.int y), none, none] [] (vo g a v b d K (nI (v 6)) (nI (v 7))) (fun r h' => r = some (.int S.1) ∧ ∃ q, VS (sg_up g (D + 1 + 1) (.inl (false, 32, q))) a S.2 h') := by
    intro q
    refine at_k (-1) dX0_growFile_23 rfl (by decide) ?_
    refine at_ret dX0_growFile_24 rfl rfl ?_
    rw [s_grow, if_neg q] at hS
    subst hS
    exact ⟨rfl, q0, same d⟩
  refine at_ld (i := 0) dX0_growFile_0 rfl rfl rfl ?_
  refine at_get dX0_growFile_1 fX0_31 (de_O hD) (by omega) rfl ?_
  refine at_ld (i := 1) dX0_growFile_4 rfl rfl rfl ?_
  refine at_rv [_] dX0_growFile_5 mX2_kindOf ⟨Nat.le_of_ble_eq_true rfl, Nat.le_of_ble_eq_true rfl⟩ lX0_40 iX2_kindOf rfl rfl (vo_I hg ha).1 (by omega) rfl (Nat.le_of_ble_eq_true rfl) (Nat.le_of_ble_eq_true rfl) ⟨rfl, rfl⟩ (k_kindX (vo_I hg ha) hR w.1 iv.2.2.2.1 x) ?_
  refine at_k (nI 2) dX0_growFile_8 rfl (by decide) ?_
  refine at_ine 23 dX0_growFile_9 (by decide) (fun c => ?_) (fun c => ?_)
  · exact bad (fun q => c (by have q1 := q.1; rw [isFil_k] at q1; rw [of_decide_eq_true q1]))
  · have c1 : isFil v x = true := by
      rw [isFil_k]
      have := kdX_le w x
      exact decide_eq_true ((nI_eq32 (by omega) (by decide)).mp (Classical.not_not.mp c))
    refine at_ld (i := 2) dX0_growFile_12 rfl rfl rfl ?_
    refine at_k (nI 1) dX0_growFile_13 rfl (by decide) ?_
    refine at_ilt 23 dX0_growFile_14 (by decide) (fun c2 => ?_) (fun c2 => ?_)
    · refine bad (fun q => ?_)
      obtain ⟨k, h1, h2, rfl⟩ := inR_of (by decide) q.2
      exact nI_nlt h1 (by omega) c2
    · have c2' : ¬ y < 0 := fun q => c2 (Int32.lt_trans q (by decide))
      obtain ⟨n, hn, rfl⟩ := nI_of c2'
      have hn1 : 1 ≤ n := by
        rcases Nat.eq_zero_or_pos n with q | q
        · rw [q] at c2; exact absurd (by decide) c2
        · exact q
      refine at_ld (i := 2) dX0_growFile_17 rfl rfl rfl ?_
      refine at_k (nI 40) dX0_growFile_18 rfl (by decide) ?_
      refine at_ile 25 dX0_growFile_20 (by decide) (fun c3 => ?_) (fun c3 => bad (fun q => ?_))
      · have hn40 := (nI_leI hn (by decide)).mp c3
        rw [s_grow, if_pos ⟨c1, by rw [inR_nI hn]; exact decide_eq_true ⟨hn1, hn40⟩⟩] at hS
        obtain ⟨i, hi, rfl, hi2⟩ := isFil_of w.1 c1
        rw [nI_clamp (by omega), nI_clamp hn] at hS
        have hth : io v i 0 ≠ 0 := by omega
        have es : sz v i = io v i 3 := sz_t hth
        have hs40 := wf_s w (show i < 24 by omega)
        refine at_ld (i := 0) dX0_growFile_25 rfl rfl rfl ?_
        refine at_get dX0_growFile_26 fX0_9 (de_O hD) (by omega) rfl ?_
        refine at_cv [] dX0_growFile_29 mX6_isSpoilt ⟨Nat.le_of_ble_eq_true rfl, Nat.le_of_ble_eq_true rfl⟩ lX0_50 iX6_isSpoilt rfl rfl (vo_V hg) (by omega) rfl (Nat.le_of_ble_eq_true rfl) (Nat.le_of_ble_eq_true rfl) (k_isSpoilt hg ha hb hR w iv.1.2.2 iv.2.2.1) ?_ ?_
        · rintro r h1 ⟨-, d', rfl⟩
          exact ⟨rfl, rfl⟩
        · rintro r h1 ⟨rfl, d', rfl⟩
          try dsimp only [Option.toList, List.cons_append, List.nil_append]
          refine at_zeq 38 dX0_growFile_32 (by decide) (fun c4 => ?_) (fun c4 => ?_)
          · have c4' : spt v = false := (bI_0 _).mp c4
            rw [if_neg (show ¬ spt v = true by rw [c4']; decide)] at hS
            have ks := k_sizeOf (vo_I (g := g) (a := a) (L := v) (b := b) (d := d') (K := K) (e := nI (v 6)) (m := nI (v 7)) hg ha) hR i (by omega)
            rw [es] at ks
            have full : grw v i n = none → ∀ z3, sg_A MX0_growFile 63 [some (.ref D), some (.int (nI i)), some (.int (nI n)), z3, none] [] (vo g a v b d' K (nI (v 6)) (nI (v 7))) (fun r h' => r = some (.int S.1) ∧ ∃ q, VS (sg_up g (D + 1 + 1) (.inl (false, 32, q))) a S.2 h') := by
              intro q z3
              have : S = (-3, v) := by rw [← hS, grA, q]; rfl
              subst this
              refine at_k (-3) dX0_growFile_63 rfl (by decide) ?_
              refine at_ret dX0_growFile_65 rfl rfl ?_
              exact ⟨rfl, q0, same d'⟩
            refine at_ld (i := 0) dX0_growFile_38 rfl rfl rfl ?_
            refine at_get dX0_growFile_39 fX0_31 (de_O hD) (by omega) rfl ?_
            refine at_ld (i := 1) dX0_growFile_42 rfl rfl rfl ?_
            refine at_rv [_] dX0_growFile_43 mX2_sizeOf ⟨Nat.le_of_ble_eq_true rfl, Nat.le_of_ble_eq_true rfl⟩ lX0_88 iX2_sizeOf rfl rfl (vo_I hg ha).1 (by omega) rfl (Nat.le_of_ble_eq_true rfl) (Nat.le_of_ble_eq_true rfl) ⟨rfl, rfl⟩ (ks) ?_
            refine at_ld (i := 2) dX0_growFile_46 rfl rfl rfl ?_
            refine at_bin dX0_growFile_47 rfl ?_
            try dsimp only
            rw [nI_add]
            refine at_st (i := 3) dX0_growFile_48 rfl rfl (Nat.le_of_ble_eq_true rfl) rfl ?_
            try dsimp only [List.set_cons_succ, List.set_cons_zero]
            refine at_ld (i := 3) dX0_growFile_49 rfl rfl rfl ?_
            refine at_k (nI 40) dX0_growFile_50 rfl (by decide) ?_
            refine at_igt 63 dX0_growFile_52 (by decide) (fun c5 => ?_) (fun c5 => ?_)
            · have c5' := (nI_ltI (by decide) (by omega)).mp c5
              exact full (by unfold grw; rw [if_pos (Or.inl c5')]) _
            · have c5' : ¬ 40 < io v i 3 + n := fun q => c5 (nI_lt q (by omega))
              refine at_ld (i := 0) dX0_growFile_55 rfl rfl rfl ?_
              refine at_ld (i := 2) dX0_growFile_56 rfl rfl rfl ?_
              refine at_rv [_] dX0_growFile_57 mX0_lacksRoomFor ⟨Nat.le_of_ble_eq_true rfl, Nat.le_of_ble_eq_true rfl⟩ lX0_61 iX0_lacksRoomFor rfl rfl (de_O hD) (by omega) rfl (Nat.le_of_ble_eq_true rfl) (Nat.le_of_ble_eq_true rfl) ⟨rfl, rfl⟩ (k_lacks hg ha hD hb w.1 n (by omega)) ?_
              refine at_zeq 66 dX0_growFile_60 (by decide) (fun c6 => ?_) (fun c6 => full (by unfold grw; rw [if_pos (Or.inr (of_decide_eq_true (bI_1 c6)))]) _)
              have c6' := of_decide_eq_false ((bI_0 _).mp c6)
              have eg : grw v i n = match cgr v i (io v i 3 + n) with | none => none | some v' => some (vf_upd v' (136 + 15 * i + 3) (io v i 3 + n)) := by
                unfold grw
                rw [if_neg (by omega)]
                cases cgr v i (io v i 3 + n) <;> rfl
              have hFB := de_B (v := v) (b := b) (d := d') (K := K) (e := nI (v 6)) (m := nI (v 7)) hg ha hD hy0
              have kc := k_mcopy hFB (vo_F (g := g) (a := a) (L := v) (b := b) (d := d') (K := K) (e := nI (v 6)) (m := nI (v 7)) hg ha)
              rw [vo_G _ (by omega)] at kc
              generalize hqB : va_cpy b y0 0 0 32 = qB at kc
              have hbB : mbq (fr v) qB := by rw [← hqB]; exact mbq_cp hb y0
              have hD1 := de_up hD qB
              refine at_ld (i := 0) dX0_growFile_66 rfl rfl rfl ?_
              refine at_get dX0_growFile_67 fX0_37 (de_O hD) (by omega) rfl ?_
              refine at_ld (i := 0) dX0_growFile_70 rfl rfl rfl ?_
              refine at_get dX0_growFile_71 fX0_26 (de_O hD) (by omega) rfl ?_
              refine at_wv [_] dX0_growFile_74 mX1_copyFrom ⟨Nat.le_of_ble_eq_true rfl, Nat.le_of_ble_eq_true rfl⟩ lX0_91 iX1_copyFrom rfl rfl hFB.1 (by omega) rfl (Nat.le_of_ble_eq_true rfl) (Nat.le_of_ble_eq_true rfl) ⟨rfl, rfl⟩ (kc) ⟨rfl, rfl⟩ ?_
              try dsimp only [Option.toList, List.cons_append, List.nil_append]
              generalize hg1e : sg_up g (D + 1 + 1) (.inl (false, 32, qB)) = g1 at hD1
              have hg1 : a + 13 ≤ g1.1 := by rw [← hg1e]; exact hg
              have hy1 : sg_at g1 (D + 1 + 1) (.inl (false, 32, qB)) := by rw [← hg1e]; exact up_e hy0 _
              have kb := k_blocksOf (vo_I (g := g1) (a := a) (L := v) (b := b) (d := d') (K := K) (e := nI (v 6)) (m := nI (v 7)) hg1 ha) hR w i (by omega)
              rw [es] at kb
              have bk : cgr v i (io v i 3 + n) = none → ∀ b' K', iR v K' → sg_A MX0_growFile 106 [some (.ref D), some (.int (nI i)), some (.int (nI n)), some (.int (nI (io v i 3 + n))), none] [.int (bI false)] (vo g1 a v b' d' K' (nI (v 6)) (nI (v 7))) (fun r h' => r = some (.int S.1) ∧ ∃ q, VS (sg_up g (D + 1 + 1) (.inl (false, 32, q))) a S.2 h') := by
                intro q b' K' hR'
                rw [q] at eg
                have : S = (-3, v) := by rw [← hS, grA, eg]; rfl
                subst this
                have hFB1 := de_B (v := v) (b := b') (d := d') (K := K') (e := nI (v 6)) (m := nI (v 7)) hg1 ha hD1 hy1
                have kc1 := k_mcopy (vo_F (g := g1) (a := a) (L := v) (b := b') (d := d') (K := K') (e := nI (v 6)) (m := nI (v 7)) hg1 ha) hFB1
                rw [vo_ub1] at kc1
                refine at_st (i := 4) dX0_growFile_106 rfl rfl (Nat.le_of_ble_eq_true rfl) rfl ?_
                try dsimp only [List.set_cons_succ, List.set_cons_zero]
                refine at_ld (i := 4) dX0_growFile_108 rfl rfl rfl ?_
                refine at_zne 127 dX0_growFile_110 (by decide) (fun c => absurd c (fun q => q rfl)) (fun _ => ?_)
                refine at_ld (i := 0) dX0_growFile_113 rfl rfl rfl ?_
                refine at_get dX0_growFile_114 fX0_26 (de_O hD1) (by omega) rfl ?_
                refine at_ld (i := 0) dX0_growFile_117 rfl rfl rfl ?_
                refine at_get dX0_growFile_118 fX0_37 (de_O hD1) (by omega) rfl ?_
                refine at_wv [_] dX0_growFile_121 mX1_copyFrom ⟨Nat.le_of_ble_eq_true rfl, Nat.le_of_ble_eq_true rfl⟩ lX0_91 iX1_copyFrom rfl rfl (vo_F hg1 ha).1 (by omega) rfl (Nat.le_of_ble_eq_true rfl) (Nat.le_of_ble_eq_true rfl) ⟨rfl, rfl⟩ (kc1) ⟨rfl, rfl⟩ ?_
                try dsimp only [Option.toList, List.cons_append, List.nil_append]
                refine at_k (-3) dX0_growFile_124 rfl (by decide) ?_
                refine at_ret dX0_growFile_126 rfl rfl ?_
                exact ⟨rfl, qB, by rw [hg1e]; exact ⟨_, d', K', rfl, mbq_cp hbB b', hR'⟩⟩
              have fin : ∀ v' h', cgr v i (io v i 3 + n) = some v' → VS g1 a (vf_upd v' (136 + 15 * i + 3) (io v i 3 + n)) h' → sg_A MX0_growFile 106 [some (.ref D), some (.int (nI i)), some (.int (nI n)), some (.int (nI (io v i 3 + n))), none] [.int (bI true)] h' (fun r h' => r = some (.int S.1) ∧ ∃ q, VS (sg_up g (D + 1 + 1) (.inl (false, 32, q))) a S.2 h') := by
                intro v' h' q hv
                rw [q] at eg
                have : S = (nI (io v i 3 + n), vf_upd v' (136 + 15 * i + 3) (io v i 3 + n)) := by rw [← hS, grA, eg]; rfl
                subst this
                refine at_st (i := 4) dX0_growFile_106 rfl rfl (Nat.le_of_ble_eq_true rfl) rfl ?_
                try dsimp only [List.set_cons_succ, List.set_cons_zero]
                refine at_ld (i := 4) dX0_growFile_108 rfl rfl rfl ?_
                refine at_zne 127 dX0_growFile_110 (by decide) (fun _ => ?_) (fun c => absurd ((by decide)) c)
                refine at_ld (i := 3) dX0_growFile_127 rfl rfl rfl ?_
                refine at_ret dX0_growFile_128 rfl rfl ?_
                exact ⟨rfl, qB, by rw [hg1e]; exact hv⟩
              by_cases cb : (io v i 3 + n) / 4 = io v i 3 / 4
              · refine at_ld (i := 3) dX0_growFile_77 rfl rfl rfl ?_
                refine at_k (nI 4) dX0_growFile_78 rfl (by decide) ?_
                refine at_div dX0_growFile_79 (by decide) ?_
                try dsimp only
                rw [nI_div (by omega) (by decide)]
                refine at_ld (i := 0) dX0_growFile_80 rfl rfl rfl ?_
                refine at_get dX0_growFile_81 fX0_31 (de_O hD1) (by omega) rfl ?_
                refine at_ld (i := 1) dX0_growFile_84 rfl rfl rfl ?_
                refine at_rv [_] dX0_growFile_85 mX2_blocksOf ⟨Nat.le_of_ble_eq_true rfl, Nat.le_of_ble_eq_true rfl⟩ lX0_95 iX2_blocksOf rfl rfl (vo_I hg1 ha).1 (by omega) rfl (Nat.le_of_ble_eq_true rfl) (Nat.le_of_ble_eq_true rfl) ⟨rfl, rfl⟩ (kb) ?_
                refine at_ine 100 dX0_growFile_88 (by decide) (fun c => absurd c (fun q => q (by rw [cb]))) (fun _ => ?_)
                have ec : cgr v i (io v i 3 + n) = wdn v i (io v i 3 % 4) ((io v i 3 + n) % 4) := by unfold cgr; rw [if_pos cb]
                have kt := k_layTail (d := d') hg1 ha hD1 hb hR iv i (io v i 3 + n) hi hth (by omega) (by omega) cb
                rw [← ec] at kt
                refine at_ld (i := 0) dX0_growFile_91 rfl rfl rfl ?_
                refine at_ld (i := 1) dX0_growFile_92 rfl rfl rfl ?_
                refine at_ld (i := 3) dX0_growFile_93 rfl rfl rfl ?_
                refine at_cv [_, _] dX0_growFile_94 mX0_layTail ⟨Nat.le_of_ble_eq_true rfl, Nat.le_of_ble_eq_true rfl⟩ lX0_98 iX0_layTail rfl rfl (de_O hD1) (by omega) rfl (Nat.le_of_ble_eq_true rfl) (Nat.le_of_ble_eq_true rfl) (kt) ?_ ?_
                · intro r h1 hq
                  cases q : cgr v i (io v i 3 + n) with
                  | none => rw [q] at hq; rw [hq.2]; exact ⟨rfl, rfl⟩
                  | some v' => rw [q] at hq; obtain ⟨-, b', d2, K', rfl, -, -⟩ := hq; exact ⟨rfl, rfl⟩
                · intro r h1 hq
                  cases q : cgr v i (io v i 3 + n) with
                  | none =>
                    rw [q] at hq
                    obtain ⟨rfl, rfl⟩ := hq
                    try dsimp only [Option.toList, List.cons_append, List.nil_append]
                    refine at_goto 106 dX0_growFile_97 (by decide) ?_
                    exact bk q b K hR
                  | some v' =>
                    rw [q] at hq
                    obtain ⟨rfl, hq⟩ := hq
                    try dsimp only [Option.toList, List.cons_append, List.nil_append]
                    refine at_goto 106 dX0_growFile_97 (by decide) ?_
                    exact fin v' _ q hq
              · refine at_ld (i := 3) dX0_growFile_77 rfl rfl rfl ?_
                refine at_k (nI 4) dX0_growFile_78 rfl (by decide) ?_
                refine at_div dX0_growFile_79 (by decide) ?_
                try dsimp only
                rw [nI_div (by omega) (by decide)]
                refine at_ld (i := 0) dX0_growFile_80 rfl rfl rfl ?_
                refine at_get dX0_growFile_81 fX0_31 (de_O hD1) (by omega) rfl ?_
                refine at_ld (i := 1) dX0_growFile_84 rfl rfl rfl ?_
                refine at_rv [_] dX0_growFile_85 mX2_blocksOf ⟨Nat.le_of_ble_eq_true rfl, Nat.le_of_ble_eq_true rfl⟩ lX0_95 iX2_blocksOf rfl rfl (vo_I hg1 ha).1 (by omega) rfl (Nat.le_of_ble_eq_true rfl) (Nat.le_of_ble_eq_true rfl) ⟨rfl, rfl⟩ (kb) ?_
                refine at_ine 100 dX0_growFile_88 (by decide) (fun _ => ?_) (fun c => absurd (fun q => cb ((nI_eq32 (by omega) (by omega)).mp q)) c)
                have kt := k_layBlocks (d := d') hg1 ha hD1 hb hR iv i (io v i 3 + n) hi hth (by omega) (by omega)
                refine at_ld (i := 0) dX0_growFile_100 rfl rfl rfl ?_
                refine at_ld (i := 1) dX0_growFile_101 rfl rfl rfl ?_
                refine at_ld (i := 3) dX0_growFile_102 rfl rfl rfl ?_
                refine at_cv [_, _] dX0_growFile_103 mX0_layBlocks ⟨Nat.le_of_ble_eq_true rfl, Nat.le_of_ble_eq_true rfl⟩ lX0_102 iX0_layBlocks rfl rfl (de_O hD1) (by omega) rfl (Nat.le_of_ble_eq_true rfl) (Nat.le_of_ble_eq_true rfl) (kt) ?_ ?_
                · intro r h1 hq
                  cases q : cgr v i (io v i 3 + n) with
                  | none => rw [q] at hq; obtain ⟨-, b', K', rfl, -⟩ := hq; exact ⟨rfl, rfl⟩
                  | some v' => rw [q] at hq; obtain ⟨-, b', d2, K', rfl, -, -⟩ := hq; exact ⟨rfl, rfl⟩
                · intro r h1 hq
                  cases q : cgr v i (io v i 3 + n) with
                  | none =>
                    rw [q] at hq
                    obtain ⟨rfl, b', K', rfl, hR'⟩ := hq
                    try dsimp only [Option.toList, List.cons_append, List.nil_append]
                    exact bk q b' K' hR'
                  | some v' =>
                    rw [q] at hq
                    obtain ⟨rfl, hq⟩ := hq
                    try dsimp only [Option.toList, List.cons_append, List.nil_append]
                    exact fin v' _ q hq
          · rw [if_pos (bI_1 c4)] at hS
            subst hS
            refine at_k (-2) dX0_growFile_35 rfl (by decide) ?_
            refine at_ret dX0_growFile_37 rfl rfl ?_
            exact ⟨rfl, q0, same d'⟩
      · rw [inR_nI hn] at q
        have := of_decide_eq_true q.2
        exact c3 (nI_le this.2 (by decide))
end C15
