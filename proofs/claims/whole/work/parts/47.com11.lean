/-! THE CLASS: a volume's groups for, pairs -/
theorem cnt_pos {p : Nat → Bool} : ∀ n k, k < n → p k = true → 0 < cnt p n := by
  intro n
  induction n with
  | zero => intro k hk; omega
  | succ n ih =>
    intro k hk hp
    simp only [cnt]
    by_cases e : k = n
    · rw [← e, hp]; simp
    · have := ih k (by omega) hp
      omega
theorem ofk_c (v : Nat → Nat) : ∀ n, cnt (fun i => decide (io v i 0 = 0)) (v 2 * n) = smN (nts v) n := by
  intro n
  induction n with
  | zero => rfl
  | succ n ih =>
    rw [Nat.mul_succ, cnt_add, ih]
    rfl
theorem ofk_s (v : Nat → Nat) : ofk v 0 = smN (nts v) (v 0) := by
  unfold ofk
  rw [Nat.mul_comm, ofk_c]
theorem fni_nt {v : Nat → Nat} {g i : Nat} (h : fni v g = some i) : 0 < nts v g := by
  obtain ⟨j, -, h2, h3⟩ := sr_ge _ _ h
  by_cases e : io v (v 2 * g + j) 0 = 0
  · exact cnt_pos _ j (by omega) (decide_eq_true e)
  · rw [if_neg e] at h3; cases h3
theorem blk_e {B x y p : Nat} (hB : 1 ≤ B) (hp : p < B) : y = x / B * B + p ↔ x / B = y / B ∧ y % B = p := by
  have h1 := Nat.div_add_mod y B
  rw [Nat.mul_comm] at h1
  constructor
  · intro h
    have e1 : y / B = x / B := by
      rw [h, Nat.mul_comm, Nat.mul_add_div (by omega), Nat.div_eq_of_lt hp]; rfl
    refine ⟨e1.symm, ?_⟩
    rw [h, Nat.mul_comm, Nat.mul_add_mod, Nat.mod_eq_of_lt hp]
  · rintro ⟨h2, h3⟩
    rw [h2, ← h3, h1]
/-- a pair of an inode: one, or one that follows -/
def prq (v : Nat → Nat) (i : Nat) (f : Bool) (k : Nat) : Bool := decide (1 ≤ k ∧ k % v 5 ≠ 0) && (!f || decide (io v i (5 + k - 1) / v 1 = io v i (5 + k) / v 1 ∧ io v i (5 + k) % v 1 = (io v i (5 + k - 1) % v 1 + 1 + v 3) % v 1))
def prn (v : Nat → Nat) (i : Nat) (f : Bool) : Nat := cnt (prq v i f) (sz v i / 4)
theorem prn_f {v : Nat → Nat} {i : Nat} (h : io v i 0 ≠ 0) : prn v i false = prs v i := by
  unfold prn prs
  rw [sz_t h]
  refine cnt_eq _ (fun k _ => ?_)
  unfold prq
  simp
theorem prn_t {v : Nat → Nat} {i : Nat} (h : io v i 0 ≠ 0) : prn v i true = flw v i := by
  unfold prn flw
  rw [sz_t h]
  refine cnt_eq _ (fun k _ => ?_)
  unfold prq
  rw [Bool.not_true, Bool.false_or]
  by_cases c1 : 1 ≤ k ∧ k % v 5 ≠ 0
  · rw [decide_eq_true c1, Bool.true_and]
    congr 1
    exact propext ⟨fun z => ⟨c1.1, c1.2, z⟩, fun z => z.2.2⟩
  · rw [decide_eq_false c1, Bool.false_and, decide_eq_false (fun z => c1 ⟨z.1, z.2.1⟩)]
theorem prn_le (v : Nat → Nat) (i : Nat) (f : Bool) : prn v i f ≤ sz v i / 4 := cnt_le _ _
theorem smN_eq {f f' : Nat → Nat} : ∀ n, (∀ k, k < n → f k = f' k) → smN f n = smN f' n := by
  intro n
  induction n with
  | zero => intro _; rfl
  | succ n ih => intro h; simp only [smN]; rw [ih (fun k hk => h k (by omega)), h n (by omega)]
theorem smd_p (v : Nat → Nat) (f : Bool) : smd v (if f = true then 12 else 11) = smN (fun i => prn v i f) (v 0 * v 2) := by
  unfold smd
  refine smN_eq _ (fun i _ => ?_)
  unfold sme
  by_cases h : io v i 0 = 0
  · rw [if_pos h]
    show 0 = cnt (prq v i f) (sz v i / 4)
    rw [show sz v i = 0 from if_pos h]
    rfl
  · rw [if_neg h]
    cases f with
    | true =>
      rw [prn_t h]
      rfl
    | false =>
      rw [prn_f h]
      rfl
section C11
variable {g : sg_H} {a : Nat} {v : Nat → Nat} {b d : Nat → Int32} {K : Nat → Nat → Int32} {e m : Int32}
set_option maxRecDepth 100000 in
theorem k_groupForDirectory (hg : a + 13 ≤ g.1) (ha : a < 800) (hR : iR v K) (w : wf v) : sg_Kr MX6_groupForDirectory [.ref a] (vo g a v b d K e m) (.int (oI (gfd v (smN (nts v) (v 0)) (v 0)))) := by
  have hV : sg_at (vo g a v b d K e m) a (.inr (6, [.ref (a + 1), .ref (a + 2), .ref (a + 4), .ref (a + 6), .int e, .int m])) := vo_V hg
  have hY : sg_at (vo g a v b d K e m) (a + 1) (.inr (3, lay v)) := vo_Y hg
  have hI : IN (vo g a v b d K e m) (a + 6) (a + 1) v K := vo_I hg ha
  have h04 := w.1.1
  have h26 := w.1.2.2.1
  have hgi := wf_gi w.1
  have hal : ofk v 0 ≤ 24 := Nat.le_trans (cnt_le _ _) hgi
  rw [← ofk_s]
  generalize hall : ofk v 0 = all at hal
  have kh := k_howMany hI hR w 0 (by decide)
  rw [hall] at kh
  show sg_A MX6_groupForDirectory 0 [some (.ref a), none, none, none, none, none, none, none] [] _ _
  refine at_k (-4) dX6_groupForDirectory_0 rfl (by decide) ?_
  refine at_st (i := 1) dX6_groupForDirectory_2 rfl rfl (Nat.le_of_ble_eq_true rfl) rfl ?_
  try dsimp only [List.set_cons_succ, List.set_cons_zero]
  refine at_k (nI 0) dX6_groupForDirectory_3 rfl (by decide) ?_
  refine at_st (i := 2) dX6_groupForDirectory_4 rfl rfl (Nat.le_of_ble_eq_true rfl) rfl ?_
  try dsimp only [List.set_cons_succ, List.set_cons_zero]
  refine at_ld (i := 0) dX6_groupForDirectory_5 rfl rfl rfl ?_
  refine at_get dX6_groupForDirectory_6 fX6_33 hV (by omega) rfl ?_
  refine at_k (nI 0) dX6_groupForDirectory_9 rfl (by decide) ?_
  refine at_rv [_] dX6_groupForDirectory_10 mX2_howMany ⟨Nat.le_of_ble_eq_true rfl, Nat.le_of_ble_eq_true rfl⟩ lX6_124 iX2_howMany rfl rfl hI.1 (by omega) rfl (Nat.le_of_ble_eq_true rfl) (Nat.le_of_ble_eq_true rfl) ⟨rfl, rfl⟩ (kh) ?_
  refine at_st (i := 3) dX6_groupForDirectory_13 rfl rfl (Nat.le_of_ble_eq_true rfl) rfl ?_
  try dsimp only [List.set_cons_succ, List.set_cons_zero]
  refine at_k (nI 0) dX6_groupForDirectory_14 rfl (by decide) ?_
  refine at_st (i := 4) dX6_groupForDirectory_15 rfl rfl (Nat.le_of_ble_eq_true rfl) rfl ?_
  try dsimp only [List.set_cons_succ, List.set_cons_zero]
  have loop : ∀ n k F2 y5 y6 y7, k + n = v 0 → (∀ b', gfd v all k = some b' → F2 = nI (dcs v b')) → sg_A MX6_groupForDirectory 17 [some (.ref a), some (.int (oI (gfd v all k))), some (.int F2), some (.int (nI all)), some (.int (nI k)), y5, y6, y7] [] (vo g a v b d K e m) (fun r h' => r = some (.int (oI (gfd v all (v 0)))) ∧ h' = vo g a v b d K e m) := by
    intro n
    induction n with
    | zero =>
      intro k F2 y5 y6 y7 hk hF
      have : k = v 0 := by omega
      subst this
      refine at_ld (i := 4) dX6_groupForDirectory_17 rfl rfl rfl ?_
      refine at_ld (i := 0) dX6_groupForDirectory_19 rfl rfl rfl ?_
      refine at_get dX6_groupForDirectory_20 fX6_12 hV (by omega) rfl ?_
      refine at_get dX6_groupForDirectory_23 fX6_127 hY (by omega) rfl ?_
      refine at_ige 108 dX6_groupForDirectory_26 (by decide) (fun c => ?_) (fun c => ?_)
      · refine at_ld (i := 1) dX6_groupForDirectory_108 rfl rfl rfl ?_
        refine at_ret dX6_groupForDirectory_109 rfl rfl ?_
        exact ⟨rfl, rfl⟩
      · exact absurd (nI_le (Nat.le_refl _) (by omega)) c
    | succ n ih =>
      intro k F2 y5 y6 y7 hk hF
      have hnt := nts_le v k
      have hdc := dcs_le v k
      have hmu : nts v k * v 0 ≤ 24 := Nat.le_trans (Nat.mul_le_mul (Nat.le_trans hnt h26.2) h04.2) (by decide)
      have keep : gfd v all (k + 1) = gfd v all k → ∀ y5 y6 y7, sg_A MX6_groupForDirectory 102 [some (.ref a), some (.int (oI (gfd v all k))), some (.int F2), some (.int (nI all)), some (.int (nI k)), y5, y6, y7] [] (vo g a v b d K e m) (fun r h' => r = some (.int (oI (gfd v all (v 0)))) ∧ h' = vo g a v b d K e m) := by
        intro hke y5 y6 y7
        refine at_iinc (nI 1) dX6_groupForDirectory_102 rfl rfl (by decide) ?_
        try dsimp only [List.set_cons_succ, List.set_cons_zero]
        refine at_goto 17 dX6_groupForDirectory_105 (by decide) ?_
        rw [nI_add, ← hke]
        refine ih (k + 1) F2 _ _ _ (by omega) ?_
        rw [hke]
        exact hF
      have take : gfd v all (k + 1) = some k → ∀ y1 y2 y5 y7, sg_A MX6_groupForDirectory 96 [some (.ref a), y1, y2, some (.int (nI all)), some (.int (nI k)), y5, some (.int (nI (dcs v k))), y7] [] (vo g a v b d K e m) (fun r h' => r = some (.int (oI (gfd v all (v 0)))) ∧ h' = vo g a v b d K e m) := by
        intro hke y1 y2 y5 y7
        refine at_ld (i := 4) dX6_groupForDirectory_96 rfl rfl rfl ?_
        refine at_st (i := 1) dX6_groupForDirectory_98 rfl rfl (Nat.le_of_ble_eq_true rfl) rfl ?_
        try dsimp only [List.set_cons_succ, List.set_cons_zero]
        refine at_ld (i := 6) dX6_groupForDirectory_99 rfl rfl rfl ?_
        refine at_st (i := 2) dX6_groupForDirectory_101 rfl rfl (Nat.le_of_ble_eq_true rfl) rfl ?_
        try dsimp only [List.set_cons_succ, List.set_cons_zero]
        refine at_iinc (nI 1) dX6_groupForDirectory_102 rfl rfl (by decide) ?_
        try dsimp only [List.set_cons_succ, List.set_cons_zero]
        refine at_goto 17 dX6_groupForDirectory_105 (by decide) ?_
        rw [nI_add]
        have := ih (k + 1) (nI (dcs v k)) y5 (some (.int (nI (dcs v k)))) y7 (by omega) (fun b' hb' => by rw [hke] at hb'; cases hb'; rfl)
        rw [hke] at this
        exact this
      have hnx : ∀ B : Bool, (B = true ↔ (0 < nts v k ∧ all ≤ nts v k * v 0)) → sg_A MX6_groupForDirectory 77 [some (.ref a), some (.int (oI (gfd v all k))), some (.int F2), some (.int (nI all)), some (.int (nI k)), some (.int (nI (nts v k))), some (.int (nI (dcs v k))), y7] [.int (bI B)] (vo g a v b d K e m) (fun r h' => r = some (.int (oI (gfd v all (v 0)))) ∧ h' = vo g a v b d K e m) := by
        intro B hB
        refine at_st (i := 7) dX6_groupForDirectory_77 rfl rfl (Nat.le_of_ble_eq_true rfl) rfl ?_
        try dsimp only [List.set_cons_succ, List.set_cons_zero]
        refine at_ld (i := 7) dX6_groupForDirectory_79 rfl rfl rfl ?_
        refine at_zeq 102 dX6_groupForDirectory_81 (by decide) (fun c => ?_) (fun c => ?_)
        · rw [bI_0] at c
          refine keep ?_ _ _ _
          simp only [gfd]
          rw [if_neg]
          intro z
          have := hB.mpr ⟨z.1, z.2.1⟩
          rw [c] at this
          cases this
        · have hBt := hB.mp (bI_1 c)
          refine at_ld (i := 1) dX6_groupForDirectory_84 rfl rfl rfl ?_
          refine at_k (-4) dX6_groupForDirectory_85 rfl (by decide) ?_
          cases q : gfd v all k with
          | none =>
            have hke : gfd v all (k + 1) = some k := by
              simp only [gfd]
              rw [q, if_pos ⟨hBt.1, hBt.2, rfl⟩]
            refine at_ieq 96 dX6_groupForDirectory_87 (by decide) (fun c2 => ?_) (fun c2 => ?_)
            · exact take hke _ _ _ _
            · exact absurd rfl c2
          | some b' =>
            have hb' := gfd_lt _ _ q
            have hF' := hF b' q
            have hdb := dcs_le v b'
            refine at_ieq 96 dX6_groupForDirectory_87 (by decide) (fun c2 => ?_) (fun c2 => ?_)
            · exact absurd c2 (oI_n (by omega))
            · refine at_ld (i := 6) dX6_groupForDirectory_90 rfl rfl rfl ?_
              refine at_ld (i := 2) dX6_groupForDirectory_92 rfl rfl rfl ?_
              rw [hF']
              refine at_ige 102 dX6_groupForDirectory_93 (by decide) (fun c3 => ?_) (fun c3 => ?_)
              · have c4 := (nI_leI (by omega) (by omega)).mp c3
                have hke : gfd v all (k + 1) = gfd v all k := by
                  simp only [gfd]
                  rw [q, if_neg]
                  intro z
                  have := of_decide_eq_true z.2.2
                  omega
                have := keep hke (some (.int (nI (nts v k)))) (some (.int (nI (dcs v k)))) (some (.int (bI B)))
                rw [q, hF'] at this
                exact this
              · have c4 : dcs v k < dcs v b' := by
                  rcases Nat.lt_or_ge (dcs v k) (dcs v b') with z | z
                  · exact z
                  · exact absurd (nI_le z (by omega)) c3
                have hke : gfd v all (k + 1) = some k := by
                  simp only [gfd]
                  rw [q, if_pos ⟨hBt.1, hBt.2, decide_eq_true c4⟩]
                exact take hke _ _ _ _
      refine at_ld (i := 4) dX6_groupForDirectory_17 rfl rfl rfl ?_
      refine at_ld (i := 0) dX6_groupForDirectory_19 rfl rfl rfl ?_
      refine at_get dX6_groupForDirectory_20 fX6_12 hV (by omega) rfl ?_
      refine at_get dX6_groupForDirectory_23 fX6_127 hY (by omega) rfl ?_
      refine at_ige 108 dX6_groupForDirectory_26 (by decide) (fun c => ?_) (fun c => ?_)
      · exact absurd c (nI_ge (by omega) (by omega))
      · refine at_ld (i := 0) dX6_groupForDirectory_29 rfl rfl rfl ?_
        refine at_get dX6_groupForDirectory_30 fX6_33 hV (by omega) rfl ?_
        refine at_ld (i := 4) dX6_groupForDirectory_33 rfl rfl rfl ?_
        refine at_k (nI 0) dX6_groupForDirectory_35 rfl (by decide) ?_
        refine at_rv [_, _] dX6_groupForDirectory_36 mX2_howManyIn ⟨Nat.le_of_ble_eq_true rfl, Nat.le_of_ble_eq_true rfl⟩ lX6_130 iX2_howManyIn rfl rfl hI.1 (by omega) rfl (Nat.le_of_ble_eq_true rfl) (Nat.le_of_ble_eq_true rfl) ⟨rfl, rfl⟩ (k_howManyIn hI hR w k 0 (by omega) (by decide)) ?_
        refine at_st (i := 5) dX6_groupForDirectory_39 rfl rfl (Nat.le_of_ble_eq_true rfl) rfl ?_
        try dsimp only [List.set_cons_succ, List.set_cons_zero]
        refine at_ld (i := 0) dX6_groupForDirectory_41 rfl rfl rfl ?_
        refine at_get dX6_groupForDirectory_42 fX6_33 hV (by omega) rfl ?_
        refine at_ld (i := 4) dX6_groupForDirectory_45 rfl rfl rfl ?_
        refine at_k (nI 1) dX6_groupForDirectory_47 rfl (by decide) ?_
        refine at_rv [_, _] dX6_groupForDirectory_48 mX2_howManyIn ⟨Nat.le_of_ble_eq_true rfl, Nat.le_of_ble_eq_true rfl⟩ lX6_130 iX2_howManyIn rfl rfl hI.1 (by omega) rfl (Nat.le_of_ble_eq_true rfl) (Nat.le_of_ble_eq_true rfl) ⟨rfl, rfl⟩ (k_howManyIn hI hR w k 1 (by omega) (by decide)) ?_
        refine at_st (i := 6) dX6_groupForDirectory_51 rfl rfl (Nat.le_of_ble_eq_true rfl) rfl ?_
        try dsimp only [List.set_cons_succ, List.set_cons_zero]
        refine at_ld (i := 5) dX6_groupForDirectory_53 rfl rfl rfl ?_
        rw [show cnt (fun j => decide (io v (v 2 * k + j) 0 = 0)) (v 2) = nts v k from rfl, show cnt (fun j => decide (io v (v 2 * k + j) 0 = 1)) (v 2) = dcs v k from rfl]
        refine at_zle 76 dX6_groupForDirectory_55 (by decide) (fun c1 => ?_) (fun c1 => ?_)
        · refine at_k (nI 0) dX6_groupForDirectory_76 rfl (by decide) ?_
          refine hnx false ⟨fun z => (by cases z), fun z => ?_⟩
          exact absurd c1 (nI_nle z.1 (by omega))
        · refine at_ld (i := 5) dX6_groupForDirectory_58 rfl rfl rfl ?_
          refine at_ld (i := 0) dX6_groupForDirectory_60 rfl rfl rfl ?_
          refine at_get dX6_groupForDirectory_61 fX6_12 hV (by omega) rfl ?_
          refine at_get dX6_groupForDirectory_64 fX6_127 hY (by omega) rfl ?_
          refine at_bin dX6_groupForDirectory_67 rfl ?_
          try dsimp only
          rw [nI_mul]
          refine at_ld (i := 3) dX6_groupForDirectory_68 rfl rfl rfl ?_
          refine at_ilt 76 dX6_groupForDirectory_69 (by decide) (fun c2 => ?_) (fun c2 => ?_)
          · have c3 := (nI_ltI (by omega) (by omega)).mp c2
            refine at_k (nI 0) dX6_groupForDirectory_76 rfl (by decide) ?_
            exact hnx false ⟨fun z => (by cases z), fun z => by omega⟩
          · have c3 : all ≤ nts v k * v 0 := by
              rcases Nat.lt_or_ge (nts v k * v 0) all with z | z
              · exact absurd (nI_lt z (by omega)) c2
              · exact z
            have c4 : 0 < nts v k := by
              rcases Nat.eq_zero_or_pos (nts v k) with z | z
              · rw [z] at c1; exact absurd (by decide) c1
              · exact z
            refine at_k (nI 1) dX6_groupForDirectory_72 rfl (by decide) ?_
            refine at_goto 77 dX6_groupForDirectory_73 (by decide) ?_
            exact hnx true ⟨fun _ => ⟨c4, c3⟩, fun _ => rfl⟩
  exact loop (v 0) 0 0 none none none (by omega) (fun b' hb' => by cases hb')
set_option maxRecDepth 100000 in
theorem k_groupForFile (hg : a + 13 ≤ g.1) (ha : a < 800) (hR : iR v K) (w : wf v) (i0 : Nat) (hd : i0 < v 0 * v 2) : sg_Kr MX6_groupForFile [.ref a, .int (nI i0)] (vo g a v b d K e m) (.int (oI (gff v i0))) := by
  have hV : sg_at (vo g a v b d K e m) a (.inr (6, [.ref (a + 1), .ref (a + 2), .ref (a + 4), .ref (a + 6), .int e, .int m])) := vo_V hg
  have hY : sg_at (vo g a v b d K e m) (a + 1) (.inr (3, lay v)) := vo_Y hg
  have hI : IN (vo g a v b d K e m) (a + 6) (a + 1) v K := vo_I hg ha
  have h04 := w.1.1
  have h26 := w.1.2.2.1
  have hgi := wf_gi w.1
  have hdd : i0 / v 2 < v 0 := Nat.div_lt_of_lt_mul (by rw [Nat.mul_comm]; exact hd)
  show sg_A MX6_groupForFile 0 [some (.ref a), some (.int (nI i0)), none, none, none] [] _ _
  refine at_ld (i := 0) dX6_groupForFile_0 rfl rfl rfl ?_
  refine at_get dX6_groupForFile_1 fX6_12 hV (by omega) rfl ?_
  refine at_ld (i := 1) dX6_groupForFile_4 rfl rfl rfl ?_
  refine at_rv [_] dX6_groupForFile_5 mX3_groupOfInode ⟨Nat.le_of_ble_eq_true rfl, Nat.le_of_ble_eq_true rfl⟩ lX6_133 iX3_groupOfInode rfl rfl hY (by omega) rfl (Nat.le_of_ble_eq_true rfl) (Nat.le_of_ble_eq_true rfl) ⟨rfl, rfl⟩ (k_groupOfInode hY (by omega) w.1 i0 (by omega)) ?_
  refine at_st (i := 2) dX6_groupForFile_8 rfl rfl (Nat.le_of_ble_eq_true rfl) rfl ?_
  try dsimp only [List.set_cons_succ, List.set_cons_zero]
  refine at_k (nI 0) dX6_groupForFile_9 rfl (by decide) ?_
  refine at_st (i := 3) dX6_groupForFile_10 rfl rfl (Nat.le_of_ble_eq_true rfl) rfl ?_
  try dsimp only [List.set_cons_succ, List.set_cons_zero]
  have loop : ∀ n k y4, k + n = v 0 → gff v i0 = srch (fun i => if 0 < nts v (bh v (i0 / v 2) i) then some (bh v (i0 / v 2) i) else none) k (v 0 - k) → sg_A MX6_groupForFile 11 [some (.ref a), some (.int (nI i0)), some (.int (nI (i0 / v 2))), some (.int (nI k)), y4] [] (vo g a v b d K e m) (fun r h' => r = some (.int (oI (gff v i0))) ∧ h' = vo g a v b d K e m) := by
    intro n
    induction n with
    | zero =>
      intro k y4 hk hs
      have : k = v 0 := by omega
      subst this
      rw [sr_0] at hs
      rw [hs]
      refine at_ld (i := 3) dX6_groupForFile_11 rfl rfl rfl ?_
      refine at_ld (i := 0) dX6_groupForFile_12 rfl rfl rfl ?_
      refine at_get dX6_groupForFile_13 fX6_12 hV (by omega) rfl ?_
      refine at_get dX6_groupForFile_16 fX6_127 hY (by omega) rfl ?_
      refine at_ige 56 dX6_groupForFile_19 (by decide) (fun c => ?_) (fun c => ?_)
      · refine at_k (-4) dX6_groupForFile_56 rfl (by decide) ?_
        refine at_ret dX6_groupForFile_58 rfl rfl ?_
        exact ⟨rfl, rfl⟩
      · exact absurd (nI_le (Nat.le_refl _) (by omega)) c
    | succ n ih =>
      intro k y4 hk hs
      have hb := bh_lt w.1 (i0 / v 2) k
      refine at_ld (i := 3) dX6_groupForFile_11 rfl rfl rfl ?_
      refine at_ld (i := 0) dX6_groupForFile_12 rfl rfl rfl ?_
      refine at_get dX6_groupForFile_13 fX6_12 hV (by omega) rfl ?_
      refine at_get dX6_groupForFile_16 fX6_127 hY (by omega) rfl ?_
      refine at_ige 56 dX6_groupForFile_19 (by decide) (fun c => ?_) (fun c => ?_)
      · exact absurd c (nI_ge (by omega) (by omega))
      · refine at_ld (i := 0) dX6_groupForFile_22 rfl rfl rfl ?_
        refine at_get dX6_groupForFile_23 fX6_12 hV (by omega) rfl ?_
        refine at_ld (i := 2) dX6_groupForFile_26 rfl rfl rfl ?_
        refine at_ld (i := 3) dX6_groupForFile_27 rfl rfl rfl ?_
        refine at_rv [_, _] dX6_groupForFile_28 mX3_behind ⟨Nat.le_of_ble_eq_true rfl, Nat.le_of_ble_eq_true rfl⟩ lX6_136 iX3_behind rfl rfl hY (by omega) rfl (Nat.le_of_ble_eq_true rfl) (Nat.le_of_ble_eq_true rfl) ⟨rfl, rfl⟩ (k_behind hY (by omega) w.1 (i0 / v 2) k hdd (by omega)) ?_
        refine at_st (i := 4) dX6_groupForFile_31 rfl rfl (Nat.le_of_ble_eq_true rfl) rfl ?_
        try dsimp only [List.set_cons_succ, List.set_cons_zero]
        refine at_ld (i := 0) dX6_groupForFile_33 rfl rfl rfl ?_
        refine at_get dX6_groupForFile_34 fX6_33 hV (by omega) rfl ?_
        refine at_ld (i := 4) dX6_groupForFile_37 rfl rfl rfl ?_
        refine at_rv [_] dX6_groupForFile_39 mX2_firstNothingIn ⟨Nat.le_of_ble_eq_true rfl, Nat.le_of_ble_eq_true rfl⟩ lX6_139 iX2_firstNothingIn rfl rfl hI.1 (by omega) rfl (Nat.le_of_ble_eq_true rfl) (Nat.le_of_ble_eq_true rfl) ⟨rfl, rfl⟩ (k_firstNothingIn hI hR w (bh v (i0 / v 2) k) hb) ?_
        refine at_k (-4) dX6_groupForFile_42 rfl (by decide) ?_
        cases q : fni v (bh v (i0 / v 2) k) with
        | none =>
          have hno : ¬ 0 < nts v (bh v (i0 / v 2) k) := fun z => by
            obtain ⟨i, hi⟩ := fni_ex z
            rw [q] at hi
            cases hi
          refine at_ieq 50 dX6_groupForFile_44 (by decide) (fun c2 => ?_) (fun c2 => ?_)
          · refine at_iinc (nI 1) dX6_groupForFile_50 rfl rfl (by decide) ?_
            try dsimp only [List.set_cons_succ, List.set_cons_zero]
            refine at_goto 11 dX6_groupForFile_53 (by decide) ?_
            rw [nI_add]
            refine ih (k + 1) _ (by omega) ?_
            rw [hs, sr_n (by omega) (if_neg hno)]
          · exact absurd rfl c2
        | some i =>
          have hi := fni_lt hb q
          refine at_ieq 50 dX6_groupForFile_44 (by decide) (fun c2 => ?_) (fun c2 => ?_)
          · exact absurd c2 (oI_n (by omega))
          · refine at_ld (i := 4) dX6_groupForFile_47 rfl rfl rfl ?_
            refine at_ret dX6_groupForFile_49 rfl rfl ?_
            rw [hs, sr_s (by omega) (if_pos (fni_nt q))]
            exact ⟨rfl, rfl⟩
  exact loop (v 0) 0 none (by omega) rfl
set_option maxRecDepth 100000 in
theorem k_groupFor (hg : a + 13 ≤ g.1) (ha : a < 800) (hR : iR v K) (w : wf v) (i0 kd : Nat) (hd : i0 < v 0 * v 2) (hkd : kd < 100) : sg_Kr MX6_groupFor [.ref a, .int (nI i0), .int (nI kd)] (vo g a v b d K e m) (.int (oI (gfr v i0 kd))) := by
  have hV : sg_at (vo g a v b d K e m) a (.inr (6, [.ref (a + 1), .ref (a + 2), .ref (a + 4), .ref (a + 6), .int e, .int m])) := vo_V hg
  show sg_A MX6_groupFor 0 [some (.ref a), some (.int (nI i0)), some (.int (nI kd))] [] _ _
  refine at_ld (i := 2) dX6_groupFor_0 rfl rfl rfl ?_
  refine at_k (nI 1) dX6_groupFor_1 rfl (by decide) ?_
  refine at_ine 12 dX6_groupFor_2 (by decide) (fun c => ?_) (fun c => ?_)
  · have c1 : ¬ kd = 1 := fun z => c (by rw [z])
    refine at_ld (i := 0) dX6_groupFor_12 rfl rfl rfl ?_
    refine at_ld (i := 1) dX6_groupFor_13 rfl rfl rfl ?_
    refine at_rv [_] dX6_groupFor_14 mX6_groupForFile ⟨Nat.le_of_ble_eq_true rfl, Nat.le_of_ble_eq_true rfl⟩ lX6_121 iX6_groupForFile rfl rfl hV (by omega) rfl (Nat.le_of_ble_eq_true rfl) (Nat.le_of_ble_eq_true rfl) ⟨rfl, rfl⟩ (k_groupForFile hg ha hR w i0 hd) ?_
    refine at_ret dX6_groupFor_17 rfl rfl ?_
    unfold gfr
    rw [if_neg c1]
    exact ⟨rfl, rfl⟩
  · have c1 : kd = 1 := (nI_eq (by omega) (by decide)).mp (Classical.not_not.mp c)
    refine at_ld (i := 0) dX6_groupFor_5 rfl rfl rfl ?_
    refine at_rv [] dX6_groupFor_6 mX6_groupForDirectory ⟨Nat.le_of_ble_eq_true rfl, Nat.le_of_ble_eq_true rfl⟩ lX6_118 iX6_groupForDirectory rfl rfl hV (by omega) rfl (Nat.le_of_ble_eq_true rfl) (Nat.le_of_ble_eq_true rfl) ⟨rfl, rfl⟩ (k_groupForDirectory hg ha hR w) ?_
    refine at_goto 17 dX6_groupFor_9 (by decide) ?_
    refine at_ret dX6_groupFor_17 rfl rfl ?_
    unfold gfr
    rw [if_pos c1]
    exact ⟨rfl, rfl⟩
set_option maxRecDepth 100000 in
theorem k_follows (hg : a + 13 ≤ g.1) (ha : a < 800) (w : wfg v) (x y : Nat) (hx : x < 32) (hy : y < 32) : sg_Kr MX6_follows [.ref a, .int (nI x), .int (nI y)] (vo g a v b d K e m) (.int (bI (decide (x / v 1 = y / v 1 ∧ y % v 1 = (x % v 1 + 1 + v 3) % v 1)))) := by
  have hV : sg_at (vo g a v b d K e m) a (.inr (6, [.ref (a + 1), .ref (a + 2), .ref (a + 4), .ref (a + 6), .int e, .int m])) := vo_V hg
  have hY : sg_at (vo g a v b d K e m) (a + 1) (.inr (3, lay v)) := vo_Y hg
  have h1 := w.2.1
  have hp := Nat.mod_lt (x % v 1 + 1 + v 3) (show v 1 > 0 by omega)
  have he := blk_e (x := x) (y := y) h1.1 hp
  have hdl : x / v 1 * v 1 ≤ x := Nat.div_mul_le_self _ _
  show sg_A MX6_follows 0 [some (.ref a), some (.int (nI x)), some (.int (nI y))] [] _ _
  refine at_ld (i := 2) dX6_follows_0 rfl rfl rfl ?_
  refine at_ld (i := 0) dX6_follows_1 rfl rfl rfl ?_
  refine at_get dX6_follows_2 fX6_12 hV (by omega) rfl ?_
  refine at_ld (i := 1) dX6_follows_5 rfl rfl rfl ?_
  refine at_rv [_] dX6_follows_6 mX3_groupOfBlock ⟨Nat.le_of_ble_eq_true rfl, Nat.le_of_ble_eq_true rfl⟩ lX6_149 iX3_groupOfBlock rfl rfl hY (by omega) rfl (Nat.le_of_ble_eq_true rfl) (Nat.le_of_ble_eq_true rfl) ⟨rfl, rfl⟩ (k_groupOfBlock hY (by omega) w x (by omega)) ?_
  refine at_ld (i := 0) dX6_follows_9 rfl rfl rfl ?_
  refine at_get dX6_follows_10 fX6_12 hV (by omega) rfl ?_
  refine at_get dX6_follows_13 fX6_152 hY (by omega) rfl ?_
  refine at_bin dX6_follows_16 rfl ?_
  try dsimp only
  rw [nI_mul]
  refine at_ld (i := 0) dX6_follows_17 rfl rfl rfl ?_
  refine at_get dX6_follows_18 fX6_12 hV (by omega) rfl ?_
  refine at_ld (i := 1) dX6_follows_21 rfl rfl rfl ?_
  refine at_rv [_] dX6_follows_22 mX3_placeBehind ⟨Nat.le_of_ble_eq_true rfl, Nat.le_of_ble_eq_true rfl⟩ lX6_155 iX3_placeBehind rfl rfl hY (by omega) rfl (Nat.le_of_ble_eq_true rfl) (Nat.le_of_ble_eq_true rfl) ⟨rfl, rfl⟩ (k_placeBehind hY (by omega) w x (by omega)) ?_
  refine at_bin dX6_follows_25 rfl ?_
  try dsimp only
  rw [nI_add]
  refine at_ine 33 dX6_follows_26 (by decide) (fun c => ?_) (fun c => ?_)
  · have c1 : ¬ y = x / v 1 * v 1 + (x % v 1 + 1 + v 3) % v 1 := fun z => c (by rw [← z])
    rw [he] at c1
    refine at_k (nI 0) dX6_follows_33 rfl (by decide) ?_
    refine at_ret dX6_follows_34 rfl rfl ?_
    exact ri (bI_f c1)
  · have c1 := (nI_eq (by omega) (by omega)).mp (Classical.not_not.mp c)
    rw [he] at c1
    refine at_k (nI 1) dX6_follows_29 rfl (by decide) ?_
    refine at_goto 34 dX6_follows_30 (by decide) ?_
    refine at_ret dX6_follows_34 rfl rfl ?_
    exact ri (bI_t c1)
set_option maxRecDepth 100000 in
theorem k_pairsOf (hg : a + 13 ≤ g.1) (ha : a < 800) (hR : iR v K) (w : wf v) (i : Nat) (hi : i < 24) (f : Bool) : sg_Kr MX6_pairsOf [.ref a, .int (nI i), .int (bI f)] (vo g a v b d K e m) (.int (nI (prn v i f))) := by
  have hV : sg_at (vo g a v b d K e m) a (.inr (6, [.ref (a + 1), .ref (a + 2), .ref (a + 4), .ref (a + 6), .int e, .int m])) := vo_V hg
  have hY : sg_at (vo g a v b d K e m) (a + 1) (.inr (3, lay v)) := vo_Y hg
  have hI : IN (vo g a v b d K e m) (a + 6) (a + 1) v K := vo_I hg ha
  have hs := sz_le w hi
  obtain ⟨-, -, -, wb⟩ := w.2.2 i hi
  show sg_A MX6_pairsOf 0 [some (.ref a), some (.int (nI i)), some (.int (bI f)), none, none] [] _ _
  refine at_k (nI 0) dX6_pairsOf_0 rfl (by decide) ?_
  refine at_st (i := 3) dX6_pairsOf_1 rfl rfl (Nat.le_of_ble_eq_true rfl) rfl ?_
  try dsimp only [List.set_cons_succ, List.set_cons_zero]
  refine at_k (nI 1) dX6_pairsOf_2 rfl (by decide) ?_
  refine at_st (i := 4) dX6_pairsOf_3 rfl rfl (Nat.le_of_ble_eq_true rfl) rfl ?_
  try dsimp only [List.set_cons_succ, List.set_cons_zero]
  have loop : ∀ n k, k + n = (if sz v i / 4 = 0 then 1 else sz v i / 4) → 1 ≤ k → sg_A MX6_pairsOf 5 [some (.ref a), some (.int (nI i)), some (.int (bI f)), some (.int (nI (cnt (prq v i f) k))), some (.int (nI k))] [] (vo g a v b d K e m) (fun r h' => r = some (.int (nI (prn v i f))) ∧ h' = vo g a v b d K e m) := by
    intro n
    induction n with
    | zero =>
      intro k hk hk1
      have hk2 : sz v i / 4 ≤ k := by split at hk <;> omega
      refine at_ld (i := 4) dX6_pairsOf_5 rfl rfl rfl ?_
      refine at_ld (i := 0) dX6_pairsOf_7 rfl rfl rfl ?_
      refine at_get dX6_pairsOf_8 fX6_33 hV (by omega) rfl ?_
      refine at_ld (i := 1) dX6_pairsOf_11 rfl rfl rfl ?_
      refine at_rv [_] dX6_pairsOf_12 mX2_blocksOf ⟨Nat.le_of_ble_eq_true rfl, Nat.le_of_ble_eq_true rfl⟩ lX6_71 iX2_blocksOf rfl rfl hI.1 (by omega) rfl (Nat.le_of_ble_eq_true rfl) (Nat.le_of_ble_eq_true rfl) ⟨rfl, rfl⟩ (k_blocksOf hI hR w i hi) ?_
      refine at_ige 72 dX6_pairsOf_15 (by decide) (fun c => ?_) (fun c => ?_)
      · refine at_ld (i := 3) dX6_pairsOf_72 rfl rfl rfl ?_
        refine at_ret dX6_pairsOf_73 rfl rfl ?_
        have : cnt (prq v i f) k = prn v i f := by
          by_cases z : sz v i / 4 = 0
          · rw [if_pos z] at hk
            unfold prn
            rw [z, show k = 1 by omega]
            simp [cnt, prq]
          · rw [if_neg z] at hk
            unfold prn
            rw [show k = sz v i / 4 by omega]
        rw [this]
        exact ⟨rfl, rfl⟩
      · exact absurd (nI_le hk2 (by split at hk <;> omega)) c
    | succ n ih =>
      intro k hk hk1
      have hk2 : k < sz v i / 4 := by split at hk <;> omega
      have hb0 := wb (k - 1) (by omega)
      have hb1 := wb k (by omega)
      have hno : prq v i f k = false → sg_A MX6_pairsOf 66 [some (.ref a), some (.int (nI i)), some (.int (bI f)), some (.int (nI (cnt (prq v i f) k))), some (.int (nI k))] [] (vo g a v b d K e m) (fun r h' => r = some (.int (nI (prn v i f))) ∧ h' = vo g a v b d K e m) := by
        intro z
        refine at_iinc (nI 1) dX6_pairsOf_66 rfl rfl (by decide) ?_
        try dsimp only [List.set_cons_succ, List.set_cons_zero]
        refine at_goto 5 dX6_pairsOf_69 (by decide) ?_
        rw [nI_add, ← cnt_f z]
        exact ih (k + 1) (by omega) (by omega)
      have hyes : prq v i f k = true → sg_A MX6_pairsOf 63 [some (.ref a), some (.int (nI i)), some (.int (bI f)), some (.int (nI (cnt (prq v i f) k))), some (.int (nI k))] [] (vo g a v b d K e m) (fun r h' => r = some (.int (nI (prn v i f))) ∧ h' = vo g a v b d K e m) := by
        intro z
        refine at_iinc (nI 1) dX6_pairsOf_63 rfl rfl (by decide) ?_
        try dsimp only [List.set_cons_succ, List.set_cons_zero]
        refine at_iinc (nI 1) dX6_pairsOf_66 rfl rfl (by decide) ?_
        try dsimp only [List.set_cons_succ, List.set_cons_zero]
        refine at_goto 5 dX6_pairsOf_69 (by decide) ?_
        rw [nI_add, nI_add, ← cnt_t z]
        exact ih (k + 1) (by omega) (by omega)
      refine at_ld (i := 4) dX6_pairsOf_5 rfl rfl rfl ?_
      refine at_ld (i := 0) dX6_pairsOf_7 rfl rfl rfl ?_
      refine at_get dX6_pairsOf_8 fX6_33 hV (by omega) rfl ?_
      refine at_ld (i := 1) dX6_pairsOf_11 rfl rfl rfl ?_
      refine at_rv [_] dX6_pairsOf_12 mX2_blocksOf ⟨Nat.le_of_ble_eq_true rfl, Nat.le_of_ble_eq_true rfl⟩ lX6_71 iX2_blocksOf rfl rfl hI.1 (by omega) rfl (Nat.le_of_ble_eq_true rfl) (Nat.le_of_ble_eq_true rfl) ⟨rfl, rfl⟩ (k_blocksOf hI hR w i hi) ?_
      refine at_ige 72 dX6_pairsOf_15 (by decide) (fun c => ?_) (fun c => ?_)
      · exact absurd c (nI_ge hk2 (by omega))
      · refine at_ld (i := 0) dX6_pairsOf_18 rfl rfl rfl ?_
        refine at_get dX6_pairsOf_19 fX6_12 hV (by omega) rfl ?_
        refine at_ld (i := 4) dX6_pairsOf_22 rfl rfl rfl ?_
        refine at_rv [_] dX6_pairsOf_24 mX3_leadsOn ⟨Nat.le_of_ble_eq_true rfl, Nat.le_of_ble_eq_true rfl⟩ lX6_142 iX3_leadsOn rfl rfl hY (by omega) rfl (Nat.le_of_ble_eq_true rfl) (Nat.le_of_ble_eq_true rfl) ⟨rfl, rfl⟩ (k_leadsOn hY (by omega) w.1 k (by omega)) ?_
        refine at_zne 66 dX6_pairsOf_27 (by decide) (fun c1 => ?_) (fun c1 => ?_)
        · have c2 : k % v 5 = 0 := by
            rw [bI_0] at c1
            exact Classical.not_not.mp (fun z => c1 (decide_eq_false z))
          refine hno ?_
          unfold prq
          rw [decide_eq_false (fun z => z.2 c2), Bool.false_and]
        · have c2 : k % v 5 ≠ 0 := by
            have := Classical.not_not.mp c1
            rw [bI_0] at this
            exact of_decide_eq_false this
          refine at_ld (i := 2) dX6_pairsOf_30 rfl rfl rfl ?_
          cases f with
          | false =>
            refine at_zeq 63 dX6_pairsOf_31 (by decide) (fun c3 => ?_) (fun c3 => ?_)
            · refine hyes ?_
              unfold prq
              rw [decide_eq_true ⟨hk1, c2⟩]
              rfl
            · exact absurd rfl c3
          | true =>
            refine at_zeq 63 dX6_pairsOf_31 (by decide) (fun c3 => ?_) (fun c3 => ?_)
            · exact absurd c3 (by decide)
            · refine at_ld (i := 0) dX6_pairsOf_34 rfl rfl rfl ?_
              refine at_ld (i := 0) dX6_pairsOf_35 rfl rfl rfl ?_
              refine at_get dX6_pairsOf_36 fX6_33 hV (by omega) rfl ?_
              refine at_ld (i := 1) dX6_pairsOf_39 rfl rfl rfl ?_
              refine at_ld (i := 4) dX6_pairsOf_40 rfl rfl rfl ?_
              refine at_k (nI 1) dX6_pairsOf_42 rfl (by decide) ?_
              refine at_bin dX6_pairsOf_43 rfl ?_
              try dsimp only
              rw [nI_sub hk1]
              refine at_rv [_, _] dX6_pairsOf_44 mX2_blockAt ⟨Nat.le_of_ble_eq_true rfl, Nat.le_of_ble_eq_true rfl⟩ lX6_75 iX2_blockAt rfl rfl hI.1 (by omega) rfl (Nat.le_of_ble_eq_true rfl) (Nat.le_of_ble_eq_true rfl) ⟨rfl, rfl⟩ (k_blockAt hI hR i (k - 1) hi (by omega) (by omega)) ?_
              refine at_ld (i := 0) dX6_pairsOf_47 rfl rfl rfl ?_
              refine at_get dX6_pairsOf_48 fX6_33 hV (by omega) rfl ?_
              refine at_ld (i := 1) dX6_pairsOf_51 rfl rfl rfl ?_
              refine at_ld (i := 4) dX6_pairsOf_52 rfl rfl rfl ?_
              refine at_rv [_, _] dX6_pairsOf_54 mX2_blockAt ⟨Nat.le_of_ble_eq_true rfl, Nat.le_of_ble_eq_true rfl⟩ lX6_75 iX2_blockAt rfl rfl hI.1 (by omega) rfl (Nat.le_of_ble_eq_true rfl) (Nat.le_of_ble_eq_true rfl) ⟨rfl, rfl⟩ (k_blockAt hI hR i k hi (by omega) hk2) ?_
              refine at_rv [_, _] dX6_pairsOf_57 mX6_follows ⟨Nat.le_of_ble_eq_true rfl, Nat.le_of_ble_eq_true rfl⟩ lX6_145 iX6_follows rfl rfl hV (by omega) rfl (Nat.le_of_ble_eq_true rfl) (Nat.le_of_ble_eq_true rfl) ⟨rfl, rfl⟩ (k_follows hg ha w.1 (io v i (5 + (k - 1))) (io v i (5 + k)) hb0 hb1) ?_
              rw [show 5 + (k - 1) = 5 + k - 1 by omega]
              refine at_zeq 66 dX6_pairsOf_60 (by decide) (fun c4 => ?_) (fun c4 => ?_)
              · rw [bI_0] at c4
                refine hno ?_
                unfold prq
                rw [Bool.not_true, Bool.false_or, c4, Bool.and_false]
              · refine hyes ?_
                unfold prq
                rw [decide_eq_true ⟨hk1, c2⟩, Bool.not_true, Bool.false_or, bI_1 c4]
                rfl
  have e1 : cnt (prq v i f) 1 = 0 := by simp [cnt, prq]
  have := loop ((if sz v i / 4 = 0 then 1 else sz v i / 4) - 1) 1 (by split <;> omega) (Nat.le_refl _)
  rw [e1] at this
  exact this
set_option maxRecDepth 100000 in
theorem k_pairsOfAll (hg : a + 13 ≤ g.1) (ha : a < 800) (hR : iR v K) (w : wf v) (f : Bool) : sg_Kr MX6_pairsOfAll [.ref a, .int (bI f)] (vo g a v b d K e m) (.int (nI (smd v (if f = true then 12 else 11)))) := by
  have hV : sg_at (vo g a v b d K e m) a (.inr (6, [.ref (a + 1), .ref (a + 2), .ref (a + 4), .ref (a + 6), .int e, .int m])) := vo_V hg
  have hY : sg_at (vo g a v b d K e m) (a + 1) (.inr (3, lay v)) := vo_Y hg
  have hgi := wf_gi w.1
  rw [smd_p]
  show sg_A MX6_pairsOfAll 0 [some (.ref a), some (.int (bI f)), none, none] [] _ _
  refine at_k (nI 0) dX6_pairsOfAll_0 rfl (by decide) ?_
  refine at_st (i := 2) dX6_pairsOfAll_1 rfl rfl (Nat.le_of_ble_eq_true rfl) rfl ?_
  try dsimp only [List.set_cons_succ, List.set_cons_zero]
  refine at_k (nI 0) dX6_pairsOfAll_2 rfl (by decide) ?_
  refine at_st (i := 3) dX6_pairsOfAll_3 rfl rfl (Nat.le_of_ble_eq_true rfl) rfl ?_
  try dsimp only [List.set_cons_succ, List.set_cons_zero]
  refine lpN (fun k => sg_A MX6_pairsOfAll 4 [some (.ref a), some (.int (bI f)), some (.int (nI (smN (fun i => prn v i f) k))), some (.int (nI k))] [] (vo g a v b d K e m) _) (v 0 * v 2) ?_ ?_
  · refine at_ld (i := 3) dX6_pairsOfAll_4 rfl rfl rfl ?_
    refine at_ld (i := 0) dX6_pairsOfAll_5 rfl rfl rfl ?_
    refine at_get dX6_pairsOfAll_6 fX6_12 hV (by omega) rfl ?_
    refine at_rv [] dX6_pairsOfAll_9 mX3_allInodes ⟨Nat.le_of_ble_eq_true rfl, Nat.le_of_ble_eq_true rfl⟩ lX6_92 iX3_allInodes rfl rfl hY (by omega) rfl (Nat.le_of_ble_eq_true rfl) (Nat.le_of_ble_eq_true rfl) ⟨rfl, rfl⟩ (k_allInodes hY (by omega)) ?_
    refine at_ige 30 dX6_pairsOfAll_12 (by decide) (fun c => ?_) (fun c => ?_)
    · refine at_ld (i := 2) dX6_pairsOfAll_30 rfl rfl rfl ?_
      refine at_ret dX6_pairsOfAll_31 rfl rfl ?_
      exact ⟨rfl, rfl⟩
    · exact absurd (nI_le (Nat.le_refl _) (by omega)) c
  · intro k hk ih
    refine at_ld (i := 3) dX6_pairsOfAll_4 rfl rfl rfl ?_
    refine at_ld (i := 0) dX6_pairsOfAll_5 rfl rfl rfl ?_
    refine at_get dX6_pairsOfAll_6 fX6_12 hV (by omega) rfl ?_
    refine at_rv [] dX6_pairsOfAll_9 mX3_allInodes ⟨Nat.le_of_ble_eq_true rfl, Nat.le_of_ble_eq_true rfl⟩ lX6_92 iX3_allInodes rfl rfl hY (by omega) rfl (Nat.le_of_ble_eq_true rfl) (Nat.le_of_ble_eq_true rfl) ⟨rfl, rfl⟩ (k_allInodes hY (by omega)) ?_
    refine at_ige 30 dX6_pairsOfAll_12 (by decide) (fun c => ?_) (fun c => ?_)
    · exact absurd c (nI_ge hk (by omega))
    · refine at_ld (i := 2) dX6_pairsOfAll_15 rfl rfl rfl ?_
      refine at_ld (i := 0) dX6_pairsOfAll_16 rfl rfl rfl ?_
      refine at_ld (i := 3) dX6_pairsOfAll_17 rfl rfl rfl ?_
      refine at_ld (i := 1) dX6_pairsOfAll_18 rfl rfl rfl ?_
      refine at_rv [_, _] dX6_pairsOfAll_19 mX6_pairsOf ⟨Nat.le_of_ble_eq_true rfl, Nat.le_of_ble_eq_true rfl⟩ lX6_158 iX6_pairsOf rfl rfl hV (by omega) rfl (Nat.le_of_ble_eq_true rfl) (Nat.le_of_ble_eq_true rfl) ⟨rfl, rfl⟩ (k_pairsOf hg ha hR w k (by omega) f) ?_
      refine at_bin dX6_pairsOfAll_22 rfl ?_
      try dsimp only
      rw [nI_add]
      refine at_st (i := 2) dX6_pairsOfAll_23 rfl rfl (Nat.le_of_ble_eq_true rfl) rfl ?_
      try dsimp only [List.set_cons_succ, List.set_cons_zero]
      refine at_iinc (nI 1) dX6_pairsOfAll_24 rfl rfl (by decide) ?_
      try dsimp only [List.set_cons_succ, List.set_cons_zero]
      refine at_goto 4 dX6_pairsOfAll_27 (by decide) ?_
      rw [nI_add]
      exact ih
end C11
