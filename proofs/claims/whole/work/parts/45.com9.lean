/-! THE CLASS: Inodes copied; a volume's map as it is due -/
section C9a
variable {g : sg_H} {a : Nat} {L : Nat → Nat} {b d : Nat → Int32} {K : Nat → Nat → Int32} {e m : Int32}
theorem vo_ub1 (b' : Nat → Int32) : sg_up (vo g a L b d K e m) (a + 2 + 1) (.inl (false, 32, b')) = vo g a L b' d K e m := vo_ub b'
theorem vo_ud1 (d' : Nat → Int32) : sg_up (vo g a L b d K e m) (a + 4 + 1) (.inl (false, 32, d')) = vo g a L b d' K e m := vo_ud d'
theorem IN_o {p l : Nat} {L2 : Nat → Nat} {K2 : Nat → Nat → Int32} (h : IN g p l L2 K2) (hp : p + 7 ≤ a ∨ a + 13 ≤ p) (hl : l < a ∨ a + 13 ≤ l) : IN (vo g a L b d K e m) p l L2 K2 := ⟨vo_O (by omega) h.1, vo_O (by omega) h.2.1, vo_O (by omega) h.2.2.1, vo_O (by omega) h.2.2.2.1, vo_O (by omega) h.2.2.2.2.1, vo_O (by omega) h.2.2.2.2.2.1, vo_O (by omega) h.2.2.2.2.2.2.1, vo_O (by omega) h.2.2.2.2.2.2.2.1, h.2.2.2.2.2.2.2.2⟩
theorem FM_o {p l : Nat} {L2 : Nat → Nat} {b2 : Nat → Int32} (h : FM g p l L2 b2) (hp : p + 2 ≤ a ∨ a + 13 ≤ p) (hl : l < a ∨ a + 13 ≤ l) : FM (vo g a L b d K e m) p l L2 b2 := ⟨vo_O (by omega) h.1, vo_O (by omega) h.2.1, vo_O (by omega) h.2.2.1, h.2.2.2⟩
set_option maxRecDepth 100000 in
theorem k_icopy (hg : a + 13 ≤ g.1) (ha : a < 800) {p l : Nat} {L2 : Nat → Nat} {K2 : Nat → Nat → Int32} (h2 : IN g p l L2 K2) (hp : p + 7 ≤ a ∨ a + 13 ≤ p) (hl : l < a ∨ a + 13 ≤ l) : sg_Kw MX2_copyFrom [.ref (a + 6), .ref p] (vo g a L b d K e m) none (vo g a L b d (kCp K K2) e m) := by
  have hp9 := h2.2.2.2.2.2.2.2.2.1
  have hI : ∀ K, IN (vo g a L b d K e m) (a + 6) (a + 1) L K := fun K => vo_I hg ha
  have hJ : ∀ K, IN (vo g a L b d K e m) p l L2 K2 := fun K => IN_o h2 hp hl
  show sg_A MX2_copyFrom 0 [some (.ref (a + 6)), some (.ref p)] [] _ _
  refine at_ld (i := 1) dX2_copyFrom_0 rfl rfl rfl ?_
  refine at_get dX2_copyFrom_1 fX2_9 (hJ _).1 (by omega) rfl ?_
  refine at_k (nI 0) dX2_copyFrom_4 rfl (by decide) ?_
  refine at_ld (i := 0) dX2_copyFrom_5 rfl rfl rfl ?_
  refine at_get dX2_copyFrom_6 fX2_9 (hI _).1 (by omega) rfl ?_
  refine at_k (nI 0) dX2_copyFrom_9 rfl (by decide) ?_
  refine at_k (nI 24) dX2_copyFrom_10 rfl (by decide) ?_
  refine at_copy 24 dX2_copyFrom_12 aX2_34 (hJ _).2.2.1 (hI _).2.2.1 (by omega) (by omega) rfl (by decide) (by decide) (by decide) ⟨by decide, by decide⟩ (by decide) (vo_uk0 _) ?_
  refine at_ld (i := 1) dX2_copyFrom_15 rfl rfl rfl ?_
  refine at_get dX2_copyFrom_16 fX2_15 (hJ _).1 (by omega) rfl ?_
  refine at_k (nI 0) dX2_copyFrom_19 rfl (by decide) ?_
  refine at_ld (i := 0) dX2_copyFrom_20 rfl rfl rfl ?_
  refine at_get dX2_copyFrom_21 fX2_15 (hI _).1 (by omega) rfl ?_
  refine at_k (nI 0) dX2_copyFrom_24 rfl (by decide) ?_
  refine at_k (nI 24) dX2_copyFrom_25 rfl (by decide) ?_
  refine at_copy 24 dX2_copyFrom_27 aX2_34 (hJ _).2.2.2.1 (hI _).2.2.2.1 (by omega) (by omega) rfl (by decide) (by decide) (by decide) ⟨by decide, by decide⟩ (by decide) (vo_uk1 _) ?_
  refine at_ld (i := 1) dX2_copyFrom_30 rfl rfl rfl ?_
  refine at_get dX2_copyFrom_31 fX2_18 (hJ _).1 (by omega) rfl ?_
  refine at_k (nI 0) dX2_copyFrom_34 rfl (by decide) ?_
  refine at_ld (i := 0) dX2_copyFrom_35 rfl rfl rfl ?_
  refine at_get dX2_copyFrom_36 fX2_18 (hI _).1 (by omega) rfl ?_
  refine at_k (nI 0) dX2_copyFrom_39 rfl (by decide) ?_
  refine at_k (nI 24) dX2_copyFrom_40 rfl (by decide) ?_
  refine at_copy 24 dX2_copyFrom_42 aX2_34 (hJ _).2.2.2.2.1 (hI _).2.2.2.2.1 (by omega) (by omega) rfl (by decide) (by decide) (by decide) ⟨by decide, by decide⟩ (by decide) (vo_uk2 _) ?_
  refine at_ld (i := 1) dX2_copyFrom_45 rfl rfl rfl ?_
  refine at_get dX2_copyFrom_46 fX2_21 (hJ _).1 (by omega) rfl ?_
  refine at_k (nI 0) dX2_copyFrom_49 rfl (by decide) ?_
  refine at_ld (i := 0) dX2_copyFrom_50 rfl rfl rfl ?_
  refine at_get dX2_copyFrom_51 fX2_21 (hI _).1 (by omega) rfl ?_
  refine at_k (nI 0) dX2_copyFrom_54 rfl (by decide) ?_
  refine at_k (nI 24) dX2_copyFrom_55 rfl (by decide) ?_
  refine at_copy 24 dX2_copyFrom_57 aX2_34 (hJ _).2.2.2.2.2.1 (hI _).2.2.2.2.2.1 (by omega) (by omega) rfl (by decide) (by decide) (by decide) ⟨by decide, by decide⟩ (by decide) (vo_uk3 _) ?_
  refine at_ld (i := 1) dX2_copyFrom_60 rfl rfl rfl ?_
  refine at_get dX2_copyFrom_61 fX2_24 (hJ _).1 (by omega) rfl ?_
  refine at_k (nI 0) dX2_copyFrom_64 rfl (by decide) ?_
  refine at_ld (i := 0) dX2_copyFrom_65 rfl rfl rfl ?_
  refine at_get dX2_copyFrom_66 fX2_24 (hI _).1 (by omega) rfl ?_
  refine at_k (nI 0) dX2_copyFrom_69 rfl (by decide) ?_
  refine at_k (nI 24) dX2_copyFrom_70 rfl (by decide) ?_
  refine at_copy 24 dX2_copyFrom_72 aX2_34 (hJ _).2.2.2.2.2.2.1 (hI _).2.2.2.2.2.2.1 (by omega) (by omega) rfl (by decide) (by decide) (by decide) ⟨by decide, by decide⟩ (by decide) (vo_uk4 _) ?_
  refine at_ld (i := 1) dX2_copyFrom_75 rfl rfl rfl ?_
  refine at_get dX2_copyFrom_76 fX2_27 (hJ _).1 (by omega) rfl ?_
  refine at_k (nI 0) dX2_copyFrom_79 rfl (by decide) ?_
  refine at_ld (i := 0) dX2_copyFrom_80 rfl rfl rfl ?_
  refine at_get dX2_copyFrom_81 fX2_27 (hI _).1 (by omega) rfl ?_
  refine at_k (nI 0) dX2_copyFrom_84 rfl (by decide) ?_
  refine at_k (nI 240) dX2_copyFrom_85 rfl (by decide) ?_
  refine at_copy 240 dX2_copyFrom_88 aX2_34 (hJ _).2.2.2.2.2.2.2.1 (hI _).2.2.2.2.2.2.2.1 (by omega) (by omega) rfl (by decide) (by decide) (by decide) ⟨by decide, by decide⟩ (by decide) (vo_uk5 _) ?_
  refine at_vret dX2_copyFrom_91 rfl ?_
  exact ⟨rfl, rfl⟩
end C9a
/-- m blocks of an inode, from the k-th on, become free or not -/
def fbq (v : Nat → Nat) (i : Nat) (f : Bool) : Nat → Nat → (Nat → Bool) → (Nat → Bool)
  | 0, _, q => q
  | m + 1, k, q => fbq v i f m (k + 1) (setq q (4 * io v i (5 + k)) 4 f)
theorem fbq_t (v : Nat → Nat) (i : Nat) (f : Bool) (x : Nat) : ∀ m k q, ((∃ j, k ≤ j ∧ j < k + m ∧ x / 4 = io v i (5 + j)) ∨ q x = f) → fbq v i f m k q x = f := by
  intro m
  induction m with
  | zero =>
    intro k q h
    rcases h with ⟨j, h1, h2, -⟩ | h
    · omega
    · exact h
  | succ m ih =>
    intro k q h
    refine ih (k + 1) _ ?_
    by_cases e : x / 4 = io v i (5 + k)
    · right
      unfold setq
      rw [if_pos (by omega)]
    · rcases h with ⟨j, h1, h2, h3⟩ | h
      · left
        refine ⟨j, ?_, by omega, h3⟩
        rcases Nat.lt_or_ge k j with z | z
        · exact z
        · rw [show j = k by omega] at h3; exact absurd h3 e
      · right
        unfold setq
        rw [if_neg (by omega)]
        exact h
theorem fbq_f (v : Nat → Nat) (i : Nat) (f : Bool) (x : Nat) : ∀ m k q, (∀ j, k ≤ j → j < k + m → ¬ x / 4 = io v i (5 + j)) → fbq v i f m k q x = q x := by
  intro m
  induction m with
  | zero => intro k q h; rfl
  | succ m ih =>
    intro k q h
    have h0 := h k (Nat.le_refl _) (by omega)
    show fbq v i f m (k + 1) _ x = _
    rw [ih (k + 1) _ (fun j h1 h2 => h j (by omega) (by omega))]
    unfold setq
    rw [if_neg (by omega)]
/-- what an inode has, from block k on, becomes free or not -/
def paq (v : Nat → Nat) (i k : Nat) (f : Bool) (q : Nat → Bool) : Nat → Bool := if sz v i % 4 = 0 then fbq v i f (sz v i / 4 - k) k q else setq (fbq v i f (sz v i / 4 - k) k q) (io v i 4) (sz v i % 4) f
theorem paq_0 (v : Nat → Nat) (i : Nat) (f : Bool) (q : Nat → Bool) (x : Nat) : paq v i 0 f q x = if hasF v i x = true then f else q x := by
  rw [hasF_sz]
  unfold paq
  by_cases ht : 0 < sz v i % 4 ∧ io v i 4 ≤ x ∧ x < io v i 4 + sz v i % 4
  · rw [if_neg (by omega), decide_eq_true ht, Bool.true_or, if_pos rfl]
    unfold setq
    rw [if_pos ht.2]
  · rw [decide_eq_false ht, Bool.false_or]
    have e : (if sz v i % 4 = 0 then fbq v i f (sz v i / 4 - 0) 0 q else setq (fbq v i f (sz v i / 4 - 0) 0 q) (io v i 4) (sz v i % 4) f) x = fbq v i f (sz v i / 4) 0 q x := by
      split
      · rfl
      · unfold setq
        rw [if_neg (by omega)]
        rfl
    rw [e]
    cases hA : anyB (fun k => decide (x / 4 = io v i (5 + k))) (sz v i / 4) with
    | true =>
      obtain ⟨j, h1, h2⟩ := anyB_ex _ hA
      rw [if_pos rfl]
      exact fbq_t _ _ _ _ _ _ _ (Or.inl ⟨j, by omega, by omega, of_decide_eq_true h2⟩)
    | false =>
      rw [if_neg (by decide)]
      refine fbq_f _ _ _ _ _ _ _ (fun j h1 h2 h3 => ?_)
      rw [anyB_t _ j (by omega) (decide_eq_true h3)] at hA
      cases hA
theorem IN_u {g : sg_H} {p l m : Nat} {v : Nat → Nat} {K : Nat → Nat → Int32} (h : IN g p l v K) (x : sg_E) (h2 : m ≠ l) (h3 : m < p ∨ p + 6 < m) : IN (sg_up g m x) p l v K := ⟨up_n h.1 _ (by omega), up_n h.2.1 _ (by omega), up_n h.2.2.1 _ (by omega), up_n h.2.2.2.1 _ (by omega), up_n h.2.2.2.2.1 _ (by omega), up_n h.2.2.2.2.2.1 _ (by omega), up_n h.2.2.2.2.2.2.1 _ (by omega), up_n h.2.2.2.2.2.2.2.1 _ (by omega), h.2.2.2.2.2.2.2.2⟩
set_option maxRecDepth 100000 in
theorem k_putAllOf {g : sg_H} {a l p m l2 : Nat} {v v2 : Nat → Nat} {K : Nat → Nat → Int32} {b : Nat → Int32} {q : Nat → Bool} {x0 x1 x2 x4 x5 : Value} (hV : sg_at g a (.inr (6, [x0, x1, x2, .ref p, x4, x5]))) (ha : a < 900) (hI : IN g p l v K) (hR : iR v K) (w : wf v) (wt : wfT v) (hF : FM g m l2 v2 b) (hb : mbq q b) (h1 : m + 1 ≠ a) (h2 : m + 1 ≠ l) (h3 : m + 1 < p ∨ p + 6 < m + 1) (i k0 : Nat) (hi : i < 24) (hk0 : k0 ≤ sz v i / 4) (f : Bool) : sg_K MX6_putAllOf [.ref a, .int (nI i), .int (nI k0), .ref m, .int (bI f)] g (fun r h' => r = none ∧ ∃ b', h' = sg_up g (m + 1) (.inl (false, 32, b')) ∧ mbq (paq v i k0 f q) b') := by
  have hp9 := hI.2.2.2.2.2.2.2.2.1
  have hm9 := hF.2.2.2.1
  have hs := sz_le w hi
  obtain ⟨-, -, w4, wb⟩ := w.2.2 i hi
  have wti := wt i hi
  show sg_A MX6_putAllOf 0 [some (.ref a), some (.int (nI i)), some (.int (nI k0)), some (.ref m), some (.int (bI f)), none] [] _ _
  refine at_ld (i := 2) dX6_putAllOf_0 rfl rfl rfl ?_
  refine at_st (i := 5) dX6_putAllOf_1 rfl rfl (Nat.le_of_ble_eq_true rfl) rfl ?_
  try dsimp only [List.set_cons_succ, List.set_cons_zero]
  have loop : ∀ n k b1 q1, k + n = sz v i / 4 → mbq q1 b1 → sg_A MX6_putAllOf 3 [some (.ref a), some (.int (nI i)), some (.int (nI k0)), some (.ref m), some (.int (bI f)), some (.int (nI k))] [] (sg_up g (m + 1) (.inl (false, 32, b1))) (fun r h' => r = none ∧ ∃ b', h' = sg_up g (m + 1) (.inl (false, 32, b')) ∧ mbq (if sz v i % 4 = 0 then fbq v i f n k q1 else setq (fbq v i f n k q1) (io v i 4) (sz v i % 4) f) b') := by
    intro n
    induction n with
    | zero =>
      intro k b1 q1 hk hq
      have hV1 := up_n hV (.inl (false, 32, b1)) (Ne.symm h1)
      have hI1 := IN_u hI (.inl (false, 32, b1)) h2 h3
      have hF1 := FM_u hF b1
      refine at_ld (i := 5) dX6_putAllOf_3 rfl rfl rfl ?_
      refine at_ld (i := 0) dX6_putAllOf_5 rfl rfl rfl ?_
      refine at_get dX6_putAllOf_6 fX6_33 hV1 (by omega) rfl ?_
      refine at_ld (i := 1) dX6_putAllOf_9 rfl rfl rfl ?_
      refine at_rv [_] dX6_putAllOf_10 mX2_blocksOf ⟨Nat.le_of_ble_eq_true rfl, Nat.le_of_ble_eq_true rfl⟩ lX6_71 iX2_blocksOf rfl rfl hI1.1 (by omega) rfl (Nat.le_of_ble_eq_true rfl) (Nat.le_of_ble_eq_true rfl) ⟨rfl, rfl⟩ (k_blocksOf hI1 hR w i hi) ?_
      refine at_ige 41 dX6_putAllOf_13 (by decide) (fun c => ?_) (fun c => ?_)
      · refine at_ld (i := 3) dX6_putAllOf_41 rfl rfl rfl ?_
        refine at_ld (i := 0) dX6_putAllOf_42 rfl rfl rfl ?_
        refine at_get dX6_putAllOf_43 fX6_33 hV1 (by omega) rfl ?_
        refine at_ld (i := 1) dX6_putAllOf_46 rfl rfl rfl ?_
        refine at_rv [_] dX6_putAllOf_47 mX2_tailOf ⟨Nat.le_of_ble_eq_true rfl, Nat.le_of_ble_eq_true rfl⟩ lX6_83 iX2_tailOf rfl rfl hI1.1 (by omega) rfl (Nat.le_of_ble_eq_true rfl) (Nat.le_of_ble_eq_true rfl) ⟨rfl, rfl⟩ (k_tailOf hI1 hR i hi) ?_
        refine at_ld (i := 0) dX6_putAllOf_50 rfl rfl rfl ?_
        refine at_get dX6_putAllOf_51 fX6_33 hV1 (by omega) rfl ?_
        refine at_ld (i := 1) dX6_putAllOf_54 rfl rfl rfl ?_
        refine at_rv [_] dX6_putAllOf_55 mX2_tailLengthOf ⟨Nat.le_of_ble_eq_true rfl, Nat.le_of_ble_eq_true rfl⟩ lX6_86 iX2_tailLengthOf rfl rfl hI1.1 (by omega) rfl (Nat.le_of_ble_eq_true rfl) (Nat.le_of_ble_eq_true rfl) ⟨rfl, rfl⟩ (k_tailLengthOf hI1 hR w i hi) ?_
        refine at_ld (i := 4) dX6_putAllOf_58 rfl rfl rfl ?_
        by_cases ht : sz v i % 4 = 0
        · rw [if_pos ht]
          have et : tlI v i = -4 := if_pos ht
          rw [et]
          refine at_wv [_, _, _] dX6_putAllOf_60 mX1_put ⟨Nat.le_of_ble_eq_true rfl, Nat.le_of_ble_eq_true rfl⟩ lX6_79 iX1_put rfl rfl hF1.1 (by omega) rfl (Nat.le_of_ble_eq_true rfl) (Nat.le_of_ble_eq_true rfl) ⟨rfl, rfl⟩ (k_putN hF1 (-4) (nI (sz v i % 4)) f (by decide)) ⟨rfl, rfl⟩ ?_
          try dsimp only [Option.toList, List.cons_append, List.nil_append]
          refine at_vret dX6_putAllOf_63 rfl ?_
          exact ⟨rfl, b1, rfl, hq⟩
        · rw [if_neg ht]
          have et : tlI v i = nI (io v i 4) := if_neg ht
          rw [et]
          have ez : sz v i = io v i 3 := by
            refine sz_t (fun z => ?_)
            rw [show sz v i = 0 from if_pos z] at ht
            exact ht rfl
          have hfit : io v i 4 % 4 + sz v i % 4 ≤ 4 := by rw [ez]; exact wti
          have kp := k_put hF1 (io v i 4) (sz v i % 4) f w4 hfit
          rw [up_up] at kp
          refine at_wv [_, _, _] dX6_putAllOf_60 mX1_put ⟨Nat.le_of_ble_eq_true rfl, Nat.le_of_ble_eq_true rfl⟩ lX6_79 iX1_put rfl rfl hF1.1 (by omega) rfl (Nat.le_of_ble_eq_true rfl) (Nat.le_of_ble_eq_true rfl) ⟨rfl, rfl⟩ (kp) ⟨rfl, rfl⟩ ?_
          try dsimp only [Option.toList, List.cons_append, List.nil_append]
          refine at_vret dX6_putAllOf_63 rfl ?_
          exact ⟨rfl, _, rfl, mbq_put hq w4 hfit f⟩
      · exact absurd (nI_le (by omega) (by omega)) c
    | succ n ih =>
      intro k b1 q1 hk hq
      have hV1 := up_n hV (.inl (false, 32, b1)) (Ne.symm h1)
      have hI1 := IN_u hI (.inl (false, 32, b1)) h2 h3
      have hF1 := FM_u hF b1
      have hbl := wb k (by omega)
      have kp := k_put hF1 (4 * io v i (5 + k)) 4 f (by omega) (by omega)
      rw [up_up] at kp
      refine at_ld (i := 5) dX6_putAllOf_3 rfl rfl rfl ?_
      refine at_ld (i := 0) dX6_putAllOf_5 rfl rfl rfl ?_
      refine at_get dX6_putAllOf_6 fX6_33 hV1 (by omega) rfl ?_
      refine at_ld (i := 1) dX6_putAllOf_9 rfl rfl rfl ?_
      refine at_rv [_] dX6_putAllOf_10 mX2_blocksOf ⟨Nat.le_of_ble_eq_true rfl, Nat.le_of_ble_eq_true rfl⟩ lX6_71 iX2_blocksOf rfl rfl hI1.1 (by omega) rfl (Nat.le_of_ble_eq_true rfl) (Nat.le_of_ble_eq_true rfl) ⟨rfl, rfl⟩ (k_blocksOf hI1 hR w i hi) ?_
      refine at_ige 41 dX6_putAllOf_13 (by decide) (fun c => ?_) (fun c => ?_)
      · exact absurd c (nI_ge (by omega) (by omega))
      · refine at_ld (i := 3) dX6_putAllOf_16 rfl rfl rfl ?_
        refine at_ld (i := 0) dX6_putAllOf_17 rfl rfl rfl ?_
        refine at_get dX6_putAllOf_18 fX6_33 hV1 (by omega) rfl ?_
        refine at_ld (i := 1) dX6_putAllOf_21 rfl rfl rfl ?_
        refine at_ld (i := 5) dX6_putAllOf_22 rfl rfl rfl ?_
        refine at_rv [_, _] dX6_putAllOf_24 mX2_blockAt ⟨Nat.le_of_ble_eq_true rfl, Nat.le_of_ble_eq_true rfl⟩ lX6_75 iX2_blockAt rfl rfl hI1.1 (by omega) rfl (Nat.le_of_ble_eq_true rfl) (Nat.le_of_ble_eq_true rfl) ⟨rfl, rfl⟩ (k_blockAt hI1 hR i k hi (by omega) (by omega)) ?_
        refine at_k (nI 4) dX6_putAllOf_27 rfl (by decide) ?_
        refine at_bin dX6_putAllOf_28 rfl ?_
        try dsimp only
        rw [nI_mul, Nat.mul_comm]
        refine at_k (nI 4) dX6_putAllOf_29 rfl (by decide) ?_
        refine at_ld (i := 4) dX6_putAllOf_30 rfl rfl rfl ?_
        refine at_wv [_, _, _] dX6_putAllOf_32 mX1_put ⟨Nat.le_of_ble_eq_true rfl, Nat.le_of_ble_eq_true rfl⟩ lX6_79 iX1_put rfl rfl hF1.1 (by omega) rfl (Nat.le_of_ble_eq_true rfl) (Nat.le_of_ble_eq_true rfl) ⟨rfl, rfl⟩ (kp) ⟨rfl, rfl⟩ ?_
        try dsimp only [Option.toList, List.cons_append, List.nil_append]
        refine at_iinc (nI 1) dX6_putAllOf_35 rfl rfl (by decide) ?_
        try dsimp only [List.set_cons_succ, List.set_cons_zero]
        refine at_goto 3 dX6_putAllOf_38 (by decide) ?_
        rw [nI_add]
        exact ih (k + 1) _ _ (by omega) (mbq_put hq (by omega) (by omega) f)
  have := loop (sz v i / 4 - k0) k0 b q (by omega) hb
  rw [up_self hF.2.2.1] at this
  exact this
/-- the map as it is due -/
def duq (v : Nat → Nat) (k x : Nat) : Bool := fAll v x && !(anyB (fun i => hasF v i x) k)
def due (v : Nat → Nat) (x : Nat) : Bool := decide (x < 4 * (v 0 * v 1)) && (own v x).isNone
theorem own_none (v : Nat → Nat) (x : Nat) : (own v x).isNone = !(anyB (fun i => hasF v i x) (v 0 * v 2)) := by
  cases hA : anyB (fun i => hasF v i x) (v 0 * v 2) with
  | true =>
    obtain ⟨j, h1, h2⟩ := anyB_ex _ hA
    obtain ⟨y, hy⟩ := sr_ex (f := fun i => if hasF v i x = true then some i else none) (v 0 * v 2) 0 j (by omega) (by omega) (by simp only [h2, if_true]; rfl)
    show (own v x).isNone = false
    unfold own
    rw [hy]
    rfl
  | false =>
    show (own v x).isNone = true
    unfold own
    rw [srch_none]
    · rfl
    · intro j _ hj
      refine if_neg (fun z => ?_)
      rw [anyB_t _ j (by omega) z] at hA
      cases hA
theorem due_e (v : Nat → Nat) (x : Nat) : duq v (v 0 * v 2) x = due v x := by
  unfold duq due fAll
  rw [own_none]
section C9
variable {g : sg_H} {a : Nat} {v : Nat → Nat} {b d : Nat → Int32} {K : Nat → Nat → Int32} {e m : Int32}
set_option maxRecDepth 100000 in
theorem k_findMapDue (hg : a + 13 ≤ g.1) (ha : a < 800) (hR : iR v K) (w : wf v) (wt : wfT v) : sg_K MX6_findMapDue [.ref a] (vo g a v b d K e m) (fun r h' => r = none ∧ ∃ d', h' = vo g a v b d' K e m ∧ mbq (due v) d') := by
  have hgi := wf_gi w.1
  obtain ⟨d0, kf, hd0⟩ := k_freeAll (vo_D (L := v) (b := b) (d := d) (K := K) (e := e) (m := m) hg ha) w.1
  rw [vo_ud1] at kf
  have hV : ∀ d, sg_at (vo g a v b d K e m) a (.inr (6, [.ref (a + 1), .ref (a + 2), .ref (a + 4), .ref (a + 6), .int e, .int m])) := fun d => vo_V hg
  have hY : ∀ d, sg_at (vo g a v b d K e m) (a + 1) (.inr (3, lay v)) := fun d => vo_Y hg
  have hD : ∀ d, FM (vo g a v b d K e m) (a + 4) (a + 1) v d := fun d => vo_D hg ha
  show sg_A MX6_findMapDue 0 [some (.ref a), none] [] _ _
  refine at_ld (i := 0) dX6_findMapDue_0 rfl rfl rfl ?_
  refine at_get dX6_findMapDue_1 fX6_27 (hV _) (by omega) rfl ?_
  refine at_wv [] dX6_findMapDue_4 mX1_freeAll ⟨Nat.le_of_ble_eq_true rfl, Nat.le_of_ble_eq_true rfl⟩ lX6_89 iX1_freeAll rfl rfl (hD _).1 (by omega) rfl (Nat.le_of_ble_eq_true rfl) (Nat.le_of_ble_eq_true rfl) ⟨rfl, rfl⟩ (kf) ⟨rfl, rfl⟩ ?_
  try dsimp only [Option.toList, List.cons_append, List.nil_append]
  refine at_k (nI 0) dX6_findMapDue_7 rfl (by decide) ?_
  refine at_st (i := 1) dX6_findMapDue_8 rfl rfl (Nat.le_of_ble_eq_true rfl) rfl ?_
  try dsimp only [List.set_cons_succ, List.set_cons_zero]
  have loop : ∀ n k d1, k + n = v 0 * v 2 → mbq (duq v k) d1 → sg_A MX6_findMapDue 9 [some (.ref a), some (.int (nI k))] [] (vo g a v b d1 K e m) (fun r h' => r = none ∧ ∃ d', h' = vo g a v b d' K e m ∧ mbq (due v) d') := by
    intro n
    induction n with
    | zero =>
      intro k d1 hk hq
      refine at_ld (i := 1) dX6_findMapDue_9 rfl rfl rfl ?_
      refine at_ld (i := 0) dX6_findMapDue_10 rfl rfl rfl ?_
      refine at_get dX6_findMapDue_11 fX6_12 (hV _) (by omega) rfl ?_
      refine at_rv [] dX6_findMapDue_14 mX3_allInodes ⟨Nat.le_of_ble_eq_true rfl, Nat.le_of_ble_eq_true rfl⟩ lX6_92 iX3_allInodes rfl rfl (hY _) (by omega) rfl (Nat.le_of_ble_eq_true rfl) (Nat.le_of_ble_eq_true rfl) ⟨rfl, rfl⟩ (k_allInodes (hY _) (by omega)) ?_
      refine at_ige 37 dX6_findMapDue_17 (by decide) (fun c => ?_) (fun c => ?_)
      · refine at_vret dX6_findMapDue_37 rfl ?_
        refine ⟨rfl, d1, rfl, ?_⟩
        refine mbq_e (fun x _ => ?_) hq
        rw [show k = v 0 * v 2 by omega, due_e]
      · exact absurd (nI_le (by omega) (by omega)) c
    | succ n ih =>
      intro k d1 hk hq
      refine at_ld (i := 1) dX6_findMapDue_9 rfl rfl rfl ?_
      refine at_ld (i := 0) dX6_findMapDue_10 rfl rfl rfl ?_
      refine at_get dX6_findMapDue_11 fX6_12 (hV _) (by omega) rfl ?_
      refine at_rv [] dX6_findMapDue_14 mX3_allInodes ⟨Nat.le_of_ble_eq_true rfl, Nat.le_of_ble_eq_true rfl⟩ lX6_92 iX3_allInodes rfl rfl (hY _) (by omega) rfl (Nat.le_of_ble_eq_true rfl) (Nat.le_of_ble_eq_true rfl) ⟨rfl, rfl⟩ (k_allInodes (hY _) (by omega)) ?_
      refine at_ige 37 dX6_findMapDue_17 (by decide) (fun c => ?_) (fun c => ?_)
      · exact absurd c (nI_ge (by omega) (by omega))
      · refine at_ld (i := 0) dX6_findMapDue_20 rfl rfl rfl ?_
        refine at_ld (i := 1) dX6_findMapDue_21 rfl rfl rfl ?_
        refine at_k (nI 0) dX6_findMapDue_22 rfl (by decide) ?_
        refine at_ld (i := 0) dX6_findMapDue_23 rfl rfl rfl ?_
        refine at_get dX6_findMapDue_24 fX6_27 (hV _) (by omega) rfl ?_
        refine at_k (nI 0) dX6_findMapDue_27 rfl (by decide) ?_
        refine at_cv [_, _, _, _] dX6_findMapDue_28 mX6_putAllOf ⟨Nat.le_of_ble_eq_true rfl, Nat.le_of_ble_eq_true rfl⟩ lX6_96 iX6_putAllOf rfl rfl (hV _) (by omega) rfl (Nat.le_of_ble_eq_true rfl) (Nat.le_of_ble_eq_true rfl) (k_putAllOf (hV _) (by omega) (vo_I hg ha) hR w wt (hD _) hq (by omega) (by omega) (by omega) k 0 (by omega) (by omega) false) ?_ ?_
        · rintro r h1 ⟨-, b', rfl, -⟩
          exact ⟨rfl, rfl⟩
        · rintro r h1 ⟨rfl, b', rfl, hq'⟩
          rw [vo_ud1]
          refine at_iinc (nI 1) dX6_findMapDue_31 rfl rfl (by decide) ?_
          try dsimp only [List.set_cons_succ, List.set_cons_zero]
          refine at_goto 9 dX6_findMapDue_34 (by decide) ?_
          rw [nI_add]
          refine ih (k + 1) b' (by omega) (mbq_e (fun x _ => ?_) hq')
          rw [paq_0]
          unfold duq
          simp only [anyB]
          by_cases z : hasF v k x = true
          · rw [if_pos z, z]; simp
          · rw [if_neg z, show hasF v k x = false by cases q : hasF v k x; rfl; exact absurd q z]; simp
  refine loop (v 0 * v 2) 0 d0 (by omega) (mbq_e (fun x _ => ?_) hd0)
  unfold duq
  simp [anyB]
end C9
