/-! THE CLASS: a volume's map, whether it is spoilt, what is wrong, mended; a volume copied -/
def wfo (v : Nat → Nat) : Prop := ∀ x, 4 * (v 0 * v 1) ≤ x → x < 128 → fr v x = false
theorem b4_inj : ∀ a b c d a' b' c' d' : Bool, b4 a b c d = b4 a' b' c' d' → a = a' ∧ b = b' ∧ c = c' ∧ d = d' := by decide +kernel
theorem bq_inj {p q : Nat → Bool} {k : Nat} (h : nI (bq p k) = nI (bq q k)) : ∀ j, j < 4 → p (4 * k + j) = q (4 * k + j) := by
  have h2 := (nI_eq (by have := bq_lt p k; omega) (by have := bq_lt q k; omega)).mp h
  obtain ⟨h3, h4, h5, h6⟩ := b4_inj _ _ _ _ _ _ _ _ h2
  intro j hj
  rcases (show j = 0 ∨ j = 1 ∨ j = 2 ∨ j = 3 by omega) with rfl | rfl | rfl | rfl
  · exact h3
  · exact h4
  · exact h5
  · exact h6
theorem spt_f {v : Nat → Nat} (wo : wfo v) (h : spt v = false) {x : Nat} (hx : x < 128) : fr v x = due v x := by
  unfold due
  rcases Nat.lt_or_ge x (4 * (v 0 * v 1)) with z | z
  · rw [decide_eq_true z, Bool.true_and]
    cases e : (fr v x != (own v x).isNone) with
    | false => simpa using e
    | true =>
      unfold spt at h
      rw [anyB_t _ x (by rw [fragI]; exact z) e] at h
      cases h
  · rw [decide_eq_false (by omega), Bool.false_and]
    exact wo x z hx
theorem spt_t {v : Nat → Nat} (w : wfg v) (h : ∀ x, x < 128 → fr v x = due v x) : spt v = false := by
  have hgb := wf_gb w
  refine anyB_f _ (fun x hx => ?_)
  rw [fragI] at hx
  rw [h x (by omega)]
  unfold due
  rw [decide_eq_true hx, Bool.true_and]
  simp
def wrg (v : Nat → Nat) (f : Bool) (x : Nat) : Bool := if f = true then fr v x && !due v x else due v x && !fr v x
theorem b4_an : ∀ a b c d a' b' c' d' : Bool, nI (b4 a b c d) &&& (nI (b4 a' b' c' d') ^^^ -1) = nI (b4 (a && !a') (b && !b') (c && !c') (d && !d')) := by decide +kernel
theorem bq_an (p q : Nat → Bool) (k : Nat) : nI (bq p k) &&& (nI (bq q k) ^^^ -1) = nI (bq (fun x => p x && !q x) k) := b4_an _ _ _ _ _ _ _ _
theorem cnt_z {p : Nat → Bool} : ∀ n, (∀ k, k < n → p k = false) → cnt p n = 0 := by
  intro n
  induction n with
  | zero => intro _; rfl
  | succ n ih => intro h; simp only [cnt]; rw [ih (fun k hk => h k (by omega)), h n (by omega)]; rfl
theorem wrg_c {v : Nat → Nat} (w : wfg v) (wo : wfo v) (f : Bool) : cnt (wrg v f) 128 = cnt (fun x => if f = true then fr v x && (own v x).isSome else !fr v x && (own v x).isNone) (4 * v 0 * v 1) := by
  have hgb := wf_gb w
  rw [fragI, show 128 = 4 * (v 0 * v 1) + (128 - 4 * (v 0 * v 1)) by omega, cnt_add, cnt_z (p := fun k => wrg v f (4 * (v 0 * v 1) + k)), Nat.add_zero]
  · refine cnt_eq _ (fun k hk => ?_)
    unfold wrg due
    rw [decide_eq_true hk, Bool.true_and]
    cases f with
    | true =>
      rw [if_pos rfl, if_pos rfl]
      cases own v k <;> rfl
    | false =>
      rw [if_neg (by decide), if_neg (by decide), Bool.and_comm]
  · intro k hk
    unfold wrg due
    rw [decide_eq_false (by omega), Bool.false_and, wo _ (by omega) (by omega)]
    cases f <;> rfl
theorem cnt_2 {p q r : Nat → Bool} (h : ∀ x, (if p x = true then 1 else 0) + (if q x = true then 1 else 0) = (if r x = true then 1 else 0 : Nat)) : ∀ n, cnt p n + cnt q n = cnt r n := by
  intro n
  induction n with
  | zero => rfl
  | succ n ih =>
    have := h n
    simp only [cnt]
    omega
theorem wrg_s {v : Nat → Nat} (w : wfg v) (wo : wfo v) : cnt (wrg v true) 128 + cnt (wrg v false) 128 = cnt (fun x => fr v x != (own v x).isNone) (4 * v 0 * v 1) := by
  rw [wrg_c w wo, wrg_c w wo]
  refine cnt_2 (fun x => ?_) _
  cases fr v x <;> cases own v x <;> rfl
section C10
variable {g : sg_H} {a : Nat} {v : Nat → Nat} {b d : Nat → Int32} {K : Nat → Nat → Int32} {e m : Int32}
set_option maxRecDepth 100000 in
theorem k_isSpoilt (hg : a + 13 ≤ g.1) (ha : a < 800) (hb : mbq (fr v) b) (hR : iR v K) (w : wf v) (wt : wfT v) (wo : wfo v) : sg_K MX6_isSpoilt [.ref a] (vo g a v b d K e m) (fun r h' => r = some (.int (bI (spt v))) ∧ ∃ d', h' = vo g a v b d' K e m) := by
  have hV : ∀ d, sg_at (vo g a v b d K e m) a (.inr (6, [.ref (a + 1), .ref (a + 2), .ref (a + 4), .ref (a + 6), .int e, .int m])) := fun d => vo_V hg
  have hF : ∀ d, FM (vo g a v b d K e m) (a + 2) (a + 1) v b := fun d => vo_F hg ha
  have hD : ∀ d, FM (vo g a v b d K e m) (a + 4) (a + 1) v d := fun d => vo_D hg ha
  show sg_A MX6_isSpoilt 0 [some (.ref a), none] [] _ _
  refine at_ld (i := 0) dX6_isSpoilt_0 rfl rfl rfl ?_
  refine at_cv [] dX6_isSpoilt_1 mX6_findMapDue ⟨Nat.le_of_ble_eq_true rfl, Nat.le_of_ble_eq_true rfl⟩ lX6_100 iX6_findMapDue rfl rfl (hV _) (by omega) rfl (Nat.le_of_ble_eq_true rfl) (Nat.le_of_ble_eq_true rfl) (k_findMapDue hg ha hR w wt) ?_ ?_
  · rintro r h1 ⟨-, d', rfl, -⟩
    exact ⟨rfl, rfl⟩
  · rintro r h1 ⟨rfl, d', rfl, hd⟩
    refine at_k (nI 0) dX6_isSpoilt_4 rfl (by decide) ?_
    refine at_st (i := 1) dX6_isSpoilt_5 rfl rfl (Nat.le_of_ble_eq_true rfl) rfl ?_
    try dsimp only [List.set_cons_succ, List.set_cons_zero]
    have loop : ∀ n k, k + n = 32 → (∀ x, x < 4 * k → fr v x = due v x) → sg_A MX6_isSpoilt 6 [some (.ref a), some (.int (nI k))] [] (vo g a v b d' K e m) (fun r h' => r = some (.int (bI (spt v))) ∧ ∃ d', h' = vo g a v b d' K e m) := by
      intro n
      induction n with
      | zero =>
        intro k hk hall
        refine at_ld (i := 1) dX6_isSpoilt_6 rfl rfl rfl ?_
        refine at_k (nI 32) dX6_isSpoilt_7 rfl (by decide) ?_
        refine at_ige 39 dX6_isSpoilt_9 (by decide) (fun c => ?_) (fun c => ?_)
        · refine at_k (nI 0) dX6_isSpoilt_39 rfl (by decide) ?_
          refine at_ret dX6_isSpoilt_40 rfl rfl ?_
          rw [spt_t w.1 (fun x hx => hall x (by omega))]
          exact ⟨rfl, d', rfl⟩
        · exact absurd (nI_le (by omega) (by omega)) c
      | succ n ih =>
        intro k hk hall
        refine at_ld (i := 1) dX6_isSpoilt_6 rfl rfl rfl ?_
        refine at_k (nI 32) dX6_isSpoilt_7 rfl (by decide) ?_
        refine at_ige 39 dX6_isSpoilt_9 (by decide) (fun c => ?_) (fun c => ?_)
        · exact absurd c (nI_ge (by omega) (by decide))
        · refine at_ld (i := 0) dX6_isSpoilt_12 rfl rfl rfl ?_
          refine at_get dX6_isSpoilt_13 fX6_23 (hV _) (by omega) rfl ?_
          refine at_ld (i := 1) dX6_isSpoilt_16 rfl rfl rfl ?_
          refine at_rv [_] dX6_isSpoilt_17 mX1_bitsOf ⟨Nat.le_of_ble_eq_true rfl, Nat.le_of_ble_eq_true rfl⟩ lX6_103 iX1_bitsOf rfl rfl (hF _).1 (by omega) rfl (Nat.le_of_ble_eq_true rfl) (Nat.le_of_ble_eq_true rfl) ⟨rfl, rfl⟩ (k_bitsOf (hF _) hb k (by omega)) ?_
          refine at_ld (i := 0) dX6_isSpoilt_20 rfl rfl rfl ?_
          refine at_get dX6_isSpoilt_21 fX6_27 (hV _) (by omega) rfl ?_
          refine at_ld (i := 1) dX6_isSpoilt_24 rfl rfl rfl ?_
          refine at_rv [_] dX6_isSpoilt_25 mX1_bitsOf ⟨Nat.le_of_ble_eq_true rfl, Nat.le_of_ble_eq_true rfl⟩ lX6_103 iX1_bitsOf rfl rfl (hD _).1 (by omega) rfl (Nat.le_of_ble_eq_true rfl) (Nat.le_of_ble_eq_true rfl) ⟨rfl, rfl⟩ (k_bitsOf (hD _) hd k (by omega)) ?_
          refine at_ieq 33 dX6_isSpoilt_28 (by decide) (fun c1 => ?_) (fun c1 => ?_)
          · refine at_iinc (nI 1) dX6_isSpoilt_33 rfl rfl (by decide) ?_
            try dsimp only [List.set_cons_succ, List.set_cons_zero]
            refine at_goto 6 dX6_isSpoilt_36 (by decide) ?_
            rw [nI_add]
            refine ih (k + 1) (by omega) (fun x hx => ?_)
            rcases Nat.lt_or_ge x (4 * k) with z | z
            · exact hall x z
            · have := bq_inj c1 (x - 4 * k) (by omega)
              rw [show 4 * k + (x - 4 * k) = x by omega] at this
              exact this
          · refine at_k (nI 1) dX6_isSpoilt_31 rfl (by decide) ?_
            refine at_ret dX6_isSpoilt_32 rfl rfl ?_
            have : spt v = true := by
              cases q : spt v with
              | true => rfl
              | false => exact absurd (congrArg nI (bq_e (fun j hj => spt_f wo q (by omega)))) c1
            rw [this]
            exact ⟨rfl, d', rfl⟩
    exact loop 32 0 (by omega) (fun x hx => by omega)
set_option maxRecDepth 100000 in
theorem k_wrongs (hg : a + 13 ≤ g.1) (ha : a < 800) (hb : mbq (fr v) b) (hR : iR v K) (w : wf v) (wt : wfT v) (f : Bool) : sg_K MX6_wrongs [.ref a, .int (bI f)] (vo g a v b d K e m) (fun r h' => r = some (.int (nI (cnt (wrg v f) 128))) ∧ ∃ d', h' = vo g a v b d' K e m) := by
  have hV : ∀ d, sg_at (vo g a v b d K e m) a (.inr (6, [.ref (a + 1), .ref (a + 2), .ref (a + 4), .ref (a + 6), .int e, .int m])) := fun d => vo_V hg
  have hF : ∀ d, FM (vo g a v b d K e m) (a + 2) (a + 1) v b := fun d => vo_F hg ha
  have hD : ∀ d, FM (vo g a v b d K e m) (a + 4) (a + 1) v d := fun d => vo_D hg ha
  show sg_A MX6_wrongs 0 [some (.ref a), some (.int (bI f)), none, none, none] [] _ _
  refine at_ld (i := 0) dX6_wrongs_0 rfl rfl rfl ?_
  refine at_cv [] dX6_wrongs_1 mX6_findMapDue ⟨Nat.le_of_ble_eq_true rfl, Nat.le_of_ble_eq_true rfl⟩ lX6_100 iX6_findMapDue rfl rfl (hV _) (by omega) rfl (Nat.le_of_ble_eq_true rfl) (Nat.le_of_ble_eq_true rfl) (k_findMapDue hg ha hR w wt) ?_ ?_
  · rintro r h1 ⟨-, d', rfl, -⟩
    exact ⟨rfl, rfl⟩
  · rintro r h1 ⟨rfl, d', rfl, hd⟩
    refine at_k (nI 0) dX6_wrongs_4 rfl (by decide) ?_
    refine at_st (i := 2) dX6_wrongs_5 rfl rfl (Nat.le_of_ble_eq_true rfl) rfl ?_
    try dsimp only [List.set_cons_succ, List.set_cons_zero]
    refine at_k (nI 0) dX6_wrongs_6 rfl (by decide) ?_
    refine at_st (i := 3) dX6_wrongs_7 rfl rfl (Nat.le_of_ble_eq_true rfl) rfl ?_
    try dsimp only [List.set_cons_succ, List.set_cons_zero]
    have loop : ∀ n k y4, k + n = 32 → sg_A MX6_wrongs 8 [some (.ref a), some (.int (bI f)), some (.int (nI (cnt (wrg v f) (4 * k)))), some (.int (nI k)), y4] [] (vo g a v b d' K e m) (fun r h' => r = some (.int (nI (cnt (wrg v f) 128))) ∧ ∃ d', h' = vo g a v b d' K e m) := by
      intro n
      induction n with
      | zero =>
        intro k y4 hk
        refine at_ld (i := 3) dX6_wrongs_8 rfl rfl rfl ?_
        refine at_k (nI 32) dX6_wrongs_9 rfl (by decide) ?_
        refine at_ige 75 dX6_wrongs_11 (by decide) (fun c => ?_) (fun c => ?_)
        · refine at_ld (i := 2) dX6_wrongs_75 rfl rfl rfl ?_
          refine at_ret dX6_wrongs_76 rfl rfl ?_
          rw [show 4 * k = 128 by omega]
          exact ⟨rfl, d', rfl⟩
        · exact absurd (nI_le (by omega) (by omega)) c
      | succ n ih =>
        intro k y4 hk
        have nx : ∀ z, z = nI (bq (wrg v f) k) → sg_A MX6_wrongs 59 [some (.ref a), some (.int (bI f)), some (.int (nI (cnt (wrg v f) (4 * k)))), some (.int (nI k)), y4] [.int z] (vo g a v b d' K e m) (fun r h' => r = some (.int (nI (cnt (wrg v f) 128))) ∧ ∃ d', h' = vo g a v b d' K e m) := by
          rintro z rfl
          refine at_st (i := 4) dX6_wrongs_59 rfl rfl (Nat.le_of_ble_eq_true rfl) rfl ?_
          try dsimp only [List.set_cons_succ, List.set_cons_zero]
          refine at_ld (i := 2) dX6_wrongs_61 rfl rfl rfl ?_
          refine at_ld (i := 4) dX6_wrongs_62 rfl rfl rfl ?_
          refine at_rs [_] dX6_wrongs_64 mJ6_bitCount_0f7a4 ⟨Nat.le_of_ble_eq_true rfl, Nat.le_of_ble_eq_true rfl⟩ lX6_106 tJ6_bitCount_0f7a4 rfl (Nat.le_of_ble_eq_true rfl) (Nat.le_of_ble_eq_true rfl) ⟨rfl, rfl⟩ (k_bitCountQ (wrg v f) k) ?_
          refine at_bin dX6_wrongs_67 rfl ?_
          try dsimp only
          rw [nI_add, ← cnt_add]
          refine at_st (i := 2) dX6_wrongs_68 rfl rfl (Nat.le_of_ble_eq_true rfl) rfl ?_
          try dsimp only [List.set_cons_succ, List.set_cons_zero]
          refine at_iinc (nI 1) dX6_wrongs_69 rfl rfl (by decide) ?_
          try dsimp only [List.set_cons_succ, List.set_cons_zero]
          refine at_goto 8 dX6_wrongs_72 (by decide) ?_
          rw [nI_add]
          exact ih (k + 1) _ (by omega)
        refine at_ld (i := 3) dX6_wrongs_8 rfl rfl rfl ?_
        refine at_k (nI 32) dX6_wrongs_9 rfl (by decide) ?_
        refine at_ige 75 dX6_wrongs_11 (by decide) (fun c => ?_) (fun c => ?_)
        · exact absurd c (nI_ge (by omega) (by decide))
        · cases f with
          | true =>
            refine at_ld (i := 1) dX6_wrongs_14 rfl rfl rfl ?_
            refine at_zeq 40 dX6_wrongs_15 (by decide) (fun c1 => ?_) (fun c1 => ?_)
            · exact absurd c1 (by decide)
            · refine at_ld (i := 0) dX6_wrongs_18 rfl rfl rfl ?_
              refine at_get dX6_wrongs_19 fX6_23 (hV _) (by omega) rfl ?_
              refine at_ld (i := 3) dX6_wrongs_22 rfl rfl rfl ?_
              refine at_rv [_] dX6_wrongs_23 mX1_bitsOf ⟨Nat.le_of_ble_eq_true rfl, Nat.le_of_ble_eq_true rfl⟩ lX6_103 iX1_bitsOf rfl rfl (hF _).1 (by omega) rfl (Nat.le_of_ble_eq_true rfl) (Nat.le_of_ble_eq_true rfl) ⟨rfl, rfl⟩ (k_bitsOf (hF _) hb k (by omega)) ?_
              refine at_ld (i := 0) dX6_wrongs_26 rfl rfl rfl ?_
              refine at_get dX6_wrongs_27 fX6_27 (hV _) (by omega) rfl ?_
              refine at_ld (i := 3) dX6_wrongs_30 rfl rfl rfl ?_
              refine at_rv [_] dX6_wrongs_31 mX1_bitsOf ⟨Nat.le_of_ble_eq_true rfl, Nat.le_of_ble_eq_true rfl⟩ lX6_103 iX1_bitsOf rfl rfl (hD _).1 (by omega) rfl (Nat.le_of_ble_eq_true rfl) (Nat.le_of_ble_eq_true rfl) ⟨rfl, rfl⟩ (k_bitsOf (hD _) hd k (by omega)) ?_
              refine at_k (-1) dX6_wrongs_34 rfl (by decide) ?_
              refine at_bin dX6_wrongs_35 rfl ?_
              refine at_bin dX6_wrongs_36 rfl ?_
              refine at_goto 59 dX6_wrongs_37 (by decide) ?_
              exact nx _ (bq_an (fr v) (due v) k)
          | false =>
            refine at_ld (i := 1) dX6_wrongs_14 rfl rfl rfl ?_
            refine at_zeq 40 dX6_wrongs_15 (by decide) (fun c1 => ?_) (fun c1 => ?_)
            · refine at_ld (i := 0) dX6_wrongs_40 rfl rfl rfl ?_
              refine at_get dX6_wrongs_41 fX6_27 (hV _) (by omega) rfl ?_
              refine at_ld (i := 3) dX6_wrongs_44 rfl rfl rfl ?_
              refine at_rv [_] dX6_wrongs_45 mX1_bitsOf ⟨Nat.le_of_ble_eq_true rfl, Nat.le_of_ble_eq_true rfl⟩ lX6_103 iX1_bitsOf rfl rfl (hD _).1 (by omega) rfl (Nat.le_of_ble_eq_true rfl) (Nat.le_of_ble_eq_true rfl) ⟨rfl, rfl⟩ (k_bitsOf (hD _) hd k (by omega)) ?_
              refine at_ld (i := 0) dX6_wrongs_48 rfl rfl rfl ?_
              refine at_get dX6_wrongs_49 fX6_23 (hV _) (by omega) rfl ?_
              refine at_ld (i := 3) dX6_wrongs_52 rfl rfl rfl ?_
              refine at_rv [_] dX6_wrongs_53 mX1_bitsOf ⟨Nat.le_of_ble_eq_true rfl, Nat.le_of_ble_eq_true rfl⟩ lX6_103 iX1_bitsOf rfl rfl (hF _).1 (by omega) rfl (Nat.le_of_ble_eq_true rfl) (Nat.le_of_ble_eq_true rfl) ⟨rfl, rfl⟩ (k_bitsOf (hF _) hb k (by omega)) ?_
              refine at_k (-1) dX6_wrongs_56 rfl (by decide) ?_
              refine at_bin dX6_wrongs_57 rfl ?_
              refine at_bin dX6_wrongs_58 rfl ?_
              exact nx _ (bq_an (due v) (fr v) k)
            · exact absurd rfl c1
    exact loop 32 0 none (by omega)
set_option maxRecDepth 100000 in
theorem k_firstWrong (hg : a + 13 ≤ g.1) (ha : a < 800) (hb : mbq (fr v) b) (hR : iR v K) (w : wf v) (wt : wfT v) : sg_K MX6_firstWrong [.ref a] (vo g a v b d K e m) (fun r h' => r = some (.int (chk v 2)) ∧ ∃ d', h' = vo g a v b d' K e m) := by
  have hgb := wf_gb w.1
  have hV : ∀ d, sg_at (vo g a v b d K e m) a (.inr (6, [.ref (a + 1), .ref (a + 2), .ref (a + 4), .ref (a + 6), .int e, .int m])) := fun d => vo_V hg
  have hY : ∀ d, sg_at (vo g a v b d K e m) (a + 1) (.inr (3, lay v)) := fun d => vo_Y hg
  have hF : ∀ d, FM (vo g a v b d K e m) (a + 2) (a + 1) v b := fun d => vo_F hg ha
  have hD : ∀ d, FM (vo g a v b d K e m) (a + 4) (a + 1) v d := fun d => vo_D hg ha
  have ec : chk v 2 = oI (srch (fun x => if fr v x = (own v x).isSome then some x else none) 0 (4 * v 0 * v 1)) := rfl
  rw [ec, fragI]
  show sg_A MX6_firstWrong 0 [some (.ref a), none] [] _ _
  refine at_ld (i := 0) dX6_firstWrong_0 rfl rfl rfl ?_
  refine at_cv [] dX6_firstWrong_1 mX6_findMapDue ⟨Nat.le_of_ble_eq_true rfl, Nat.le_of_ble_eq_true rfl⟩ lX6_100 iX6_findMapDue rfl rfl (hV _) (by omega) rfl (Nat.le_of_ble_eq_true rfl) (Nat.le_of_ble_eq_true rfl) (k_findMapDue hg ha hR w wt) ?_ ?_
  · rintro r h1 ⟨-, d', rfl, -⟩
    exact ⟨rfl, rfl⟩
  · rintro r h1 ⟨rfl, d', rfl, hd⟩
    refine at_k (nI 0) dX6_firstWrong_4 rfl (by decide) ?_
    refine at_st (i := 1) dX6_firstWrong_5 rfl rfl (Nat.le_of_ble_eq_true rfl) rfl ?_
    try dsimp only [List.set_cons_succ, List.set_cons_zero]
    have loop : ∀ n k, k + n = 4 * (v 0 * v 1) → srch (fun x => if fr v x = (own v x).isSome then some x else none) 0 (4 * (v 0 * v 1)) = srch (fun x => if fr v x = (own v x).isSome then some x else none) k (4 * (v 0 * v 1) - k) → sg_A MX6_firstWrong 6 [some (.ref a), some (.int (nI k))] [] (vo g a v b d' K e m) (fun r h' => r = some (.int (oI (srch (fun x => if fr v x = (own v x).isSome then some x else none) 0 (4 * (v 0 * v 1))))) ∧ ∃ d', h' = vo g a v b d' K e m) := by
      intro n
      induction n with
      | zero =>
        intro k hk hs
        have : k = 4 * (v 0 * v 1) := by omega
        subst this
        rw [sr_0] at hs
        refine at_ld (i := 1) dX6_firstWrong_6 rfl rfl rfl ?_
        refine at_ld (i := 0) dX6_firstWrong_7 rfl rfl rfl ?_
        refine at_get dX6_firstWrong_8 fX6_12 (hV _) (by omega) rfl ?_
        refine at_rv [] dX6_firstWrong_11 mX3_allBlocks ⟨Nat.le_of_ble_eq_true rfl, Nat.le_of_ble_eq_true rfl⟩ lX6_111 iX3_allBlocks rfl rfl (hY _) (by omega) rfl (Nat.le_of_ble_eq_true rfl) (Nat.le_of_ble_eq_true rfl) ⟨rfl, rfl⟩ (k_allBlocks (hY _) (by omega)) ?_
        refine at_k (nI 4) dX6_firstWrong_14 rfl (by decide) ?_
        refine at_bin dX6_firstWrong_15 rfl ?_
        try dsimp only
        rw [nI_mul, Nat.mul_comm _ 4]
        refine at_ige 46 dX6_firstWrong_16 (by decide) (fun c => ?_) (fun c => ?_)
        · refine at_k (-4) dX6_firstWrong_46 rfl (by decide) ?_
          refine at_ret dX6_firstWrong_48 rfl rfl ?_
          rw [hs]
          exact ⟨rfl, d', rfl⟩
        · exact absurd (nI_le (Nat.le_refl _) (by omega)) c
      | succ n ih =>
        intro k hk hs
        refine at_ld (i := 1) dX6_firstWrong_6 rfl rfl rfl ?_
        refine at_ld (i := 0) dX6_firstWrong_7 rfl rfl rfl ?_
        refine at_get dX6_firstWrong_8 fX6_12 (hV _) (by omega) rfl ?_
        refine at_rv [] dX6_firstWrong_11 mX3_allBlocks ⟨Nat.le_of_ble_eq_true rfl, Nat.le_of_ble_eq_true rfl⟩ lX6_111 iX3_allBlocks rfl rfl (hY _) (by omega) rfl (Nat.le_of_ble_eq_true rfl) (Nat.le_of_ble_eq_true rfl) ⟨rfl, rfl⟩ (k_allBlocks (hY _) (by omega)) ?_
        refine at_k (nI 4) dX6_firstWrong_14 rfl (by decide) ?_
        refine at_bin dX6_firstWrong_15 rfl ?_
        try dsimp only
        rw [nI_mul, Nat.mul_comm _ 4]
        have ed : due v k = (own v k).isNone := by
          unfold due
          rw [decide_eq_true (show k < 4 * (v 0 * v 1) by omega), Bool.true_and]
        refine at_ige 46 dX6_firstWrong_16 (by decide) (fun c => ?_) (fun c => ?_)
        · exact absurd c (nI_ge (by omega) (by omega))
        · refine at_ld (i := 0) dX6_firstWrong_19 rfl rfl rfl ?_
          refine at_get dX6_firstWrong_20 fX6_23 (hV _) (by omega) rfl ?_
          refine at_ld (i := 1) dX6_firstWrong_23 rfl rfl rfl ?_
          refine at_rv [_] dX6_firstWrong_24 mX1_isFree ⟨Nat.le_of_ble_eq_true rfl, Nat.le_of_ble_eq_true rfl⟩ lX6_114 iX1_isFree rfl rfl (hF _).1 (by omega) rfl (Nat.le_of_ble_eq_true rfl) (Nat.le_of_ble_eq_true rfl) ⟨rfl, rfl⟩ (k_isFree (hF _) hb k (by omega)) ?_
          refine at_ld (i := 0) dX6_firstWrong_27 rfl rfl rfl ?_
          refine at_get dX6_firstWrong_28 fX6_27 (hV _) (by omega) rfl ?_
          refine at_ld (i := 1) dX6_firstWrong_31 rfl rfl rfl ?_
          refine at_rv [_] dX6_firstWrong_32 mX1_isFree ⟨Nat.le_of_ble_eq_true rfl, Nat.le_of_ble_eq_true rfl⟩ lX6_114 iX1_isFree rfl rfl (hD _).1 (by omega) rfl (Nat.le_of_ble_eq_true rfl) (Nat.le_of_ble_eq_true rfl) ⟨rfl, rfl⟩ (k_isFree (hD _) hd k (by omega)) ?_
          rw [ed]
          refine at_ieq 40 dX6_firstWrong_35 (by decide) (fun c1 => ?_) (fun c1 => ?_)
          · refine at_iinc (nI 1) dX6_firstWrong_40 rfl rfl (by decide) ?_
            try dsimp only [List.set_cons_succ, List.set_cons_zero]
            refine at_goto 6 dX6_firstWrong_43 (by decide) ?_
            rw [nI_add]
            refine ih (k + 1) (by omega) ?_
            have hno : ¬ fr v k = (own v k).isSome := by
              intro z
              rw [z] at c1
              cases q : own v k with
              | none => rw [q] at c1; exact absurd (show bI false = bI true from c1) (by decide)
              | some z => rw [q] at c1; exact absurd (show bI true = bI false from c1) (by decide)
            rw [hs, sr_n (by omega) (if_neg hno)]
          · refine at_ld (i := 1) dX6_firstWrong_38 rfl rfl rfl ?_
            refine at_ret dX6_firstWrong_39 rfl rfl ?_
            have hyes : fr v k = (own v k).isSome := by
              cases q : own v k <;> cases q2 : fr v k <;> rw [q, q2] at c1
              · rfl
              · exact absurd rfl c1
              · exact absurd rfl c1
              · rfl
            rw [hs, sr_s (by omega) (if_pos hyes)]
            exact ⟨rfl, d', rfl⟩
    exact loop (4 * (v 0 * v 1)) 0 (by omega) rfl
theorem mbq_cp {q : Nat → Bool} {b2 : Nat → Int32} (h : mbq q b2) (b1 : Nat → Int32) : mbq q (va_cpy b2 b1 0 0 32) := by
  intro k hk
  unfold va_cpy
  rw [if_pos ⟨Nat.zero_le _, by omega⟩]
  simpa using h k hk
set_option maxRecDepth 100000 in
theorem k_mendMap (hg : a + 13 ≤ g.1) (ha : a < 800) (hR : iR v K) (w : wf v) (wt : wfT v) : sg_K MX6_mendMap [.ref a] (vo g a v b d K e m) (fun r h' => r = none ∧ ∃ b' d', h' = vo g a v b' d' K e m ∧ mbq (due v) b') := by
  have hV : ∀ d, sg_at (vo g a v b d K e m) a (.inr (6, [.ref (a + 1), .ref (a + 2), .ref (a + 4), .ref (a + 6), .int e, .int m])) := fun d => vo_V hg
  have hF : ∀ d, FM (vo g a v b d K e m) (a + 2) (a + 1) v b := fun d => vo_F hg ha
  have hD : ∀ d, FM (vo g a v b d K e m) (a + 4) (a + 1) v d := fun d => vo_D hg ha
  show sg_A MX6_mendMap 0 [some (.ref a)] [] _ _
  refine at_ld (i := 0) dX6_mendMap_0 rfl rfl rfl ?_
  refine at_cv [] dX6_mendMap_1 mX6_findMapDue ⟨Nat.le_of_ble_eq_true rfl, Nat.le_of_ble_eq_true rfl⟩ lX6_100 iX6_findMapDue rfl rfl (hV _) (by omega) rfl (Nat.le_of_ble_eq_true rfl) (Nat.le_of_ble_eq_true rfl) (k_findMapDue hg ha hR w wt) ?_ ?_
  · rintro r h1 ⟨-, d', rfl, -⟩
    exact ⟨rfl, rfl⟩
  · rintro r h1 ⟨rfl, d', rfl, hd⟩
    have kc := k_mcopy (hF d') (hD d')
    rw [vo_ub1] at kc
    refine at_ld (i := 0) dX6_mendMap_4 rfl rfl rfl ?_
    refine at_get dX6_mendMap_5 fX6_23 (hV _) (by omega) rfl ?_
    refine at_ld (i := 0) dX6_mendMap_8 rfl rfl rfl ?_
    refine at_get dX6_mendMap_9 fX6_27 (hV _) (by omega) rfl ?_
    refine at_wv [_] dX6_mendMap_12 mX1_copyFrom ⟨Nat.le_of_ble_eq_true rfl, Nat.le_of_ble_eq_true rfl⟩ lX6_65 iX1_copyFrom rfl rfl (hF _).1 (by omega) rfl (Nat.le_of_ble_eq_true rfl) (Nat.le_of_ble_eq_true rfl) ⟨rfl, rfl⟩ (kc) ⟨rfl, rfl⟩ ?_
    try dsimp only [Option.toList, List.cons_append, List.nil_append]
    refine at_vret dX6_mendMap_15 rfl ?_
    exact ⟨rfl, _, d', rfl, mbq_cp hd _⟩
theorem iR_cp {v : Nat → Nat} {K K2 : Nat → Nat → Int32} (w : wf v) (h : iR v K2) : iR v (kCp K K2) := by
  intro i hi
  have hs := sz_le w hi
  obtain ⟨h0, h1, h2, h3, h4⟩ := h i hi
  refine ⟨?_, ?_, ?_, ?_, ?_⟩
  · rw [kCp_at K K2 (by decide) (by simpa using hi)]; exact h0
  · rw [kCp_at K K2 (by decide) (by simpa using hi)]; exact h1
  · rw [kCp_at K K2 (by decide) (by simpa using hi)]; exact h2
  · intro z
    rw [kCp_at K K2 (by decide) (by simpa using hi), kCp_at K K2 (by decide) (by simpa using hi)]
    exact h3 z
  · intro k hk
    rw [kCp_at K K2 (by decide) (by rw [if_pos rfl]; omega)]
    exact h4 k hk
set_option maxRecDepth 100000 in
theorem k_vcopy {L : Nat → Nat} (hg : a + 13 ≤ g.1) (ha : a < 800) {a2 : Nat} {v2 : Nat → Nat} {b2 : Nat → Int32} {K2 : Nat → Nat → Int32} {e2 m2 : Int32} {x2 : Value} (h2 : sg_at g a2 (.inr (6, [.ref (a2 + 1), .ref (a2 + 2), x2, .ref (a2 + 6), .int e2, .int m2]))) (hF2 : FM g (a2 + 2) (a2 + 1) v2 b2) (hI2 : IN g (a2 + 6) (a2 + 1) v2 K2) (hd : a2 + 13 ≤ a ∨ a + 13 ≤ a2) : sg_Kw MX6_copyFrom [.ref a, .ref a2] (vo g a L b d K e m) none (vo g a v2 (va_cpy b2 b 0 0 32) d (kCp K K2) e2 m2) := by
  have hp9 := hI2.2.2.2.2.2.2.2.2.1
  have hV : ∀ L b K e m, sg_at (vo g a L b d K e m) a (.inr (6, [.ref (a + 1), .ref (a + 2), .ref (a + 4), .ref (a + 6), .int e, .int m])) := fun L b K e m => vo_V hg
  have hW : ∀ L b K e m, sg_at (vo g a L b d K e m) a2 (.inr (6, [.ref (a2 + 1), .ref (a2 + 2), x2, .ref (a2 + 6), .int e2, .int m2])) := fun L b K e m => vo_O (by omega) h2
  have hY : ∀ L b K e m, sg_at (vo g a L b d K e m) (a + 1) (.inr (3, lay L)) := fun L b K e m => vo_Y hg
  have hF : ∀ L b K e m, FM (vo g a L b d K e m) (a + 2) (a + 1) L b := fun L b K e m => vo_F hg ha
  have hFo : ∀ L b K e m, FM (vo g a L b d K e m) (a2 + 2) (a2 + 1) v2 b2 := fun L b K e m => FM_o hF2 (by omega) (by omega)
  have hI : ∀ L b K e m, IN (vo g a L b d K e m) (a + 6) (a + 1) L K := fun L b K e m => vo_I hg ha
  have kl := k_lcopy (hY L b K e m) rfl (by omega) (by omega) v2 (hFo L b K e m).2.1 (by omega)
  rw [vo_ul] at kl
  have kc := k_mcopy (hF v2 b K e m) (hFo v2 b K e m)
  rw [vo_ub1] at kc
  have ki := k_icopy (L := v2) (b := va_cpy b2 b 0 0 32) (d := d) (K := K) (e := e) (m := m) hg ha hI2 (by omega) (by omega)
  show sg_A MX6_copyFrom 0 [some (.ref a), some (.ref a2)] [] _ _
  refine at_ld (i := 0) dX6_copyFrom_0 rfl rfl rfl ?_
  refine at_get dX6_copyFrom_1 fX6_12 (hV _ _ _ _ _) (by omega) rfl ?_
  refine at_ld (i := 1) dX6_copyFrom_4 rfl rfl rfl ?_
  refine at_get dX6_copyFrom_5 fX6_12 (hW _ _ _ _ _) (by omega) rfl ?_
  refine at_wv [_] dX6_copyFrom_8 mX3_copyFrom ⟨Nat.le_of_ble_eq_true rfl, Nat.le_of_ble_eq_true rfl⟩ lX6_62 iX3_copyFrom rfl rfl (hY _ _ _ _ _) (by omega) rfl (Nat.le_of_ble_eq_true rfl) (Nat.le_of_ble_eq_true rfl) ⟨rfl, rfl⟩ (kl) ⟨rfl, rfl⟩ ?_
  try dsimp only [Option.toList, List.cons_append, List.nil_append]
  refine at_ld (i := 0) dX6_copyFrom_11 rfl rfl rfl ?_
  refine at_get dX6_copyFrom_12 fX6_23 (hV _ _ _ _ _) (by omega) rfl ?_
  refine at_ld (i := 1) dX6_copyFrom_15 rfl rfl rfl ?_
  refine at_get dX6_copyFrom_16 fX6_23 (hW _ _ _ _ _) (by omega) rfl ?_
  refine at_wv [_] dX6_copyFrom_19 mX1_copyFrom ⟨Nat.le_of_ble_eq_true rfl, Nat.le_of_ble_eq_true rfl⟩ lX6_65 iX1_copyFrom rfl rfl (hF _ _ _ _ _).1 (by omega) rfl (Nat.le_of_ble_eq_true rfl) (Nat.le_of_ble_eq_true rfl) ⟨rfl, rfl⟩ (kc) ⟨rfl, rfl⟩ ?_
  try dsimp only [Option.toList, List.cons_append, List.nil_append]
  refine at_ld (i := 0) dX6_copyFrom_22 rfl rfl rfl ?_
  refine at_get dX6_copyFrom_23 fX6_33 (hV _ _ _ _ _) (by omega) rfl ?_
  refine at_ld (i := 1) dX6_copyFrom_26 rfl rfl rfl ?_
  refine at_get dX6_copyFrom_27 fX6_33 (hW _ _ _ _ _) (by omega) rfl ?_
  refine at_wv [_] dX6_copyFrom_30 mX2_copyFrom ⟨Nat.le_of_ble_eq_true rfl, Nat.le_of_ble_eq_true rfl⟩ lX6_68 iX2_copyFrom rfl rfl (hI _ _ _ _ _).1 (by omega) rfl (Nat.le_of_ble_eq_true rfl) (Nat.le_of_ble_eq_true rfl) ⟨rfl, rfl⟩ (ki) ⟨rfl, rfl⟩ ?_
  try dsimp only [Option.toList, List.cons_append, List.nil_append]
  refine at_ld (i := 0) dX6_copyFrom_33 rfl rfl rfl ?_
  refine at_ld (i := 1) dX6_copyFrom_34 rfl rfl rfl ?_
  refine at_get dX6_copyFrom_35 fX6_55 (hW _ _ _ _ _) (by omega) rfl ?_
  refine at_put dX6_copyFrom_38 fX6_55 ⟨_, _, rfl, Or.inl rfl, tyX6_ok 4 (by decide), fun _ => ⟨rfl, rfl⟩⟩ (hV _ _ _ _ _) (by omega) (Nat.le_of_ble_eq_true rfl) (vo_ue _) ?_
  refine at_ld (i := 0) dX6_copyFrom_41 rfl rfl rfl ?_
  refine at_ld (i := 1) dX6_copyFrom_42 rfl rfl rfl ?_
  refine at_get dX6_copyFrom_43 fX6_59 (hW _ _ _ _ _) (by omega) rfl ?_
  refine at_put dX6_copyFrom_46 fX6_59 ⟨_, _, rfl, Or.inl rfl, tyX6_ok 5 (by decide), fun _ => ⟨rfl, rfl⟩⟩ (hV _ _ _ _ _) (by omega) (Nat.le_of_ble_eq_true rfl) (vo_um _) ?_
  refine at_vret dX6_copyFrom_49 rfl ?_
  exact ⟨rfl, rfl⟩
end C10
