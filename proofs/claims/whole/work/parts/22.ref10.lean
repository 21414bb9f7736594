/-! THE REFERENCE: deeds: grow, make, shrink, remove -/
def wfT (v : Nat → Nat) : Prop := ∀ i, i < 24 → io v i 4 % 4 + io v i 3 % 4 ≤ 4
def grA (v : Nat → Nat) (i n : Nat) : Int32 := if (grw v i n).isSome = true then nI (io v i 3 + n) else -3
theorem wf_cgr {v v' : Nat → Nat} (w : wf v) {i size : Nat} (hi : i < 24) (hsz : io v i 3 < size) (hs40 : size ≤ 40) (ht : io v i 4 + io v i 3 % 4 ≤ 128) (h : cgr v i size = some v') : wf v' ∧ sb v v' := by
  have hs := wf_s w hi
  unfold cgr at h
  split at h
  · exact wf_wdn w hi (by omega) (by omega) ht h
  · split at h
    · cases h
    · next v1 e =>
      have h1 : wf v1 ∧ sb v v1 := by
        split at e
        · exact wf_fil w hi (by omega) ht e
        · cases e; exact ⟨w, sb_r v⟩
      split at h
      · cases h
      · next v2 e2 =>
        have h2 := wf_tks hi _ _ h1.1 (by split <;> omega) e2
        split at h
        · cases h
          exact ⟨h2.1, sb_t h1.2 h2.2⟩
        · exact ⟨wf_tkt h2.1 (by omega) (by omega) h, sb_t h1.2 (sb_t h2.2 (sb_tkt h2.1 hi (by omega) (by omega) h))⟩
theorem wf_grw {v v' : Nat → Nat} (w : wf v) (wt : wfT v) {i n : Nat} (hi : i < 24) (hn1 : 1 ≤ n) (h : grw v i n = some v') : wf v' ∧ sb v v' := by
  obtain ⟨-, -, w4, -⟩ := w.2.2 i hi
  have := wt i hi
  unfold grw at h
  split at h
  · cases h
  · next c =>
    split at h
    · cases h
    · next v1 e =>
      cases h
      obtain ⟨w1, s1⟩ := wf_cgr w hi (by omega) (by omega) (by omega) e
      exact ⟨wf_set w1 (by omega) (by omega) (fun _ => by omega) (by omega) (by omega), sb_t s1 (sb_u _ (by omega))⟩
/-- the state with another row for the copy of before -/
theorem mv_1 (h : sg_H) (A : Nat → Nat → Int32) (F : Nat → Int32) (v : Nat → Nat) : mv h (vf_upd A 1 (A 1)) F v = mv h A F v := by rw [vu_id]
section R10
variable {h : sg_H} (A : Nat → Nat → Int32) (F : Nat → Int32) (v : Nat → Nat)
set_option maxRecDepth 100000 in
theorem c_grows (hn : 72 ≤ h.1) (w : wf v) (wt : wfT v) (i n : Nat) (hi : i < 24) (hn1 : 1 ≤ n) (hn40 : n ≤ 40) : sg_K MX8_grows [.ref 64, .int (nI i), .int (nI n)] (mv h A F v) (fun r h' => r = some (.int (grA v i n)) ∧ ∃ B, h' = mv h (vf_upd A 1 B) F ((grw v i n).getD v)) := by
  have hs := wf_s w hi
  obtain ⟨-, -, w4, -⟩ := w.2.2 i hi
  have hwt := wt i hi
  have hrm : room v ≤ 4 * v 0 * v 1 := cnt_le _ _
  have hgb := wf_gb w.1
  have hfr := fragI (v := v)
  have hr99 := w.1.2.2.2.2.1
  show sg_A MX8_grows 0 [some (.ref 64), some (.int (nI i)), some (.int (nI n)), none] [] _ _
  refine at_ld (i := 0) dX8_grows_0 rfl rfl rfl ?_
  refine at_ld (i := 1) dX8_grows_1 rfl rfl rfl ?_
  refine at_k (nI 3) dX8_grows_2 rfl (by decide) ?_
  refine at_rv [_, _] dX8_grows_3 mX8_of ⟨Nat.le_of_ble_eq_true rfl, Nat.le_of_ble_eq_true rfl⟩ lX8_173 iX8_of rfl rfl (mv_o hn _ _ _) (by omega) rfl (Nat.le_of_ble_eq_true rfl) (Nat.le_of_ble_eq_true rfl) ⟨rfl, rfl⟩ (c_of A F v hn i 3 (by omega)) ?_
  refine at_ld (i := 2) dX8_grows_6 rfl rfl rfl ?_
  refine at_bin dX8_grows_7 rfl ?_
  try dsimp only
  rw [nI_add]
  refine at_st (i := 3) dX8_grows_8 rfl rfl (Nat.le_of_ble_eq_true rfl) rfl ?_
  try dsimp only [List.set_cons_succ, List.set_cons_zero]
  refine at_ld (i := 3) dX8_grows_9 rfl rfl rfl ?_
  refine at_k (nI 40) dX8_grows_10 rfl (by decide) ?_
  have full : (40 < io v i 3 + n ∨ room v < v 4 + n) → sg_A MX8_grows 30 [some (.ref 64), some (.int (nI i)), some (.int (nI n)), some (.int (nI (io v i 3 + n)))] [] (mv h A F v) (fun r h' => r = some (.int (grA v i n)) ∧ ∃ B, h' = mv h (vf_upd A 1 B) F ((grw v i n).getD v)) := by
    intro hf
    refine at_k (-3) dX8_grows_30 rfl (by decide) ?_
    refine at_ret dX8_grows_32 rfl rfl ?_
    rw [grA, grw, if_pos hf]
    exact ⟨rfl, A 1, (mv_1 h A F v).symm⟩
  refine at_igt 30 dX8_grows_12 (by decide) (fun c => ?_) (fun c => ?_)
  · exact full (Or.inl ((nI_ltI (by omega) (by omega)).mp c))
  · have c1 : io v i 3 + n ≤ 40 := by
      rcases Nat.lt_or_ge 40 (io v i 3 + n) with z | z
      · exact absurd (nI_lt z (by omega)) c
      · exact z
    refine at_ld (i := 0) dX8_grows_15 rfl rfl rfl ?_
    refine at_rv [] dX8_grows_16 mX8_room ⟨Nat.le_of_ble_eq_true rfl, Nat.le_of_ble_eq_true rfl⟩ lX8_206 iX8_room rfl rfl (mv_o hn _ _ _) (by omega) rfl (Nat.le_of_ble_eq_true rfl) (Nat.le_of_ble_eq_true rfl) ⟨rfl, rfl⟩ (c_room A F v hn w.1 w.2.1) ?_
    refine at_ld (i := 2) dX8_grows_19 rfl rfl rfl ?_
    refine at_bin dX8_grows_20 rfl ?_
    refine at_ld (i := 0) dX8_grows_21 rfl rfl rfl ?_
    refine at_get dX8_grows_22 fX8_7 (mv_o hn _ _ _) (by omega) rfl ?_
    refine at_k (nI 4) dX8_grows_25 rfl (by decide) ?_
    refine at_ald 4 dX8_grows_26 (mv_a hn _ _ _) rfl (by decide) (by decide) ?_
    refine at_ige 33 dX8_grows_27 (by decide) (fun c2 => ?_) (fun c2 => ?_)
    · have c3 := (nI_subge (by omega) (by omega) (by omega)).mp c2
      have hno : ¬ (40 < io v i 3 + n ∨ room v < v 4 + n) := by omega
      refine at_ld (i := 0) dX8_grows_33 rfl rfl rfl ?_
      refine at_get dX8_grows_34 fX8_7 (mv_o hn _ _ _) (by omega) rfl ?_
      refine at_ld (i := 0) dX8_grows_37 rfl rfl rfl ?_
      refine at_get dX8_grows_38 fX8_13 (mv_o hn _ _ _) (by omega) rfl ?_
      obtain ⟨B, hB⟩ : ∃ B : Nat → Int32, B = (fun c => if c < 496 then nI (v c) else A 1 c) := ⟨_, rfl⟩
      have k1 : sg_Kw MX8_copies [.ref 65, .ref 66] (mv h A F v) none (mv h (vf_upd A 1 B) F v) := by
        have := c_copies (vf_upd A 0 (fun k => nI (v k))) F hn 0 1 (by decide) (by decide) (by decide)
        rw [vu_s, vu_n _ _ 1 _ (by decide), ← hB, vu_comm _ (by decide)] at this
        exact this
      refine at_ws [_, _] dX8_grows_41 mX8_copies ⟨Nat.le_of_ble_eq_true rfl, Nat.le_of_ble_eq_true rfl⟩ lX8_117 tX8_copies rfl (Nat.le_of_ble_eq_true rfl) (Nat.le_of_ble_eq_true rfl) ⟨rfl, rfl⟩ (k1) ⟨rfl, rfl⟩ ?_
      try dsimp only [Option.toList, List.cons_append, List.nil_append]
      refine at_ld (i := 0) dX8_grows_44 rfl rfl rfl ?_
      refine at_ld (i := 1) dX8_grows_45 rfl rfl rfl ?_
      refine at_ld (i := 3) dX8_grows_46 rfl rfl rfl ?_
      refine at_cv [_, _] dX8_grows_47 mX8_canGrow ⟨Nat.le_of_ble_eq_true rfl, Nat.le_of_ble_eq_true rfl⟩ lX8_270 iX8_canGrow rfl rfl (mv_o hn _ _ _) (by omega) rfl (Nat.le_of_ble_eq_true rfl) (Nat.le_of_ble_eq_true rfl) (c_canGrow (vf_upd A 1 B) F v hn w i (io v i 3 + n) hi (by omega) c1 (by omega)) ?_ ?_
      · rintro r h1 ⟨-, v', rfl, -⟩
        exact ⟨rfl, rfl⟩
      · rintro r h1 ⟨rfl, v', rfl, s', w', hx⟩
        try dsimp only [Option.toList, List.cons_append, List.nil_append]
        rw [grA, grw, if_neg hno]
        cases q : cgr v i (io v i 3 + n) with
        | none =>
          refine at_zne 67 dX8_grows_50 (by decide) (fun c4 => ?_) (fun c4 => ?_)
          · exact absurd rfl c4
          · refine at_ld (i := 0) dX8_grows_53 rfl rfl rfl ?_
            refine at_get dX8_grows_54 fX8_13 (mv_o hn _ _ _) (by omega) rfl ?_
            refine at_ld (i := 0) dX8_grows_57 rfl rfl rfl ?_
            refine at_get dX8_grows_58 fX8_7 (mv_o hn _ _ _) (by omega) rfl ?_
            have k2 : sg_Kw MX8_copies [.ref 66, .ref 65] (mv h (vf_upd A 1 B) F v') none (mv h (vf_upd A 1 B) F v) := by
              have := c_copies (vf_upd (vf_upd A 1 B) 0 (fun k => nI (v' k))) F hn 1 0 (by decide) (by decide) (by decide)
              rw [vu_s, vu_n _ _ 1 _ (by decide), vu_s, vu_vu] at this
              have e : (fun c => if c < 496 then B c else nI (v' c)) = (fun k => nI (v k)) := by
                funext c
                rw [hB]
                show (if c < 496 then (if c < 496 then nI (v c) else A 1 c) else nI (v' c)) = nI (v c)
                by_cases hc : c < 496
                · rw [if_pos hc, if_pos hc]
                · rw [if_neg hc, s' c (by omega)]
              rw [e] at this
              exact this
            refine at_ws [_, _] dX8_grows_61 mX8_copies ⟨Nat.le_of_ble_eq_true rfl, Nat.le_of_ble_eq_true rfl⟩ lX8_117 tX8_copies rfl (Nat.le_of_ble_eq_true rfl) (Nat.le_of_ble_eq_true rfl) ⟨rfl, rfl⟩ (k2) ⟨rfl, rfl⟩ ?_
            try dsimp only [Option.toList, List.cons_append, List.nil_append]
            refine at_k (-3) dX8_grows_64 rfl (by decide) ?_
            refine at_ret dX8_grows_66 rfl rfl ?_
            exact ⟨rfl, B, rfl⟩
        | some v1 =>
          have e := hx v1 q
          subst e
          refine at_zne 67 dX8_grows_50 (by decide) (fun c4 => ?_) (fun c4 => ?_)
          · refine at_ld (i := 0) dX8_grows_67 rfl rfl rfl ?_
            refine at_ld (i := 1) dX8_grows_68 rfl rfl rfl ?_
            refine at_k (nI 3) dX8_grows_69 rfl (by decide) ?_
            refine at_ld (i := 3) dX8_grows_70 rfl rfl rfl ?_
            refine at_wv [_, _, _] dX8_grows_71 mX8_sets ⟨Nat.le_of_ble_eq_true rfl, Nat.le_of_ble_eq_true rfl⟩ lX8_236 iX8_sets rfl rfl (mv_o hn _ _ _) (by omega) rfl (Nat.le_of_ble_eq_true rfl) (Nat.le_of_ble_eq_true rfl) ⟨rfl, rfl⟩ (c_sets (vf_upd A 1 B) F v' hn i 3 (io v i 3 + n) _ rfl (by omega)) ⟨rfl, rfl⟩ ?_
            try dsimp only [Option.toList, List.cons_append, List.nil_append]
            refine at_ld (i := 3) dX8_grows_74 rfl rfl rfl ?_
            refine at_ret dX8_grows_75 rfl rfl ?_
            exact ⟨rfl, B, rfl⟩
          · exact absurd (Classical.not_not.mp c4) (okA_s _)
    · have c3 : ¬ (v 4 + n ≤ room v) := fun z => c2 ((nI_subge (by omega) (by omega) (by omega)).mpr z)
      exact full (Or.inr (by omega))
/-- a call that grows: its answer and its state -/
def s_grow (v : Nat → Nat) (x y : Int32) : Int32 × (Nat → Nat) := if isFil v x = true ∧ inR y 1 40 = true then (if spt v = true then (-2, v) else (grA v x.toNatClampNeg y.toNatClampNeg, (grw v x.toNatClampNeg y.toNatClampNeg).getD v)) else (-1, v)
theorem isFil_of {v : Nat → Nat} (w : wfg v) {x : Int32} (h : isFil v x = true) : ∃ k : Nat, k < v 0 * v 2 ∧ x = nI k ∧ io v k 0 = 2 := by
  have hgi := wf_gi w
  rw [isFil, Bool.and_eq_true] at h
  obtain ⟨k, hk, rfl⟩ := isI_of w h.1
  have h2 := of_decide_eq_true h.2
  rw [nI_clamp (by omega)] at h2
  exact ⟨k, hk, rfl, h2⟩
set_option maxRecDepth 100000 in
theorem c_grow (hn : 72 ≤ h.1) (w : wf v) (wt : wfT v) (x y : Int32) : sg_K MX8_grow [.ref 64, .int x, .int y] (mv h A F v) (fun r h' => r = some (.int (s_grow v x y).1) ∧ ∃ B, h' = mv h (vf_upd A 1 B) F (s_grow v x y).2) := by
  have hgi := wf_gi w.1
  show sg_A MX8_grow 0 [some (.ref 64), some (.int x), some (.int y)] [] _ _
  refine at_ld (i := 0) dX8_grow_0 rfl rfl rfl ?_
  refine at_ld (i := 1) dX8_grow_1 rfl rfl rfl ?_
  refine at_rv [_] dX8_grow_2 mX8_isFile ⟨Nat.le_of_ble_eq_true rfl, Nat.le_of_ble_eq_true rfl⟩ lX8_273 iX8_isFile rfl rfl (mv_o hn _ _ _) (by omega) rfl (Nat.le_of_ble_eq_true rfl) (Nat.le_of_ble_eq_true rfl) ⟨rfl, rfl⟩ (c_isFile A F v hn w.1 (wf_k w) x) ?_
  refine at_zeq 20 dX8_grow_5 (by decide) (fun c => ?_) (fun c => ?_)
  · have c1 := (bI_0 _).mp c
    refine at_k (-1) dX8_grow_20 rfl (by decide) ?_
    refine at_ret dX8_grow_21 rfl rfl ?_
    rw [s_grow, if_neg (fun z => by rw [c1] at z; cases z.1)]
    exact ⟨rfl, A 1, (mv_1 h A F v).symm⟩
  · have c1 := bI_1 c
    refine at_ld (i := 2) dX8_grow_8 rfl rfl rfl ?_
    refine at_i2l dX8_grow_9 ?_
    refine at_lconst dX8_grow_10 ?_
    refine at_ldc2 dX8_grow_11 kX8_276 ?_
    refine at_rs [_, _, _] dX8_grow_14 mX8_in ⟨Nat.le_of_ble_eq_true rfl, Nat.le_of_ble_eq_true rfl⟩ lX8_41 tX8_in rfl (Nat.le_of_ble_eq_true rfl) (Nat.le_of_ble_eq_true rfl) ⟨rfl, rfl⟩ (c_inA _ y 1 40 rfl rfl (by decide) (by decide)) ?_
    refine at_zne 22 dX8_grow_17 (by decide) (fun c2 => ?_) (fun c2 => ?_)
    · have c3 := bI_1 c2
      rw [s_grow, if_pos ⟨c1, c3⟩]
      refine at_ld (i := 0) dX8_grow_22 rfl rfl rfl ?_
      refine at_rv [] dX8_grow_23 mX8_isSpoilt ⟨Nat.le_of_ble_eq_true rfl, Nat.le_of_ble_eq_true rfl⟩ lX8_240 iX8_isSpoilt rfl rfl (mv_o hn _ _ _) (by omega) rfl (Nat.le_of_ble_eq_true rfl) (Nat.le_of_ble_eq_true rfl) ⟨rfl, rfl⟩ (c_isSpoilt A F v hn w) ?_
      refine at_zeq 34 dX8_grow_26 (by decide) (fun c4 => ?_) (fun c4 => ?_)
      · have c5 := (bI_0 _).mp c4
        rw [if_neg (by rw [c5]; exact fun z => by cases z)]
        obtain ⟨k, hk, rfl, -⟩ := isFil_of w.1 c1
        obtain ⟨n, hn1, hn2, rfl⟩ := inR_of (by decide) c3
        rw [nI_clamp (by omega), nI_clamp (by omega)]
        refine at_ld (i := 0) dX8_grow_34 rfl rfl rfl ?_
        refine at_ld (i := 1) dX8_grow_35 rfl rfl rfl ?_
        refine at_ld (i := 2) dX8_grow_36 rfl rfl rfl ?_
        refine at_cv [_, _] dX8_grow_37 mX8_grows ⟨Nat.le_of_ble_eq_true rfl, Nat.le_of_ble_eq_true rfl⟩ lX8_114 iX8_grows rfl rfl (mv_o hn _ _ _) (by omega) rfl (Nat.le_of_ble_eq_true rfl) (Nat.le_of_ble_eq_true rfl) (c_grows A F v hn w wt k n (by omega) hn1 hn2) ?_ ?_
        · rintro r h1 ⟨-, B, rfl⟩
          exact ⟨rfl, rfl⟩
        · rintro r h1 ⟨rfl, B, rfl⟩
          refine at_ret dX8_grow_40 rfl rfl ?_
          exact ⟨rfl, B, rfl⟩
      · have c5 := bI_1 c4
        rw [if_pos c5]
        refine at_k (-2) dX8_grow_29 rfl (by decide) ?_
        refine at_goto 40 dX8_grow_31 (by decide) ?_
        refine at_ret dX8_grow_40 rfl rfl ?_
        exact ⟨rfl, A 1, (mv_1 h A F v).symm⟩
    · have c3 := (bI_0 _).mp (Classical.not_not.mp c2)
      refine at_k (-1) dX8_grow_20 rfl (by decide) ?_
      refine at_ret dX8_grow_21 rfl rfl ?_
      rw [s_grow, if_neg (fun z => by rw [c3] at z; cases z.2)]
      exact ⟨rfl, A 1, (mv_1 h A F v).symm⟩
/-- the first inode of a group that is nothing -/
def fni (v : Nat → Nat) (g : Nat) : Option Nat := srch (fun k => if io v (v 2 * g + k) 0 = 0 then some (v 2 * g + k) else none) 0 (v 2)
def mk0 (v : Nat → Nat) (i d nm kind at_ : Nat) : Nat → Nat := vf_upd (vf_upd (vf_upd (vf_upd (vf_upd v (136 + 15 * i + 0) kind) (136 + 15 * i + 1) d) (136 + 15 * i + 2) nm) (136 + 15 * i + 3) (if kind = 1 then 1 else 0)) (136 + 15 * i + 4) at_
def mkv (v : Nat → Nat) (i d nm kind at_ : Nat) : Nat → Nat := if kind = 1 then vf_upd (mk0 v i d nm kind at_) (8 + at_) 0 else mk0 v i d nm kind at_
def mks (v : Nat → Nat) (d nm kind : Nat) : Option (Nat × (Nat → Nat)) := match gfr v d kind with
  | none => none
  | some g => if kind = 1 ∧ room v < v 4 + 1 then none else
    match (if kind = 1 then rnr v g 1 else some 0) with
    | none => none
    | some at_ => match fni v g with
      | none => none
      | some i => some (i, mkv v i d nm kind at_)
def mkA (v : Nat → Nat) (o : Option (Nat × (Nat → Nat))) : Int32 × (Nat → Nat) := match o with
  | none => (-3, v)
  | some p => (nI p.1, p.2)
theorem cnt_ex {p : Nat → Bool} : ∀ n, 0 < cnt p n → ∃ k, k < n ∧ p k = true := by
  intro n
  induction n with
  | zero => intro h; simp [cnt] at h
  | succ n ih =>
    intro h
    simp only [cnt] at h
    by_cases q : p n = true
    · exact ⟨n, Nat.lt_succ_self n, q⟩
    · rw [if_neg q] at h
      obtain ⟨k, h1, h2⟩ := ih (by omega)
      exact ⟨k, by omega, h2⟩
theorem sr_ex {α : Type} {f : Nat → Option α} : ∀ m k j, k ≤ j → j < k + m → (f j).isSome = true → ∃ x, srch f k m = some x := by
  intro m
  induction m with
  | zero => intro k j h1 h2; omega
  | succ m ih =>
    intro k j h1 h2 h3
    simp only [srch]
    cases q : f k with
    | some x => exact ⟨x, rfl⟩
    | none =>
      refine ih (k + 1) j ?_ (by omega) h3
      rcases Nat.eq_or_lt_of_le h1 with e | e
      · rw [← e, q] at h3; cases h3
      · exact e
theorem fni_ex {v : Nat → Nat} {g : Nat} (h : 0 < nts v g) : ∃ i, fni v g = some i := by
  obtain ⟨k, h1, h2⟩ := cnt_ex _ h
  refine sr_ex _ 0 k (by omega) (by omega) ?_
  rw [if_pos (of_decide_eq_true h2)]
  rfl
theorem gfd_nt {v : Nat → Nat} {all : Nat} : ∀ k b, gfd v all k = some b → 0 < nts v b := by
  intro k
  induction k with
  | zero => intro b h; cases h
  | succ k ih =>
    intro b h
    simp only [gfd] at h
    repeat' split at h
    all_goals first | exact ih b h | (cases h; simp_all; done) | (cases h; omega)
theorem gfr_nt {v : Nat → Nat} (w : wfg v) {d kind g : Nat} (h : gfr v d kind = some g) : g < v 0 ∧ 0 < nts v g := by
  unfold gfr at h
  split at h
  · exact ⟨gfd_lt _ _ h, gfd_nt _ _ h⟩
  · obtain ⟨j, -, -, e⟩ := sr_ge _ _ h
    split at e
    · next q => cases e; exact ⟨bh_lt w _ _, q⟩
    · cases e
theorem fni_lt {v : Nat → Nat} {g i : Nat} (hg : g < v 0) (h : fni v g = some i) : i < v 0 * v 2 ∧ io v i 0 = 0 ∧ v 2 * g ≤ i ∧ i < v 2 * g + v 2 := by
  obtain ⟨k, -, hk, e⟩ := sr_ge _ _ h
  split at e
  · next q => cases e; exact ⟨gb_lt hg (by omega), q, by omega, by omega⟩
  · cases e
set_option maxRecDepth 100000 in
theorem c_makes (hn : 72 ≤ h.1) (w : wf v) (d nm kind : Nat) (hd : d < v 0 * v 2) (hnm : nm < 2 ^ 32) (hkd : kind = 1 ∨ kind = 2) : sg_Kw MX8_makes [.ref 64, .int (nI d), .int (nI nm), .int (nI kind)] (mv h A F v) (some (.int (mkA v (mks v d nm kind)).1)) (mv h A F (mkA v (mks v d nm kind)).2) := by
  have hgi := wf_gi w.1
  have hgb := wf_gb w.1
  have hfr := fragI (v := v)
  have hrm : room v ≤ 4 * v 0 * v 1 := cnt_le _ _
  have hr99 := w.1.2.2.2.2.1
  have h4 := w.1.1
  show sg_A MX8_makes 0 [some (.ref 64), some (.int (nI d)), some (.int (nI nm)), some (.int (nI kind)), none, none, none] [] _ _
  refine at_ld (i := 0) dX8_makes_0 rfl rfl rfl ?_
  refine at_ld (i := 1) dX8_makes_1 rfl rfl rfl ?_
  refine at_ld (i := 3) dX8_makes_2 rfl rfl rfl ?_
  refine at_rv [_, _] dX8_makes_3 mX8_groupFor ⟨Nat.le_of_ble_eq_true rfl, Nat.le_of_ble_eq_true rfl⟩ lX8_230 iX8_groupFor rfl rfl (mv_o hn _ _ _) (by omega) rfl (Nat.le_of_ble_eq_true rfl) (Nat.le_of_ble_eq_true rfl) ⟨rfl, rfl⟩ (c_groupFor A F v hn w d kind hd (by omega)) ?_
  refine at_st (i := 4) dX8_makes_6 rfl rfl (Nat.le_of_ble_eq_true rfl) rfl ?_
  try dsimp only [List.set_cons_succ, List.set_cons_zero]
  refine at_ld (i := 4) dX8_makes_8 rfl rfl rfl ?_
  refine at_k (-4) dX8_makes_10 rfl (by decide) ?_
  cases q : gfr v d kind with
  | none =>
    refine at_ieq 35 dX8_makes_12 (by decide) (fun c => ?_) (fun c => ?_)
    · refine at_k (-3) dX8_makes_35 rfl (by decide) ?_
      refine at_ret dX8_makes_37 rfl rfl ?_
      rw [mks, q]
      exact ⟨rfl, rfl⟩
    · exact absurd rfl c
  | some g =>
    obtain ⟨hg, hnt⟩ := gfr_nt w.1 q
    obtain ⟨i, hi⟩ := fni_ex hnt
    obtain ⟨hi1, hi0, hi2, hi3⟩ := fni_lt hg hi
    refine at_ieq 35 dX8_makes_12 (by decide) (fun c => ?_) (fun c => ?_)
    · exact absurd c (oI_n (by omega))
    · rw [show oI (some g) = nI g from rfl]
      -- behind the test of room
      have on : ¬ (kind = 1 ∧ room v < v 4 + 1) → sg_A MX8_makes 38 [some (.ref 64), some (.int (nI d)), some (.int (nI nm)), some (.int (nI kind)), some (.int (nI g)), none, none] [] (mv h A F v) (fun r' h' => r' = some (.int (mkA v (mks v d nm kind)).1) ∧ h' = mv h A F (mkA v (mks v d nm kind)).2) := by
        intro hno
        refine at_ld (i := 0) dX8_makes_38 rfl rfl rfl ?_
        refine at_get dX8_makes_39 fX8_7 (mv_o hn _ _ _) (by omega) rfl ?_
        refine at_k (nI 2) dX8_makes_42 rfl (by decide) ?_
        refine at_ald 2 dX8_makes_43 (mv_a hn _ _ _) rfl (by decide) (by decide) ?_
        refine at_ld (i := 4) dX8_makes_44 rfl rfl rfl ?_
        refine at_bin dX8_makes_46 rfl ?_
        try dsimp only
        rw [nI_mul]
        refine at_st (i := 5) dX8_makes_47 rfl rfl (Nat.le_of_ble_eq_true rfl) rfl ?_
        try dsimp only [List.set_cons_succ, List.set_cons_zero]
        -- the row is put together
        have put : ∀ at_, (if kind = 1 then rnr v g 1 else some 0) = some at_ → at_ < 128 → sg_A MX8_makes 93 [some (.ref 64), some (.int (nI d)), some (.int (nI nm)), some (.int (nI kind)), some (.int (nI g)), some (.int (nI i)), some (.int (nI at_))] [] (mv h A F v) (fun r' h' => r' = some (.int (mkA v (mks v d nm kind)).1) ∧ h' = mv h A F (mkA v (mks v d nm kind)).2) := by
          intro at_ hat hatl
          have hmk : mks v d nm kind = some (i, mkv v i d nm kind at_) := by rw [mks, q]; dsimp only; rw [if_neg hno, hat]; dsimp only; rw [hi]
          rw [hmk]
          refine at_ld (i := 0) dX8_makes_93 rfl rfl rfl ?_
          refine at_ld (i := 5) dX8_makes_94 rfl rfl rfl ?_
          refine at_k (nI 0) dX8_makes_96 rfl (by decide) ?_
          refine at_ld (i := 3) dX8_makes_97 rfl rfl rfl ?_
          refine at_wv [_, _, _] dX8_makes_98 mX8_sets ⟨Nat.le_of_ble_eq_true rfl, Nat.le_of_ble_eq_true rfl⟩ lX8_236 iX8_sets rfl rfl (mv_o hn _ _ _) (by omega) rfl (Nat.le_of_ble_eq_true rfl) (Nat.le_of_ble_eq_true rfl) ⟨rfl, rfl⟩ (c_sets A F _ hn i 0 kind _ rfl (by omega)) ⟨rfl, rfl⟩ ?_
          try dsimp only [Option.toList, List.cons_append, List.nil_append]
          refine at_ld (i := 0) dX8_makes_101 rfl rfl rfl ?_
          refine at_ld (i := 5) dX8_makes_102 rfl rfl rfl ?_
          refine at_k (nI 1) dX8_makes_104 rfl (by decide) ?_
          refine at_ld (i := 1) dX8_makes_105 rfl rfl rfl ?_
          refine at_wv [_, _, _] dX8_makes_106 mX8_sets ⟨Nat.le_of_ble_eq_true rfl, Nat.le_of_ble_eq_true rfl⟩ lX8_236 iX8_sets rfl rfl (mv_o hn _ _ _) (by omega) rfl (Nat.le_of_ble_eq_true rfl) (Nat.le_of_ble_eq_true rfl) ⟨rfl, rfl⟩ (c_sets A F _ hn i 1 d _ rfl (by omega)) ⟨rfl, rfl⟩ ?_
          try dsimp only [Option.toList, List.cons_append, List.nil_append]
          refine at_ld (i := 0) dX8_makes_109 rfl rfl rfl ?_
          refine at_ld (i := 5) dX8_makes_110 rfl rfl rfl ?_
          refine at_k (nI 2) dX8_makes_112 rfl (by decide) ?_
          refine at_ld (i := 2) dX8_makes_113 rfl rfl rfl ?_
          refine at_wv [_, _, _] dX8_makes_114 mX8_sets ⟨Nat.le_of_ble_eq_true rfl, Nat.le_of_ble_eq_true rfl⟩ lX8_236 iX8_sets rfl rfl (mv_o hn _ _ _) (by omega) rfl (Nat.le_of_ble_eq_true rfl) (Nat.le_of_ble_eq_true rfl) ⟨rfl, rfl⟩ (c_sets A F _ hn i 2 nm _ rfl (by omega)) ⟨rfl, rfl⟩ ?_
          try dsimp only [Option.toList, List.cons_append, List.nil_append]
          refine at_ld (i := 0) dX8_makes_117 rfl rfl rfl ?_
          refine at_ld (i := 5) dX8_makes_118 rfl rfl rfl ?_
          have fin : ∀ b : Bool, b = decide (kind = 1) → sg_A MX8_makes 131 [some (.ref 64), some (.int (nI d)), some (.int (nI nm)), some (.int (nI kind)), some (.int (nI g)), some (.int (nI i)), some (.int (nI at_))] [.int (bI b), .int (nI 3), .int (nI i), .ref 64] (mv h A F (vf_upd (vf_upd (vf_upd v (136 + 15 * i + 0) kind) (136 + 15 * i + 1) d) (136 + 15 * i + 2) nm)) (fun r' h' => r' = some (.int (mkA v (some (i, mkv v i d nm kind at_))).1) ∧ h' = mv h A F (mkA v (some (i, mkv v i d nm kind at_))).2) := by
            intro b hb
            have hb2 : bI b = nI (if kind = 1 then 1 else 0) := by
              rw [hb, bI_nI]
              by_cases z : kind = 1
              · rw [decide_eq_true z, if_pos rfl, if_pos z]
              · rw [decide_eq_false z, if_neg (by decide), if_neg z]
            refine at_rs [_] dX8_makes_131 mX8_flag ⟨Nat.le_of_ble_eq_true rfl, Nat.le_of_ble_eq_true rfl⟩ lX8_133 tX8_flag rfl (Nat.le_of_ble_eq_true rfl) (Nat.le_of_ble_eq_true rfl) ⟨rfl, rfl⟩ (c_flag _ _) ?_
            refine at_wv [_, _, _] dX8_makes_134 mX8_sets ⟨Nat.le_of_ble_eq_true rfl, Nat.le_of_ble_eq_true rfl⟩ lX8_236 iX8_sets rfl rfl (mv_o hn _ _ _) (by omega) rfl (Nat.le_of_ble_eq_true rfl) (Nat.le_of_ble_eq_true rfl) ⟨rfl, rfl⟩ (c_sets A F _ hn i 3 (if kind = 1 then 1 else 0) _ hb2 (by omega)) ⟨rfl, rfl⟩ ?_
            try dsimp only [Option.toList, List.cons_append, List.nil_append]
            refine at_ld (i := 0) dX8_makes_137 rfl rfl rfl ?_
            refine at_ld (i := 5) dX8_makes_138 rfl rfl rfl ?_
            refine at_k (nI 4) dX8_makes_140 rfl (by decide) ?_
            refine at_ld (i := 6) dX8_makes_141 rfl rfl rfl ?_
            refine at_wv [_, _, _] dX8_makes_143 mX8_sets ⟨Nat.le_of_ble_eq_true rfl, Nat.le_of_ble_eq_true rfl⟩ lX8_236 iX8_sets rfl rfl (mv_o hn _ _ _) (by omega) rfl (Nat.le_of_ble_eq_true rfl) (Nat.le_of_ble_eq_true rfl) ⟨rfl, rfl⟩ (c_sets A F _ hn i 4 at_ _ rfl (by omega)) ⟨rfl, rfl⟩ ?_
            try dsimp only [Option.toList, List.cons_append, List.nil_append]
            refine at_ld (i := 3) dX8_makes_146 rfl rfl rfl ?_
            refine at_k (nI 1) dX8_makes_147 rfl (by decide) ?_
            refine at_ine 158 dX8_makes_148 (by decide) (fun c1 => ?_) (fun c1 => ?_)
            · have c2 : ¬ kind = 1 := fun z => c1 (by rw [z])
              refine at_ld (i := 5) dX8_makes_158 rfl rfl rfl ?_
              refine at_ret dX8_makes_160 rfl rfl ?_
              show _ ∧ _ = mv h A F (mkv v i d nm kind at_)
              rw [mkv, if_neg c2]
              exact ⟨rfl, rfl⟩
            · have c2 := (nI_eq32 (by omega) (by decide)).mp (Classical.not_not.mp c1)
              refine at_ld (i := 0) dX8_makes_151 rfl rfl rfl ?_
              refine at_ld (i := 6) dX8_makes_152 rfl rfl rfl ?_
              refine at_k (nI 0) dX8_makes_154 rfl (by decide) ?_
              refine at_wv [_, _] dX8_makes_155 mX8_lets ⟨Nat.le_of_ble_eq_true rfl, Nat.le_of_ble_eq_true rfl⟩ lX8_137 iX8_lets rfl rfl (mv_o hn _ _ _) (by omega) rfl (Nat.le_of_ble_eq_true rfl) (Nat.le_of_ble_eq_true rfl) ⟨rfl, rfl⟩ (c_lets A F _ hn at_ (by omega) false) ⟨rfl, rfl⟩ ?_
              try dsimp only [Option.toList, List.cons_append, List.nil_append]
              refine at_ld (i := 5) dX8_makes_158 rfl rfl rfl ?_
              refine at_ret dX8_makes_160 rfl rfl ?_
              show _ ∧ _ = mv h A F (mkv v i d nm kind at_)
              rw [mkv, if_pos c2]
              exact ⟨rfl, rfl⟩
          refine at_k (nI 3) dX8_makes_120 rfl (by decide) ?_
          refine at_ld (i := 3) dX8_makes_121 rfl rfl rfl ?_
          refine at_k (nI 1) dX8_makes_122 rfl (by decide) ?_
          refine at_ine 130 dX8_makes_123 (by decide) (fun c1 => ?_) (fun c1 => ?_)
          · have c2 : ¬ kind = 1 := fun z => c1 (by rw [z])
            refine at_k (nI 0) dX8_makes_130 rfl (by decide) ?_
            exact fin false (decide_eq_false c2).symm
          · have c2 := (nI_eq32 (by omega) (by decide)).mp (Classical.not_not.mp c1)
            refine at_k (nI 1) dX8_makes_126 rfl (by decide) ?_
            refine at_goto 131 dX8_makes_127 (by decide) ?_
            exact fin true (decide_eq_true c2).symm
        -- the first that is nothing
        have loop : ∀ m k, k + m = v 2 → srch (fun k => if io v (v 2 * g + k) 0 = 0 then some (v 2 * g + k) else none) k m = some i → sg_A MX8_makes 49 [some (.ref 64), some (.int (nI d)), some (.int (nI nm)), some (.int (nI kind)), some (.int (nI g)), some (.int (nI (v 2 * g + k))), none] [] (mv h A F v) (fun r' h' => r' = some (.int (mkA v (mks v d nm kind)).1) ∧ h' = mv h A F (mkA v (mks v d nm kind)).2) := by
          intro m
          induction m with
          | zero => intro k hk hs; cases hs
          | succ m ih =>
            intro k hk hs
            have hlt := gb_lt (B := v 2) (b := k) hg (by omega)
            have wk := wf_k w (v 2 * g + k) (by omega)
            refine at_ld (i := 0) dX8_makes_49 rfl rfl rfl ?_
            refine at_ld (i := 5) dX8_makes_50 rfl rfl rfl ?_
            refine at_k (nI 0) dX8_makes_52 rfl (by decide) ?_
            refine at_rv [_, _] dX8_makes_53 mX8_of ⟨Nat.le_of_ble_eq_true rfl, Nat.le_of_ble_eq_true rfl⟩ lX8_173 iX8_of rfl rfl (mv_o hn _ _ _) (by omega) rfl (Nat.le_of_ble_eq_true rfl) (Nat.le_of_ble_eq_true rfl) ⟨rfl, rfl⟩ (c_of A F v hn (v 2 * g + k) 0 (by omega)) ?_
            refine at_zeq 65 dX8_makes_56 (by decide) (fun c1 => ?_) (fun c1 => ?_)
            · have c2 := (nI_eq32 (b := 0) (by omega) (by decide)).mp c1
              rw [srch, if_pos c2] at hs
              have hs' : v 2 * g + k = i := Option.some.inj hs
              rw [hs']
              refine at_ld (i := 3) dX8_makes_65 rfl rfl rfl ?_
              refine at_k (nI 1) dX8_makes_66 rfl (by decide) ?_
              refine at_ine 80 dX8_makes_67 (by decide) (fun c3 => ?_) (fun c3 => ?_)
              · have c4 : ¬ kind = 1 := fun z => c3 (by rw [z])
                refine at_k (nI 0) dX8_makes_80 rfl (by decide) ?_
                refine at_st (i := 6) dX8_makes_81 rfl rfl (Nat.le_of_ble_eq_true rfl) rfl ?_
                try dsimp only [List.set_cons_succ, List.set_cons_zero]
                refine at_ld (i := 6) dX8_makes_83 rfl rfl rfl ?_
                refine at_k (-4) dX8_makes_85 rfl (by decide) ?_
                refine at_ine 93 dX8_makes_87 (by decide) (fun c5 => ?_) (fun c5 => ?_)
                · exact put 0 (by rw [if_neg c4]) (by omega)
                · exact absurd (Classical.not_not.mp c5) (oI_n (by decide))
              · have c4 := (nI_eq32 (by omega) (by decide)).mp (Classical.not_not.mp c3)
                refine at_ld (i := 0) dX8_makes_70 rfl rfl rfl ?_
                refine at_ld (i := 4) dX8_makes_71 rfl rfl rfl ?_
                refine at_k (nI 1) dX8_makes_73 rfl (by decide) ?_
                refine at_rv [_, _] dX8_makes_74 mX8_runNear ⟨Nat.le_of_ble_eq_true rfl, Nat.le_of_ble_eq_true rfl⟩ lX8_233 iX8_runNear rfl rfl (mv_o hn _ _ _) (by omega) rfl (Nat.le_of_ble_eq_true rfl) (Nat.le_of_ble_eq_true rfl) ⟨rfl, rfl⟩ (c_runNear A F v hn w.1 w.2.1 g 1 (by omega) (by omega)) ?_
                refine at_goto 81 dX8_makes_77 (by decide) ?_
                refine at_st (i := 6) dX8_makes_81 rfl rfl (Nat.le_of_ble_eq_true rfl) rfl ?_
                try dsimp only [List.set_cons_succ, List.set_cons_zero]
                refine at_ld (i := 6) dX8_makes_83 rfl rfl rfl ?_
                refine at_k (-4) dX8_makes_85 rfl (by decide) ?_
                cases q2 : rnr v g 1 with
                | none =>
                  refine at_ine 93 dX8_makes_87 (by decide) (fun c5 => ?_) (fun c5 => ?_)
                  · exact absurd rfl c5
                  · refine at_k (-3) dX8_makes_90 rfl (by decide) ?_
                    refine at_ret dX8_makes_92 rfl rfl ?_
                    have hmk : mks v d nm kind = none := by rw [mks, q]; dsimp only; rw [if_neg hno, if_pos c4, q2]
                    rw [hmk]
                    exact ⟨rfl, rfl⟩
                | some x =>
                  obtain ⟨hx1, -⟩ := rnr_end w.1 (by omega) (by omega) q2
                  refine at_ine 93 dX8_makes_87 (by decide) (fun c5 => ?_) (fun c5 => ?_)
                  · rw [show oI (some x) = nI x from rfl]
                    exact put x (by rw [if_pos c4, q2]) (by omega)
                  · exact absurd (Classical.not_not.mp c5) (oI_n (by omega))
            · have c2 : ¬ io v (v 2 * g + k) 0 = 0 := fun z => c1 (by rw [z]; rfl)
              rw [srch, if_neg c2] at hs
              refine at_iinc (nI 1) dX8_makes_59 rfl rfl (by decide) ?_
              try dsimp only [List.set_cons_succ, List.set_cons_zero]
              refine at_goto 49 dX8_makes_62 (by decide) ?_
              rw [nI_add]
              exact ih (k + 1) (by omega) hs
        exact loop (v 2) 0 (by omega) hi
      refine at_ld (i := 3) dX8_makes_15 rfl rfl rfl ?_
      refine at_k (nI 1) dX8_makes_16 rfl (by decide) ?_
      refine at_ine 38 dX8_makes_17 (by decide) (fun c1 => ?_) (fun c1 => ?_)
      · have c2 : ¬ kind = 1 := fun z => c1 (by rw [z])
        exact on (fun z => c2 z.1)
      · have c2 := (nI_eq32 (by omega) (by decide)).mp (Classical.not_not.mp c1)
        refine at_ld (i := 0) dX8_makes_20 rfl rfl rfl ?_
        refine at_rv [] dX8_makes_21 mX8_room ⟨Nat.le_of_ble_eq_true rfl, Nat.le_of_ble_eq_true rfl⟩ lX8_206 iX8_room rfl rfl (mv_o hn _ _ _) (by omega) rfl (Nat.le_of_ble_eq_true rfl) (Nat.le_of_ble_eq_true rfl) ⟨rfl, rfl⟩ (c_room A F v hn w.1 w.2.1) ?_
        refine at_k (nI 1) dX8_makes_24 rfl (by decide) ?_
        refine at_bin dX8_makes_25 rfl ?_
        refine at_ld (i := 0) dX8_makes_26 rfl rfl rfl ?_
        refine at_get dX8_makes_27 fX8_7 (mv_o hn _ _ _) (by omega) rfl ?_
        refine at_k (nI 4) dX8_makes_30 rfl (by decide) ?_
        refine at_ald 4 dX8_makes_31 (mv_a hn _ _ _) rfl (by decide) (by decide) ?_
        refine at_ige 38 dX8_makes_32 (by decide) (fun c3 => ?_) (fun c3 => ?_)
        · have c4 := (nI_subge (by omega) (by decide) (by omega)).mp c3
          exact on (fun z => by omega)
        · have c4 : ¬ (v 4 + 1 ≤ room v) := fun z => c3 ((nI_subge (by omega) (by decide) (by omega)).mpr z)
          refine at_k (-3) dX8_makes_35 rfl (by decide) ?_
          refine at_ret dX8_makes_37 rfl rfl ?_
          have hmk : mks v d nm kind = none := by rw [mks, q]; dsimp only; rw [if_pos ⟨c2, by omega⟩]
          rw [hmk]
          exact ⟨rfl, rfl⟩
def s_make (v : Nat → Nat) (d nm kd : Int32) : Int32 × (Nat → Nat) := if isDir v d = true ∧ inR nm 0 9 = true ∧ inR kd 1 2 = true then (if spt v = true ∨ (ino v d.toNatClampNeg nm.toNatClampNeg).isSome = true then (-2, v) else mkA v (mks v d.toNatClampNeg nm.toNatClampNeg kd.toNatClampNeg)) else (-1, v)
set_option maxRecDepth 100000 in
theorem c_make (hn : 72 ≤ h.1) (w : wf v) (wp : wfp v) (d nm kd : Int32) : sg_Kw MX8_make [.ref 64, .int d, .int nm, .int kd] (mv h A F v) (some (.int (s_make v d nm kd).1)) (mv h A F (s_make v d nm kd).2) := by
  have hgi := wf_gi w.1
  show sg_A MX8_make 0 [some (.ref 64), some (.int d), some (.int nm), some (.int kd)] [] _ _
  have bad : ¬ (isDir v d = true ∧ inR nm 0 9 = true ∧ inR kd 1 2 = true) → sg_A MX8_make 32 [some (.ref 64), some (.int d), some (.int nm), some (.int kd)] [] (mv h A F v) (fun r' h' => r' = some (.int (s_make v d nm kd).1) ∧ h' = mv h A F (s_make v d nm kd).2) := by
    intro hno
    refine at_k (-1) dX8_make_32 rfl (by decide) ?_
    refine at_ret dX8_make_33 rfl rfl ?_
    rw [s_make, if_neg hno]
    exact ⟨rfl, rfl⟩
  refine at_ld (i := 0) dX8_make_0 rfl rfl rfl ?_
  refine at_ld (i := 1) dX8_make_1 rfl rfl rfl ?_
  refine at_rv [_] dX8_make_2 mX8_isDirectory ⟨Nat.le_of_ble_eq_true rfl, Nat.le_of_ble_eq_true rfl⟩ lX8_223 iX8_isDirectory rfl rfl (mv_o hn _ _ _) (by omega) rfl (Nat.le_of_ble_eq_true rfl) (Nat.le_of_ble_eq_true rfl) ⟨rfl, rfl⟩ (c_isDirectory A F v hn w.1 (wf_k w) d) ?_
  refine at_zeq 32 dX8_make_5 (by decide) (fun c => ?_) (fun c => ?_)
  · have c1 := (bI_0 _).mp c
    exact bad (fun z => by rw [c1] at z; cases z.1)
  · have c1 := bI_1 c
    refine at_ld (i := 2) dX8_make_8 rfl rfl rfl ?_
    refine at_i2l dX8_make_9 ?_
    refine at_lconst dX8_make_10 ?_
    refine at_ldc2 dX8_make_11 kX8_226 ?_
    refine at_rs [_, _, _] dX8_make_14 mX8_in ⟨Nat.le_of_ble_eq_true rfl, Nat.le_of_ble_eq_true rfl⟩ lX8_41 tX8_in rfl (Nat.le_of_ble_eq_true rfl) (Nat.le_of_ble_eq_true rfl) ⟨rfl, rfl⟩ (c_inA _ nm 0 9 rfl rfl (by decide) (by decide)) ?_
    refine at_zeq 32 dX8_make_17 (by decide) (fun c2 => ?_) (fun c2 => ?_)
    · have c3 := (bI_0 _).mp c2
      exact bad (fun z => by rw [c3] at z; cases z.2.1)
    · have c3 := bI_1 c2
      refine at_ld (i := 3) dX8_make_20 rfl rfl rfl ?_
      refine at_i2l dX8_make_21 ?_
      refine at_lconst dX8_make_22 ?_
      refine at_ldc2 dX8_make_23 kX8_228 ?_
      refine at_rs [_, _, _] dX8_make_26 mX8_in ⟨Nat.le_of_ble_eq_true rfl, Nat.le_of_ble_eq_true rfl⟩ lX8_41 tX8_in rfl (Nat.le_of_ble_eq_true rfl) (Nat.le_of_ble_eq_true rfl) ⟨rfl, rfl⟩ (c_inA _ kd 1 2 rfl rfl (by decide) (by decide)) ?_
      refine at_zne 34 dX8_make_29 (by decide) (fun c4 => ?_) (fun c4 => ?_)
      · have c5 := bI_1 c4
        rw [s_make, if_pos ⟨c1, c3, c5⟩]
        obtain ⟨k, hk, rfl, -⟩ := isDir_of w.1 c1
        obtain ⟨n, -, hn2, rfl⟩ := inR_of (by decide) c3
        obtain ⟨kk, hk1, hk2, rfl⟩ := inR_of (by decide) c5
        rw [nI_clamp (by omega), nI_clamp (by omega), nI_clamp (by omega)]
        refine at_ld (i := 0) dX8_make_34 rfl rfl rfl ?_
        refine at_rv [] dX8_make_35 mX8_isSpoilt ⟨Nat.le_of_ble_eq_true rfl, Nat.le_of_ble_eq_true rfl⟩ lX8_240 iX8_isSpoilt rfl rfl (mv_o hn _ _ _) (by omega) rfl (Nat.le_of_ble_eq_true rfl) (Nat.le_of_ble_eq_true rfl) ⟨rfl, rfl⟩ (c_isSpoilt A F v hn w) ?_
        refine at_zne 52 dX8_make_38 (by decide) (fun c6 => ?_) (fun c6 => ?_)
        · have c7 := bI_1 c6
          refine at_k (-2) dX8_make_52 rfl (by decide) ?_
          refine at_ret dX8_make_54 rfl rfl ?_
          rw [if_pos (Or.inl c7)]
          exact ⟨rfl, rfl⟩
        · have c7 := (bI_0 _).mp (Classical.not_not.mp c6)
          refine at_ld (i := 0) dX8_make_41 rfl rfl rfl ?_
          refine at_ld (i := 1) dX8_make_42 rfl rfl rfl ?_
          refine at_ld (i := 2) dX8_make_43 rfl rfl rfl ?_
          refine at_rv [_, _] dX8_make_44 mX8_inodeOf ⟨Nat.le_of_ble_eq_true rfl, Nat.le_of_ble_eq_true rfl⟩ lX8_103 iX8_inodeOf rfl rfl (mv_o hn _ _ _) (by omega) rfl (Nat.le_of_ble_eq_true rfl) (Nat.le_of_ble_eq_true rfl) ⟨rfl, rfl⟩ (c_inodeOf A F v hn w wp k n (by omega) (by omega)) ?_
          refine at_k (-4) dX8_make_47 rfl (by decide) ?_
          cases q : ino v k n with
          | none =>
            refine at_ieq 55 dX8_make_49 (by decide) (fun c8 => ?_) (fun c8 => ?_)
            · refine at_ld (i := 0) dX8_make_55 rfl rfl rfl ?_
              refine at_ld (i := 1) dX8_make_56 rfl rfl rfl ?_
              refine at_ld (i := 2) dX8_make_57 rfl rfl rfl ?_
              refine at_ld (i := 3) dX8_make_58 rfl rfl rfl ?_
              refine at_wv [_, _, _] dX8_make_59 mX8_makes ⟨Nat.le_of_ble_eq_true rfl, Nat.le_of_ble_eq_true rfl⟩ lX8_110 iX8_makes rfl rfl (mv_o hn _ _ _) (by omega) rfl (Nat.le_of_ble_eq_true rfl) (Nat.le_of_ble_eq_true rfl) ⟨rfl, rfl⟩ (c_makes A F v hn w k n kk hk (by omega) (by omega)) ⟨rfl, rfl⟩ ?_
              try dsimp only [Option.toList, List.cons_append, List.nil_append]
              refine at_ret dX8_make_62 rfl rfl ?_
              rw [if_neg (fun z => by rw [c7] at z; rcases z with z | z <;> cases z)]
              exact ⟨rfl, rfl⟩
            · exact absurd rfl c8
          | some j =>
            have hj := ino_lt q
            refine at_ieq 55 dX8_make_49 (by decide) (fun c8 => ?_) (fun c8 => ?_)
            · exact absurd c8 (oI_n (by omega))
            · refine at_k (-2) dX8_make_52 rfl (by decide) ?_
              refine at_ret dX8_make_54 rfl rfl ?_
              have e : spt v = true ∨ (some j : Option Nat).isSome = true := Or.inr rfl
              rw [if_pos e]
              exact ⟨rfl, rfl⟩
      · have c5 := (bI_0 _).mp (Classical.not_not.mp c4)
        exact bad (fun z => by rw [c5] at z; cases z.2.2)
end R10
