/-! THE CLASS: a volume's cells, Inodes that are written -/
def voC (a : Nat) (L : Nat → Nat) (b d : Nat → Int32) (K : Nat → Nat → Int32) (e m : Int32) : Nat → sg_E
  | 0 => .inr (6, [.ref (a + 1), .ref (a + 2), .ref (a + 4), .ref (a + 6), .int e, .int m])
  | 1 => .inr (3, lay L)
  | 2 => .inr (1, [.ref (a + 1), .ref (a + 2 + 1)])
  | 3 => .inl (false, 32, b)
  | 4 => .inr (1, [.ref (a + 1), .ref (a + 4 + 1)])
  | 5 => .inl (false, 32, d)
  | 6 => .inr (2, [.ref (a + 1), .ref (a + 6 + 1), .ref (a + 6 + 2), .ref (a + 6 + 3), .ref (a + 6 + 4), .ref (a + 6 + 5), .ref (a + 6 + 6)])
  | 7 => .inl (false, 24, K 0)
  | 8 => .inl (false, 24, K 1)
  | 9 => .inl (false, 24, K 2)
  | 10 => .inl (false, 24, K 3)
  | 11 => .inl (false, 24, K 4)
  | _ => .inl (false, 240, K 5)
def vo2 (g : sg_H) (a : Nat) (C : Nat → sg_E) : sg_H := (g.1, g.2.1, fun j => if a ≤ j ∧ j < a + 13 then C (j - a) else g.2.2 j)
/-- a volume at a: its six numbers, its map's bits, its other map's bits, its inodes' rows, its counts -/
def vo (g : sg_H) (a : Nat) (L : Nat → Nat) (b d : Nat → Int32) (K : Nat → Nat → Int32) (e m : Int32) : sg_H := vo2 g a (voC a L b d K e m)
theorem c13 {P : Nat → Prop} (h0 : P 0) (h1 : P 1) (h2 : P 2) (h3 : P 3) (h4 : P 4) (h5 : P 5) (h6 : P 6) (h7 : P 7) (h8 : P 8) (h9 : P 9) (h10 : P 10) (h11 : P 11) (h12 : P 12) : ∀ k, k < 13 → P k := by
  intro k hk
  rcases (show k = 0 ∨ k = 1 ∨ k = 2 ∨ k = 3 ∨ k = 4 ∨ k = 5 ∨ k = 6 ∨ k = 7 ∨ k = 8 ∨ k = 9 ∨ k = 10 ∨ k = 11 ∨ k = 12 by omega) with rfl | rfl | rfl | rfl | rfl | rfl | rfl | rfl | rfl | rfl | rfl | rfl | rfl <;> assumption
theorem vo_u {g : sg_H} {a o : Nat} {C C' : Nat → sg_E} {x : sg_E} (ho : o < 13) (h : ∀ k, k < 13 → k ≠ o → C k = C' k) (hx : C' o = x) : sg_up (vo2 g a C) (a + o) x = vo2 g a C' := by
  subst hx
  refine Prod.ext rfl (Prod.ext rfl ?_)
  funext j
  show (if j = a + o then _ else (if a ≤ j ∧ j < a + 13 then _ else _)) = (if a ≤ j ∧ j < a + 13 then _ else _)
  by_cases e1 : j = a + o
  · rw [if_pos e1, if_pos (by omega), e1, show a + o - a = o by omega]
  · rw [if_neg e1]
    by_cases e2 : a ≤ j ∧ j < a + 13
    · rw [if_pos e2, if_pos e2, h (j - a) (by omega) (by omega)]
    · rw [if_neg e2, if_neg e2]
theorem vo2_at {g : sg_H} {a : Nat} (C : Nat → sg_E) (hg : a + 13 ≤ g.1) (o : Nat) (ho : o < 13) : sg_at (vo2 g a C) (a + o) (C o) := by
  refine ⟨Or.inl (show a + o < g.1 by omega), ?_⟩
  show (if a ≤ a + o ∧ a + o < a + 13 then _ else _) = _
  rw [if_pos (by omega), show a + o - a = o by omega]
theorem vo2_out {g : sg_H} {a : Nat} (C : Nat → sg_E) {j : Nat} {e : sg_E} (h : sg_at g j e) (hj : j < a ∨ a + 13 ≤ j) : sg_at (vo2 g a C) j e := by
  refine ⟨h.1, ?_⟩
  show (if a ≤ j ∧ j < a + 13 then _ else _) = _
  rw [if_neg (by omega), h.2]
theorem vo2_g {g : sg_H} {a : Nat} (C : Nat → sg_E) {j : Nat} (e : sg_E) (hj : j < a ∨ a + 13 ≤ j) : sg_up (vo2 g a C) j e = vo2 (sg_up g j e) a C := by
  refine Prod.ext rfl (Prod.ext rfl ?_)
  funext i
  show (if i = j then e else if a ≤ i ∧ i < a + 13 then _ else _) = (if a ≤ i ∧ i < a + 13 then _ else if i = j then _ else _)
  by_cases q : i = j
  · rw [if_pos q, if_neg (by omega), if_pos q]
  · rw [if_neg q, if_neg q]
section C8
variable {g : sg_H} {a : Nat} {L : Nat → Nat} {b d : Nat → Int32} {K : Nat → Nat → Int32} {e m : Int32}
theorem vo_ul (L' : Nat → Nat) : sg_up (vo g a L b d K e m) (a + 1) (.inr (3, lay L')) = vo g a L' b d K e m := vo_u (by decide) (c13 (fun _ => rfl) (fun h => absurd rfl h) (fun _ => rfl) (fun _ => rfl) (fun _ => rfl) (fun _ => rfl) (fun _ => rfl) (fun _ => rfl) (fun _ => rfl) (fun _ => rfl) (fun _ => rfl) (fun _ => rfl) (fun _ => rfl)) rfl
theorem vo_ub (b' : Nat → Int32) : sg_up (vo g a L b d K e m) (a + 3) (.inl (false, 32, b')) = vo g a L b' d K e m := vo_u (by decide) (c13 (fun _ => rfl) (fun _ => rfl) (fun _ => rfl) (fun h => absurd rfl h) (fun _ => rfl) (fun _ => rfl) (fun _ => rfl) (fun _ => rfl) (fun _ => rfl) (fun _ => rfl) (fun _ => rfl) (fun _ => rfl) (fun _ => rfl)) rfl
theorem vo_ud (d' : Nat → Int32) : sg_up (vo g a L b d K e m) (a + 5) (.inl (false, 32, d')) = vo g a L b d' K e m := vo_u (by decide) (c13 (fun _ => rfl) (fun _ => rfl) (fun _ => rfl) (fun _ => rfl) (fun _ => rfl) (fun h => absurd rfl h) (fun _ => rfl) (fun _ => rfl) (fun _ => rfl) (fun _ => rfl) (fun _ => rfl) (fun _ => rfl) (fun _ => rfl)) rfl
theorem vo_uk0 (x : Nat → Int32) : sg_up (vo g a L b d K e m) (a + 7) (.inl (false, 24, x)) = vo g a L b d (vf_upd K 0 x) e m := vo_u (by decide) (c13 (fun _ => rfl) (fun _ => rfl) (fun _ => rfl) (fun _ => rfl) (fun _ => rfl) (fun _ => rfl) (fun _ => rfl) (fun h => absurd rfl h) (fun _ => rfl) (fun _ => rfl) (fun _ => rfl) (fun _ => rfl) (fun _ => rfl)) rfl
theorem vo_uk1 (x : Nat → Int32) : sg_up (vo g a L b d K e m) (a + 8) (.inl (false, 24, x)) = vo g a L b d (vf_upd K 1 x) e m := vo_u (by decide) (c13 (fun _ => rfl) (fun _ => rfl) (fun _ => rfl) (fun _ => rfl) (fun _ => rfl) (fun _ => rfl) (fun _ => rfl) (fun _ => rfl) (fun h => absurd rfl h) (fun _ => rfl) (fun _ => rfl) (fun _ => rfl) (fun _ => rfl)) rfl
theorem vo_uk2 (x : Nat → Int32) : sg_up (vo g a L b d K e m) (a + 9) (.inl (false, 24, x)) = vo g a L b d (vf_upd K 2 x) e m := vo_u (by decide) (c13 (fun _ => rfl) (fun _ => rfl) (fun _ => rfl) (fun _ => rfl) (fun _ => rfl) (fun _ => rfl) (fun _ => rfl) (fun _ => rfl) (fun _ => rfl) (fun h => absurd rfl h) (fun _ => rfl) (fun _ => rfl) (fun _ => rfl)) rfl
theorem vo_uk3 (x : Nat → Int32) : sg_up (vo g a L b d K e m) (a + 10) (.inl (false, 24, x)) = vo g a L b d (vf_upd K 3 x) e m := vo_u (by decide) (c13 (fun _ => rfl) (fun _ => rfl) (fun _ => rfl) (fun _ => rfl) (fun _ => rfl) (fun _ => rfl) (fun _ => rfl) (fun _ => rfl) (fun _ => rfl) (fun _ => rfl) (fun h => absurd rfl h) (fun _ => rfl) (fun _ => rfl)) rfl
theorem vo_uk4 (x : Nat → Int32) : sg_up (vo g a L b d K e m) (a + 11) (.inl (false, 24, x)) = vo g a L b d (vf_upd K 4 x) e m := vo_u (by decide) (c13 (fun _ => rfl) (fun _ => rfl) (fun _ => rfl) (fun _ => rfl) (fun _ => rfl) (fun _ => rfl) (fun _ => rfl) (fun _ => rfl) (fun _ => rfl) (fun _ => rfl) (fun _ => rfl) (fun h => absurd rfl h) (fun _ => rfl)) rfl
theorem vo_uk5 (x : Nat → Int32) : sg_up (vo g a L b d K e m) (a + 12) (.inl (false, 240, x)) = vo g a L b d (vf_upd K 5 x) e m := vo_u (by decide) (c13 (fun _ => rfl) (fun _ => rfl) (fun _ => rfl) (fun _ => rfl) (fun _ => rfl) (fun _ => rfl) (fun _ => rfl) (fun _ => rfl) (fun _ => rfl) (fun _ => rfl) (fun _ => rfl) (fun _ => rfl) (fun h => absurd rfl h)) rfl
theorem vo_ue (e' : Int32) : sg_up (vo g a L b d K e m) (a + 0) (.inr (6, [.ref (a + 1), .ref (a + 2), .ref (a + 4), .ref (a + 6), .int e', .int m])) = vo g a L b d K e' m := vo_u (by decide) (c13 (fun h => absurd rfl h) (fun _ => rfl) (fun _ => rfl) (fun _ => rfl) (fun _ => rfl) (fun _ => rfl) (fun _ => rfl) (fun _ => rfl) (fun _ => rfl) (fun _ => rfl) (fun _ => rfl) (fun _ => rfl) (fun _ => rfl)) rfl
theorem vo_um (m' : Int32) : sg_up (vo g a L b d K e m) (a + 0) (.inr (6, [.ref (a + 1), .ref (a + 2), .ref (a + 4), .ref (a + 6), .int e, .int m'])) = vo g a L b d K e m' := vo_u (by decide) (c13 (fun h => absurd rfl h) (fun _ => rfl) (fun _ => rfl) (fun _ => rfl) (fun _ => rfl) (fun _ => rfl) (fun _ => rfl) (fun _ => rfl) (fun _ => rfl) (fun _ => rfl) (fun _ => rfl) (fun _ => rfl) (fun _ => rfl)) rfl
theorem vo_L (L' : Nat → Nat) (h : ∀ c, c < 6 → L' c = L c) : vo g a L b d K e m = vo g a L' b d K e m := by
  unfold vo
  congr 1
  funext o
  unfold voC
  split
  all_goals first
    | rfl
    | rw [lay_e h]
theorem vo_V (hg : a + 13 ≤ g.1) : sg_at (vo g a L b d K e m) a (.inr (6, [.ref (a + 1), .ref (a + 2), .ref (a + 4), .ref (a + 6), .int e, .int m])) := vo2_at _ hg 0 (by decide)
theorem vo_Y (hg : a + 13 ≤ g.1) : sg_at (vo g a L b d K e m) (a + 1) (.inr (3, lay L)) := vo2_at _ hg 1 (by decide)
theorem vo_F (hg : a + 13 ≤ g.1) (ha : a < 800) : FM (vo g a L b d K e m) (a + 2) (a + 1) L b := ⟨vo2_at _ hg 2 (by decide), vo2_at _ hg 1 (by decide), vo2_at _ hg 3 (by decide), by omega, by omega, by omega⟩
theorem vo_D (hg : a + 13 ≤ g.1) (ha : a < 800) : FM (vo g a L b d K e m) (a + 4) (a + 1) L d := ⟨vo2_at _ hg 4 (by decide), vo2_at _ hg 1 (by decide), vo2_at _ hg 5 (by decide), by omega, by omega, by omega⟩
theorem vo_I (hg : a + 13 ≤ g.1) (ha : a < 800) : IN (vo g a L b d K e m) (a + 6) (a + 1) L K := ⟨vo2_at _ hg 6 (by decide), vo2_at _ hg 1 (by decide), vo2_at _ hg 7 (by decide), vo2_at _ hg 8 (by decide), vo2_at _ hg 9 (by decide), vo2_at _ hg 10 (by decide), vo2_at _ hg 11 (by decide), vo2_at _ hg 12 (by decide), by omega, by omega⟩
theorem vo_O {j : Nat} (hj : j < a ∨ a + 13 ≤ j) {x : sg_E} (h : sg_at g j x) : sg_at (vo g a L b d K e m) j x := vo2_out _ h hj
theorem vo_G {j : Nat} (x : sg_E) (hj : j < a ∨ a + 13 ≤ j) : sg_up (vo g a L b d K e m) j x = vo (sg_up g j x) a L b d K e m := vo2_g _ x hj
/-- an inode's rows, changed -/
def kSz (K : Nat → Nat → Int32) (i : Nat) (s t : Int32) : Nat → Nat → Int32 := vf_upd (vf_upd K 3 (upd (K 3) i s)) 4 (upd (K 4) i t)
def kEn (K : Nat → Nat → Int32) (i : Nat) (p n : Int32) : Nat → Nat → Int32 := vf_upd (vf_upd K 1 (upd (K 1) i p)) 2 (upd (K 2) i n)
def kBl (K : Nat → Nat → Int32) (i k : Nat) (x : Int32) : Nat → Nat → Int32 := vf_upd K 5 (upd (K 5) (i * 10 + k) x)
def kBe (K : Nat → Nat → Int32) (i : Nat) (kd p n : Int32) : Nat → Nat → Int32 := kSz (kEn (vf_upd K 0 (upd (K 0) i kd)) i p n) i 0 (-4)
theorem kSz_at (K : Nat → Nat → Int32) (i : Nat) (s t : Int32) (f j : Nat) : kSz K i s t f j = if f = 3 ∧ j = i then s else if f = 4 ∧ j = i then t else K f j := by
  unfold kSz vf_upd upd
  by_cases h4 : f = 4
  · subst h4
    by_cases hj : j = i <;> simp [hj]
  · by_cases h3 : f = 3
    · subst h3
      by_cases hj : j = i <;> simp [hj]
    · simp [h4, h3]
theorem kEn_at (K : Nat → Nat → Int32) (i : Nat) (s t : Int32) (f j : Nat) : kEn K i s t f j = if f = 1 ∧ j = i then s else if f = 2 ∧ j = i then t else K f j := by
  unfold kEn vf_upd upd
  by_cases h4 : f = 2
  · subst h4
    by_cases hj : j = i <;> simp [hj]
  · by_cases h3 : f = 1
    · subst h3
      by_cases hj : j = i <;> simp [hj]
    · simp [h4, h3]
theorem kBl_at (K : Nat → Nat → Int32) (i k : Nat) (x : Int32) (f j : Nat) : kBl K i k x f j = if f = 5 ∧ j = i * 10 + k then x else K f j := by
  unfold kBl vf_upd upd
  by_cases h4 : f = 5
  · subst h4
    by_cases hj : j = i * 10 + k <;> simp [hj]
  · simp [h4]
theorem kBe_at (K : Nat → Nat → Int32) (i : Nat) (kd p n : Int32) (f j : Nat) : kBe K i kd p n f j = if f < 5 ∧ j = i then (if f = 0 then kd else if f = 1 then p else if f = 2 then n else if f = 3 then 0 else -4) else K f j := by
  unfold kBe
  rw [kSz_at, kEn_at]
  unfold vf_upd upd
  by_cases hj : j = i
  · subst hj
    by_cases h0 : f = 0
    · subst h0; simp
    · by_cases h1 : f = 1
      · subst h1; simp
      · by_cases h2 : f = 2
        · subst h2; simp
        · by_cases h3 : f = 3
          · subst h3; simp
          · by_cases h4 : f = 4
            · subst h4; simp
            · simp [h0, h1, h2, h3, h4, show ¬ f < 5 by omega]
  · by_cases h0 : f = 0
    · subst h0; simp [hj]
    · simp [hj, h0]
set_option maxRecDepth 100000 in
theorem k_setEntry (hg : a + 13 ≤ g.1) (ha : a < 800) (i : Nat) (hi : i < 24) (x y : Int32) : sg_Kw MX2_setEntry [.ref (a + 6), .int (nI i), .int x, .int y] (vo g a L b d K e m) none (vo g a L b d (kEn K i x y) e m) := by
  have hI : IN (vo g a L b d K e m) (a + 6) (a + 1) L K := vo_I hg ha
  have hI2 : IN (vo g a L b d (vf_upd K 1 (upd (K 1) i x)) e m) (a + 6) (a + 1) L (vf_upd K 1 (upd (K 1) i x)) := vo_I hg ha
  show sg_A MX2_setEntry 0 [some (.ref (a + 6)), some (.int (nI i)), some (.int x), some (.int y)] [] _ _
  refine at_ld (i := 1) dX2_setEntry_0 rfl rfl rfl ?_
  refine at_zlt 24 dX2_setEntry_1 (by decide) (fun c => ?_) (fun c => ?_)
  · exact absurd c (nI_pos (by omega))
  · refine at_ld (i := 1) dX2_setEntry_4 rfl rfl rfl ?_
    refine at_k (nI 24) dX2_setEntry_5 rfl (by decide) ?_
    refine at_ige 24 dX2_setEntry_7 (by decide) (fun c1 => ?_) (fun c1 => ?_)
    · exact absurd c1 (nI_ge hi (by decide))
    · refine at_ld (i := 0) dX2_setEntry_10 rfl rfl rfl ?_
      refine at_get dX2_setEntry_11 fX2_15 hI.1 (by omega) rfl ?_
      refine at_ld (i := 1) dX2_setEntry_14 rfl rfl rfl ?_
      refine at_ld (i := 2) dX2_setEntry_15 rfl rfl rfl ?_
      refine at_ast i dX2_setEntry_16 hI.2.2.2.1 (by omega) rfl hi (by decide) (vo_uk1 _) ?_
      refine at_ld (i := 0) dX2_setEntry_17 rfl rfl rfl ?_
      refine at_get dX2_setEntry_18 fX2_18 hI2.1 (by omega) rfl ?_
      refine at_ld (i := 1) dX2_setEntry_21 rfl rfl rfl ?_
      refine at_ld (i := 3) dX2_setEntry_22 rfl rfl rfl ?_
      refine at_ast i dX2_setEntry_23 hI2.2.2.2.2.1 (by omega) rfl hi (by decide) (vo_uk2 _) ?_
      refine at_vret dX2_setEntry_24 rfl ?_
      exact ⟨rfl, rfl⟩
set_option maxRecDepth 100000 in
theorem k_setSize (hg : a + 13 ≤ g.1) (ha : a < 800) (i : Nat) (hi : i < 24) (x y : Int32) : sg_Kw MX2_setSize [.ref (a + 6), .int (nI i), .int x, .int y] (vo g a L b d K e m) none (vo g a L b d (kSz K i x y) e m) := by
  have hI : IN (vo g a L b d K e m) (a + 6) (a + 1) L K := vo_I hg ha
  have hI2 : IN (vo g a L b d (vf_upd K 3 (upd (K 3) i x)) e m) (a + 6) (a + 1) L (vf_upd K 3 (upd (K 3) i x)) := vo_I hg ha
  show sg_A MX2_setSize 0 [some (.ref (a + 6)), some (.int (nI i)), some (.int x), some (.int y)] [] _ _
  refine at_ld (i := 1) dX2_setSize_0 rfl rfl rfl ?_
  refine at_zlt 24 dX2_setSize_1 (by decide) (fun c => ?_) (fun c => ?_)
  · exact absurd c (nI_pos (by omega))
  · refine at_ld (i := 1) dX2_setSize_4 rfl rfl rfl ?_
    refine at_k (nI 24) dX2_setSize_5 rfl (by decide) ?_
    refine at_ige 24 dX2_setSize_7 (by decide) (fun c1 => ?_) (fun c1 => ?_)
    · exact absurd c1 (nI_ge hi (by decide))
    · refine at_ld (i := 0) dX2_setSize_10 rfl rfl rfl ?_
      refine at_get dX2_setSize_11 fX2_21 hI.1 (by omega) rfl ?_
      refine at_ld (i := 1) dX2_setSize_14 rfl rfl rfl ?_
      refine at_ld (i := 2) dX2_setSize_15 rfl rfl rfl ?_
      refine at_ast i dX2_setSize_16 hI.2.2.2.2.2.1 (by omega) rfl hi (by decide) (vo_uk3 _) ?_
      refine at_ld (i := 0) dX2_setSize_17 rfl rfl rfl ?_
      refine at_get dX2_setSize_18 fX2_24 hI2.1 (by omega) rfl ?_
      refine at_ld (i := 1) dX2_setSize_21 rfl rfl rfl ?_
      refine at_ld (i := 3) dX2_setSize_22 rfl rfl rfl ?_
      refine at_ast i dX2_setSize_23 hI2.2.2.2.2.2.2.1 (by omega) rfl hi (by decide) (vo_uk4 _) ?_
      refine at_vret dX2_setSize_24 rfl ?_
      exact ⟨rfl, rfl⟩
set_option maxRecDepth 100000 in
theorem k_setBlock (hg : a + 13 ≤ g.1) (ha : a < 800) (i k : Nat) (hi : i < 24) (hk : k < 10) (x : Int32) : sg_Kw MX2_setBlock [.ref (a + 6), .int (nI i), .int (nI k), .int x] (vo g a L b d K e m) none (vo g a L b d (kBl K i k x) e m) := by
  have hI : IN (vo g a L b d K e m) (a + 6) (a + 1) L K := vo_I hg ha
  show sg_A MX2_setBlock 0 [some (.ref (a + 6)), some (.int (nI i)), some (.int (nI k)), some (.int x)] [] _ _
  refine at_ld (i := 1) dX2_setBlock_0 rfl rfl rfl ?_
  refine at_zlt 32 dX2_setBlock_1 (by decide) (fun c => ?_) (fun c => ?_)
  · exact absurd c (nI_pos (by omega))
  · refine at_ld (i := 1) dX2_setBlock_4 rfl rfl rfl ?_
    refine at_k (nI 24) dX2_setBlock_5 rfl (by decide) ?_
    refine at_ige 32 dX2_setBlock_7 (by decide) (fun c1 => ?_) (fun c1 => ?_)
    · exact absurd c1 (nI_ge hi (by decide))
    · refine at_ld (i := 2) dX2_setBlock_10 rfl rfl rfl ?_
      refine at_zlt 32 dX2_setBlock_11 (by decide) (fun c2 => ?_) (fun c2 => ?_)
      · exact absurd c2 (nI_pos (by omega))
      · refine at_ld (i := 2) dX2_setBlock_14 rfl rfl rfl ?_
        refine at_k (nI 10) dX2_setBlock_15 rfl (by decide) ?_
        refine at_ige 32 dX2_setBlock_17 (by decide) (fun c3 => ?_) (fun c3 => ?_)
        · exact absurd c3 (nI_ge hk (by decide))
        · refine at_ld (i := 0) dX2_setBlock_20 rfl rfl rfl ?_
          refine at_get dX2_setBlock_21 fX2_27 hI.1 (by omega) rfl ?_
          refine at_ld (i := 1) dX2_setBlock_24 rfl rfl rfl ?_
          refine at_k (nI 10) dX2_setBlock_25 rfl (by decide) ?_
          refine at_bin dX2_setBlock_27 rfl ?_
          refine at_ld (i := 2) dX2_setBlock_28 rfl rfl rfl ?_
          refine at_bin dX2_setBlock_29 rfl ?_
          refine at_ld (i := 3) dX2_setBlock_30 rfl rfl rfl ?_
          refine at_ast (i * 10 + k) dX2_setBlock_31 hI.2.2.2.2.2.2.2.1 (by omega) (by simp only [nI_mul, nI_add]) (by omega) (by decide) (vo_uk5 _) ?_
          refine at_vret dX2_setBlock_32 rfl ?_
          exact ⟨rfl, rfl⟩
set_option maxRecDepth 100000 in
theorem k_become (hg : a + 13 ≤ g.1) (ha : a < 800) (i : Nat) (hi : i < 24) (kd x y : Int32) : sg_Kw MX2_become [.ref (a + 6), .int (nI i), .int kd, .int x, .int y] (vo g a L b d K e m) none (vo g a L b d (kBe K i kd x y) e m) := by
  have hI : IN (vo g a L b d K e m) (a + 6) (a + 1) L K := vo_I hg ha
  have hI2 : IN (vo g a L b d (vf_upd K 0 (upd (K 0) i kd)) e m) (a + 6) (a + 1) L (vf_upd K 0 (upd (K 0) i kd)) := vo_I hg ha
  have hI3 : IN (vo g a L b d (kEn (vf_upd K 0 (upd (K 0) i kd)) i x y) e m) (a + 6) (a + 1) L (kEn (vf_upd K 0 (upd (K 0) i kd)) i x y) := vo_I hg ha
  show sg_A MX2_become 0 [some (.ref (a + 6)), some (.int (nI i)), some (.int kd), some (.int x), some (.int y)] [] _ _
  refine at_ld (i := 1) dX2_become_0 rfl rfl rfl ?_
  refine at_zlt 17 dX2_become_1 (by decide) (fun c => ?_) (fun c => ?_)
  · exact absurd c (nI_pos (by omega))
  · refine at_ld (i := 1) dX2_become_4 rfl rfl rfl ?_
    refine at_k (nI 24) dX2_become_5 rfl (by decide) ?_
    refine at_ige 17 dX2_become_7 (by decide) (fun c1 => ?_) (fun c1 => ?_)
    · exact absurd c1 (nI_ge hi (by decide))
    · refine at_ld (i := 0) dX2_become_10 rfl rfl rfl ?_
      refine at_get dX2_become_11 fX2_9 hI.1 (by omega) rfl ?_
      refine at_ld (i := 1) dX2_become_14 rfl rfl rfl ?_
      refine at_ld (i := 2) dX2_become_15 rfl rfl rfl ?_
      refine at_ast i dX2_become_16 hI.2.2.1 (by omega) rfl hi (by decide) (vo_uk0 _) ?_
      refine at_ld (i := 0) dX2_become_17 rfl rfl rfl ?_
      refine at_ld (i := 1) dX2_become_18 rfl rfl rfl ?_
      refine at_ld (i := 3) dX2_become_19 rfl rfl rfl ?_
      refine at_ld (i := 4) dX2_become_20 rfl rfl rfl ?_
      refine at_wv [_, _, _] dX2_become_22 mX2_setEntry ⟨Nat.le_of_ble_eq_true rfl, Nat.le_of_ble_eq_true rfl⟩ lX2_44 iX2_setEntry rfl rfl hI2.1 (by omega) rfl (Nat.le_of_ble_eq_true rfl) (Nat.le_of_ble_eq_true rfl) ⟨rfl, rfl⟩ (k_setEntry hg ha i hi x y) ⟨rfl, rfl⟩ ?_
      try dsimp only [Option.toList, List.cons_append, List.nil_append]
      refine at_ld (i := 0) dX2_become_25 rfl rfl rfl ?_
      refine at_ld (i := 1) dX2_become_26 rfl rfl rfl ?_
      refine at_k (nI 0) dX2_become_27 rfl (by decide) ?_
      refine at_k (-4) dX2_become_28 rfl (by decide) ?_
      refine at_wv [_, _, _] dX2_become_30 mX2_setSize ⟨Nat.le_of_ble_eq_true rfl, Nat.le_of_ble_eq_true rfl⟩ lX2_48 iX2_setSize rfl rfl hI3.1 (by omega) rfl (Nat.le_of_ble_eq_true rfl) (Nat.le_of_ble_eq_true rfl) ⟨rfl, rfl⟩ (k_setSize hg ha i hi _ _) ⟨rfl, rfl⟩ ?_
      try dsimp only [Option.toList, List.cons_append, List.nil_append]
      refine at_vret dX2_become_33 rfl ?_
      exact ⟨rfl, rfl⟩
/-- all inodes become nothing -/
def kCl (K : Nat → Nat → Int32) : Nat → (Nat → Nat → Int32)
  | 0 => K
  | n + 1 => kBe (kCl K n) n 0 (-4) (-4)
theorem kCl_at (K : Nat → Nat → Int32) : ∀ n f j, kCl K n f j = if f < 5 ∧ j < n then (if f = 0 then 0 else if f = 1 then -4 else if f = 2 then -4 else if f = 3 then 0 else -4) else K f j := by
  intro n
  induction n with
  | zero => intro f j; rw [if_neg (by omega)]; rfl
  | succ n ih =>
    intro f j
    show kBe (kCl K n) n 0 (-4) (-4) f j = _
    rw [kBe_at, ih]
    by_cases hf : f < 5
    · by_cases hj : j = n
      · rw [if_pos (show f < 5 ∧ j = n from ⟨hf, hj⟩), if_pos (show f < 5 ∧ j < n + 1 from ⟨hf, by omega⟩)]
      · rw [if_neg (show ¬ (f < 5 ∧ j = n) from fun z => hj z.2)]
        by_cases hj2 : j < n
        · rw [if_pos (show f < 5 ∧ j < n from ⟨hf, hj2⟩), if_pos (show f < 5 ∧ j < n + 1 from ⟨hf, by omega⟩)]
        · rw [if_neg (show ¬ (f < 5 ∧ j < n) from fun z => hj2 z.2), if_neg (show ¬ (f < 5 ∧ j < n + 1) from fun z => by omega)]
    · rw [if_neg (show ¬ (f < 5 ∧ j = n) from fun z => hf z.1), if_neg (show ¬ (f < 5 ∧ j < n) from fun z => hf z.1), if_neg (show ¬ (f < 5 ∧ j < n + 1) from fun z => hf z.1)]
set_option maxRecDepth 100000 in
theorem k_clear (hg : a + 13 ≤ g.1) (ha : a < 800) : sg_Kw MX2_clear [.ref (a + 6)] (vo g a L b d K e m) none (vo g a L b d (kCl K 24) e m) := by
  show sg_A MX2_clear 0 [some (.ref (a + 6)), none] [] _ _
  refine at_k (nI 0) dX2_clear_0 rfl (by decide) ?_
  refine at_st (i := 1) dX2_clear_1 rfl rfl (Nat.le_of_ble_eq_true rfl) rfl ?_
  try dsimp only [List.set_cons_succ, List.set_cons_zero]
  refine lpN (fun k => sg_A MX2_clear 2 [some (.ref (a + 6)), some (.int (nI k))] [] (vo g a L b d (kCl K k) e m) _) 24 ?_ ?_
  · refine at_ld (i := 1) dX2_clear_2 rfl rfl rfl ?_
    refine at_k (nI 24) dX2_clear_3 rfl (by decide) ?_
    refine at_ige 24 dX2_clear_5 (by decide) (fun c => ?_) (fun c => ?_)
    · refine at_vret dX2_clear_24 rfl ?_
      exact ⟨rfl, rfl⟩
    · exact absurd (nI_le (Nat.le_refl _) (by decide)) c
  · intro k hk ih
    have hI : IN (vo g a L b d (kCl K k) e m) (a + 6) (a + 1) L (kCl K k) := vo_I hg ha
    refine at_ld (i := 1) dX2_clear_2 rfl rfl rfl ?_
    refine at_k (nI 24) dX2_clear_3 rfl (by decide) ?_
    refine at_ige 24 dX2_clear_5 (by decide) (fun c => ?_) (fun c => ?_)
    · exact absurd c (nI_ge hk (by decide))
    · refine at_ld (i := 0) dX2_clear_8 rfl rfl rfl ?_
      refine at_ld (i := 1) dX2_clear_9 rfl rfl rfl ?_
      refine at_k (nI 0) dX2_clear_10 rfl (by decide) ?_
      refine at_k (-4) dX2_clear_11 rfl (by decide) ?_
      refine at_k (-4) dX2_clear_13 rfl (by decide) ?_
      refine at_wv [_, _, _, _] dX2_clear_15 mX2_become ⟨Nat.le_of_ble_eq_true rfl, Nat.le_of_ble_eq_true rfl⟩ lX2_40 iX2_become rfl rfl hI.1 (by omega) rfl (Nat.le_of_ble_eq_true rfl) (Nat.le_of_ble_eq_true rfl) ⟨rfl, rfl⟩ (k_become hg ha k hk _ _ _) ⟨rfl, rfl⟩ ?_
      try dsimp only [Option.toList, List.cons_append, List.nil_append]
      refine at_iinc (nI 1) dX2_clear_18 rfl rfl (by decide) ?_
      try dsimp only [List.set_cons_succ, List.set_cons_zero]
      refine at_goto 2 dX2_clear_21 (by decide) ?_
      rw [nI_add]
      exact ih
end C8
/-- the inodes' rows of another volume -/
def kCp (K K2 : Nat → Nat → Int32) : Nat → Nat → Int32 := vf_upd (vf_upd (vf_upd (vf_upd (vf_upd (vf_upd K 0 (va_cpy (K2 0) (K 0) 0 0 24)) 1 (va_cpy (K2 1) (K 1) 0 0 24)) 2 (va_cpy (K2 2) (K 2) 0 0 24)) 3 (va_cpy (K2 3) (K 3) 0 0 24)) 4 (va_cpy (K2 4) (K 4) 0 0 24)) 5 (va_cpy (K2 5) (K 5) 0 0 240)
theorem kCp_at (K K2 : Nat → Nat → Int32) {f j : Nat} (hf : f < 6) (hj : j < (if f = 5 then 240 else 24)) : kCp K K2 f j = K2 f j := by
  rcases (show f = 0 ∨ f = 1 ∨ f = 2 ∨ f = 3 ∨ f = 4 ∨ f = 5 by omega) with rfl | rfl | rfl | rfl | rfl | rfl
  · show va_cpy (K2 0) (K 0) 0 0 24 j = _
    unfold va_cpy
    rw [if_pos ⟨Nat.zero_le _, by simp at hj; omega⟩]; simp
  · show va_cpy (K2 1) (K 1) 0 0 24 j = _
    unfold va_cpy
    rw [if_pos ⟨Nat.zero_le _, by simp at hj; omega⟩]; simp
  · show va_cpy (K2 2) (K 2) 0 0 24 j = _
    unfold va_cpy
    rw [if_pos ⟨Nat.zero_le _, by simp at hj; omega⟩]; simp
  · show va_cpy (K2 3) (K 3) 0 0 24 j = _
    unfold va_cpy
    rw [if_pos ⟨Nat.zero_le _, by simp at hj; omega⟩]; simp
  · show va_cpy (K2 4) (K 4) 0 0 24 j = _
    unfold va_cpy
    rw [if_pos ⟨Nat.zero_le _, by simp at hj; omega⟩]; simp
  · show va_cpy (K2 5) (K 5) 0 0 240 j = _
    unfold va_cpy
    rw [if_pos ⟨Nat.zero_le _, by simp at hj; omega⟩]; simp
