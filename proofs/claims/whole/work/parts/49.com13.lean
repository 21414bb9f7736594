/-! THE CLASS: deeds: a block, a tail -/
def gft (v : Nat → Nat) (i bl : Nat) : Nat := if bl = 0 then i / v 2 else io v i (5 + bl - 1) / v 1
theorem io_v (v : Nat → Nat) {x n : Nat} {i k y : Nat} (f : Bool) (hk : k < 15) (hx : x + n ≤ 128) {j g : Nat} (hg : g < 15) : io (lta (vf_upd v (136 + 15 * i + k) y) x f n) j g = if j = i ∧ g = k then y else io v j g := by
  rw [io_lta _ f hx, io_u v hk hg]
theorem c_v (v : Nat → Nat) {x n : Nat} {i k y : Nat} (f : Bool) {c : Nat} (hc : c < 8) : lta (vf_upd v (136 + 15 * i + k) y) x f n c = v c := by
  rw [lta_out _ _ _ _ _ (by omega), vu_n _ _ _ _ (by omega)]
theorem fr_v (v : Nat → Nat) {x n : Nat} {i k z : Nat} (f : Bool) {y : Nat} (hy : y < 128) : fr (lta (vf_upd v (136 + 15 * i + k) z) x f n) y = setq (fr v) x n f y := by
  rw [fr_lta]
  unfold setq
  split
  · rfl
  · exact fr_io v hy
theorem tkb_f {v v' : Nat → Nat} {i k : Nat} (w : wf v) (hk : k < 10) (h : tkb v i k = some v') : ∃ x, bnr v (gob v i k) (pob v i k) = some x ∧ x < v 0 * v 1 ∧ (∀ c, c < 8 → v' c = v c) ∧ (∀ j f, f < 15 → io v' j f = if j = i ∧ f = 5 + k then x else io v j f) ∧ ∀ y, y < 128 → fr v' y = setq (fr v) (4 * x) 4 false y := by
  have hgb := wf_gb w.1
  unfold tkb at h
  cases q : bnr v (gob v i k) (pob v i k) with
  | none => rw [q] at h; cases h
  | some x =>
    rw [q] at h
    cases h
    have hx := bnr_lt w.1 q
    exact ⟨x, rfl, hx, fun c hc => c_v v false hc, fun j f hf => io_v v false (by omega) (by omega) hf, fun y hy => fr_v v false hy⟩
theorem tkt_f {v v' : Nat → Nat} {i bl u : Nat} (w : wf v) (hu : 1 ≤ u) (hu4 : u ≤ 4) (h : tkt v i bl u = some v') : ∃ x, rnr v (gft v i bl) u = some x ∧ x < 4 * (v 0 * v 1) ∧ x % 4 + u ≤ 4 ∧ (∀ c, c < 8 → v' c = v c) ∧ (∀ j f, f < 15 → io v' j f = if j = i ∧ f = 4 then x else io v j f) ∧ ∀ y, y < 128 → fr v' y = setq (fr v) x u false y := by
  have hgb := wf_gb w.1
  unfold tkt at h
  cases q : rnr v (if bl = 0 then i / v 2 else io v i (5 + bl - 1) / v 1) u with
  | none => rw [q] at h; cases h
  | some x =>
    rw [q] at h
    cases h
    obtain ⟨h1, h2⟩ := rnr_end w.1 hu hu4 q
    exact ⟨x, q, h1, h2, fun c hc => c_v v false hc, fun j f hf => io_v v false (by omega) (by omega) hf, fun y hy => fr_v v false hy⟩
theorem iR_bl {v : Nat → Nat} {K : Nat → Nat → Int32} (w : wf v) (hR : iR v K) {i k : Nat} (hk1 : sz v i / 4 ≤ k) (hk : k < 10) (x : Int32) : iR v (kBl K i k x) := by
  intro j hj
  have h40 := sz_le w hj
  obtain ⟨q0, q1, q2, q3, q4⟩ := hR j hj
  have z : ∀ f, f < 5 → kBl K i k x f j = K f j := fun f hf => by rw [kBl_at, if_neg (by omega)]
  refine ⟨by rw [z 0 (by decide)]; exact q0, by rw [z 3 (by decide)]; exact q1, by rw [z 4 (by decide)]; exact q2, fun q => by rw [z 1 (by decide), z 2 (by decide)]; exact q3 q, fun l hl => ?_⟩
  rw [kBl_at, if_neg]
  · exact q4 l hl
  · rintro ⟨-, h⟩
    have : j = i ∧ l = k := by omega
    rw [this.1] at hl
    omega
theorem iR_sz {v v' : Nat → Nat} {K : Nat → Nat → Int32} {i size : Nat} {t : Int32} (w : wf v) (hR : iR v K) (hth : io v i 0 ≠ 0) (h3 : io v' i 3 = size) (ho : ∀ j f, f < 15 → (j ≠ i ∨ f < 3) → io v' j f = io v j f) (ht : t = if size % 4 = 0 then -4 else nI (io v' i 4)) (hk : ∀ k, k < size / 4 → K 5 (i * 10 + k) = nI (io v' i (5 + k))) : iR v' (kSz K i (nI size) t) := by
  intro j hj
  by_cases e : j = i
  · subst e
    have e0 := ho j 0 (by decide) (Or.inr (by decide))
    have es : sz v' j = size := by unfold sz; rw [e0, if_neg hth, h3]
    obtain ⟨q0, q1, q2, q3, q4⟩ := hR j hj
    refine ⟨?_, ?_, ?_, fun _ => ⟨?_, ?_⟩, ?_⟩
    · rw [e0, kSz_at, if_neg (by omega), if_neg (by omega)]; exact q0
    · rw [es, kSz_at, if_pos ⟨rfl, rfl⟩]
    · rw [kSz_at, if_neg (by omega), if_pos ⟨rfl, rfl⟩, ht]
      unfold tlI
      rw [es]
    · rw [ho j 1 (by decide) (Or.inr (by decide)), kSz_at, if_neg (by omega), if_neg (by omega)]; exact (q3 hth).1
    · rw [ho j 2 (by decide) (Or.inr (by decide)), kSz_at, if_neg (by omega), if_neg (by omega)]; exact (q3 hth).2
    · intro k hk2
      rw [es] at hk2
      rw [kSz_at, if_neg (by omega), if_neg (by omega)]
      exact hk k hk2
  · refine iR1_e w hj (hR j hj) (fun f hf => ho j f hf (Or.inl e)) (fun f hf => ?_) (fun k hk2 => ?_)
    · rw [kSz_at, if_neg (by omega), if_neg (by omega)]
    · rw [kSz_at, if_neg (by omega), if_neg (by omega)]
theorem gi_lt {v : Nat → Nat} {i : Nat} (hi : i < v 0 * v 2) : i / v 2 < v 0 := Nat.div_lt_of_lt_mul (by rw [Nat.mul_comm]; exact hi)
theorem gb_l2 {v : Nat → Nat} {x : Nat} (hx : x < v 0 * v 1) : x / v 1 < v 0 := Nat.div_lt_of_lt_mul (by rw [Nat.mul_comm]; exact hx)
theorem gon_lt {v : Nat → Nat} (w : wfg v) {x : Nat} (hx : x < v 0) : gon v x < v 0 := by
  unfold gon
  split
  · next g q =>
    obtain ⟨j, -, -, e⟩ := sr_ge _ _ q
    split at e
    · cases e; exact bh_lt w _ _
    · cases e
  · exact hx
theorem gft_lt {v : Nat → Nat} {i bl : Nat} (hi : i < v 0 * v 2) (hx : 0 < bl → io v i (5 + bl - 1) < v 0 * v 1) : gft v i bl < v 0 := by
  unfold gft
  split
  · exact gi_lt hi
  · exact gb_l2 (hx (by omega))
section C13
variable {g : sg_H} {a D : Nat} {v : Nat → Nat} {b d : Nat → Int32} {K : Nat → Nat → Int32} {e m : Int32}
set_option maxRecDepth 100000 in
theorem k_groupForTail (hg : a + 13 ≤ g.1) (ha : a < 800) (hD : DE g a D) (w : wfg v) (i bl : Nat) (hi : i < 24) (hbl : bl ≤ 10) (hK : 0 < bl → K 5 (i * 10 + (bl - 1)) = nI (io v i (5 + bl - 1))) (hx : 0 < bl → io v i (5 + bl - 1) < v 0 * v 1) : sg_Kr MX0_groupForTail [.ref D, .int (nI i), .int (nI bl)] (vo g a v b d K e m) (.int (nI (gft v i bl))) := by
  have hD8 := hD.2.2.2.1
  have hgb := wf_gb w
  show sg_A MX0_groupForTail 0 [some (.ref D), some (.int (nI i)), some (.int (nI bl))] [] _ _
  refine at_ld (i := 2) dX0_groupForTail_0 rfl rfl rfl ?_
  unfold gft
  refine at_zne 13 dX0_groupForTail_1 (by decide) (fun c => ?_) (fun c => ?_)
  · have c1 : 0 < bl := by
      rcases Nat.eq_zero_or_pos bl with q | q
      · rw [q] at c; exact absurd rfl c
      · exact q
    have kb := k_blockAtX (vo_I (g := g) (a := a) (L := v) (b := b) (d := d) (K := K) (e := e) (m := m) hg ha) i (bl - 1) hi (by omega)
    rw [hK c1] at kb
    have hx1 := hx c1
    refine at_ld (i := 0) dX0_groupForTail_13 rfl rfl rfl ?_
    refine at_get dX0_groupForTail_14 fX0_21 (de_O hD) (by omega) rfl ?_
    refine at_ld (i := 0) dX0_groupForTail_17 rfl rfl rfl ?_
    refine at_get dX0_groupForTail_18 fX0_31 (de_O hD) (by omega) rfl ?_
    refine at_ld (i := 1) dX0_groupForTail_21 rfl rfl rfl ?_
    refine at_ld (i := 2) dX0_groupForTail_22 rfl rfl rfl ?_
    refine at_k (nI 1) dX0_groupForTail_23 rfl (by decide) ?_
    refine at_bin dX0_groupForTail_24 rfl ?_
    try dsimp only
    rw [nI_sub c1]
    refine at_rv [_, _] dX0_groupForTail_25 mX2_blockAt ⟨Nat.le_of_ble_eq_true rfl, Nat.le_of_ble_eq_true rfl⟩ lX0_133 iX2_blockAt rfl rfl (vo_I hg ha).1 (by omega) rfl (Nat.le_of_ble_eq_true rfl) (Nat.le_of_ble_eq_true rfl) ⟨rfl, rfl⟩ (kb) ?_
    refine at_rv [_] dX0_groupForTail_28 mX3_groupOfBlock ⟨Nat.le_of_ble_eq_true rfl, Nat.le_of_ble_eq_true rfl⟩ lX0_139 iX3_groupOfBlock rfl rfl (vo_Y hg) (by omega) rfl (Nat.le_of_ble_eq_true rfl) (Nat.le_of_ble_eq_true rfl) ⟨rfl, rfl⟩ (k_groupOfBlock (vo_Y hg) (by omega) w _ (by omega)) ?_
    refine at_ret dX0_groupForTail_31 rfl rfl ?_
    rw [if_neg (by omega)]
    exact ⟨rfl, rfl⟩
  · have c1 : bl = 0 := (nI_eq32 (b := 0) (by omega) (by decide)).mp (Classical.not_not.mp c)
    refine at_ld (i := 0) dX0_groupForTail_4 rfl rfl rfl ?_
    refine at_get dX0_groupForTail_5 fX0_21 (de_O hD) (by omega) rfl ?_
    refine at_ld (i := 1) dX0_groupForTail_8 rfl rfl rfl ?_
    refine at_rv [_] dX0_groupForTail_9 mX3_groupOfInode ⟨Nat.le_of_ble_eq_true rfl, Nat.le_of_ble_eq_true rfl⟩ lX0_136 iX3_groupOfInode rfl rfl (vo_Y hg) (by omega) rfl (Nat.le_of_ble_eq_true rfl) (Nat.le_of_ble_eq_true rfl) ⟨rfl, rfl⟩ (k_groupOfInode (vo_Y hg) (by omega) w i (by omega)) ?_
    refine at_ret dX0_groupForTail_12 rfl rfl ?_
    rw [if_pos c1]
    exact ⟨rfl, rfl⟩
set_option maxRecDepth 100000 in
theorem k_layBlock (hg : a + 13 ≤ g.1) (ha : a < 800) (hD : DE g a D) (hb : mbq (fr v) b) (w : wfg v) (i k : Nat) (hi : i < v 0 * v 2) (hk : k < 10) (hK : 0 < k → K 5 (i * 10 + (k - 1)) = nI (io v i (5 + k - 1))) (hx : 0 < k → io v i (5 + k - 1) < v 0 * v 1) : sg_Kw MX0_layBlock [.ref D, .int (nI i), .int (nI k)] (vo g a v b d K e m) (some (.int (bI (tkb v i k).isSome))) (match bnr v (gob v i k) (pob v i k) with | none => vo g a v b d (kBl K i k (-4)) e m | some x => vo g a v (bput b (4 * x) 4 false) d (kBl K i k (nI x)) e m) := by
  have hD8 := hD.2.2.2.1
  have hgb := wf_gb w
  have hgi := wf_gi w
  have h11 := w.2.1
  have h04 := w.1
  have hL := w.2.2.2.2.2
  show sg_A MX0_layBlock 0 [some (.ref D), some (.int (nI i)), some (.int (nI k)), none, none, none, none] [] _ _
  have tl : ∀ G P y3, G = gob v i k → P = pob v i k → G < v 0 → P < v 1 → sg_A MX0_layBlock 83 [some (.ref D), some (.int (nI i)), some (.int (nI k)), y3, some (.int (nI G)), some (.int (nI P)), none] [] (vo g a v b d K e m) (fun r h' => r = some (.int (bI (tkb v i k).isSome)) ∧ h' = (match bnr v (gob v i k) (pob v i k) with | none => vo g a v b d (kBl K i k (-4)) e m | some x => vo g a v (bput b (4 * x) 4 false) d (kBl K i k (nI x)) e m)) := by
    intro G P y3 eG eP hG hP
    have kt := k_takeBlock (vo_F (g := g) (a := a) (L := v) (b := b) (d := d) (K := K) (e := e) (m := m) hg ha) hb w G P hG hP
    rw [← eG, ← eP]
    unfold tkb
    rw [← eG, ← eP]
    cases q : bnr v G P with
    | none =>
      rw [q] at kt
      dsimp only at kt
      refine at_ld (i := 0) dX0_layBlock_83 rfl rfl rfl ?_
      refine at_get dX0_layBlock_84 fX0_26 (de_O hD) (by omega) rfl ?_
      refine at_ld (i := 4) dX0_layBlock_87 rfl rfl rfl ?_
      refine at_ld (i := 5) dX0_layBlock_89 rfl rfl rfl ?_
      refine at_wv [_, _] dX0_layBlock_91 mX1_takeBlock ⟨Nat.le_of_ble_eq_true rfl, Nat.le_of_ble_eq_true rfl⟩ lX0_151 iX1_takeBlock rfl rfl (vo_F hg ha).1 (by omega) rfl (Nat.le_of_ble_eq_true rfl) (Nat.le_of_ble_eq_true rfl) ⟨rfl, rfl⟩ (kt) ⟨rfl, rfl⟩ ?_
      try dsimp only [Option.toList, List.cons_append, List.nil_append]
      refine at_st (i := 6) dX0_layBlock_94 rfl rfl (Nat.le_of_ble_eq_true rfl) rfl ?_
      try dsimp only [List.set_cons_succ, List.set_cons_zero]
      refine at_ld (i := 0) dX0_layBlock_96 rfl rfl rfl ?_
      refine at_get dX0_layBlock_97 fX0_31 (de_O hD) (by omega) rfl ?_
      refine at_ld (i := 1) dX0_layBlock_100 rfl rfl rfl ?_
      refine at_ld (i := 2) dX0_layBlock_101 rfl rfl rfl ?_
      refine at_ld (i := 6) dX0_layBlock_102 rfl rfl rfl ?_
      refine at_wv [_, _, _] dX0_layBlock_104 mX2_setBlock ⟨Nat.le_of_ble_eq_true rfl, Nat.le_of_ble_eq_true rfl⟩ lX0_127 iX2_setBlock rfl rfl (vo_I hg ha).1 (by omega) rfl (Nat.le_of_ble_eq_true rfl) (Nat.le_of_ble_eq_true rfl) ⟨rfl, rfl⟩ (k_setBlock hg ha i k (by omega) hk (-4)) ⟨rfl, rfl⟩ ?_
      try dsimp only [Option.toList, List.cons_append, List.nil_append]
      refine at_ld (i := 6) dX0_layBlock_107 rfl rfl rfl ?_
      refine at_k (-4) dX0_layBlock_109 rfl (by decide) ?_
      refine at_ieq 118 dX0_layBlock_111 (by decide) (fun _ => ?_) (fun c => absurd (rfl) c)
      refine at_k (nI 0) dX0_layBlock_118 rfl (by decide) ?_
      refine at_ret dX0_layBlock_119 rfl rfl ?_
      exact ⟨rfl, rfl⟩
    | some x =>
      rw [q] at kt
      dsimp only at kt
      rw [vo_ub1] at kt
      have hx2 := bnr_lt w q
      refine at_ld (i := 0) dX0_layBlock_83 rfl rfl rfl ?_
      refine at_get dX0_layBlock_84 fX0_26 (de_O hD) (by omega) rfl ?_
      refine at_ld (i := 4) dX0_layBlock_87 rfl rfl rfl ?_
      refine at_ld (i := 5) dX0_layBlock_89 rfl rfl rfl ?_
      refine at_wv [_, _] dX0_layBlock_91 mX1_takeBlock ⟨Nat.le_of_ble_eq_true rfl, Nat.le_of_ble_eq_true rfl⟩ lX0_151 iX1_takeBlock rfl rfl (vo_F hg ha).1 (by omega) rfl (Nat.le_of_ble_eq_true rfl) (Nat.le_of_ble_eq_true rfl) ⟨rfl, rfl⟩ (kt) ⟨rfl, rfl⟩ ?_
      try dsimp only [Option.toList, List.cons_append, List.nil_append]
      refine at_st (i := 6) dX0_layBlock_94 rfl rfl (Nat.le_of_ble_eq_true rfl) rfl ?_
      try dsimp only [List.set_cons_succ, List.set_cons_zero]
      refine at_ld (i := 0) dX0_layBlock_96 rfl rfl rfl ?_
      refine at_get dX0_layBlock_97 fX0_31 (de_O hD) (by omega) rfl ?_
      refine at_ld (i := 1) dX0_layBlock_100 rfl rfl rfl ?_
      refine at_ld (i := 2) dX0_layBlock_101 rfl rfl rfl ?_
      refine at_ld (i := 6) dX0_layBlock_102 rfl rfl rfl ?_
      refine at_wv [_, _, _] dX0_layBlock_104 mX2_setBlock ⟨Nat.le_of_ble_eq_true rfl, Nat.le_of_ble_eq_true rfl⟩ lX0_127 iX2_setBlock rfl rfl (vo_I hg ha).1 (by omega) rfl (Nat.le_of_ble_eq_true rfl) (Nat.le_of_ble_eq_true rfl) ⟨rfl, rfl⟩ (k_setBlock hg ha i k (by omega) hk (nI x)) ⟨rfl, rfl⟩ ?_
      try dsimp only [Option.toList, List.cons_append, List.nil_append]
      refine at_ld (i := 6) dX0_layBlock_107 rfl rfl rfl ?_
      refine at_k (-4) dX0_layBlock_109 rfl (by decide) ?_
      refine at_ieq 118 dX0_layBlock_111 (by decide) (fun c => absurd c (oI_n (by omega))) (fun _ => ?_)
      refine at_k (nI 1) dX0_layBlock_114 rfl (by decide) ?_
      refine at_goto 119 dX0_layBlock_115 (by decide) ?_
      refine at_ret dX0_layBlock_119 rfl rfl ?_
      exact ⟨rfl, rfl⟩
  rcases Nat.eq_zero_or_pos k with hk0 | hk0
  · subst hk0
    refine at_ld (i := 0) dX0_layBlock_0 rfl rfl rfl ?_
    refine at_get dX0_layBlock_1 fX0_31 (de_O hD) (by omega) rfl ?_
    refine at_ld (i := 1) dX0_layBlock_4 rfl rfl rfl ?_
    refine at_ld (i := 2) dX0_layBlock_5 rfl rfl rfl ?_
    refine at_k (nI 1) dX0_layBlock_6 rfl (by decide) ?_
    refine at_bin dX0_layBlock_7 rfl ?_
    refine at_rv [_, _] dX0_layBlock_8 mX2_blockAt ⟨Nat.le_of_ble_eq_true rfl, Nat.le_of_ble_eq_true rfl⟩ lX0_133 iX2_blockAt rfl rfl (vo_I hg ha).1 (by omega) rfl (Nat.le_of_ble_eq_true rfl) (Nat.le_of_ble_eq_true rfl) ⟨rfl, rfl⟩ (k_blockAtN (vo_I hg ha) i (nI 0 - nI 1) (by omega) (by decide)) ?_
    refine at_st (i := 3) dX0_layBlock_11 rfl rfl (Nat.le_of_ble_eq_true rfl) rfl ?_
    try dsimp only [List.set_cons_succ, List.set_cons_zero]
    refine at_ld (i := 2) dX0_layBlock_12 rfl rfl rfl ?_
    refine at_zne 27 dX0_layBlock_13 (by decide) (fun c => absurd c (fun q => q rfl)) (fun _ => ?_)
    refine at_ld (i := 0) dX0_layBlock_16 rfl rfl rfl ?_
    refine at_get dX0_layBlock_17 fX0_21 (de_O hD) (by omega) rfl ?_
    refine at_ld (i := 1) dX0_layBlock_20 rfl rfl rfl ?_
    refine at_rv [_] dX0_layBlock_21 mX3_groupOfInode ⟨Nat.le_of_ble_eq_true rfl, Nat.le_of_ble_eq_true rfl⟩ lX0_136 iX3_groupOfInode rfl rfl (vo_Y hg) (by omega) rfl (Nat.le_of_ble_eq_true rfl) (Nat.le_of_ble_eq_true rfl) ⟨rfl, rfl⟩ (k_groupOfInode (vo_Y hg) (by omega) w i (by omega)) ?_
    refine at_goto 35 dX0_layBlock_24 (by decide) ?_
    refine at_st (i := 4) dX0_layBlock_35 rfl rfl (Nat.le_of_ble_eq_true rfl) rfl ?_
    try dsimp only [List.set_cons_succ, List.set_cons_zero]
    refine at_k (nI 0) dX0_layBlock_37 rfl (by decide) ?_
    refine at_st (i := 5) dX0_layBlock_38 rfl rfl (Nat.le_of_ble_eq_true rfl) rfl ?_
    try dsimp only [List.set_cons_succ, List.set_cons_zero]
    refine at_ld (i := 2) dX0_layBlock_40 rfl rfl rfl ?_
    refine at_zle 69 dX0_layBlock_41 (by decide) (fun _ => ?_) (fun c => absurd ((by decide)) c)
    refine at_ld (i := 2) dX0_layBlock_69 rfl rfl rfl ?_
    refine at_zle 83 dX0_layBlock_70 (by decide) (fun _ => ?_) (fun c => absurd ((by decide)) c)
    exact tl _ 0 _ rfl rfl (gi_lt hi) (by omega)
  · have kb := k_blockAtX (vo_I (g := g) (a := a) (L := v) (b := b) (d := d) (K := K) (e := e) (m := m) hg ha) i (k - 1) (by omega) (by omega)
    rw [hK hk0] at kb
    have hx1 := hx hk0
    have hxg := gb_l2 hx1
    refine at_ld (i := 0) dX0_layBlock_0 rfl rfl rfl ?_
    refine at_get dX0_layBlock_1 fX0_31 (de_O hD) (by omega) rfl ?_
    refine at_ld (i := 1) dX0_layBlock_4 rfl rfl rfl ?_
    refine at_ld (i := 2) dX0_layBlock_5 rfl rfl rfl ?_
    refine at_k (nI 1) dX0_layBlock_6 rfl (by decide) ?_
    refine at_bin dX0_layBlock_7 rfl ?_
    try dsimp only
    rw [nI_sub hk0]
    refine at_rv [_, _] dX0_layBlock_8 mX2_blockAt ⟨Nat.le_of_ble_eq_true rfl, Nat.le_of_ble_eq_true rfl⟩ lX0_133 iX2_blockAt rfl rfl (vo_I hg ha).1 (by omega) rfl (Nat.le_of_ble_eq_true rfl) (Nat.le_of_ble_eq_true rfl) ⟨rfl, rfl⟩ (kb) ?_
    refine at_st (i := 3) dX0_layBlock_11 rfl rfl (Nat.le_of_ble_eq_true rfl) rfl ?_
    try dsimp only [List.set_cons_succ, List.set_cons_zero]
    refine at_ld (i := 2) dX0_layBlock_12 rfl rfl rfl ?_
    refine at_zne 27 dX0_layBlock_13 (by decide) (fun _ => ?_) (fun c => absurd (nI_ne0 hk0 (by omega)) c)
    refine at_ld (i := 0) dX0_layBlock_27 rfl rfl rfl ?_
    refine at_get dX0_layBlock_28 fX0_21 (de_O hD) (by omega) rfl ?_
    refine at_ld (i := 3) dX0_layBlock_31 rfl rfl rfl ?_
    refine at_rv [_] dX0_layBlock_32 mX3_groupOfBlock ⟨Nat.le_of_ble_eq_true rfl, Nat.le_of_ble_eq_true rfl⟩ lX0_139 iX3_groupOfBlock rfl rfl (vo_Y hg) (by omega) rfl (Nat.le_of_ble_eq_true rfl) (Nat.le_of_ble_eq_true rfl) ⟨rfl, rfl⟩ (k_groupOfBlock (vo_Y hg) (by omega) w _ (by omega)) ?_
    refine at_st (i := 4) dX0_layBlock_35 rfl rfl (Nat.le_of_ble_eq_true rfl) rfl ?_
    try dsimp only [List.set_cons_succ, List.set_cons_zero]
    refine at_k (nI 0) dX0_layBlock_37 rfl (by decide) ?_
    refine at_st (i := 5) dX0_layBlock_38 rfl rfl (Nat.le_of_ble_eq_true rfl) rfl ?_
    try dsimp only [List.set_cons_succ, List.set_cons_zero]
    refine at_ld (i := 2) dX0_layBlock_40 rfl rfl rfl ?_
    refine at_zle 69 dX0_layBlock_41 (by decide) (fun c => absurd c (nI_nle hk0 (by omega))) (fun _ => ?_)
    refine at_ld (i := 0) dX0_layBlock_44 rfl rfl rfl ?_
    refine at_get dX0_layBlock_45 fX0_21 (de_O hD) (by omega) rfl ?_
    refine at_ld (i := 2) dX0_layBlock_48 rfl rfl rfl ?_
    refine at_rv [_] dX0_layBlock_49 mX3_leadsOn ⟨Nat.le_of_ble_eq_true rfl, Nat.le_of_ble_eq_true rfl⟩ lX0_142 iX3_leadsOn rfl rfl (vo_Y hg) (by omega) rfl (Nat.le_of_ble_eq_true rfl) (Nat.le_of_ble_eq_true rfl) ⟨rfl, rfl⟩ (k_leadsOn (vo_Y hg) (by omega) w k (by omega)) ?_
    refine at_zeq 69 dX0_layBlock_52 (by decide) (fun c => ?_) (fun c => ?_)
    · have c1 := of_decide_eq_false ((bI_0 _).mp c)
      refine at_ld (i := 2) dX0_layBlock_69 rfl rfl rfl ?_
      refine at_zle 83 dX0_layBlock_70 (by decide) (fun c => absurd c (nI_nle hk0 (by omega))) (fun _ => ?_)
      refine at_ld (i := 0) dX0_layBlock_73 rfl rfl rfl ?_
      refine at_get dX0_layBlock_74 fX0_21 (de_O hD) (by omega) rfl ?_
      refine at_ld (i := 3) dX0_layBlock_77 rfl rfl rfl ?_
      refine at_rv [_] dX0_layBlock_78 mX3_placeBehind ⟨Nat.le_of_ble_eq_true rfl, Nat.le_of_ble_eq_true rfl⟩ lX0_148 iX3_placeBehind rfl rfl (vo_Y hg) (by omega) rfl (Nat.le_of_ble_eq_true rfl) (Nat.le_of_ble_eq_true rfl) ⟨rfl, rfl⟩ (k_placeBehind (vo_Y hg) (by omega) w _ (by omega)) ?_
      refine at_st (i := 5) dX0_layBlock_81 rfl rfl (Nat.le_of_ble_eq_true rfl) rfl ?_
      try dsimp only [List.set_cons_succ, List.set_cons_zero]
      refine tl _ _ _ ?_ ?_ hxg (Nat.mod_lt _ (by omega))
      · unfold gob
        rw [if_neg (by omega), if_pos c1]
      · unfold pob
        rw [if_neg (by omega)]
    · have c1 := of_decide_eq_true (bI_1 c)
      refine at_ld (i := 0) dX0_layBlock_55 rfl rfl rfl ?_
      refine at_get dX0_layBlock_56 fX0_26 (de_O hD) (by omega) rfl ?_
      refine at_ld (i := 4) dX0_layBlock_59 rfl rfl rfl ?_
      refine at_rv [_] dX0_layBlock_61 mX1_groupOnward ⟨Nat.le_of_ble_eq_true rfl, Nat.le_of_ble_eq_true rfl⟩ lX0_145 iX1_groupOnward rfl rfl (vo_F hg ha).1 (by omega) rfl (Nat.le_of_ble_eq_true rfl) (Nat.le_of_ble_eq_true rfl) ⟨rfl, rfl⟩ (k_groupOnward (vo_F hg ha) hb w _ hxg) ?_
      refine at_st (i := 4) dX0_layBlock_64 rfl rfl (Nat.le_of_ble_eq_true rfl) rfl ?_
      try dsimp only [List.set_cons_succ, List.set_cons_zero]
      refine at_goto 83 dX0_layBlock_66 (by decide) ?_
      refine tl _ 0 _ ?_ ?_ (gon_lt w hxg) (by omega)
      · unfold gob
        rw [if_neg (by omega), if_neg (by omega)]
        rfl
      · unfold pob
        rw [if_pos (Or.inr c1)]
set_option maxRecDepth 100000 in
theorem k_layTail (hg : a + 13 ≤ g.1) (ha : a < 800) (hD : DE g a D) (hb : mbq (fr v) b) (hR : iR v K) (iv : inv v) (i size : Nat) (hi : i < v 0 * v 2) (hth : io v i 0 ≠ 0) (h1 : io v i 3 < size) (h40 : size ≤ 40) (h2 : size / 4 = io v i 3 / 4) : sg_K MX0_layTail [.ref D, .int (nI i), .int (nI size)] (vo g a v b d K (nI (v 6)) (nI (v 7))) (fun r h' => match wdn v i (io v i 3 % 4) (size % 4) with | none => r = some (.int (bI false)) ∧ h' = vo g a v b d K (nI (v 6)) (nI (v 7)) | some v' => r = some (.int (bI true)) ∧ VS g a (vf_upd v' (136 + 15 * i + 3) size) h') := by
  have w := iv.1.1
  have wT := iv.1.2.2
  have wB := iv.2.2.2.2.1
  have hgb := wf_gb w.1
  have hgi := wf_gi w.1
  have hD8 := hD.2.2.2.1
  have es : sz v i = io v i 3 := sz_t hth
  have hT := wT i (by omega)
  have h4 := (w.2.2 i (by omega)).2.2.1
  generalize ht : io v i 3 % 4 = t
  generalize hu : size % 4 = u
  generalize hl : io v i 4 = tl at h4 hT
  have htu : t < u := by omega
  have etl : tlI v i = if t = 0 then -4 else nI tl := by unfold tlI; rw [es, ht, hl]
  have kl := k_tailLengthOf (vo_I (g := g) (a := a) (L := v) (b := b) (d := d) (K := K) (e := nI (v 6)) (m := nI (v 7)) hg ha) hR w i (by omega)
  rw [es, ht] at kl
  have kt := k_tailOf (vo_I (g := g) (a := a) (L := v) (b := b) (d := d) (K := K) (e := nI (v 6)) (m := nI (v 7)) hg ha) hR i (by omega)
  have kbo := k_blocksOf (vo_I (g := g) (a := a) (L := v) (b := b) (d := d) (K := K) (e := nI (v 6)) (m := nI (v 7)) hg ha) hR w i (by omega)
  rw [es] at kbo
  have hbl : ∀ k, k < size / 4 → K 5 (i * 10 + k) = nI (io v i (5 + k)) := fun k hk => (hR i (by omega)).2.2.2.2 k (by rw [es]; omega)
  show sg_A MX0_layTail 0 [some (.ref D), some (.int (nI i)), some (.int (nI size)), none, none, none, none, none] [] _ _
  have tk : ¬ (0 < t ∧ tl % 4 + u ≤ 4 ∧ allB (fun k => fr v (tl + t + k)) (u - t) = true) → ∀ y5 (y6 : Int32), sg_A MX0_layTail 111 [some (.ref D), some (.int (nI i)), some (.int (nI size)), some (.int (nI t)), some (.int (tlI v i)), y5, some (.int y6), none] [] (vo g a v b d K (nI (v 6)) (nI (v 7))) (fun r h' => match wdn v i t u with | none => r = some (.int (bI false)) ∧ h' = vo g a v b d K (nI (v 6)) (nI (v 7)) | some v' => r = some (.int (bI true)) ∧ VS g a (vf_upd v' (136 + 15 * i + 3) size) h') := by
    intro hno y5 y6
    have hgt := gft_lt (bl := io v i 3 / 4) hi (fun q => by have := (wB i (by omega)).2 (io v i 3 / 4 - 1) (by omega); rw [show 5 + io v i 3 / 4 - 1 = 5 + (io v i 3 / 4 - 1) by omega]; exact this)
    have kg := k_groupForTail (b := b) (d := d) (K := K) (e := nI (v 6)) (m := nI (v 7)) hg ha hD w.1 i (io v i 3 / 4) (by omega) (by omega) (fun q => by rw [show 5 + io v i 3 / 4 - 1 = 5 + (io v i 3 / 4 - 1) by omega]; exact hbl _ (by omega)) (fun q => by have := (wB i (by omega)).2 (io v i 3 / 4 - 1) (by omega); rw [show 5 + io v i 3 / 4 - 1 = 5 + (io v i 3 / 4 - 1) by omega]; exact this)
    have ktr := k_takeRun (vo_F (g := g) (a := a) (L := v) (b := b) (d := d) (K := K) (e := nI (v 6)) (m := nI (v 7)) hg ha) hb w.1 (gft v i (io v i 3 / 4)) u hgt (by omega) (by omega) (fun x hx => by have := rnr_end w.1 (show 1 ≤ u by omega) (by omega) hx; omega)
    have ew : wdn v i t u = match tkt v i (io v i 3 / 4) u with | none => none | some v1 => some (if 0 < t then inc (lta v1 (io v i 4) true t) 7 else v1) := by
      unfold wdn
      rw [hl, if_neg hno]
      cases tkt v i (io v i 3 / 4) u <;> rfl
    cases q : tkt v i (io v i 3 / 4) u with
    | none =>
      have qr : rnr v (gft v i (io v i 3 / 4)) u = none := by
        unfold tkt at q
        cases q2 : rnr v (gft v i (io v i 3 / 4)) u with
        | none => rfl
        | some x => unfold gft at q2; rw [q2] at q; cases q
      rw [q] at ew
      rw [ew]
      rw [qr] at ktr
      dsimp only at ktr
      refine at_ld (i := 0) dX0_layTail_111 rfl rfl rfl ?_
      refine at_get dX0_layTail_112 fX0_26 (de_O hD) (by omega) rfl ?_
      refine at_ld (i := 0) dX0_layTail_115 rfl rfl rfl ?_
      refine at_ld (i := 1) dX0_layTail_116 rfl rfl rfl ?_
      refine at_ld (i := 0) dX0_layTail_117 rfl rfl rfl ?_
      refine at_get dX0_layTail_118 fX0_31 (de_O hD) (by omega) rfl ?_
      refine at_ld (i := 1) dX0_layTail_121 rfl rfl rfl ?_
      refine at_rv [_] dX0_layTail_122 mX2_blocksOf ⟨Nat.le_of_ble_eq_true rfl, Nat.le_of_ble_eq_true rfl⟩ lX0_95 iX2_blocksOf rfl rfl (vo_I hg ha).1 (by omega) rfl (Nat.le_of_ble_eq_true rfl) (Nat.le_of_ble_eq_true rfl) ⟨rfl, rfl⟩ (kbo) ?_
      refine at_rv [_, _] dX0_layTail_125 mX0_groupForTail ⟨Nat.le_of_ble_eq_true rfl, Nat.le_of_ble_eq_true rfl⟩ lX0_121 iX0_groupForTail rfl rfl (de_O hD) (by omega) rfl (Nat.le_of_ble_eq_true rfl) (Nat.le_of_ble_eq_true rfl) ⟨rfl, rfl⟩ (kg) ?_
      refine at_ld (i := 2) dX0_layTail_128 rfl rfl rfl ?_
      refine at_k (nI 4) dX0_layTail_129 rfl (by decide) ?_
      refine at_rem dX0_layTail_130 (by decide) ?_
      try dsimp only
      rw [nI_rem (by omega) (by decide), hu]
      refine at_wv [_, _] dX0_layTail_131 mX1_takeRun ⟨Nat.le_of_ble_eq_true rfl, Nat.le_of_ble_eq_true rfl⟩ lX0_67 iX1_takeRun rfl rfl (vo_F hg ha).1 (by omega) rfl (Nat.le_of_ble_eq_true rfl) (Nat.le_of_ble_eq_true rfl) ⟨rfl, rfl⟩ (ktr) ⟨rfl, rfl⟩ ?_
      try dsimp only [Option.toList, List.cons_append, List.nil_append]
      refine at_st (i := 7) dX0_layTail_134 rfl rfl (Nat.le_of_ble_eq_true rfl) rfl ?_
      try dsimp only [List.set_cons_succ, List.set_cons_zero]
      refine at_ld (i := 7) dX0_layTail_136 rfl rfl rfl ?_
      refine at_k (-4) dX0_layTail_138 rfl (by decide) ?_
      refine at_ine 145 dX0_layTail_140 (by decide) (fun c => absurd c (fun q => q rfl)) (fun _ => ?_)
      refine at_k (nI 0) dX0_layTail_143 rfl (by decide) ?_
      refine at_ret dX0_layTail_144 rfl rfl ?_
      exact ⟨rfl, rfl⟩
    | some v1 =>
      obtain ⟨x, qr, hx1, hx2, hc, hio, hfr⟩ := tkt_f w (show 1 ≤ u by omega) (by omega) q
      rw [q] at ew
      dsimp only at ew
      rw [ew]
      rw [qr] at ktr
      dsimp only at ktr
      rw [vo_ub1] at ktr
      refine at_ld (i := 0) dX0_layTail_111 rfl rfl rfl ?_
      refine at_get dX0_layTail_112 fX0_26 (de_O hD) (by omega) rfl ?_
      refine at_ld (i := 0) dX0_layTail_115 rfl rfl rfl ?_
      refine at_ld (i := 1) dX0_layTail_116 rfl rfl rfl ?_
      refine at_ld (i := 0) dX0_layTail_117 rfl rfl rfl ?_
      refine at_get dX0_layTail_118 fX0_31 (de_O hD) (by omega) rfl ?_
      refine at_ld (i := 1) dX0_layTail_121 rfl rfl rfl ?_
      refine at_rv [_] dX0_layTail_122 mX2_blocksOf ⟨Nat.le_of_ble_eq_true rfl, Nat.le_of_ble_eq_true rfl⟩ lX0_95 iX2_blocksOf rfl rfl (vo_I hg ha).1 (by omega) rfl (Nat.le_of_ble_eq_true rfl) (Nat.le_of_ble_eq_true rfl) ⟨rfl, rfl⟩ (kbo) ?_
      refine at_rv [_, _] dX0_layTail_125 mX0_groupForTail ⟨Nat.le_of_ble_eq_true rfl, Nat.le_of_ble_eq_true rfl⟩ lX0_121 iX0_groupForTail rfl rfl (de_O hD) (by omega) rfl (Nat.le_of_ble_eq_true rfl) (Nat.le_of_ble_eq_true rfl) ⟨rfl, rfl⟩ (kg) ?_
      refine at_ld (i := 2) dX0_layTail_128 rfl rfl rfl ?_
      refine at_k (nI 4) dX0_layTail_129 rfl (by decide) ?_
      refine at_rem dX0_layTail_130 (by decide) ?_
      try dsimp only
      rw [nI_rem (by omega) (by decide), hu]
      refine at_wv [_, _] dX0_layTail_131 mX1_takeRun ⟨Nat.le_of_ble_eq_true rfl, Nat.le_of_ble_eq_true rfl⟩ lX0_67 iX1_takeRun rfl rfl (vo_F hg ha).1 (by omega) rfl (Nat.le_of_ble_eq_true rfl) (Nat.le_of_ble_eq_true rfl) ⟨rfl, rfl⟩ (ktr) ⟨rfl, rfl⟩ ?_
      try dsimp only [Option.toList, List.cons_append, List.nil_append]
      refine at_st (i := 7) dX0_layTail_134 rfl rfl (Nat.le_of_ble_eq_true rfl) rfl ?_
      try dsimp only [List.set_cons_succ, List.set_cons_zero]
      refine at_ld (i := 7) dX0_layTail_136 rfl rfl rfl ?_
      refine at_k (-4) dX0_layTail_138 rfl (by decide) ?_
      refine at_ine 145 dX0_layTail_140 (by decide) (fun _ => ?_) (fun c => absurd (oI_n (by omega)) c)
      refine at_ld (i := 3) dX0_layTail_145 rfl rfl rfl ?_
      rcases Nat.eq_zero_or_pos t with t0 | t0
      · refine at_zle 173 dX0_layTail_146 (by decide) (fun _ => ?_) (fun c => absurd ((by rw [t0]; decide)) c)
        refine at_ld (i := 0) dX0_layTail_173 rfl rfl rfl ?_
        refine at_get dX0_layTail_174 fX0_31 (de_O hD) (by omega) rfl ?_
        refine at_ld (i := 1) dX0_layTail_177 rfl rfl rfl ?_
        refine at_ld (i := 2) dX0_layTail_178 rfl rfl rfl ?_
        refine at_ld (i := 7) dX0_layTail_179 rfl rfl rfl ?_
        refine at_wv [_, _, _] dX0_layTail_181 mX2_setSize ⟨Nat.le_of_ble_eq_true rfl, Nat.le_of_ble_eq_true rfl⟩ lX0_74 iX2_setSize rfl rfl (vo_I hg ha).1 (by omega) rfl (Nat.le_of_ble_eq_true rfl) (Nat.le_of_ble_eq_true rfl) ⟨rfl, rfl⟩ (k_setSize hg ha i (by omega) (nI size) (nI x)) ⟨rfl, rfl⟩ ?_
        try dsimp only [Option.toList, List.cons_append, List.nil_append]
        refine at_k (nI 1) dX0_layTail_184 rfl (by decide) ?_
        refine at_ret dX0_layTail_185 rfl rfl ?_
        rw [if_neg (by omega)]
        refine ⟨rfl, VS_of (fun c hc2 => by rw [vu_n _ _ _ _ (by omega), hc c (by omega)]) (by rw [vu_n _ _ _ _ (by omega), hc 6 (by decide)]) (by rw [vu_n _ _ _ _ (by omega), hc 7 (by decide)]) ?_ (iR_sz w hR hth (by rw [io_u _ (by decide) (by decide), if_pos ⟨rfl, rfl⟩]) (fun j f hf hj => by rw [io_u _ (by decide) hf, if_neg (by omega), hio j f hf, if_neg (by omega)]) (by rw [if_neg (by omega), io_u _ (by decide) (by decide), if_neg (by omega), hio i 4 (by decide), if_pos ⟨rfl, rfl⟩]) (fun k hk => by rw [io_u _ (by decide) (by omega), if_neg (by omega), hio i (5 + k) (by omega), if_neg (by omega)]; exact hbl k hk))⟩
        exact mbq_e (fun y hy => by rw [fr_io _ hy, hfr y hy]) (mbq_put hb (by omega) hx2 false)
      · refine at_zle 173 dX0_layTail_146 (by decide) (fun c => absurd c (nI_nle t0 (by omega))) (fun _ => ?_)
        rw [etl, if_neg (by omega)]
        have kp := k_put (vo_F (g := g) (a := a) (L := v) (b := bput b x u false) (d := d) (K := K) (e := nI (v 6)) (m := nI (v 7)) hg ha) tl t true (by omega) (by omega)
        rw [vo_ub1] at kp
        refine at_ld (i := 0) dX0_layTail_149 rfl rfl rfl ?_
        refine at_get dX0_layTail_150 fX0_26 (de_O hD) (by omega) rfl ?_
        refine at_ld (i := 4) dX0_layTail_153 rfl rfl rfl ?_
        refine at_ld (i := 3) dX0_layTail_155 rfl rfl rfl ?_
        refine at_k (nI 1) dX0_layTail_156 rfl (by decide) ?_
        refine at_wv [_, _, _] dX0_layTail_157 mX1_put ⟨Nat.le_of_ble_eq_true rfl, Nat.le_of_ble_eq_true rfl⟩ lX0_114 iX1_put rfl rfl (vo_F hg ha).1 (by omega) rfl (Nat.le_of_ble_eq_true rfl) (Nat.le_of_ble_eq_true rfl) ⟨rfl, rfl⟩ (kp) ⟨rfl, rfl⟩ ?_
        try dsimp only [Option.toList, List.cons_append, List.nil_append]
        refine at_ld (i := 0) dX0_layTail_160 rfl rfl rfl ?_
        refine at_get dX0_layTail_161 fX0_9 (de_O hD) (by omega) rfl ?_
        refine at_dup dX0_layTail_164 rfl ?_
        refine at_get dX0_layTail_165 fX0_124 (vo_V hg) (by omega) rfl ?_
        refine at_k (nI 1) dX0_layTail_168 rfl (by decide) ?_
        refine at_bin dX0_layTail_169 rfl ?_
        try dsimp only
        rw [nI_add]
        refine at_put dX0_layTail_170 fX0_124 ⟨_, _, rfl, Or.inl rfl, tyX6_ok 5 (by decide), fun _ => ⟨rfl, rfl⟩⟩ (vo_V hg) (by omega) (Nat.le_of_ble_eq_true rfl) (vo_um _) ?_
        refine at_ld (i := 0) dX0_layTail_173 rfl rfl rfl ?_
        refine at_get dX0_layTail_174 fX0_31 (de_O hD) (by omega) rfl ?_
        refine at_ld (i := 1) dX0_layTail_177 rfl rfl rfl ?_
        refine at_ld (i := 2) dX0_layTail_178 rfl rfl rfl ?_
        refine at_ld (i := 7) dX0_layTail_179 rfl rfl rfl ?_
        refine at_wv [_, _, _] dX0_layTail_181 mX2_setSize ⟨Nat.le_of_ble_eq_true rfl, Nat.le_of_ble_eq_true rfl⟩ lX0_74 iX2_setSize rfl rfl (vo_I hg ha).1 (by omega) rfl (Nat.le_of_ble_eq_true rfl) (Nat.le_of_ble_eq_true rfl) ⟨rfl, rfl⟩ (k_setSize hg ha i (by omega) (nI size) (nI x)) ⟨rfl, rfl⟩ ?_
        try dsimp only [Option.toList, List.cons_append, List.nil_append]
        refine at_k (nI 1) dX0_layTail_184 rfl (by decide) ?_
        refine at_ret dX0_layTail_185 rfl rfl ?_
        rw [if_pos t0, hl]
        have hc2 : ∀ c, c < 7 → vf_upd (inc (lta v1 tl true t) 7) (136 + 15 * i + 3) size c = v c := fun c hc2 => by rw [vu_n _ _ _ _ (by omega), inc, vu_n _ _ _ _ (by omega), lta_out _ _ _ _ _ (by omega), hc c (by omega)]
        have hio2 : ∀ j f, f < 15 → io (vf_upd (inc (lta v1 tl true t) 7) (136 + 15 * i + 3) size) j f = if j = i ∧ f = 3 then size else if j = i ∧ f = 4 then x else io v j f := fun j f hf => by rw [io_u _ (by decide) hf, io_inc _ (Or.inr rfl), io_lta _ _ (by omega), hio j f hf]
        refine ⟨rfl, VS_of (fun c hc3 => hc2 c (by omega)) (by rw [hc2 6 (by decide)]) (by rw [vu_n _ _ _ _ (by omega), inc, vu_s, lta_out _ _ _ _ _ (by omega), hc 7 (by decide)]) ?_ (iR_sz w hR hth (by rw [hio2 i 3 (by decide), if_pos ⟨rfl, rfl⟩]) (fun j f hf hj => by rw [hio2 j f hf, if_neg (by omega), if_neg (by omega)]) (by rw [if_neg (by omega), hio2 i 4 (by decide), if_neg (by omega), if_pos ⟨rfl, rfl⟩]) (fun k hk => by rw [hio2 i (5 + k) (by omega), if_neg (by omega), if_neg (by omega)]; exact hbl k hk))⟩
        refine mbq_e (fun y hy => ?_) (mbq_put (mbq_put hb (x := x) (n := u) (by omega) hx2 false) (x := tl) (n := t) (by omega) (by omega) true)
        rw [fr_io _ hy]
        have e7 : fr (inc (lta v1 tl true t) 7) y = fr (lta v1 tl true t) y := by unfold fr inc; rw [vu_n _ _ _ _ (by omega)]
        rw [e7, fr_lta]
        unfold setq
        split
        · rfl
        · exact (hfr y hy).symm
  refine at_ld (i := 0) dX0_layTail_0 rfl rfl rfl ?_
  refine at_get dX0_layTail_1 fX0_31 (de_O hD) (by omega) rfl ?_
  refine at_ld (i := 1) dX0_layTail_4 rfl rfl rfl ?_
  refine at_rv [_] dX0_layTail_5 mX2_tailLengthOf ⟨Nat.le_of_ble_eq_true rfl, Nat.le_of_ble_eq_true rfl⟩ lX0_105 iX2_tailLengthOf rfl rfl (vo_I hg ha).1 (by omega) rfl (Nat.le_of_ble_eq_true rfl) (Nat.le_of_ble_eq_true rfl) ⟨rfl, rfl⟩ (kl) ?_
  refine at_st (i := 3) dX0_layTail_8 rfl rfl (Nat.le_of_ble_eq_true rfl) rfl ?_
  try dsimp only [List.set_cons_succ, List.set_cons_zero]
  refine at_ld (i := 0) dX0_layTail_9 rfl rfl rfl ?_
  refine at_get dX0_layTail_10 fX0_31 (de_O hD) (by omega) rfl ?_
  refine at_ld (i := 1) dX0_layTail_13 rfl rfl rfl ?_
  refine at_rv [_] dX0_layTail_14 mX2_tailOf ⟨Nat.le_of_ble_eq_true rfl, Nat.le_of_ble_eq_true rfl⟩ lX0_108 iX2_tailOf rfl rfl (vo_I hg ha).1 (by omega) rfl (Nat.le_of_ble_eq_true rfl) (Nat.le_of_ble_eq_true rfl) ⟨rfl, rfl⟩ (kt) ?_
  refine at_st (i := 4) dX0_layTail_17 rfl rfl (Nat.le_of_ble_eq_true rfl) rfl ?_
  try dsimp only [List.set_cons_succ, List.set_cons_zero]
  refine at_ld (i := 2) dX0_layTail_19 rfl rfl rfl ?_
  refine at_k (nI 4) dX0_layTail_20 rfl (by decide) ?_
  refine at_rem dX0_layTail_21 (by decide) ?_
  try dsimp only
  rw [nI_rem (by omega) (by decide), hu]
  refine at_ld (i := 3) dX0_layTail_22 rfl rfl rfl ?_
  refine at_bin dX0_layTail_23 rfl ?_
  try dsimp only
  rw [nI_sub (Nat.le_of_lt htu)]
  refine at_st (i := 5) dX0_layTail_24 rfl rfl (Nat.le_of_ble_eq_true rfl) rfl ?_
  try dsimp only [List.set_cons_succ, List.set_cons_zero]
  rcases Nat.eq_zero_or_pos t with t0 | t0
  · refine at_ld (i := 3) dX0_layTail_26 rfl rfl rfl ?_
    refine at_zle 47 dX0_layTail_27 (by decide) (fun _ => ?_) (fun c => absurd ((by rw [t0]; decide)) c)
    refine at_k (nI 0) dX0_layTail_47 rfl (by decide) ?_
    refine at_st (i := 6) dX0_layTail_48 rfl rfl (Nat.le_of_ble_eq_true rfl) rfl ?_
    try dsimp only [List.set_cons_succ, List.set_cons_zero]
    refine at_ld (i := 6) dX0_layTail_50 rfl rfl rfl ?_
    refine at_zeq 111 dX0_layTail_52 (by decide) (fun _ => ?_) (fun c => absurd (rfl) c)
    exact tk (fun q => by omega) _ _
  · refine at_ld (i := 3) dX0_layTail_26 rfl rfl rfl ?_
    refine at_zle 47 dX0_layTail_27 (by decide) (fun c => absurd c (nI_nle t0 (by omega))) (fun _ => ?_)
    have e2 : tlI v i = nI tl := by rw [etl, if_neg (by omega)]
    rw [e2]
    rw [e2] at tk
    refine at_ld (i := 4) dX0_layTail_30 rfl rfl rfl ?_
    refine at_k (nI 4) dX0_layTail_32 rfl (by decide) ?_
    refine at_rem dX0_layTail_33 (by decide) ?_
    try dsimp only
    rw [nI_rem (by omega) (by decide)]
    refine at_ld (i := 3) dX0_layTail_34 rfl rfl rfl ?_
    refine at_bin dX0_layTail_35 rfl ?_
    try dsimp only
    rw [nI_add]
    refine at_ld (i := 5) dX0_layTail_36 rfl rfl rfl ?_
    refine at_bin dX0_layTail_38 rfl ?_
    try dsimp only
    rw [nI_add]
    refine at_k (nI 4) dX0_layTail_39 rfl (by decide) ?_
    refine at_igt 47 dX0_layTail_40 (by decide) (fun c => ?_) (fun c => ?_)
    · have c1 := (nI_ltI (by decide) (by omega)).mp c
      refine at_k (nI 0) dX0_layTail_47 rfl (by decide) ?_
      refine at_st (i := 6) dX0_layTail_48 rfl rfl (Nat.le_of_ble_eq_true rfl) rfl ?_
      try dsimp only [List.set_cons_succ, List.set_cons_zero]
      refine at_ld (i := 6) dX0_layTail_50 rfl rfl rfl ?_
      refine at_zeq 111 dX0_layTail_52 (by decide) (fun _ => ?_) (fun c => absurd (rfl) c)
      exact tk (fun q => by omega) _ _
    · have c1 : ¬ 4 < tl % 4 + t + (u - t) := fun q => c (nI_lt q (by omega))
      have ka := k_areFree (vo_F (g := g) (a := a) (L := v) (b := b) (d := d) (K := K) (e := nI (v 6)) (m := nI (v 7)) hg ha) hb (tl + t) (u - t) (by omega) (by omega)
      rw [decide_eq_true (show (tl + t) % 4 + (u - t) ≤ 4 by omega), Bool.true_and] at ka
      refine at_k (nI 1) dX0_layTail_43 rfl (by decide) ?_
      refine at_goto 48 dX0_layTail_44 (by decide) ?_
      refine at_st (i := 6) dX0_layTail_48 rfl rfl (Nat.le_of_ble_eq_true rfl) rfl ?_
      try dsimp only [List.set_cons_succ, List.set_cons_zero]
      refine at_ld (i := 6) dX0_layTail_50 rfl rfl rfl ?_
      refine at_zeq 111 dX0_layTail_52 (by decide) (fun c => absurd c ((by decide))) (fun _ => ?_)
      refine at_ld (i := 0) dX0_layTail_55 rfl rfl rfl ?_
      refine at_get dX0_layTail_56 fX0_26 (de_O hD) (by omega) rfl ?_
      refine at_ld (i := 4) dX0_layTail_59 rfl rfl rfl ?_
      refine at_ld (i := 3) dX0_layTail_61 rfl rfl rfl ?_
      refine at_bin dX0_layTail_62 rfl ?_
      try dsimp only
      rw [nI_add]
      refine at_ld (i := 5) dX0_layTail_63 rfl rfl rfl ?_
      refine at_rv [_, _] dX0_layTail_65 mX1_areFree ⟨Nat.le_of_ble_eq_true rfl, Nat.le_of_ble_eq_true rfl⟩ lX0_111 iX1_areFree rfl rfl (vo_F hg ha).1 (by omega) rfl (Nat.le_of_ble_eq_true rfl) (Nat.le_of_ble_eq_true rfl) ⟨rfl, rfl⟩ (ka) ?_
      refine at_zeq 111 dX0_layTail_68 (by decide) (fun c2 => ?_) (fun c2 => ?_)
      · rw [bI_0] at c2
        exact tk (fun q => by rw [q.2.2] at c2; cases c2) _ _
      · have c3 := bI_1 c2
        have ew : wdn v i t u = some (inc (lta v (tl + t) false (u - t)) 6) := by
          unfold wdn
          rw [hl, if_pos ⟨t0, by omega, c3⟩]
        rw [ew]
        have kp := k_put (vo_F (g := g) (a := a) (L := v) (b := b) (d := d) (K := K) (e := nI (v 6)) (m := nI (v 7)) hg ha) (tl + t) (u - t) false (by omega) (by omega)
        rw [vo_ub1] at kp
        refine at_ld (i := 0) dX0_layTail_71 rfl rfl rfl ?_
        refine at_get dX0_layTail_72 fX0_26 (de_O hD) (by omega) rfl ?_
        refine at_ld (i := 4) dX0_layTail_75 rfl rfl rfl ?_
        refine at_ld (i := 3) dX0_layTail_77 rfl rfl rfl ?_
        refine at_bin dX0_layTail_78 rfl ?_
        try dsimp only
        rw [nI_add]
        refine at_ld (i := 5) dX0_layTail_79 rfl rfl rfl ?_
        refine at_k (nI 0) dX0_layTail_81 rfl (by decide) ?_
        refine at_wv [_, _, _] dX0_layTail_82 mX1_put ⟨Nat.le_of_ble_eq_true rfl, Nat.le_of_ble_eq_true rfl⟩ lX0_114 iX1_put rfl rfl (vo_F hg ha).1 (by omega) rfl (Nat.le_of_ble_eq_true rfl) (Nat.le_of_ble_eq_true rfl) ⟨rfl, rfl⟩ (kp) ⟨rfl, rfl⟩ ?_
        try dsimp only [Option.toList, List.cons_append, List.nil_append]
        refine at_ld (i := 0) dX0_layTail_85 rfl rfl rfl ?_
        refine at_get dX0_layTail_86 fX0_9 (de_O hD) (by omega) rfl ?_
        refine at_dup dX0_layTail_89 rfl ?_
        refine at_get dX0_layTail_90 fX0_118 (vo_V hg) (by omega) rfl ?_
        refine at_k (nI 1) dX0_layTail_93 rfl (by decide) ?_
        refine at_bin dX0_layTail_94 rfl ?_
        try dsimp only
        rw [nI_add]
        refine at_put dX0_layTail_95 fX0_118 ⟨_, _, rfl, Or.inl rfl, tyX6_ok 4 (by decide), fun _ => ⟨rfl, rfl⟩⟩ (vo_V hg) (by omega) (Nat.le_of_ble_eq_true rfl) (vo_ue _) ?_
        refine at_ld (i := 0) dX0_layTail_98 rfl rfl rfl ?_
        refine at_get dX0_layTail_99 fX0_31 (de_O hD) (by omega) rfl ?_
        refine at_ld (i := 1) dX0_layTail_102 rfl rfl rfl ?_
        refine at_ld (i := 2) dX0_layTail_103 rfl rfl rfl ?_
        refine at_ld (i := 4) dX0_layTail_104 rfl rfl rfl ?_
        refine at_wv [_, _, _] dX0_layTail_106 mX2_setSize ⟨Nat.le_of_ble_eq_true rfl, Nat.le_of_ble_eq_true rfl⟩ lX0_74 iX2_setSize rfl rfl (vo_I hg ha).1 (by omega) rfl (Nat.le_of_ble_eq_true rfl) (Nat.le_of_ble_eq_true rfl) ⟨rfl, rfl⟩ (k_setSize hg ha i (by omega) (nI size) (nI tl)) ⟨rfl, rfl⟩ ?_
        try dsimp only [Option.toList, List.cons_append, List.nil_append]
        refine at_k (nI 1) dX0_layTail_109 rfl (by decide) ?_
        refine at_ret dX0_layTail_110 rfl rfl ?_
        have hio2 : ∀ j f, f < 15 → io (vf_upd (inc (lta v (tl + t) false (u - t)) 6) (136 + 15 * i + 3) size) j f = if j = i ∧ f = 3 then size else io v j f := fun j f hf => by rw [io_u _ (by decide) hf, io_inc _ (Or.inl rfl), io_lta _ _ (by omega)]
        refine ⟨rfl, VS_of (fun c hc => by rw [vu_n _ _ _ _ (by omega), inc, vu_n _ _ _ _ (by omega), lta_out _ _ _ _ _ (by omega)]) (by rw [vu_n _ _ _ _ (by omega), inc, vu_s, lta_out _ _ _ _ _ (by omega)]) (by rw [vu_n _ _ _ _ (by omega), inc, vu_n _ _ _ _ (by omega), lta_out _ _ _ _ _ (by omega)]) ?_ (iR_sz w hR hth (by rw [hio2 i 3 (by decide), if_pos ⟨rfl, rfl⟩]) (fun j f hf hj => by rw [hio2 j f hf, if_neg (by omega)]) (by rw [if_neg (by omega), hio2 i 4 (by decide), if_neg (by omega), hl]) (fun k hk => by rw [hio2 i (5 + k) (by omega), if_neg (by omega)]; exact hbl k hk))⟩
        refine mbq_e (fun y hy => ?_) (mbq_put hb (x := tl + t) (n := u - t) (by omega) (by omega) false)
        rw [fr_io _ hy]
        have e7 : fr (inc (lta v (tl + t) false (u - t)) 6) y = fr (lta v (tl + t) false (u - t)) y := by unfold fr inc; rw [vu_n _ _ _ _ (by omega)]
        rw [e7, fr_lta]
end C13
