/-! THE CLASS: deeds: blocks, a file that grows -/
def cg2 (v : Nat → Nat) (i size k : Nat) : Option (Nat → Nat) := match tks v i (size / 4 - k) k with
  | none => none
  | some v2 => if size % 4 = 0 then some v2 else tkt v2 i (size / 4) (size % 4)
def fst1 (v : Nat → Nat) (i : Nat) : Option (Nat → Nat) := if 0 < io v i 3 % 4 then fil v i (io v i 3 % 4) else tkb v i (io v i 3 / 4)
theorem cgr_b {v : Nat → Nat} {i size : Nat} (h : io v i 3 / 4 < size / 4) : cgr v i size = match fst1 v i with | none => none | some v1 => cg2 v1 i size (io v i 3 / 4 + 1) := by
  unfold cgr fst1 cg2
  rw [if_neg (by omega)]
  by_cases c : 0 < io v i 3 % 4
  · simp only [if_pos c]
    cases fil v i (io v i 3 % 4) <;> rfl
  · simp only [if_neg c]
    rw [show size / 4 - io v i 3 / 4 = (size / 4 - (io v i 3 / 4 + 1)) + 1 by omega]
    simp only [tks]
    cases tkb v i (io v i 3 / 4) <;> rfl
/-- while blocks are laid: the state v1, of which the class's rows have blocks below k, the rest as it was in v -/
def LR (v v1 : Nat → Nat) (i k : Nat) (b : Nat → Int32) (K : Nat → Nat → Int32) : Prop := mbq (fr v1) b ∧ iR v K ∧ (∀ j, j < k → K 5 (i * 10 + j) = nI (io v1 i (5 + j))) ∧ wf v1 ∧ wfb v1 ∧ (∀ c, c < 6 → v1 c = v c) ∧ ∀ j f, f < 15 → (j ≠ i ∨ f < 5) → io v1 j f = io v j f
theorem wfb_i {v v1 : Nat → Nat} {i : Nat} (h : wfb v) (h0 : v1 0 = v 0) (h1 : v1 1 = v 1) (hi : ∀ j f, 4 ≤ f → f < 15 → io v1 j f = io v j f ∨ (f = 4 ∧ io v1 j f < 4 * (v 0 * v 1)) ∨ (5 ≤ f ∧ io v1 j f < v 0 * v 1)) : wfb v1 := by
  intro j hj
  rw [h0, h1]
  obtain ⟨q1, q2⟩ := h j hj
  refine ⟨?_, fun k hk => ?_⟩
  · rcases hi j 4 (by omega) (by omega) with z | z | z
    · rw [z]; exact q1
    · exact z.2
    · omega
  · rcases hi j (5 + k) (by omega) (by omega) with z | z | z
    · rw [z]; exact q2 k hk
    · omega
    · exact z.2
theorem LR_tkb {v v1 v2 : Nat → Nat} {i k : Nat} {b : Nat → Int32} {K : Nat → Nat → Int32} (w : wf v) (h : LR v v1 i k b K) (hk1 : sz v i / 4 ≤ k) (hk : k < 10) (q : tkb v1 i k = some v2) : ∃ x, bnr v1 (gob v1 i k) (pob v1 i k) = some x ∧ LR v v2 i (k + 1) (bput b (4 * x) 4 false) (kBl K i k (nI x)) ∧ ∀ c, c < 8 → v2 c = v1 c := by
  obtain ⟨hb, hR, hK, w1, wb1, h6, hio⟩ := h
  obtain ⟨x, qb, hx, hc, hio2, hfr⟩ := tkb_f w1 hk q
  have hgb := wf_gb w1.1
  refine ⟨x, qb, ⟨mbq_e (fun y hy => (hfr y hy).symm) (mbq_put hb (by omega) (by omega) false), iR_bl w hR hk1 hk _, ?_, wf_tkb w1 hk q, ?_, fun c hc2 => by rw [hc c (by omega), h6 c hc2], fun j f hf hj => by rw [hio2 j f hf, if_neg (by omega), hio j f hf hj]⟩, hc⟩
  · intro j hj
    rw [kBl_at, hio2 i (5 + j) (by omega)]
    by_cases e : j = k
    · rw [if_pos ⟨rfl, by omega⟩, if_pos ⟨rfl, by omega⟩]
    · rw [if_neg (by omega), if_neg (by omega)]
      exact hK j (by omega)
  · refine wfb_i (i := i) wb1 (hc 0 (by decide)) (hc 1 (by decide)) (fun j f h4 hf => ?_)
    rw [hio2 j f hf]
    split
    · exact Or.inr (Or.inr ⟨by omega, hx⟩)
    · exact Or.inl rfl
theorem nI_z (x : Nat) : nI x + nI 0 = nI x := nI_add x 0
theorem tkb_n {v : Nat → Nat} {i k : Nat} (h : tkb v i k = none) : bnr v (gob v i k) (pob v i k) = none := by
  unfold tkb at h
  cases q : bnr v (gob v i k) (pob v i k) with
  | none => rfl
  | some x => rw [q] at h; cases h
section C14
variable {g : sg_H} {a D : Nat} {v : Nat → Nat} {b d : Nat → Int32} {K : Nat → Nat → Int32} {e m : Int32}
set_option maxRecDepth 100000 in
theorem k_lbEnd (hg : a + 13 ≤ g.1) (ha : a < 800) (hD : DE g a D) (w : wf v) (i size t : Nat) (s : Bool) (hi : i < v 0 * v 2) (hth : io v i 0 ≠ 0) (h40 : size ≤ 40) (ht : t < 4) (hs : s = true → 0 < t) (v3 : Nat → Nat) (b3 : Nat → Int32) (K3 : Nat → Nat → Int32) (hb3 : mbq (fr v3) b3) (hR3 : iR v K3) (hK3 : ∀ j, j < size / 4 → K3 5 (i * 10 + j) = nI (io v3 i (5 + j))) (h6 : ∀ c, c < 6 → v3 c = v c) (hE : v3 6 = v 6 + (if s = true then 1 else 0)) (hM : v3 7 = v 7 + (if 0 < t ∧ s = false then 1 else 0)) (hio : ∀ j f, f < 15 → (j ≠ i ∨ f < 4) → io v3 j f = io v j f) (run y4 y5 : Int32) (hrun : run = if size % 4 = 0 then -4 else nI (io v3 i 4)) : sg_A MX0_layBlocks 191 [some (.ref D), some (.int (nI i)), some (.int (nI size)), some (.int (nI t)), some (.int y4), some (.int y5), some (.int (bI s)), some (.int run)] [] (vo g a v b3 d K3 (nI (v 6)) (nI (v 7))) (fun r h' => r = some (.int (bI true)) ∧ VS g a (vf_upd v3 (136 + 15 * i + 3) size) h') := by
  have hgi := wf_gi w.1
  have hD8 := hD.2.2.2.1
  have fin : ∀ E M, E = v3 6 → M = v3 7 → sg_A MX0_layBlocks 239 [some (.ref D), some (.int (nI i)), some (.int (nI size)), some (.int (nI t)), some (.int y4), some (.int y5), some (.int (bI s)), some (.int run)] [] (vo g a v b3 d K3 (nI E) (nI M)) (fun r h' => r = some (.int (bI true)) ∧ VS g a (vf_upd v3 (136 + 15 * i + 3) size) h') := by
    rintro E M rfl rfl
    refine at_ld (i := 0) dX0_layBlocks_239 rfl rfl rfl ?_
    refine at_get dX0_layBlocks_240 fX0_31 (de_O hD) (by omega) rfl ?_
    refine at_ld (i := 1) dX0_layBlocks_243 rfl rfl rfl ?_
    refine at_ld (i := 2) dX0_layBlocks_244 rfl rfl rfl ?_
    refine at_ld (i := 7) dX0_layBlocks_245 rfl rfl rfl ?_
    refine at_wv [_, _, _] dX0_layBlocks_247 mX2_setSize ⟨Nat.le_of_ble_eq_true rfl, Nat.le_of_ble_eq_true rfl⟩ lX0_74 iX2_setSize rfl rfl (vo_I hg ha).1 (by omega) rfl (Nat.le_of_ble_eq_true rfl) (Nat.le_of_ble_eq_true rfl) ⟨rfl, rfl⟩ (k_setSize hg ha i (by omega) (nI size) run) ⟨rfl, rfl⟩ ?_
    try dsimp only [Option.toList, List.cons_append, List.nil_append]
    refine at_k (nI 1) dX0_layBlocks_250 rfl (by decide) ?_
    refine at_ret dX0_layBlocks_251 rfl rfl ?_
    refine ⟨rfl, VS_of (fun c hc => by rw [vu_n _ _ _ _ (by omega), h6 c hc]) (by rw [vu_n _ _ _ _ (by omega)]) (by rw [vu_n _ _ _ _ (by omega)]) (mbq_e (fun y hy => (fr_io _ hy).symm) hb3) (iR_sz w hR3 hth (by rw [io_u _ (by decide) (by decide), if_pos ⟨rfl, rfl⟩]) (fun j f hf hj => by rw [io_u _ (by decide) hf, if_neg (by omega), hio j f hf (by omega)]) (by rw [show io (vf_upd v3 (136 + 15 * i + 3) size) i 4 = io v3 i 4 by rw [io_u _ (by decide) (by decide), if_neg (by omega)]]; exact hrun) (fun k hk => by rw [io_u _ (by decide) (by omega), if_neg (by omega)]; exact hK3 k hk))⟩
  cases s with
  | true =>
    refine at_ld (i := 0) dX0_layBlocks_191 rfl rfl rfl ?_
    refine at_get dX0_layBlocks_192 fX0_9 (de_O hD) (by omega) rfl ?_
    refine at_dup dX0_layBlocks_195 rfl ?_
    refine at_get dX0_layBlocks_196 fX0_118 (vo_V hg) (by omega) rfl ?_
    refine at_ld (i := 6) dX0_layBlocks_199 rfl rfl rfl ?_
    refine at_zeq 208 dX0_layBlocks_201 (by decide) (fun c => absurd c ((by decide))) (fun _ => ?_)
    refine at_k (nI 1) dX0_layBlocks_204 rfl (by decide) ?_
    refine at_goto 209 dX0_layBlocks_205 (by decide) ?_
    refine at_bin dX0_layBlocks_209 rfl ?_
    try dsimp only
    rw [nI_add]
    refine at_put dX0_layBlocks_210 fX0_118 ⟨_, _, rfl, Or.inl rfl, tyX6_ok 4 (by decide), fun _ => ⟨rfl, rfl⟩⟩ (vo_V hg) (by omega) (Nat.le_of_ble_eq_true rfl) (vo_ue _) ?_
    refine at_ld (i := 0) dX0_layBlocks_213 rfl rfl rfl ?_
    refine at_get dX0_layBlocks_214 fX0_9 (de_O hD) (by omega) rfl ?_
    refine at_dup dX0_layBlocks_217 rfl ?_
    refine at_get dX0_layBlocks_218 fX0_124 (vo_V hg) (by omega) rfl ?_
    refine at_ld (i := 3) dX0_layBlocks_221 rfl rfl rfl ?_
    refine at_zle 234 dX0_layBlocks_222 (by decide) (fun c => absurd c (nI_nle (hs rfl) (by omega))) (fun _ => ?_)
    refine at_ld (i := 6) dX0_layBlocks_225 rfl rfl rfl ?_
    refine at_zne 234 dX0_layBlocks_227 (by decide) (fun _ => ?_) (fun c => absurd ((by decide)) c)
    refine at_k (nI 0) dX0_layBlocks_234 rfl (by decide) ?_
    refine at_bin dX0_layBlocks_235 rfl ?_
    try dsimp only
    rw [nI_z]
    refine at_put dX0_layBlocks_236 fX0_124 ⟨_, _, rfl, Or.inl rfl, tyX6_ok 5 (by decide), fun _ => ⟨rfl, rfl⟩⟩ (vo_V hg) (by omega) (Nat.le_of_ble_eq_true rfl) (vo_um _) ?_
    exact fin _ _ (by rw [hE, if_pos rfl]) (by rw [hM, if_neg (fun q => by cases q.2)]; rfl)
  | false =>
    refine at_ld (i := 0) dX0_layBlocks_191 rfl rfl rfl ?_
    refine at_get dX0_layBlocks_192 fX0_9 (de_O hD) (by omega) rfl ?_
    refine at_dup dX0_layBlocks_195 rfl ?_
    refine at_get dX0_layBlocks_196 fX0_118 (vo_V hg) (by omega) rfl ?_
    refine at_ld (i := 6) dX0_layBlocks_199 rfl rfl rfl ?_
    refine at_zeq 208 dX0_layBlocks_201 (by decide) (fun _ => ?_) (fun c => absurd (rfl) c)
    refine at_k (nI 0) dX0_layBlocks_208 rfl (by decide) ?_
    refine at_bin dX0_layBlocks_209 rfl ?_
    try dsimp only
    rw [nI_z]
    refine at_put dX0_layBlocks_210 fX0_118 ⟨_, _, rfl, Or.inl rfl, tyX6_ok 4 (by decide), fun _ => ⟨rfl, rfl⟩⟩ (vo_V hg) (by omega) (Nat.le_of_ble_eq_true rfl) (vo_ue _) ?_
    refine at_ld (i := 0) dX0_layBlocks_213 rfl rfl rfl ?_
    refine at_get dX0_layBlocks_214 fX0_9 (de_O hD) (by omega) rfl ?_
    refine at_dup dX0_layBlocks_217 rfl ?_
    refine at_get dX0_layBlocks_218 fX0_124 (vo_V hg) (by omega) rfl ?_
    refine at_ld (i := 3) dX0_layBlocks_221 rfl rfl rfl ?_
    rcases Nat.eq_zero_or_pos t with t0 | t0
    · refine at_zle 234 dX0_layBlocks_222 (by decide) (fun _ => ?_) (fun c => absurd ((by rw [t0]; decide)) c)
      refine at_k (nI 0) dX0_layBlocks_234 rfl (by decide) ?_
      refine at_bin dX0_layBlocks_235 rfl ?_
      try dsimp only
      rw [nI_z]
      refine at_put dX0_layBlocks_236 fX0_124 ⟨_, _, rfl, Or.inl rfl, tyX6_ok 5 (by decide), fun _ => ⟨rfl, rfl⟩⟩ (vo_V hg) (by omega) (Nat.le_of_ble_eq_true rfl) (vo_um _) ?_
      exact fin _ _ (by rw [hE]; rfl) (by rw [hM, if_neg (fun q => by omega)]; rfl)
    · refine at_zle 234 dX0_layBlocks_222 (by decide) (fun c => absurd c (nI_nle t0 (by omega))) (fun _ => ?_)
      refine at_ld (i := 6) dX0_layBlocks_225 rfl rfl rfl ?_
      refine at_zne 234 dX0_layBlocks_227 (by decide) (fun c => absurd c (fun q => q rfl)) (fun _ => ?_)
      refine at_k (nI 1) dX0_layBlocks_230 rfl (by decide) ?_
      refine at_goto 235 dX0_layBlocks_231 (by decide) ?_
      refine at_bin dX0_layBlocks_235 rfl ?_
      try dsimp only
      rw [nI_add]
      refine at_put dX0_layBlocks_236 fX0_124 ⟨_, _, rfl, Or.inl rfl, tyX6_ok 5 (by decide), fun _ => ⟨rfl, rfl⟩⟩ (vo_V hg) (by omega) (Nat.le_of_ble_eq_true rfl) (vo_um _) ?_
      exact fin _ _ (by rw [hE]; rfl) (by rw [hM, if_pos ⟨t0, rfl⟩])
set_option maxRecDepth 100000 in
theorem k_lbLoop (hg : a + 13 ≤ g.1) (ha : a < 800) (hD : DE g a D) (w : wf v) (i size t : Nat) (s : Bool) (hi : i < v 0 * v 2) (hth : io v i 0 ≠ 0) (h40 : size ≤ 40) (ht : t < 4) (hs : s = true → 0 < t) (y4 y5 : Int32) : ∀ n k v1 b1 K1 , k + n = size / 4 → sz v i / 4 < k → LR v v1 i k b1 K1 → v1 6 = v 6 + (if s = true then 1 else 0) → v1 7 = v 7 + (if 0 < t ∧ s = false then 1 else 0) → sg_A MX0_layBlocks 126 [some (.ref D), some (.int (nI i)), some (.int (nI size)), some (.int (nI t)), some (.int y4), some (.int y5), some (.int (bI s)), some (.int (nI k))] [] (vo g a v b1 d K1 (nI (v 6)) (nI (v 7))) (fun r h' => match cg2 v1 i size k with | none => r = some (.int (bI false)) ∧ ∃ b' K', h' = vo g a v b' d K' (nI (v 6)) (nI (v 7)) ∧ iR v K' | some v' => r = some (.int (bI true)) ∧ VS g a (vf_upd v' (136 + 15 * i + 3) size) h') := by
  have hgi := wf_gi w.1
  have hgb := wf_gb w.1
  have hD8 := hD.2.2.2.1
  intro n
  induction n with
  | zero =>
    intro k v1 b1 K1 hk hk1 hL hE hM
    obtain ⟨hb, hR, hK, w1, wb1, h6, hio⟩ := hL
    have hkk : k = size / 4 := by omega
    subst hkk
    have ec : cg2 v1 i size (size / 4) = if size % 4 = 0 then some v1 else tkt v1 i (size / 4) (size % 4) := by
      unfold cg2
      rw [Nat.sub_self]
      rfl
    rw [ec]
    refine at_ld (i := 7) dX0_layBlocks_126 rfl rfl rfl ?_
    refine at_ld (i := 2) dX0_layBlocks_128 rfl rfl rfl ?_
    refine at_k (nI 4) dX0_layBlocks_129 rfl (by decide) ?_
    refine at_div dX0_layBlocks_130 (by decide) ?_
    try dsimp only
    rw [nI_div (by omega) (by decide)]
    refine at_ige 152 dX0_layBlocks_131 (by decide) (fun _ => ?_) (fun c => absurd (nI_le (Nat.le_refl _) (by omega)) c)
    refine at_k (-4) dX0_layBlocks_152 rfl (by decide) ?_
    refine at_st (i := 7) dX0_layBlocks_154 rfl rfl (Nat.le_of_ble_eq_true rfl) rfl ?_
    try dsimp only [List.set_cons_succ, List.set_cons_zero]
    refine at_ld (i := 2) dX0_layBlocks_156 rfl rfl rfl ?_
    refine at_k (nI 4) dX0_layBlocks_157 rfl (by decide) ?_
    refine at_rem dX0_layBlocks_158 (by decide) ?_
    try dsimp only
    rw [nI_rem (by omega) (by decide)]
    by_cases u0 : size % 4 = 0
    · refine at_zle 191 dX0_layBlocks_159 (by decide) (fun _ => ?_) (fun c => absurd ((by rw [u0]; decide)) c)
      rw [if_pos u0]
      exact k_lbEnd hg ha hD w i size t s hi hth h40 ht hs v1 b1 K1 hb hR hK h6 hE hM (fun j f hf hj => hio j f hf (by omega)) _ _ _ (by rw [if_pos u0])
    · refine at_zle 191 dX0_layBlocks_159 (by decide) (fun c => absurd c (nI_nle (by omega) (by omega))) (fun _ => ?_)
      rw [if_neg u0]
      have hbx : 0 < size / 4 → io v1 i (5 + size / 4 - 1) < v1 0 * v1 1 := fun q => by have := (wb1 i (by omega)).2 (size / 4 - 1) (by omega); rw [show 5 + size / 4 - 1 = 5 + (size / 4 - 1) by omega]; exact this
      have hgt := gft_lt (v := v1) (i := i) (bl := size / 4) (by rw [h6 0 (by decide), h6 2 (by decide)]; exact hi) hbx
      have kg := k_groupForTail (v := v1) (b := b1) (d := d) (K := K1) (e := nI (v 6)) (m := nI (v 7)) hg ha hD w1.1 i (size / 4) (by omega) (by omega) (fun q => by rw [show 5 + size / 4 - 1 = 5 + (size / 4 - 1) by omega]; exact hK _ (by omega)) hbx
      have ktr := k_takeRun (vo_F (g := g) (a := a) (L := v1) (b := b1) (d := d) (K := K1) (e := nI (v 6)) (m := nI (v 7)) hg ha) hb w1.1 (gft v1 i (size / 4)) (size % 4) hgt (by omega) (by omega) (fun x hx => by have := rnr_end w1.1 (show 1 ≤ size % 4 by omega) (by omega) hx; have := wf_gb w1.1; omega)
      have eL : vo g a v b1 d K1 (nI (v 6)) (nI (v 7)) = vo g a v1 b1 d K1 (nI (v 6)) (nI (v 7)) := vo_L v1 h6
      cases q : tkt v1 i (size / 4) (size % 4) with
      | none =>
        have qr : rnr v1 (gft v1 i (size / 4)) (size % 4) = none := by
          unfold tkt at q
          cases q2 : rnr v1 (gft v1 i (size / 4)) (size % 4) with
          | none => rfl
          | some x => unfold gft at q2; rw [q2] at q; cases q
        rw [qr] at ktr
        dsimp only at ktr
        rw [eL]
        refine at_ld (i := 0) dX0_layBlocks_162 rfl rfl rfl ?_
        refine at_get dX0_layBlocks_163 fX0_26 (de_O hD) (by omega) rfl ?_
        refine at_ld (i := 0) dX0_layBlocks_166 rfl rfl rfl ?_
        refine at_ld (i := 1) dX0_layBlocks_167 rfl rfl rfl ?_
        refine at_ld (i := 2) dX0_layBlocks_168 rfl rfl rfl ?_
        refine at_k (nI 4) dX0_layBlocks_169 rfl (by decide) ?_
        refine at_div dX0_layBlocks_170 (by decide) ?_
        try dsimp only
        rw [nI_div (by omega) (by decide)]
        refine at_rv [_, _] dX0_layBlocks_171 mX0_groupForTail ⟨Nat.le_of_ble_eq_true rfl, Nat.le_of_ble_eq_true rfl⟩ lX0_121 iX0_groupForTail rfl rfl (de_O hD) (by omega) rfl (Nat.le_of_ble_eq_true rfl) (Nat.le_of_ble_eq_true rfl) ⟨rfl, rfl⟩ (kg) ?_
        refine at_ld (i := 2) dX0_layBlocks_174 rfl rfl rfl ?_
        refine at_k (nI 4) dX0_layBlocks_175 rfl (by decide) ?_
        refine at_rem dX0_layBlocks_176 (by decide) ?_
        try dsimp only
        rw [nI_rem (by omega) (by decide)]
        refine at_wv [_, _] dX0_layBlocks_177 mX1_takeRun ⟨Nat.le_of_ble_eq_true rfl, Nat.le_of_ble_eq_true rfl⟩ lX0_67 iX1_takeRun rfl rfl (vo_F hg ha).1 (by omega) rfl (Nat.le_of_ble_eq_true rfl) (Nat.le_of_ble_eq_true rfl) ⟨rfl, rfl⟩ (ktr) ⟨rfl, rfl⟩ ?_
        try dsimp only [Option.toList, List.cons_append, List.nil_append]
        refine at_st (i := 7) dX0_layBlocks_180 rfl rfl (Nat.le_of_ble_eq_true rfl) rfl ?_
        try dsimp only [List.set_cons_succ, List.set_cons_zero]
        refine at_ld (i := 7) dX0_layBlocks_182 rfl rfl rfl ?_
        refine at_k (-4) dX0_layBlocks_184 rfl (by decide) ?_
        refine at_ine 191 dX0_layBlocks_186 (by decide) (fun c => absurd c (fun q => q rfl)) (fun _ => ?_)
        refine at_k (nI 0) dX0_layBlocks_189 rfl (by decide) ?_
        refine at_ret dX0_layBlocks_190 rfl rfl ?_
        exact ⟨rfl, b1, K1, eL.symm, hR⟩
      | some v3 =>
        obtain ⟨x, qr, hx1, hx2, hc, hio2, hfr⟩ := tkt_f w1 (show 1 ≤ size % 4 by omega) (by omega) q
        have hgb1 := wf_gb w1.1
        rw [qr] at ktr
        dsimp only at ktr
        rw [vo_ub1] at ktr
        rw [eL]
        refine at_ld (i := 0) dX0_layBlocks_162 rfl rfl rfl ?_
        refine at_get dX0_layBlocks_163 fX0_26 (de_O hD) (by omega) rfl ?_
        refine at_ld (i := 0) dX0_layBlocks_166 rfl rfl rfl ?_
        refine at_ld (i := 1) dX0_layBlocks_167 rfl rfl rfl ?_
        refine at_ld (i := 2) dX0_layBlocks_168 rfl rfl rfl ?_
        refine at_k (nI 4) dX0_layBlocks_169 rfl (by decide) ?_
        refine at_div dX0_layBlocks_170 (by decide) ?_
        try dsimp only
        rw [nI_div (by omega) (by decide)]
        refine at_rv [_, _] dX0_layBlocks_171 mX0_groupForTail ⟨Nat.le_of_ble_eq_true rfl, Nat.le_of_ble_eq_true rfl⟩ lX0_121 iX0_groupForTail rfl rfl (de_O hD) (by omega) rfl (Nat.le_of_ble_eq_true rfl) (Nat.le_of_ble_eq_true rfl) ⟨rfl, rfl⟩ (kg) ?_
        refine at_ld (i := 2) dX0_layBlocks_174 rfl rfl rfl ?_
        refine at_k (nI 4) dX0_layBlocks_175 rfl (by decide) ?_
        refine at_rem dX0_layBlocks_176 (by decide) ?_
        try dsimp only
        rw [nI_rem (by omega) (by decide)]
        refine at_wv [_, _] dX0_layBlocks_177 mX1_takeRun ⟨Nat.le_of_ble_eq_true rfl, Nat.le_of_ble_eq_true rfl⟩ lX0_67 iX1_takeRun rfl rfl (vo_F hg ha).1 (by omega) rfl (Nat.le_of_ble_eq_true rfl) (Nat.le_of_ble_eq_true rfl) ⟨rfl, rfl⟩ (ktr) ⟨rfl, rfl⟩ ?_
        try dsimp only [Option.toList, List.cons_append, List.nil_append]
        refine at_st (i := 7) dX0_layBlocks_180 rfl rfl (Nat.le_of_ble_eq_true rfl) rfl ?_
        try dsimp only [List.set_cons_succ, List.set_cons_zero]
        refine at_ld (i := 7) dX0_layBlocks_182 rfl rfl rfl ?_
        refine at_k (-4) dX0_layBlocks_184 rfl (by decide) ?_
        refine at_ine 191 dX0_layBlocks_186 (by decide) (fun _ => ?_) (fun c => absurd (oI_n (by omega)) c)
        rw [← vo_L v1 h6]
        refine k_lbEnd hg ha hD w i size t s hi hth h40 ht hs v3 _ K1 (mbq_e (fun y hy => (hfr y hy).symm) (mbq_put hb (by omega) hx2 false)) hR ?_ (fun c hc2 => by rw [hc c (by omega), h6 c hc2]) (by rw [hc 6 (by decide), hE]) (by rw [hc 7 (by decide), hM]) (fun j f hf hj => by rw [hio2 j f hf, if_neg (by omega), hio j f hf (by omega)]) _ _ _ (by rw [if_neg u0, hio2 i 4 (by decide), if_pos ⟨rfl, rfl⟩]; rfl)
        intro j hj
        rw [hio2 i (5 + j) (by omega), if_neg (by omega)]
        exact hK j hj
  | succ n ih =>
    intro k v1 b1 K1 hk hk1 hL hE hM
    have hL2 := hL
    obtain ⟨hb, hR, hK, w1, wb1, h6, hio⟩ := hL
    have hbx : 0 < k → io v1 i (5 + k - 1) < v1 0 * v1 1 := fun q => by have := (wb1 i (by omega)).2 (k - 1) (by omega); rw [show 5 + k - 1 = 5 + (k - 1) by omega]; exact this
    have kb := k_layBlock (v := v1) (b := b1) (d := d) (K := K1) (e := nI (v 6)) (m := nI (v 7)) hg ha hD hb w1.1 i k (by rw [h6 0 (by decide), h6 2 (by decide)]; exact hi) (by omega) (fun q => by rw [show 5 + k - 1 = 5 + (k - 1) by omega]; exact hK _ (by omega)) hbx
    have eL : vo g a v b1 d K1 (nI (v 6)) (nI (v 7)) = vo g a v1 b1 d K1 (nI (v 6)) (nI (v 7)) := vo_L v1 h6
    have ec : cg2 v1 i size k = match tkb v1 i k with | none => none | some v2 => cg2 v2 i size (k + 1) := by
      unfold cg2
      rw [show size / 4 - k = (size / 4 - (k + 1)) + 1 by omega]
      simp only [tks]
      cases tkb v1 i k <;> rfl
    rw [ec]
    cases q : tkb v1 i k with
    | none =>
      rw [q, tkb_n q] at kb
      dsimp only at kb
      refine at_ld (i := 7) dX0_layBlocks_126 rfl rfl rfl ?_
      refine at_ld (i := 2) dX0_layBlocks_128 rfl rfl rfl ?_
      refine at_k (nI 4) dX0_layBlocks_129 rfl (by decide) ?_
      refine at_div dX0_layBlocks_130 (by decide) ?_
      try dsimp only
      rw [nI_div (by omega) (by decide)]
      refine at_ige 152 dX0_layBlocks_131 (by decide) (fun c => absurd c (nI_ge (by omega) (by omega))) (fun _ => ?_)
      rw [eL]
      refine at_ld (i := 0) dX0_layBlocks_134 rfl rfl rfl ?_
      refine at_ld (i := 1) dX0_layBlocks_135 rfl rfl rfl ?_
      refine at_ld (i := 7) dX0_layBlocks_136 rfl rfl rfl ?_
      refine at_wv [_, _] dX0_layBlocks_138 mX0_layBlock ⟨Nat.le_of_ble_eq_true rfl, Nat.le_of_ble_eq_true rfl⟩ lX0_130 iX0_layBlock rfl rfl (de_O hD) (by omega) rfl (Nat.le_of_ble_eq_true rfl) (Nat.le_of_ble_eq_true rfl) ⟨rfl, rfl⟩ (kb) ⟨rfl, rfl⟩ ?_
      try dsimp only [Option.toList, List.cons_append, List.nil_append]
      refine at_zne 146 dX0_layBlocks_141 (by decide) (fun c => absurd c (fun q => q rfl)) (fun _ => ?_)
      refine at_k (nI 0) dX0_layBlocks_144 rfl (by decide) ?_
      refine at_ret dX0_layBlocks_145 rfl rfl ?_
      exact ⟨rfl, b1, _, (vo_L v1 h6).symm, iR_bl w hR (by omega) (by omega) _⟩
    | some v2 =>
      obtain ⟨x, qb, hL3, hc⟩ := LR_tkb w hL2 (by omega) (by omega) q
      rw [q, qb] at kb
      dsimp only at kb
      refine at_ld (i := 7) dX0_layBlocks_126 rfl rfl rfl ?_
      refine at_ld (i := 2) dX0_layBlocks_128 rfl rfl rfl ?_
      refine at_k (nI 4) dX0_layBlocks_129 rfl (by decide) ?_
      refine at_div dX0_layBlocks_130 (by decide) ?_
      try dsimp only
      rw [nI_div (by omega) (by decide)]
      refine at_ige 152 dX0_layBlocks_131 (by decide) (fun c => absurd c (nI_ge (by omega) (by omega))) (fun _ => ?_)
      rw [eL]
      refine at_ld (i := 0) dX0_layBlocks_134 rfl rfl rfl ?_
      refine at_ld (i := 1) dX0_layBlocks_135 rfl rfl rfl ?_
      refine at_ld (i := 7) dX0_layBlocks_136 rfl rfl rfl ?_
      refine at_wv [_, _] dX0_layBlocks_138 mX0_layBlock ⟨Nat.le_of_ble_eq_true rfl, Nat.le_of_ble_eq_true rfl⟩ lX0_130 iX0_layBlock rfl rfl (de_O hD) (by omega) rfl (Nat.le_of_ble_eq_true rfl) (Nat.le_of_ble_eq_true rfl) ⟨rfl, rfl⟩ (kb) ⟨rfl, rfl⟩ ?_
      try dsimp only [Option.toList, List.cons_append, List.nil_append]
      refine at_zne 146 dX0_layBlocks_141 (by decide) (fun _ => ?_) (fun c => absurd (show ¬ bI true = 0 by decide) c)
      refine at_iinc (nI 1) dX0_layBlocks_146 rfl rfl (by decide) ?_
      try dsimp only [List.set_cons_succ, List.set_cons_zero]
      refine at_goto 126 dX0_layBlocks_149 (by decide) ?_
      rw [nI_add, ← vo_L v1 h6]
      exact ih (k + 1) v2 _ _ (by omega) (by omega) hL3 (by rw [hc 6 (by decide), hE]) (by rw [hc 7 (by decide), hM])
set_option maxRecDepth 100000 in
theorem k_layBlocks (hg : a + 13 ≤ g.1) (ha : a < 800) (hD : DE g a D) (hb : mbq (fr v) b) (hR : iR v K) (iv : inv v) (i size : Nat) (hi : i < v 0 * v 2) (hth : io v i 0 ≠ 0) (h40 : size ≤ 40) (h2 : io v i 3 / 4 < size / 4) : sg_K MX0_layBlocks [.ref D, .int (nI i), .int (nI size)] (vo g a v b d K (nI (v 6)) (nI (v 7))) (fun r h' => match cgr v i size with | none => r = some (.int (bI false)) ∧ ∃ b' K', h' = vo g a v b' d K' (nI (v 6)) (nI (v 7)) ∧ iR v K' | some v' => r = some (.int (bI true)) ∧ VS g a (vf_upd v' (136 + 15 * i + 3) size) h') := by
  have w := iv.1.1
  have wT := iv.1.2.2
  have wB := iv.2.2.2.2.1
  have hgb := wf_gb w.1
  have hgi := wf_gi w.1
  have hD8 := hD.2.2.2.1
  have es : sz v i = io v i 3 := sz_t hth
  have hT := wT i (by omega)
  have h4 := (w.2.2 i (by omega)).2.2.1
  rw [cgr_b h2]
  have hbl : ∀ k, k < io v i 3 / 4 → K 5 (i * 10 + k) = nI (io v i (5 + k)) := fun k hk => (hR i (by omega)).2.2.2.2 k (by rw [es]; omega)
  have kl := k_tailLengthOf (vo_I (g := g) (a := a) (L := v) (b := b) (d := d) (K := K) (e := nI (v 6)) (m := nI (v 7)) hg ha) hR w i (by omega)
  have kt := k_tailOf (vo_I (g := g) (a := a) (L := v) (b := b) (d := d) (K := K) (e := nI (v 6)) (m := nI (v 7)) hg ha) hR i (by omega)
  have kbo := k_blocksOf (vo_I (g := g) (a := a) (L := v) (b := b) (d := d) (K := K) (e := nI (v 6)) (m := nI (v 7)) hg ha) hR w i (by omega)
  have hbx : 0 < io v i 3 / 4 → io v i (5 + io v i 3 / 4 - 1) < v 0 * v 1 := fun q => by have := (wB i (by omega)).2 (io v i 3 / 4 - 1) (by omega); rw [show 5 + io v i 3 / 4 - 1 = 5 + (io v i 3 / 4 - 1) by omega]; exact this
  have kb := k_layBlock (b := b) (d := d) (K := K) (e := nI (v 6)) (m := nI (v 7)) hg ha hD hb w.1 i (io v i 3 / 4) hi (by omega) (fun q => by rw [show 5 + io v i 3 / 4 - 1 = 5 + (io v i 3 / 4 - 1) by omega]; exact hbl _ (by omega)) hbx
  have hL0 : LR v v i (io v i 3 / 4) b K := ⟨hb, hR, hbl, w, wB, fun _ _ => rfl, fun _ _ _ _ => rfl⟩
  rw [es] at kl kbo
  have etl : tlI v i = if io v i 3 % 4 = 0 then -4 else nI (io v i 4) := by unfold tlI; rw [es]
  show sg_A MX0_layBlocks 0 [some (.ref D), some (.int (nI i)), some (.int (nI size)), none, none, none, none, none] [] _ _
  have lb : ¬ (0 < io v i 3 % 4 ∧ io v i 4 % 4 = 0 ∧ allB (fun k => fr v (io v i 4 + io v i 3 % 4 + k)) (4 - io v i 3 % 4) = true) → sg_A MX0_layBlocks 61 [some (.ref D), some (.int (nI i)), some (.int (nI size)), some (.int (nI (io v i 3 % 4))), some (.int (tlI v i)), some (.int (nI (io v i 3 / 4))), none, none] [] (vo g a v b d K (nI (v 6)) (nI (v 7))) (fun r h' => match (match fst1 v i with | none => none | some v1 => cg2 v1 i size (io v i 3 / 4 + 1)) with | none => r = some (.int (bI false)) ∧ ∃ b' K', h' = vo g a v b' d K' (nI (v 6)) (nI (v 7)) ∧ iR v K' | some v' => r = some (.int (bI true)) ∧ VS g a (vf_upd v' (136 + 15 * i + 3) size) h') := by
    intro hno
    have ef : fst1 v i = match tkb v i (io v i 3 / 4) with | none => none | some v1 => some (if 0 < io v i 3 % 4 then inc (lta v1 (io v i 4) true (io v i 3 % 4)) 7 else v1) := by
      unfold fst1
      by_cases c : 0 < io v i 3 % 4
      · simp only [if_pos c]
        unfold fil
        rw [if_neg (fun q => hno ⟨c, q⟩)]
        cases tkb v i (io v i 3 / 4) <;> rfl
      · simp only [if_neg c]
        cases tkb v i (io v i 3 / 4) <;> rfl
    rw [ef]
    cases q : tkb v i (io v i 3 / 4) with
    | none =>
      rw [q, tkb_n q] at kb
      dsimp only at kb
      refine at_k (nI 0) dX0_layBlocks_61 rfl (by decide) ?_
      refine at_st (i := 6) dX0_layBlocks_62 rfl rfl (Nat.le_of_ble_eq_true rfl) rfl ?_
      try dsimp only [List.set_cons_succ, List.set_cons_zero]
      refine at_ld (i := 6) dX0_layBlocks_64 rfl rfl rfl ?_
      refine at_zeq 97 dX0_layBlocks_66 (by decide) (fun _ => ?_) (fun c => absurd (rfl) c)
      refine at_ld (i := 0) dX0_layBlocks_97 rfl rfl rfl ?_
      refine at_ld (i := 1) dX0_layBlocks_98 rfl rfl rfl ?_
      refine at_ld (i := 5) dX0_layBlocks_99 rfl rfl rfl ?_
      refine at_wv [_, _] dX0_layBlocks_101 mX0_layBlock ⟨Nat.le_of_ble_eq_true rfl, Nat.le_of_ble_eq_true rfl⟩ lX0_130 iX0_layBlock rfl rfl (de_O hD) (by omega) rfl (Nat.le_of_ble_eq_true rfl) (Nat.le_of_ble_eq_true rfl) ⟨rfl, rfl⟩ (kb) ⟨rfl, rfl⟩ ?_
      try dsimp only [Option.toList, List.cons_append, List.nil_append]
      refine at_zne 109 dX0_layBlocks_104 (by decide) (fun c => absurd c (fun q => q rfl)) (fun _ => ?_)
      refine at_k (nI 0) dX0_layBlocks_107 rfl (by decide) ?_
      refine at_ret dX0_layBlocks_108 rfl rfl ?_
      exact ⟨rfl, b, _, rfl, iR_bl w hR (by omega) (by omega) _⟩
    | some v1 =>
      obtain ⟨x, qb, hL3, hc⟩ := LR_tkb w hL0 (by omega) (by omega) q
      rw [q, qb] at kb
      dsimp only at kb
      refine at_k (nI 0) dX0_layBlocks_61 rfl (by decide) ?_
      refine at_st (i := 6) dX0_layBlocks_62 rfl rfl (Nat.le_of_ble_eq_true rfl) rfl ?_
      try dsimp only [List.set_cons_succ, List.set_cons_zero]
      refine at_ld (i := 6) dX0_layBlocks_64 rfl rfl rfl ?_
      refine at_zeq 97 dX0_layBlocks_66 (by decide) (fun _ => ?_) (fun c => absurd (rfl) c)
      refine at_ld (i := 0) dX0_layBlocks_97 rfl rfl rfl ?_
      refine at_ld (i := 1) dX0_layBlocks_98 rfl rfl rfl ?_
      refine at_ld (i := 5) dX0_layBlocks_99 rfl rfl rfl ?_
      refine at_wv [_, _] dX0_layBlocks_101 mX0_layBlock ⟨Nat.le_of_ble_eq_true rfl, Nat.le_of_ble_eq_true rfl⟩ lX0_130 iX0_layBlock rfl rfl (de_O hD) (by omega) rfl (Nat.le_of_ble_eq_true rfl) (Nat.le_of_ble_eq_true rfl) ⟨rfl, rfl⟩ (kb) ⟨rfl, rfl⟩ ?_
      try dsimp only [Option.toList, List.cons_append, List.nil_append]
      refine at_zne 109 dX0_layBlocks_104 (by decide) (fun _ => ?_) (fun c => absurd (show ¬ bI true = 0 by decide) c)
      try dsimp only
      rcases Nat.eq_zero_or_pos (io v i 3 % 4) with t0 | t0
      · have etl2 : tlI v i = -4 := by rw [etl, if_pos t0]
        rw [etl2]
        have kp := k_putN (vo_F (g := g) (a := a) (L := v) (b := bput b (4 * x) 4 false) (d := d) (K := kBl K i (io v i 3 / 4) (nI x)) (e := nI (v 6)) (m := nI (v 7)) hg ha) (-4) (nI (io v i 3 % 4)) true (by decide)
        refine at_ld (i := 0) dX0_layBlocks_109 rfl rfl rfl ?_
        refine at_get dX0_layBlocks_110 fX0_26 (de_O hD) (by omega) rfl ?_
        refine at_ld (i := 4) dX0_layBlocks_113 rfl rfl rfl ?_
        refine at_ld (i := 3) dX0_layBlocks_115 rfl rfl rfl ?_
        refine at_k (nI 1) dX0_layBlocks_116 rfl (by decide) ?_
        refine at_wv [_, _, _] dX0_layBlocks_117 mX1_put ⟨Nat.le_of_ble_eq_true rfl, Nat.le_of_ble_eq_true rfl⟩ lX0_114 iX1_put rfl rfl (vo_F hg ha).1 (by omega) rfl (Nat.le_of_ble_eq_true rfl) (Nat.le_of_ble_eq_true rfl) ⟨rfl, rfl⟩ (kp) ⟨rfl, rfl⟩ ?_
        try dsimp only [Option.toList, List.cons_append, List.nil_append]
        refine at_ld (i := 5) dX0_layBlocks_120 rfl rfl rfl ?_
        refine at_k (nI 1) dX0_layBlocks_122 rfl (by decide) ?_
        refine at_bin dX0_layBlocks_123 rfl ?_
        try dsimp only
        rw [nI_add]
        refine at_st (i := 7) dX0_layBlocks_124 rfl rfl (Nat.le_of_ble_eq_true rfl) rfl ?_
        try dsimp only [List.set_cons_succ, List.set_cons_zero]
        rw [if_neg (by omega)]
        exact k_lbLoop hg ha hD w i size (io v i 3 % 4) false hi hth h40 (by omega) (fun q => by cases q) _ _ (size / 4 - (io v i 3 / 4 + 1)) (io v i 3 / 4 + 1) v1 _ _ (by omega) (by omega) hL3 (hc 6 (by decide)) (by rw [hc 7 (by decide), if_neg (fun q => by omega)]; rfl)
      · have etl2 : tlI v i = nI (io v i 4) := by rw [etl, if_neg (by omega)]
        rw [etl2]
        have kp := k_put (vo_F (g := g) (a := a) (L := v) (b := bput b (4 * x) 4 false) (d := d) (K := kBl K i (io v i 3 / 4) (nI x)) (e := nI (v 6)) (m := nI (v 7)) hg ha) (io v i 4) (io v i 3 % 4) true (by omega) (by omega)
        rw [vo_ub1] at kp
        refine at_ld (i := 0) dX0_layBlocks_109 rfl rfl rfl ?_
        refine at_get dX0_layBlocks_110 fX0_26 (de_O hD) (by omega) rfl ?_
        refine at_ld (i := 4) dX0_layBlocks_113 rfl rfl rfl ?_
        refine at_ld (i := 3) dX0_layBlocks_115 rfl rfl rfl ?_
        refine at_k (nI 1) dX0_layBlocks_116 rfl (by decide) ?_
        refine at_wv [_, _, _] dX0_layBlocks_117 mX1_put ⟨Nat.le_of_ble_eq_true rfl, Nat.le_of_ble_eq_true rfl⟩ lX0_114 iX1_put rfl rfl (vo_F hg ha).1 (by omega) rfl (Nat.le_of_ble_eq_true rfl) (Nat.le_of_ble_eq_true rfl) ⟨rfl, rfl⟩ (kp) ⟨rfl, rfl⟩ ?_
        try dsimp only [Option.toList, List.cons_append, List.nil_append]
        refine at_ld (i := 5) dX0_layBlocks_120 rfl rfl rfl ?_
        refine at_k (nI 1) dX0_layBlocks_122 rfl (by decide) ?_
        refine at_bin dX0_layBlocks_123 rfl ?_
        try dsimp only
        rw [nI_add]
        refine at_st (i := 7) dX0_layBlocks_124 rfl rfl (Nat.le_of_ble_eq_true rfl) rfl ?_
        try dsimp only [List.set_cons_succ, List.set_cons_zero]
        rw [if_pos t0]
        obtain ⟨lb1, lR, lK, lw, lwb, l6, lio⟩ := hL3
        have hio7 : ∀ j f, io (inc (lta v1 (io v i 4) true (io v i 3 % 4)) 7) j f = io v1 j f := fun j f => by rw [io_inc _ (Or.inr rfl), io_lta _ _ (by omega)]
        have hc7 : ∀ c, c < 7 → inc (lta v1 (io v i 4) true (io v i 3 % 4)) 7 c = v1 c := fun c hc2 => by rw [inc, vu_n _ _ _ _ (by omega), lta_out _ _ _ _ _ (by omega)]
        refine k_lbLoop hg ha hD w i size (io v i 3 % 4) false hi hth h40 (by omega) (fun q => by cases q) _ _ (size / 4 - (io v i 3 / 4 + 1)) (io v i 3 / 4 + 1) _ _ _ (by omega) (by omega) ⟨?_, lR, fun j hj => by rw [hio7]; exact lK j hj, wf_c (wf_lta lw true (by omega)) 7 _ (Or.inr rfl), wfb_i (i := i) lwb (hc7 0 (by decide)) (hc7 1 (by decide)) (fun j f _ _ => Or.inl (hio7 j f)), fun c hc2 => by rw [hc7 c (by omega), l6 c hc2], fun j f hf hj => by rw [hio7, lio j f hf hj]⟩ (by rw [hc7 6 (by decide), hc 6 (by decide)]; rfl) (by rw [inc, vu_s, lta_out _ _ _ _ _ (by omega), hc 7 (by decide), if_pos ⟨t0, rfl⟩])
        refine mbq_e (fun y hy => ?_) (mbq_put lb1 (x := io v i 4) (n := io v i 3 % 4) (by omega) (by omega) true)
        have e7 : fr (inc (lta v1 (io v i 4) true (io v i 3 % 4)) 7) y = fr (lta v1 (io v i 4) true (io v i 3 % 4)) y := by unfold fr inc; rw [vu_n _ _ _ _ (by omega)]
        rw [e7, fr_lta]
  refine at_ld (i := 0) dX0_layBlocks_0 rfl rfl rfl ?_
  refine at_get dX0_layBlocks_1 fX0_31 (de_O hD) (by omega) rfl ?_
  refine at_ld (i := 1) dX0_layBlocks_4 rfl rfl rfl ?_
  refine at_rv [_] dX0_layBlocks_5 mX2_tailLengthOf ⟨Nat.le_of_ble_eq_true rfl, Nat.le_of_ble_eq_true rfl⟩ lX0_105 iX2_tailLengthOf rfl rfl (vo_I hg ha).1 (by omega) rfl (Nat.le_of_ble_eq_true rfl) (Nat.le_of_ble_eq_true rfl) ⟨rfl, rfl⟩ (kl) ?_
  refine at_st (i := 3) dX0_layBlocks_8 rfl rfl (Nat.le_of_ble_eq_true rfl) rfl ?_
  try dsimp only [List.set_cons_succ, List.set_cons_zero]
  refine at_ld (i := 0) dX0_layBlocks_9 rfl rfl rfl ?_
  refine at_get dX0_layBlocks_10 fX0_31 (de_O hD) (by omega) rfl ?_
  refine at_ld (i := 1) dX0_layBlocks_13 rfl rfl rfl ?_
  refine at_rv [_] dX0_layBlocks_14 mX2_tailOf ⟨Nat.le_of_ble_eq_true rfl, Nat.le_of_ble_eq_true rfl⟩ lX0_108 iX2_tailOf rfl rfl (vo_I hg ha).1 (by omega) rfl (Nat.le_of_ble_eq_true rfl) (Nat.le_of_ble_eq_true rfl) ⟨rfl, rfl⟩ (kt) ?_
  refine at_st (i := 4) dX0_layBlocks_17 rfl rfl (Nat.le_of_ble_eq_true rfl) rfl ?_
  try dsimp only [List.set_cons_succ, List.set_cons_zero]
  refine at_ld (i := 0) dX0_layBlocks_19 rfl rfl rfl ?_
  refine at_get dX0_layBlocks_20 fX0_31 (de_O hD) (by omega) rfl ?_
  refine at_ld (i := 1) dX0_layBlocks_23 rfl rfl rfl ?_
  refine at_rv [_] dX0_layBlocks_24 mX2_blocksOf ⟨Nat.le_of_ble_eq_true rfl, Nat.le_of_ble_eq_true rfl⟩ lX0_95 iX2_blocksOf rfl rfl (vo_I hg ha).1 (by omega) rfl (Nat.le_of_ble_eq_true rfl) (Nat.le_of_ble_eq_true rfl) ⟨rfl, rfl⟩ (kbo) ?_
  refine at_st (i := 5) dX0_layBlocks_27 rfl rfl (Nat.le_of_ble_eq_true rfl) rfl ?_
  try dsimp only [List.set_cons_succ, List.set_cons_zero]
  rcases Nat.eq_zero_or_pos (io v i 3 % 4) with t0 | t0
  · refine at_ld (i := 3) dX0_layBlocks_29 rfl rfl rfl ?_
    refine at_zle 61 dX0_layBlocks_30 (by decide) (fun _ => ?_) (fun c => absurd ((by rw [t0]; decide)) c)
    exact lb (fun q => by omega)
  · refine at_ld (i := 3) dX0_layBlocks_29 rfl rfl rfl ?_
    refine at_zle 61 dX0_layBlocks_30 (by decide) (fun c => absurd c (nI_nle t0 (by omega))) (fun _ => ?_)
    have e2 : tlI v i = nI (io v i 4) := by rw [etl, if_neg (by omega)]
    rw [e2]
    rw [e2] at lb
    refine at_ld (i := 4) dX0_layBlocks_33 rfl rfl rfl ?_
    refine at_k (nI 4) dX0_layBlocks_35 rfl (by decide) ?_
    refine at_rem dX0_layBlocks_36 (by decide) ?_
    try dsimp only
    rw [nI_rem (by omega) (by decide)]
    refine at_zne 61 dX0_layBlocks_37 (by decide) (fun c => ?_) (fun c => ?_)
    · exact lb (fun q => c (by rw [q.2.1]; rfl))
    · have c1 : io v i 4 % 4 = 0 := (nI_eq32 (b := 0) (by omega) (by decide)).mp (Classical.not_not.mp c)
      have ka := k_areFree (vo_F (g := g) (a := a) (L := v) (b := b) (d := d) (K := K) (e := nI (v 6)) (m := nI (v 7)) hg ha) hb (io v i 4 + io v i 3 % 4) (4 - io v i 3 % 4) (by omega) (by omega)
      rw [decide_eq_true (show (io v i 4 + io v i 3 % 4) % 4 + (4 - io v i 3 % 4) ≤ 4 by omega), Bool.true_and] at ka
      refine at_ld (i := 0) dX0_layBlocks_40 rfl rfl rfl ?_
      refine at_get dX0_layBlocks_41 fX0_26 (de_O hD) (by omega) rfl ?_
      refine at_ld (i := 4) dX0_layBlocks_44 rfl rfl rfl ?_
      refine at_ld (i := 3) dX0_layBlocks_46 rfl rfl rfl ?_
      refine at_bin dX0_layBlocks_47 rfl ?_
      try dsimp only
      rw [nI_add]
      refine at_k (nI 4) dX0_layBlocks_48 rfl (by decide) ?_
      refine at_ld (i := 3) dX0_layBlocks_49 rfl rfl rfl ?_
      refine at_bin dX0_layBlocks_50 rfl ?_
      try dsimp only
      rw [nI_sub (by omega)]
      refine at_rv [_, _] dX0_layBlocks_51 mX1_areFree ⟨Nat.le_of_ble_eq_true rfl, Nat.le_of_ble_eq_true rfl⟩ lX0_111 iX1_areFree rfl rfl (vo_F hg ha).1 (by omega) rfl (Nat.le_of_ble_eq_true rfl) (Nat.le_of_ble_eq_true rfl) ⟨rfl, rfl⟩ (ka) ?_
      refine at_zeq 61 dX0_layBlocks_54 (by decide) (fun c2 => ?_) (fun c2 => ?_)
      · rw [bI_0] at c2
        exact lb (fun q => by rw [q.2.2] at c2; cases c2)
      · have c3 := bI_1 c2
        have ef : fst1 v i = some (inc (vf_upd (lta v (io v i 4) false 4) (136 + 15 * i + (5 + io v i 3 / 4)) (io v i 4 / 4)) 6) := by
          unfold fst1
          rw [if_pos t0]
          unfold fil
          rw [if_pos ⟨c1, c3⟩]
        rw [ef]
        dsimp only
        have kp := k_put (vo_F (g := g) (a := a) (L := v) (b := b) (d := d) (K := K) (e := nI (v 6)) (m := nI (v 7)) hg ha) (io v i 4) 4 false (by omega) (by omega)
        rw [vo_ub1] at kp
        refine at_k (nI 1) dX0_layBlocks_57 rfl (by decide) ?_
        refine at_goto 62 dX0_layBlocks_58 (by decide) ?_
        refine at_st (i := 6) dX0_layBlocks_62 rfl rfl (Nat.le_of_ble_eq_true rfl) rfl ?_
        try dsimp only [List.set_cons_succ, List.set_cons_zero]
        refine at_ld (i := 6) dX0_layBlocks_64 rfl rfl rfl ?_
        refine at_zeq 97 dX0_layBlocks_66 (by decide) (fun c => absurd c ((by decide))) (fun _ => ?_)
        refine at_ld (i := 0) dX0_layBlocks_69 rfl rfl rfl ?_
        refine at_get dX0_layBlocks_70 fX0_26 (de_O hD) (by omega) rfl ?_
        refine at_ld (i := 4) dX0_layBlocks_73 rfl rfl rfl ?_
        refine at_k (nI 4) dX0_layBlocks_75 rfl (by decide) ?_
        refine at_k (nI 0) dX0_layBlocks_76 rfl (by decide) ?_
        refine at_wv [_, _, _] dX0_layBlocks_77 mX1_put ⟨Nat.le_of_ble_eq_true rfl, Nat.le_of_ble_eq_true rfl⟩ lX0_114 iX1_put rfl rfl (vo_F hg ha).1 (by omega) rfl (Nat.le_of_ble_eq_true rfl) (Nat.le_of_ble_eq_true rfl) ⟨rfl, rfl⟩ (kp) ⟨rfl, rfl⟩ ?_
        try dsimp only [Option.toList, List.cons_append, List.nil_append]
        refine at_ld (i := 0) dX0_layBlocks_80 rfl rfl rfl ?_
        refine at_get dX0_layBlocks_81 fX0_31 (de_O hD) (by omega) rfl ?_
        refine at_ld (i := 1) dX0_layBlocks_84 rfl rfl rfl ?_
        refine at_ld (i := 5) dX0_layBlocks_85 rfl rfl rfl ?_
        refine at_ld (i := 4) dX0_layBlocks_87 rfl rfl rfl ?_
        refine at_k (nI 4) dX0_layBlocks_89 rfl (by decide) ?_
        refine at_div dX0_layBlocks_90 (by decide) ?_
        try dsimp only
        rw [nI_div (by omega) (by decide)]
        refine at_wv [_, _, _] dX0_layBlocks_91 mX2_setBlock ⟨Nat.le_of_ble_eq_true rfl, Nat.le_of_ble_eq_true rfl⟩ lX0_127 iX2_setBlock rfl rfl (vo_I hg ha).1 (by omega) rfl (Nat.le_of_ble_eq_true rfl) (Nat.le_of_ble_eq_true rfl) ⟨rfl, rfl⟩ (k_setBlock hg ha i (io v i 3 / 4) (by omega) (by omega) (nI (io v i 4 / 4))) ⟨rfl, rfl⟩ ?_
        try dsimp only [Option.toList, List.cons_append, List.nil_append]
        refine at_goto 120 dX0_layBlocks_94 (by decide) ?_
        refine at_ld (i := 5) dX0_layBlocks_120 rfl rfl rfl ?_
        refine at_k (nI 1) dX0_layBlocks_122 rfl (by decide) ?_
        refine at_bin dX0_layBlocks_123 rfl ?_
        try dsimp only
        rw [nI_add]
        refine at_st (i := 7) dX0_layBlocks_124 rfl rfl (Nat.le_of_ble_eq_true rfl) rfl ?_
        try dsimp only [List.set_cons_succ, List.set_cons_zero]
        have hio6 : ∀ j f, f < 15 → io (inc (vf_upd (lta v (io v i 4) false 4) (136 + 15 * i + (5 + io v i 3 / 4)) (io v i 4 / 4)) 6) j f = if j = i ∧ f = 5 + io v i 3 / 4 then io v i 4 / 4 else io v j f := fun j f hf => by rw [io_inc _ (Or.inl rfl), io_u _ (by omega) hf, io_lta _ _ (by omega)]
        have hc6 : ∀ c, c < 8 → c ≠ 6 → inc (vf_upd (lta v (io v i 4) false 4) (136 + 15 * i + (5 + io v i 3 / 4)) (io v i 4 / 4)) 6 c = v c := fun c hc2 hc3 => by rw [inc, vu_n _ _ _ _ hc3, vu_n _ _ _ _ (by omega), lta_out _ _ _ _ _ (by omega)]
        have hwB := (wB i (by omega)).1
        refine k_lbLoop hg ha hD w i size (io v i 3 % 4) true hi hth h40 (by omega) (fun _ => t0) _ _ (size / 4 - (io v i 3 / 4 + 1)) (io v i 3 / 4 + 1) _ _ _ (by omega) (by omega) ⟨?_, iR_bl w hR (by omega) (by omega) _, ?_, wf_c (wf_set (wf_lta w false (by omega)) (by omega) (fun q => by omega) (fun q => by omega) (fun q => by omega) (fun q => by omega)) 6 _ (Or.inl rfl), wfb_i (i := i) wB (hc6 0 (by decide) (by decide)) (hc6 1 (by decide) (by decide)) (fun j f _ hf => ?_), fun c hc2 => hc6 c (by omega) (by omega), fun j f hf hj => by rw [hio6 j f hf, if_neg (by omega)]⟩ (by rw [inc, vu_s, vu_n _ _ _ _ (by omega), lta_out _ _ _ _ _ (by omega)]; rfl) (by rw [hc6 7 (by decide) (by decide), if_neg (fun q => by cases q.2)]; rfl)
        · refine mbq_e (fun y hy => ?_) (mbq_put hb (x := io v i 4) (n := 4) (by omega) (by omega) false)
          have e7 : fr (inc (vf_upd (lta v (io v i 4) false 4) (136 + 15 * i + (5 + io v i 3 / 4)) (io v i 4 / 4)) 6) y = fr (vf_upd (lta v (io v i 4) false 4) (136 + 15 * i + (5 + io v i 3 / 4)) (io v i 4 / 4)) y := by unfold fr inc; rw [vu_n _ _ _ _ (by omega)]
          rw [e7, fr_io _ hy, fr_lta]
        · intro j hj
          rw [kBl_at, hio6 i (5 + j) (by omega)]
          by_cases e : j = io v i 3 / 4
          · rw [if_pos ⟨rfl, by omega⟩, if_pos ⟨rfl, by omega⟩]
          · rw [if_neg (by omega), if_neg (by omega)]
            exact hbl j (by omega)
        · rw [hio6 j f hf]
          split
          · exact Or.inr (Or.inr ⟨by omega, by omega⟩)
          · exact Or.inl rfl
end C14
