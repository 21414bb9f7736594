/-! THE CLASS: what always holds; deeds: make -/
def wfz (v : Nat → Nat) : Prop := ∀ i, v 0 * v 2 ≤ i → i < 24 → io v i 0 = 0
def wfb (v : Nat → Nat) : Prop := ∀ i, i < 24 → io v i 4 < 4 * (v 0 * v 1) ∧ ∀ k, k < 10 → io v i (5 + k) < v 0 * v 1
def inv (v : Nat → Nat) : Prop := ivr v ∧ wfd v ∧ wfo v ∧ wfz v ∧ wfb v ∧ io v 0 0 = 1
theorem rl_ge (v : Nat → Nat) (x e : Nat) : ∀ f n, n ≤ rl v x e f n := by
  intro f
  induction f with
  | zero => intro n; exact Nat.le_refl _
  | succ f ih =>
    intro n
    simp only [rl]
    split
    · have := ih (n + 1); omega
    · omega
theorem rl_fr (v : Nat → Nat) (x e : Nat) : ∀ f n j, n ≤ j → j < rl v x e f n → fr v (x + j) = true := by
  intro f
  induction f with
  | zero => intro n j h1 h2; simp only [rl] at h2; omega
  | succ f ih =>
    intro n j h1 h2
    simp only [rl] at h2
    split at h2
    · next q =>
      rcases Nat.lt_or_ge n j with z | z
      · exact ih (n + 1) j z h2
      · have : j = n := by omega
        rw [this]; exact q.2
    · omega
theorem run_st {v : Nat → Nat} : ∀ x, fr v x = true → ∃ y, y / 4 = x / 4 ∧ fr v y = true ∧ ¬ (y / 4 * 4 < y ∧ fr v (y - 1) = true) := by
  intro x
  induction x with
  | zero => intro h; exact ⟨0, rfl, h, fun q => by omega⟩
  | succ x ih =>
    intro h
    by_cases c : (x + 1) / 4 * 4 < x + 1 ∧ fr v (x + 1 - 1) = true
    · obtain ⟨y, h1, h2, h3⟩ := ih c.2
      exact ⟨y, by omega, h2, h3⟩
    · exact ⟨x + 1, rfl, h, c⟩
theorem rn_ex {v : Nat → Nat} {x : Nat} (h : fr v x = true) (hb : fbk v (x / 4) = false) : ∃ y, y / 4 = x / 4 ∧ 1 ≤ rn v y ∧ rn v y < 4 := by
  obtain ⟨y, h1, h2, h3⟩ := run_st x h
  have e : rn v y = rl v y (y / 4 * 4 + 4) 3 1 := by
    unfold rn
    rw [if_neg]
    rintro (q | q | q)
    · rw [h2] at q; cases q
    · exact h3 q
    · rw [h1, hb] at q; cases q
  refine ⟨y, h1, by rw [e]; exact rl_ge _ _ _ _ _, ?_⟩
  rcases Nat.lt_or_ge (rn v y) 4 with z | z
  · exact z
  · exfalso
    have h4 : y + rl v y (y / 4 * 4 + 4) 3 1 ≤ y / 4 * 4 + 4 := rl_end v y _ 3 1 (by omega)
    rw [← e] at h4
    have : fbk v (x / 4) = true := by
      refine allB_t 4 (fun k hk => ?_)
      show fr v (4 * (x / 4) + k) = true
      rw [show 4 * (x / 4) + k = y + k by omega]
      rcases Nat.eq_zero_or_pos k with q | q
      · rw [q]; exact h2
      · exact rl_fr v y (y / 4 * 4 + 4) 3 1 k q (by rw [← e]; omega)
    rw [hb] at this; cases this
theorem rin_ex {v : Nat → Nat} {g x : Nat} (h1 : 4 * v 1 * g ≤ x) (h2 : x < 4 * v 1 * g + 4 * v 1) (h : fr v x = true) : ∃ z, rin v g 1 = some z := by
  have e4 : 4 * v 1 * g = 4 * (v 1 * g) := Nat.mul_assoc _ _ _
  unfold rin
  cases q : srch (fun l => srch (fun k => if rn v (4 * v 1 * g + k) = l then some (4 * v 1 * g + k) else none) 0 (4 * v 1)) 1 (4 - 1) with
  | some z => exact ⟨z, rfl⟩
  | none =>
    dsimp only
    cases hb : fbk v (x / 4) with
    | true =>
      refine sr_ex (v 1) 0 (x / 4 - v 1 * g) (by omega) (by omega) ?_
      rw [show v 1 * g + (x / 4 - v 1 * g) = x / 4 by omega, if_pos hb]
      rfl
    | false =>
      exfalso
      obtain ⟨y, h3, h4, h5⟩ := rn_ex h hb
      have q1 := srch_no _ _ q (rn v y) (by omega) (by omega)
      have q2 := srch_no _ _ q1 (y - 4 * v 1 * g) (by omega) (by omega)
      rw [show 4 * v 1 * g + (y - 4 * v 1 * g) = y by omega, if_pos rfl] at q2
      cases q2
theorem rnr_ex {v : Nat → Nat} (w : wfg v) {g : Nat} (hg : g < v 0) (h : 1 ≤ room v) : ∃ z, rnr v g 1 = some z := by
  obtain ⟨x, hx, hf⟩ := cnt_ex _ h
  have hf2 : fr v x = true := by rw [Nat.zero_add] at hf; exact hf
  have h0 := w.1
  have h1 := w.2.1
  have hq : x / (4 * v 1) < v 0 := Nat.div_lt_of_lt_mul (by rw [show 4 * v 1 * v 0 = 4 * v 0 * v 1 by rw [Nat.mul_assoc, Nat.mul_assoc, Nat.mul_comm (v 1)]]; exact hx)
  have ha : 4 * v 1 * (x / (4 * v 1)) ≤ x := Nat.mul_div_le _ _
  have hb : x < 4 * v 1 * (x / (4 * v 1)) + 4 * v 1 := Nat.lt_mul_div_succ x (by omega)
  obtain ⟨z, hz⟩ := rin_ex ha hb hf2
  generalize x / (4 * v 1) = k at hq hz
  obtain ⟨i, hi, he⟩ : ∃ i, i < v 0 ∧ bh v g i = k := by
    unfold bh
    rcases Nat.lt_or_ge k g with c | c
    · refine ⟨k + v 0 - g, by omega, ?_⟩
      rw [show g + (k + v 0 - g) = k + v 0 by omega, Nat.add_mod_right, Nat.mod_eq_of_lt hq]
    · refine ⟨k - g, by omega, ?_⟩
      rw [show g + (k - g) = k by omega, Nat.mod_eq_of_lt hq]
  refine sr_ex (v 0) 0 i (by omega) (by omega) ?_
  rw [he, hz]
  rfl
theorem fr_io (v : Nat → Nat) {i f y x : Nat} (hx : x < 128) : fr (vf_upd v (136 + 15 * i + f) y) x = fr v x := by
  unfold fr
  rw [vu_n _ _ _ _ (by omega)]
theorem fr_lta (v : Nat → Nat) (x n : Nat) (f : Bool) (y : Nat) : fr (lta v x f n) y = setq (fr v) x n f y := by
  unfold fr setq
  by_cases h : x ≤ y ∧ y < x + n
  · rw [if_pos h, lta_in v x f (8 + y) n (by omega) (by omega)]
    cases f <;> rfl
  · rw [if_neg h, lta_out v x f (8 + y) n (by omega)]
theorem fr_mk0 (v : Nat → Nat) {i d nm kind at_ y : Nat} (hy : y < 128) : fr (mk0 v i d nm kind at_) y = fr v y := by
  unfold mk0
  rw [fr_io _ hy, fr_io _ hy, fr_io _ hy, fr_io _ hy, fr_io _ hy]
theorem fr_mk1 (v : Nat → Nat) {i d nm at_ y : Nat} (hy : y < 128) : fr (mkv v i d nm 1 at_) y = setq (fr v) at_ 1 false y := by
  unfold mkv
  rw [if_pos rfl]
  by_cases e : y = at_
  · subst e
    unfold setq
    rw [if_pos (by omega)]
    unfold fr
    rw [vu_s]
    rfl
  · unfold setq
    rw [if_neg (by omega), ← fr_mk0 v (i := i) (d := d) (nm := nm) (kind := 1) (at_ := at_) hy]
    unfold fr
    rw [vu_n _ _ _ _ (by omega)]
theorem fr_mk2 (v : Nat → Nat) {i d nm at_ y : Nat} (hy : y < 128) : fr (mkv v i d nm 2 at_) y = fr v y := by
  unfold mkv
  rw [if_neg (by decide)]
  exact fr_mk0 v hy
/-- the relation at one inode -/
def iR1 (v : Nat → Nat) (K : Nat → Nat → Int32) (i : Nat) : Prop := K 0 i = nI (io v i 0) ∧ K 3 i = nI (sz v i) ∧ K 4 i = tlI v i ∧ (io v i 0 ≠ 0 → K 1 i = nI (io v i 1) ∧ K 2 i = nI (io v i 2)) ∧ ∀ k, k < sz v i / 4 → K 5 (i * 10 + k) = nI (io v i (5 + k))
theorem iR1_e {v v' : Nat → Nat} {K K' : Nat → Nat → Int32} {j : Nat} (w : wf v) (hj : j < 24) (h : iR1 v K j) (h1 : ∀ f, f < 15 → io v' j f = io v j f) (h2 : ∀ f, f < 5 → K' f j = K f j) (h3 : ∀ k, k < 10 → K' 5 (j * 10 + k) = K 5 (j * 10 + k)) : iR1 v' K' j := by
  have es : sz v' j = sz v j := by unfold sz; rw [h1 0 (by decide), h1 3 (by decide)]
  have et : tlI v' j = tlI v j := by unfold tlI; rw [es, h1 4 (by decide)]
  have h40 := sz_le w hj
  obtain ⟨q0, q1, q2, q3, q4⟩ := h
  refine ⟨by rw [h2 0 (by decide), h1 0 (by decide)]; exact q0, by rw [h2 3 (by decide), es]; exact q1, by rw [h2 4 (by decide), et]; exact q2, fun q => ?_, fun k hk => ?_⟩
  · rw [h1 0 (by decide)] at q
    rw [h2 1 (by decide), h2 2 (by decide), h1 1 (by decide), h1 2 (by decide)]
    exact q3 q
  · rw [es] at hk
    rw [h3 k (by omega), h1 (5 + k) (by omega)]
    exact q4 k hk
theorem iR_mkv {v : Nat → Nat} {K : Nat → Nat → Int32} {i d nm kind at_ : Nat} (w : wf v) (hR : iR v K) (hkd : kind = 1 ∨ kind = 2) (hat : at_ < 128) : iR (mkv v i d nm kind at_) (kSz (kBe K i (nI kind) (nI d) (nI nm)) i (nI (if kind = 1 then 1 else 0)) (if kind = 1 then nI at_ else -4)) := by
  intro j hj
  have hio := fun f (hf : f < 15) => io_mkv v i d nm kind at_ j f hf hat
  by_cases e : j = i
  · subst e
    have e0 : io (mkv v j d nm kind at_) j 0 = kind := by rw [hio 0 (by decide), if_pos rfl, if_pos rfl]
    have e1 : io (mkv v j d nm kind at_) j 1 = d := by rw [hio 1 (by decide), if_pos rfl]; rfl
    have e2 : io (mkv v j d nm kind at_) j 2 = nm := by rw [hio 2 (by decide), if_pos rfl]; rfl
    have e3 : io (mkv v j d nm kind at_) j 3 = if kind = 1 then 1 else 0 := by rw [hio 3 (by decide), if_pos rfl]; rfl
    have e4 : io (mkv v j d nm kind at_) j 4 = at_ := by rw [hio 4 (by decide), if_pos rfl]; rfl
    have es : sz (mkv v j d nm kind at_) j = if kind = 1 then 1 else 0 := by unfold sz; rw [e0, if_neg (by omega), e3]
    refine ⟨?_, ?_, ?_, fun _ => ⟨?_, ?_⟩, ?_⟩
    · rw [e0, kSz_at, if_neg (by omega), if_neg (by omega), kBe_at, if_pos ⟨by decide, rfl⟩, if_pos rfl]
    · rw [es, kSz_at, if_pos ⟨rfl, rfl⟩]
    · rw [kSz_at, if_neg (by omega), if_pos ⟨rfl, rfl⟩]
      unfold tlI
      rw [es, e4]
      rcases hkd with rfl | rfl <;> rfl
    · rw [e1, kSz_at, if_neg (by omega), if_neg (by omega), kBe_at, if_pos ⟨by decide, rfl⟩]; rfl
    · rw [e2, kSz_at, if_neg (by omega), if_neg (by omega), kBe_at, if_pos ⟨by decide, rfl⟩]; rfl
    · intro k hk
      rw [es] at hk
      split at hk <;> omega
  · refine iR1_e w hj (hR j hj) (fun f hf => by rw [hio f hf, if_neg e]) (fun f hf => ?_) (fun k hk => ?_)
    · rw [kSz_at, if_neg (by omega), if_neg (by omega), kBe_at, if_neg (by omega)]
    · rw [kSz_at, if_neg (by omega), if_neg (by omega), kBe_at, if_neg (by omega)]
/-- what an inode is, by any number -/
def kdX (v : Nat → Nat) (x : Int32) : Nat := if isI v x = true then io v x.toNatClampNeg 0 else 0
theorem isDir_k (v : Nat → Nat) (x : Int32) : isDir v x = decide (kdX v x = 1) := by
  unfold isDir kdX
  cases isI v x <;> simp
theorem isFil_k (v : Nat → Nat) (x : Int32) : isFil v x = decide (kdX v x = 2) := by
  unfold isFil kdX
  cases isI v x <;> simp
theorem there_k (v : Nat → Nat) (x : Int32) : there v x = decide (kdX v x ≠ 0) := by
  unfold there kdX
  cases isI v x <;> simp
theorem kdX_le {v : Nat → Nat} (w : wf v) (x : Int32) : kdX v x ≤ 2 := by
  unfold kdX
  split
  · next q =>
    obtain ⟨k, hk, rfl⟩ := isI_of w.1 q
    have := wf_gi w.1
    rw [nI_clamp (by omega)]
    exact wf_k w k (by omega)
  · omega
theorem k_kindX {g : sg_H} {p l : Nat} {v : Nat → Nat} {K : Nat → Nat → Int32} (hI : IN g p l v K) (hR : iR v K) (w : wfg v) (wz : wfz v) (x : Int32) : sg_Kr MX2_kindOf [.ref p, .int x] g (.int (nI (kdX v x))) := by
  have hgi := wf_gi w
  by_cases hx : inR x 0 23 = true
  · obtain ⟨k, -, h2, rfl⟩ := inR_of (by decide) hx
    have kk := k_kindOf hI hR k (by omega)
    have e : kdX v (nI k) = io v k 0 := by
      unfold kdX
      rw [isI_nI w (by omega), nI_clamp (by omega)]
      by_cases q : k < v 0 * v 2
      · rw [decide_eq_true q, if_pos rfl]
      · rw [decide_eq_false q, if_neg (by decide)]
        exact (wz k (by omega) (by omega)).symm
    rw [e]
    exact kk
  · have e : kdX v x = 0 := by
      unfold kdX
      rw [if_neg]
      intro q
      obtain ⟨k, hk, rfl⟩ := isI_of w q
      apply hx
      rw [inR_nI (by omega)]
      exact decide_eq_true ⟨by omega, by omega⟩
    rw [e]
    refine k_kindOut hI x ?_
    have h := inR_no hx
    rw [Int32.lt_iff_toInt_lt, Int32.le_iff_toInt_le, nI_toInt (by decide)]
    rcases h with h | h
    · exact Or.inl h
    · exact Or.inr (by omega)
set_option maxRecDepth 100000 in
theorem k_isName (g : sg_H) (x : Int32) : sg_Kr MX7_isName [.int x] g (.int (bI (inR x 0 9))) := by
  show sg_A MX7_isName 0 [some (.int x)] [] _ _
  refine at_ld (i := 0) dX7_isName_0 rfl rfl rfl ?_
  have no : ¬ inR x 0 9 = true → sg_A MX7_isName 14 [some (.int x)] [] g (fun r h' => r = some (.int (bI (inR x 0 9))) ∧ h' = g) := by
    intro q
    refine at_k (nI 0) dX7_isName_14 rfl (by decide) ?_
    refine at_ret dX7_isName_15 rfl rfl ?_
    rw [Bool.eq_false_iff.mpr q]
    exact ⟨rfl, rfl⟩
  refine at_zlt 14 dX7_isName_1 (by decide) (fun c => ?_) (fun c => ?_)
  · refine no (fun q => ?_)
    obtain ⟨k, -, h2, rfl⟩ := inR_of (by decide) q
    exact nI_pos (by omega) c
  · obtain ⟨k, hk, rfl⟩ := nI_of c
    refine at_ld (i := 0) dX7_isName_4 rfl rfl rfl ?_
    refine at_k (nI 10) dX7_isName_5 rfl (by decide) ?_
    refine at_ige 14 dX7_isName_7 (by decide) (fun c1 => ?_) (fun c1 => ?_)
    · refine no (fun q => ?_)
      have := (nI_leI (by decide) hk).mp c1
      rw [inR_nI hk] at q
      have := of_decide_eq_true q
      omega
    · refine at_k (nI 1) dX7_isName_10 rfl (by decide) ?_
      refine at_goto 15 dX7_isName_11 (by decide) ?_
      refine at_ret dX7_isName_15 rfl rfl ?_
      have : ¬ 10 ≤ k := fun q => c1 (nI_le q hk)
      rw [inR_nI hk, decide_eq_true (show 0 ≤ k ∧ k ≤ 9 by omega)]
      exact ⟨rfl, rfl⟩
/-- what changes a volume: at D, for the volume at a -/
def DE (g : sg_H) (a D : Nat) : Prop := sg_at g D (.inr (0, [.ref a, .ref (a + 1), .ref (a + 2), .ref (a + 6), .ref (D + 1)])) ∧ sg_at g (D + 1) (.inr (1, [.ref (a + 1), .ref (D + 1 + 1)])) ∧ (∃ y, sg_at g (D + 1 + 1) (.inl (false, 32, y))) ∧ D < 800 ∧ (D + 3 ≤ a ∨ a + 13 ≤ D)
theorem de_O {g : sg_H} {a D : Nat} {L : Nat → Nat} {b d : Nat → Int32} {K : Nat → Nat → Int32} {e m : Int32} (h : DE g a D) : sg_at (vo g a L b d K e m) D (.inr (0, [.ref a, .ref (a + 1), .ref (a + 2), .ref (a + 6), .ref (D + 1)])) := vo_O (by have := h.2.2.2.2; omega) h.1
/-- a volume at a whose state is v -/
def VS (g : sg_H) (a : Nat) (v : Nat → Nat) (h' : sg_H) : Prop := ∃ b d K, h' = vo g a v b d K (nI (v 6)) (nI (v 7)) ∧ mbq (fr v) b ∧ iR v K
theorem VS_of {g : sg_H} {a : Nat} {v v' : Nat → Nat} {b d : Nat → Int32} {K : Nat → Nat → Int32} {e m : Int32} (h6 : ∀ c, c < 6 → v' c = v c) (he : e = nI (v' 6)) (hm : m = nI (v' 7)) (hb : mbq (fr v') b) (hR : iR v' K) : VS g a v' (vo g a v b d K e m) := by
  subst he
  subst hm
  exact ⟨b, d, K, vo_L v' h6, hb, hR⟩
theorem mkv_c (v : Nat → Nat) {i d nm kind at_ c : Nat} (hc : c < 8) : mkv v i d nm kind at_ c = v c := by
  have h : mk0 v i d nm kind at_ c = v c := by
    unfold mk0
    rw [vu_n _ _ _ _ (by omega), vu_n _ _ _ _ (by omega), vu_n _ _ _ _ (by omega), vu_n _ _ _ _ (by omega), vu_n _ _ _ _ (by omega)]
  unfold mkv
  split
  · rw [vu_n _ _ _ _ (by omega), h]
  · exact h
section C12
variable {g : sg_H} {a D : Nat} {v : Nat → Nat} {b d : Nat → Int32} {K : Nat → Nat → Int32} {e m : Int32}
theorem room_le (w : wfg v) : room v ≤ 128 := by
  have := wf_gb w
  have h : room v ≤ 4 * v 0 * v 1 := cnt_le _ _
  rw [fragI] at h
  omega
set_option maxRecDepth 100000 in
theorem k_lacks (hg : a + 13 ≤ g.1) (ha : a < 800) (hD : DE g a D) (hb : mbq (fr v) b) (w : wfg v) (n : Nat) (hn : n ≤ 40) : sg_Kr MX0_lacksRoomFor [.ref D, .int (nI n)] (vo g a v b d K e m) (.int (bI (decide (room v < v 4 + n)))) := by
  have hD8 := hD.2.2.2.1
  have hr := room_le w
  have h4 := w.2.2.2.2.1
  show sg_A MX0_lacksRoomFor 0 [some (.ref D), some (.int (nI n))] [] _ _
  refine at_ld (i := 0) dX0_lacksRoomFor_0 rfl rfl rfl ?_
  refine at_get dX0_lacksRoomFor_1 fX0_26 (de_O hD) (by omega) rfl ?_
  refine at_rv [] dX0_lacksRoomFor_4 mX1_freeFragments ⟨Nat.le_of_ble_eq_true rfl, Nat.le_of_ble_eq_true rfl⟩ lX0_78 iX1_freeFragments rfl rfl (vo_F hg ha).1 (by omega) rfl (Nat.le_of_ble_eq_true rfl) (Nat.le_of_ble_eq_true rfl) ⟨rfl, rfl⟩ (k_freeFragments (vo_F hg ha) hb w) ?_
  refine at_ld (i := 1) dX0_lacksRoomFor_7 rfl rfl rfl ?_
  refine at_bin dX0_lacksRoomFor_8 rfl ?_
  refine at_ld (i := 0) dX0_lacksRoomFor_9 rfl rfl rfl ?_
  refine at_get dX0_lacksRoomFor_10 fX0_21 (de_O hD) (by omega) rfl ?_
  refine at_get dX0_lacksRoomFor_13 fX0_82 (vo_Y hg) (by omega) rfl ?_
  refine at_ige 23 dX0_lacksRoomFor_16 (by decide) (fun c => ?_) (fun c => ?_)
  · have c1 := (nI_subge (by omega) (by omega) (by omega)).mp c
    refine at_k (nI 0) dX0_lacksRoomFor_23 rfl (by decide) ?_
    refine at_ret dX0_lacksRoomFor_24 rfl rfl ?_
    exact ri (bI_f (by omega))
  · have c1 : ¬ v 4 + n ≤ room v := fun q => c ((nI_subge (by omega) (by omega) (by omega)).mpr q)
    refine at_k (nI 1) dX0_lacksRoomFor_19 rfl (by decide) ?_
    refine at_goto 24 dX0_lacksRoomFor_20 (by decide) ?_
    refine at_ret dX0_lacksRoomFor_24 rfl rfl ?_
    exact ri (bI_t (by omega))
set_option maxRecDepth 100000 in
theorem k_makeInode (hg : a + 13 ≤ g.1) (ha : a < 800) (hD : DE g a D) (hb : mbq (fr v) b) (hR : iR v K) (iv : inv v) (x y z : Int32) : sg_K MX0_makeInode [.ref D, .int x, .int y, .int z] (vo g a v b d K (nI (v 6)) (nI (v 7))) (fun r h' => r = some (.int (s_make v x y z).1) ∧ VS g a (s_make v x y z).2 h') := by
  have w := iv.1.1
  have hgi := wf_gi w.1
  have hD8 := hD.2.2.2.1
  generalize hS : s_make v x y z = S
  show sg_A MX0_makeInode 0 [some (.ref D), some (.int x), some (.int y), some (.int z), none, none, none] [] _ _
  have bad : ¬ (isDir v x = true ∧ inR y 0 9 = true ∧ inR z 1 2 = true) → sg_A MX0_makeInode 29 [some (.ref D), some (.int x), some (.int y), some (.int z), none, none, none] [] (vo g a v b d K (nI (v 6)) (nI (v 7))) (fun r h' => r = some (.int S.1) ∧ VS g a S.2 h') := by
    intro q
    refine at_k (-1) dX0_makeInode_29 rfl (by decide) ?_
    refine at_ret dX0_makeInode_30 rfl rfl ?_
    rw [s_make, if_neg q] at hS
    subst hS
    exact ⟨rfl, b, d, K, rfl, hb, hR⟩
  refine at_ld (i := 0) dX0_makeInode_0 rfl rfl rfl ?_
  refine at_get dX0_makeInode_1 fX0_31 (de_O hD) (by omega) rfl ?_
  refine at_ld (i := 1) dX0_makeInode_4 rfl rfl rfl ?_
  refine at_rv [_] dX0_makeInode_5 mX2_kindOf ⟨Nat.le_of_ble_eq_true rfl, Nat.le_of_ble_eq_true rfl⟩ lX0_40 iX2_kindOf rfl rfl (vo_I hg ha).1 (by omega) rfl (Nat.le_of_ble_eq_true rfl) (Nat.le_of_ble_eq_true rfl) ⟨rfl, rfl⟩ (k_kindX (vo_I hg ha) hR w.1 iv.2.2.2.1 x) ?_
  refine at_k (nI 1) dX0_makeInode_8 rfl (by decide) ?_
  refine at_ine 29 dX0_makeInode_9 (by decide) (fun c => ?_) (fun c => ?_)
  · exact bad (fun q => c (by have q1 := q.1; rw [isDir_k] at q1; rw [of_decide_eq_true q1]))
  · have c1 : isDir v x = true := by
      rw [isDir_k]
      have := kdX_le w x
      exact decide_eq_true ((nI_eq32 (by omega) (by decide)).mp (Classical.not_not.mp c))
    refine at_ld (i := 2) dX0_makeInode_12 rfl rfl rfl ?_
    refine at_rs [_] dX0_makeInode_13 mX7_isName ⟨Nat.le_of_ble_eq_true rfl, Nat.le_of_ble_eq_true rfl⟩ lX0_46 tX7_isName rfl (Nat.le_of_ble_eq_true rfl) (Nat.le_of_ble_eq_true rfl) ⟨rfl, rfl⟩ (k_isName _ y) ?_
    refine at_zeq 29 dX0_makeInode_16 (by decide) (fun c2 => ?_) (fun c2 => ?_)
    · exact bad (fun q => by rw [bI_0] at c2; rw [c2] at q; cases q.2.1)
    · have c2' := bI_1 c2
      have good : inR z 1 2 = true → sg_A MX0_makeInode 31 [some (.ref D), some (.int x), some (.int y), some (.int z), none, none, none] [] (vo g a v b d K (nI (v 6)) (nI (v 7))) (fun r h' => r = some (.int S.1) ∧ VS g a S.2 h') := by
        intro c3
        rw [s_make, if_pos ⟨c1, c2', c3⟩] at hS
        obtain ⟨dd, hd, rfl, hd1⟩ := isDir_of w.1 c1
        obtain ⟨nm, -, hnm, rfl⟩ := inR_of (by decide) c2'
        obtain ⟨kd, hk1, hk2, rfl⟩ := inR_of (by decide) c3
        rw [nI_clamp (by omega), nI_clamp (by omega), nI_clamp (by omega)] at hS
        refine at_ld (i := 0) dX0_makeInode_31 rfl rfl rfl ?_
        refine at_get dX0_makeInode_32 fX0_9 (de_O hD) (by omega) rfl ?_
        refine at_cv [] dX0_makeInode_35 mX6_isSpoilt ⟨Nat.le_of_ble_eq_true rfl, Nat.le_of_ble_eq_true rfl⟩ lX0_50 iX6_isSpoilt rfl rfl (vo_V hg) (by omega) rfl (Nat.le_of_ble_eq_true rfl) (Nat.le_of_ble_eq_true rfl) (k_isSpoilt hg ha hb hR w iv.1.2.2 iv.2.2.1) ?_ ?_
        · rintro r h1 ⟨-, d', rfl⟩
          exact ⟨rfl, rfl⟩
        · rintro r h1 ⟨rfl, d', rfl⟩
          try dsimp only [Option.toList, List.cons_append, List.nil_append]
          have st : (spt v = true ∨ (ino v dd nm).isSome = true) → sg_A MX0_makeInode 55 [some (.ref D), some (.int (nI dd)), some (.int (nI nm)), some (.int (nI kd)), none, none, none] [] (vo g a v b d' K (nI (v 6)) (nI (v 7))) (fun r h' => r = some (.int S.1) ∧ VS g a S.2 h') := by
            intro q
            rw [if_pos q] at hS
            subst hS
            refine at_k (-2) dX0_makeInode_55 rfl (by decide) ?_
            refine at_ret dX0_makeInode_57 rfl rfl ?_
            exact ⟨rfl, b, d', K, rfl, hb, hR⟩
          refine at_zne 55 dX0_makeInode_38 (by decide) (fun c4 => ?_) (fun c4 => ?_)
          · exact st (Or.inl (bI_1 c4))
          · have c4' : spt v = false := (bI_0 _).mp (Classical.not_not.mp c4)
            refine at_ld (i := 0) dX0_makeInode_41 rfl rfl rfl ?_
            refine at_get dX0_makeInode_42 fX0_31 (de_O hD) (by omega) rfl ?_
            refine at_ld (i := 1) dX0_makeInode_45 rfl rfl rfl ?_
            refine at_ld (i := 2) dX0_makeInode_46 rfl rfl rfl ?_
            refine at_rv [_, _] dX0_makeInode_47 mX2_named ⟨Nat.le_of_ble_eq_true rfl, Nat.le_of_ble_eq_true rfl⟩ lX0_54 iX2_named rfl rfl (vo_I hg ha).1 (by omega) rfl (Nat.le_of_ble_eq_true rfl) (Nat.le_of_ble_eq_true rfl) ⟨rfl, rfl⟩ (k_named (vo_I hg ha) hR w iv.1.2.1 iv.2.1.1 dd nm (by omega) (by omega)) ?_
            refine at_k (-4) dX0_makeInode_50 rfl (by decide) ?_
            cases hno : ino v dd nm with
            | some j =>
              have := ino_lt hno
              refine at_ieq 58 dX0_makeInode_52 (by decide) (fun c => absurd c (oI_n (by omega))) (fun _ => ?_)
              exact st (Or.inr (by rw [hno]; rfl))
            | none =>
              refine at_ieq 58 dX0_makeInode_52 (by decide) (fun _ => ?_) (fun c => absurd (rfl) c)
              rw [if_neg (show ¬ (spt v = true ∨ (ino v dd nm).isSome = true) by rw [c4', hno]; simp)] at hS
              have full : mks v dd nm kd = none → ∀ y4, sg_A MX0_makeInode 89 [some (.ref D), some (.int (nI dd)), some (.int (nI nm)), some (.int (nI kd)), y4, none, none] [] (vo g a v b d' K (nI (v 6)) (nI (v 7))) (fun r h' => r = some (.int S.1) ∧ VS g a S.2 h') := by
                intro q y4
                rw [q] at hS
                subst hS
                refine at_k (-3) dX0_makeInode_89 rfl (by decide) ?_
                refine at_ret dX0_makeInode_91 rfl rfl ?_
                exact ⟨rfl, b, d', K, rfl, hb, hR⟩
              refine at_ld (i := 0) dX0_makeInode_58 rfl rfl rfl ?_
              refine at_get dX0_makeInode_59 fX0_9 (de_O hD) (by omega) rfl ?_
              refine at_ld (i := 1) dX0_makeInode_62 rfl rfl rfl ?_
              refine at_ld (i := 3) dX0_makeInode_63 rfl rfl rfl ?_
              refine at_rv [_, _] dX0_makeInode_64 mX6_groupFor ⟨Nat.le_of_ble_eq_true rfl, Nat.le_of_ble_eq_true rfl⟩ lX0_58 iX6_groupFor rfl rfl (vo_V hg) (by omega) rfl (Nat.le_of_ble_eq_true rfl) (Nat.le_of_ble_eq_true rfl) ⟨rfl, rfl⟩ (k_groupFor hg ha hR w dd kd hd (by omega)) ?_
              refine at_st (i := 4) dX0_makeInode_67 rfl rfl (Nat.le_of_ble_eq_true rfl) rfl ?_
              try dsimp only [List.set_cons_succ, List.set_cons_zero]
              refine at_ld (i := 4) dX0_makeInode_69 rfl rfl rfl ?_
              refine at_k (-4) dX0_makeInode_71 rfl (by decide) ?_
              cases hgr : gfr v dd kd with
              | none =>
                refine at_ieq 89 dX0_makeInode_73 (by decide) (fun _ => ?_) (fun c => absurd (rfl) c)
                exact full (by unfold mks; rw [hgr]) _
              | some gr =>
                obtain ⟨hg1, hg2⟩ := gfr_nt w.1 hgr
                have h04 := w.1.1
                obtain ⟨i, hfi⟩ := fni_ex hg2
                obtain ⟨hi1, hi2, -, -⟩ := fni_lt hg1 hfi
                have kf : sg_Kr MX2_firstNothingIn [.ref (a + 6), .int (nI gr)] (vo g a v b d' K (nI (v 6)) (nI (v 7))) (.int (nI i)) := by
                  have := k_firstNothingIn (vo_I (g := g) (a := a) (L := v) (b := b) (d := d') (K := K) (e := nI (v 6)) (m := nI (v 7)) hg ha) hR w gr hg1
                  rw [hfi] at this
                  exact this
                refine at_ieq 89 dX0_makeInode_73 (by decide) (fun c => absurd c (oI_n (by omega))) (fun _ => ?_)
                rcases (show kd = 1 ∨ kd = 2 by omega) with rfl | rfl
                · refine at_ld (i := 3) dX0_makeInode_76 rfl rfl rfl ?_
                  refine at_k (nI 1) dX0_makeInode_77 rfl (by decide) ?_
                  refine at_ine 92 dX0_makeInode_78 (by decide) (fun c => absurd c (fun q => q rfl)) (fun _ => ?_)
                  refine at_ld (i := 0) dX0_makeInode_81 rfl rfl rfl ?_
                  refine at_k (nI 1) dX0_makeInode_82 rfl (by decide) ?_
                  refine at_rv [_] dX0_makeInode_83 mX0_lacksRoomFor ⟨Nat.le_of_ble_eq_true rfl, Nat.le_of_ble_eq_true rfl⟩ lX0_61 iX0_lacksRoomFor rfl rfl (de_O hD) (by omega) rfl (Nat.le_of_ble_eq_true rfl) (Nat.le_of_ble_eq_true rfl) ⟨rfl, rfl⟩ (k_lacks hg ha hD hb w.1 1 (by decide)) ?_
                  refine at_zeq 92 dX0_makeInode_86 (by decide) (fun c5 => ?_) (fun c5 => ?_)
                  · have c5' := of_decide_eq_false ((bI_0 _).mp c5)
                    obtain ⟨at_, hat⟩ := rnr_ex w.1 hg1 (show 1 ≤ room v by omega)
                    obtain ⟨ha1, ha2⟩ := rnr_end w.1 (Nat.le_refl 1) (by decide) hat
                    have hgb := wf_gb w.1
                    have hmk : mks v dd nm 1 = some (i, mkv v i dd nm 1 at_) := by
                      unfold mks
                      rw [hgr]
                      dsimp only
                      rw [if_neg (by omega), if_pos rfl, hat]
                      dsimp only
                      rw [hfi]
                    rw [hmk] at hS
                    subst hS
                    have kt : sg_Kw MX1_takeRun [.ref (a + 2), .int (nI gr), .int (nI 1)] (vo g a v b d' K (nI (v 6)) (nI (v 7))) (some (.int (nI at_))) (vo g a v (bput b at_ 1 false) d' K (nI (v 6)) (nI (v 7))) := by
                      have := k_takeRun (vo_F (g := g) (a := a) (L := v) (b := b) (d := d') (K := K) (e := nI (v 6)) (m := nI (v 7)) hg ha) hb w.1 gr 1 hg1 (Nat.le_refl 1) (by decide) (fun x hx => by have := rnr_end w.1 (Nat.le_refl 1) (by decide) hx; omega)
                      rw [hat] at this
                      dsimp only at this
                      rw [vo_ub1] at this
                      exact this
                    refine at_ld (i := 0) dX0_makeInode_92 rfl rfl rfl ?_
                    refine at_get dX0_makeInode_93 fX0_31 (de_O hD) (by omega) rfl ?_
                    refine at_ld (i := 4) dX0_makeInode_96 rfl rfl rfl ?_
                    refine at_rv [_] dX0_makeInode_98 mX2_firstNothingIn ⟨Nat.le_of_ble_eq_true rfl, Nat.le_of_ble_eq_true rfl⟩ lX0_64 iX2_firstNothingIn rfl rfl (vo_I hg ha).1 (by omega) rfl (Nat.le_of_ble_eq_true rfl) (Nat.le_of_ble_eq_true rfl) ⟨rfl, rfl⟩ (kf) ?_
                    refine at_st (i := 5) dX0_makeInode_101 rfl rfl (Nat.le_of_ble_eq_true rfl) rfl ?_
                    try dsimp only [List.set_cons_succ, List.set_cons_zero]
                    refine at_ld (i := 3) dX0_makeInode_103 rfl rfl rfl ?_
                    refine at_k (nI 1) dX0_makeInode_104 rfl (by decide) ?_
                    refine at_ine 121 dX0_makeInode_105 (by decide) (fun c => absurd c (fun q => q rfl)) (fun _ => ?_)
                    refine at_ld (i := 0) dX0_makeInode_108 rfl rfl rfl ?_
                    refine at_get dX0_makeInode_109 fX0_26 (de_O hD) (by omega) rfl ?_
                    refine at_ld (i := 4) dX0_makeInode_112 rfl rfl rfl ?_
                    refine at_k (nI 1) dX0_makeInode_114 rfl (by decide) ?_
                    refine at_wv [_, _] dX0_makeInode_115 mX1_takeRun ⟨Nat.le_of_ble_eq_true rfl, Nat.le_of_ble_eq_true rfl⟩ lX0_67 iX1_takeRun rfl rfl (vo_F hg ha).1 (by omega) rfl (Nat.le_of_ble_eq_true rfl) (Nat.le_of_ble_eq_true rfl) ⟨rfl, rfl⟩ (kt) ⟨rfl, rfl⟩ ?_
                    try dsimp only [Option.toList, List.cons_append, List.nil_append]
                    refine at_goto 123 dX0_makeInode_118 (by decide) ?_
                    refine at_st (i := 6) dX0_makeInode_123 rfl rfl (Nat.le_of_ble_eq_true rfl) rfl ?_
                    try dsimp only [List.set_cons_succ, List.set_cons_zero]
                    refine at_ld (i := 0) dX0_makeInode_125 rfl rfl rfl ?_
                    refine at_get dX0_makeInode_126 fX0_31 (de_O hD) (by omega) rfl ?_
                    refine at_ld (i := 5) dX0_makeInode_129 rfl rfl rfl ?_
                    refine at_ld (i := 3) dX0_makeInode_131 rfl rfl rfl ?_
                    refine at_ld (i := 1) dX0_makeInode_132 rfl rfl rfl ?_
                    refine at_ld (i := 2) dX0_makeInode_133 rfl rfl rfl ?_
                    refine at_wv [_, _, _, _] dX0_makeInode_134 mX2_become ⟨Nat.le_of_ble_eq_true rfl, Nat.le_of_ble_eq_true rfl⟩ lX0_70 iX2_become rfl rfl (vo_I hg ha).1 (by omega) rfl (Nat.le_of_ble_eq_true rfl) (Nat.le_of_ble_eq_true rfl) ⟨rfl, rfl⟩ (k_become hg ha i (by omega) (nI 1) (nI dd) (nI nm)) ⟨rfl, rfl⟩ ?_
                    try dsimp only [Option.toList, List.cons_append, List.nil_append]
                    refine at_ld (i := 0) dX0_makeInode_137 rfl rfl rfl ?_
                    refine at_get dX0_makeInode_138 fX0_31 (de_O hD) (by omega) rfl ?_
                    refine at_ld (i := 5) dX0_makeInode_141 rfl rfl rfl ?_
                    refine at_ld (i := 3) dX0_makeInode_143 rfl rfl rfl ?_
                    refine at_k (nI 1) dX0_makeInode_144 rfl (by decide) ?_
                    refine at_ine 152 dX0_makeInode_145 (by decide) (fun c => absurd c (fun q => q rfl)) (fun _ => ?_)
                    refine at_k (nI 1) dX0_makeInode_148 rfl (by decide) ?_
                    refine at_goto 153 dX0_makeInode_149 (by decide) ?_
                    refine at_ld (i := 6) dX0_makeInode_153 rfl rfl rfl ?_
                    refine at_wv [_, _, _] dX0_makeInode_155 mX2_setSize ⟨Nat.le_of_ble_eq_true rfl, Nat.le_of_ble_eq_true rfl⟩ lX0_74 iX2_setSize rfl rfl (vo_I hg ha).1 (by omega) rfl (Nat.le_of_ble_eq_true rfl) (Nat.le_of_ble_eq_true rfl) ⟨rfl, rfl⟩ (k_setSize hg ha i (by omega) (nI 1) (nI at_)) ⟨rfl, rfl⟩ ?_
                    try dsimp only [Option.toList, List.cons_append, List.nil_append]
                    refine at_ld (i := 5) dX0_makeInode_158 rfl rfl rfl ?_
                    refine at_ret dX0_makeInode_160 rfl rfl ?_
                    refine ⟨rfl, VS_of (v' := mkv v i dd nm 1 at_) (fun c hc => mkv_c v (by omega)) (by rw [mkv_c v (by decide)]) (by rw [mkv_c v (by decide)]) ?_ (iR_mkv w hR (Or.inl rfl) (by omega))⟩
                    exact mbq_e (fun x hx => (fr_mk1 v hx).symm) (mbq_put hb (by omega) ha2 false)
                  · refine at_k (-3) dX0_makeInode_89 rfl (by decide) ?_
                    refine at_ret dX0_makeInode_91 rfl rfl ?_
                    have c5' := of_decide_eq_true (bI_1 c5)
                    have hmk : mks v dd nm 1 = none := by
                      unfold mks
                      rw [hgr]
                      dsimp only
                      rw [if_pos ⟨rfl, by omega⟩]
                    rw [hmk] at hS
                    subst hS
                    exact ⟨rfl, b, d', K, rfl, hb, hR⟩
                · refine at_ld (i := 3) dX0_makeInode_76 rfl rfl rfl ?_
                  refine at_k (nI 1) dX0_makeInode_77 rfl (by decide) ?_
                  refine at_ine 92 dX0_makeInode_78 (by decide) (fun _ => ?_) (fun c => absurd ((by decide)) c)
                  have hmk : mks v dd nm 2 = some (i, mkv v i dd nm 2 0) := by
                    unfold mks
                    rw [hgr]
                    dsimp only
                    rw [if_neg (by omega), if_neg (by omega)]
                    dsimp only
                    rw [hfi]
                  rw [hmk] at hS
                  subst hS
                  refine at_ld (i := 0) dX0_makeInode_92 rfl rfl rfl ?_
                  refine at_get dX0_makeInode_93 fX0_31 (de_O hD) (by omega) rfl ?_
                  refine at_ld (i := 4) dX0_makeInode_96 rfl rfl rfl ?_
                  refine at_rv [_] dX0_makeInode_98 mX2_firstNothingIn ⟨Nat.le_of_ble_eq_true rfl, Nat.le_of_ble_eq_true rfl⟩ lX0_64 iX2_firstNothingIn rfl rfl (vo_I hg ha).1 (by omega) rfl (Nat.le_of_ble_eq_true rfl) (Nat.le_of_ble_eq_true rfl) ⟨rfl, rfl⟩ (kf) ?_
                  refine at_st (i := 5) dX0_makeInode_101 rfl rfl (Nat.le_of_ble_eq_true rfl) rfl ?_
                  try dsimp only [List.set_cons_succ, List.set_cons_zero]
                  refine at_ld (i := 3) dX0_makeInode_103 rfl rfl rfl ?_
                  refine at_k (nI 1) dX0_makeInode_104 rfl (by decide) ?_
                  refine at_ine 121 dX0_makeInode_105 (by decide) (fun _ => ?_) (fun c => absurd ((by decide)) c)
                  refine at_k (-4) dX0_makeInode_121 rfl (by decide) ?_
                  refine at_st (i := 6) dX0_makeInode_123 rfl rfl (Nat.le_of_ble_eq_true rfl) rfl ?_
                  try dsimp only [List.set_cons_succ, List.set_cons_zero]
                  refine at_ld (i := 0) dX0_makeInode_125 rfl rfl rfl ?_
                  refine at_get dX0_makeInode_126 fX0_31 (de_O hD) (by omega) rfl ?_
                  refine at_ld (i := 5) dX0_makeInode_129 rfl rfl rfl ?_
                  refine at_ld (i := 3) dX0_makeInode_131 rfl rfl rfl ?_
                  refine at_ld (i := 1) dX0_makeInode_132 rfl rfl rfl ?_
                  refine at_ld (i := 2) dX0_makeInode_133 rfl rfl rfl ?_
                  refine at_wv [_, _, _, _] dX0_makeInode_134 mX2_become ⟨Nat.le_of_ble_eq_true rfl, Nat.le_of_ble_eq_true rfl⟩ lX0_70 iX2_become rfl rfl (vo_I hg ha).1 (by omega) rfl (Nat.le_of_ble_eq_true rfl) (Nat.le_of_ble_eq_true rfl) ⟨rfl, rfl⟩ (k_become hg ha i (by omega) (nI 2) (nI dd) (nI nm)) ⟨rfl, rfl⟩ ?_
                  try dsimp only [Option.toList, List.cons_append, List.nil_append]
                  refine at_ld (i := 0) dX0_makeInode_137 rfl rfl rfl ?_
                  refine at_get dX0_makeInode_138 fX0_31 (de_O hD) (by omega) rfl ?_
                  refine at_ld (i := 5) dX0_makeInode_141 rfl rfl rfl ?_
                  refine at_ld (i := 3) dX0_makeInode_143 rfl rfl rfl ?_
                  refine at_k (nI 1) dX0_makeInode_144 rfl (by decide) ?_
                  refine at_ine 152 dX0_makeInode_145 (by decide) (fun _ => ?_) (fun c => absurd ((by decide)) c)
                  refine at_k (nI 0) dX0_makeInode_152 rfl (by decide) ?_
                  refine at_ld (i := 6) dX0_makeInode_153 rfl rfl rfl ?_
                  refine at_wv [_, _, _] dX0_makeInode_155 mX2_setSize ⟨Nat.le_of_ble_eq_true rfl, Nat.le_of_ble_eq_true rfl⟩ lX0_74 iX2_setSize rfl rfl (vo_I hg ha).1 (by omega) rfl (Nat.le_of_ble_eq_true rfl) (Nat.le_of_ble_eq_true rfl) ⟨rfl, rfl⟩ (k_setSize hg ha i (by omega) (nI 0) (-4)) ⟨rfl, rfl⟩ ?_
                  try dsimp only [Option.toList, List.cons_append, List.nil_append]
                  refine at_ld (i := 5) dX0_makeInode_158 rfl rfl rfl ?_
                  refine at_ret dX0_makeInode_160 rfl rfl ?_
                  refine ⟨rfl, VS_of (v' := mkv v i dd nm 2 0) (fun c hc => mkv_c v (by omega)) (by rw [mkv_c v (by decide)]) (by rw [mkv_c v (by decide)]) ?_ (iR_mkv w hR (Or.inr rfl) (by decide))⟩
                  exact mbq_e (fun x hx => (fr_mk2 v hx).symm) hb
      refine at_ld (i := 3) dX0_makeInode_19 rfl rfl rfl ?_
      refine at_k (nI 1) dX0_makeInode_20 rfl (by decide) ?_
      refine at_ieq 31 dX0_makeInode_21 (by decide) (fun c3 => ?_) (fun c3 => ?_)
      · exact good (by rw [c3, inR_nI (by decide)]; decide)
      · refine at_ld (i := 3) dX0_makeInode_24 rfl rfl rfl ?_
        refine at_k (nI 2) dX0_makeInode_25 rfl (by decide) ?_
        refine at_ieq 31 dX0_makeInode_26 (by decide) (fun c4 => ?_) (fun c4 => ?_)
        · exact good (by rw [c4, inR_nI (by decide)]; decide)
        · refine bad (fun q => ?_)
          obtain ⟨k, h1, h2, rfl⟩ := inR_of (by decide) q.2.2
          rcases (show k = 1 ∨ k = 2 by omega) with rfl | rfl
          · exact c3 rfl
          · exact c4 rfl
end C12
