/-! THE REFERENCE: what a deed keeps -/
/-- all inodes but i keep all, i keeps what it is, where it is; the six numbers stay -/
def kp (i : Nat) (v v' : Nat → Nat) : Prop := (∀ j f, f < 15 → (j ≠ i ∨ f < 3) → io v' j f = io v j f) ∧ ∀ c, c < 6 → v' c = v c
theorem kp_r (i : Nat) (v : Nat → Nat) : kp i v v := ⟨fun _ _ _ _ => rfl, fun _ _ => rfl⟩
theorem kp_t {i : Nat} {a b c : Nat → Nat} (h1 : kp i a b) (h2 : kp i b c) : kp i a c := ⟨fun j f hf hj => (h2.1 j f hf hj).trans (h1.1 j f hf hj), fun k hk => (h2.2 k hk).trans (h1.2 k hk)⟩
theorem kp_l (i : Nat) (v : Nat → Nat) {x n : Nat} (b : Bool) (hx : x + n ≤ 128) : kp i v (lta v x b n) := ⟨fun j f _ _ => io_lta v b hx j f, fun c hc => lta_out v x b c n (by omega)⟩
theorem kp_u (i : Nat) (v : Nat → Nat) {f y : Nat} (hf : f < 15) (hf3 : 3 ≤ f) : kp i v (vf_upd v (136 + 15 * i + f) y) := ⟨fun j g hg hj => by
  rw [io_u v hf hg, if_neg]
  rintro ⟨e1, e2⟩
  rcases hj with h | h
  · exact h e1
  · omega, fun c hc => vu_n _ _ _ _ (by omega)⟩
theorem kp_c (i : Nat) (v : Nat → Nat) {j y : Nat} (hj : j = 6 ∨ j = 7) : kp i v (vf_upd v j y) := ⟨fun k f _ _ => vu_n _ _ _ _ (by omega), fun c hc => vu_n _ _ _ _ (by omega)⟩
theorem io_inc (v : Nat → Nat) {j : Nat} (hj : j = 6 ∨ j = 7) (i f : Nat) : io (inc v j) i f = io v i f := vu_n _ _ _ _ (by omega)
theorem kp_inc (i : Nat) (v : Nat → Nat) {j : Nat} (hj : j = 6 ∨ j = 7) : kp i v (inc v j) := kp_c i v hj
theorem kp_tkb {v v' : Nat → Nat} (w : wf v) {i k : Nat} (hk : k < 10) (h : tkb v i k = some v') : kp i v v' ∧ io v' i 3 = io v i 3 ∧ io v' i 4 = io v i 4 := by
  have hgb := wf_gb w.1
  unfold tkb at h
  split at h
  · cases h
  · next b e =>
    cases h
    have hb := bnr_lt w.1 e
    refine ⟨kp_t (kp_u i v (by omega) (by omega)) (kp_l i _ _ (by omega)), ?_, ?_⟩
    · rw [io_lta _ _ (by omega), io_u v (by omega) (by omega), if_neg (by omega)]
    · rw [io_lta _ _ (by omega), io_u v (by omega) (by omega), if_neg (by omega)]
theorem kp_tkt {v v' : Nat → Nat} (w : wf v) {i bl u : Nat} (hu : 1 ≤ u) (hu4 : u ≤ 4) (h : tkt v i bl u = some v') : kp i v v' ∧ io v' i 3 = io v i 3 ∧ io v' i 4 % 4 + u ≤ 4 := by
  have hgb := wf_gb w.1
  unfold tkt at h
  split at h
  · cases h
  · next x e =>
    cases h
    obtain ⟨h1, h2⟩ := rnr_end w.1 hu hu4 e
    refine ⟨kp_t (kp_u i v (by omega) (by omega)) (kp_l i _ _ (by omega)), ?_, ?_⟩
    · rw [io_lta _ _ (by omega), io_u v (by omega) (by omega), if_neg (by omega)]
    · rw [io_lta _ _ (by omega), io_u v (by omega) (by omega), if_pos ⟨rfl, rfl⟩]
      exact h2
theorem kp_wdn {v v' : Nat → Nat} (w : wf v) {i t u : Nat} (hi : i < 24) (hu : 1 ≤ u) (hu4 : u < 4) (ht : io v i 4 + t ≤ 128) (h : wdn v i t u = some v') : kp i v v' ∧ io v' i 3 = io v i 3 ∧ io v' i 4 % 4 + u ≤ 4 := by
  obtain ⟨-, -, wt, -⟩ := w.2.2 i hi
  unfold wdn at h
  split at h
  · next c =>
    cases h
    refine ⟨kp_t (kp_l i v false (by omega)) (kp_inc i _ (Or.inl rfl)), ?_, ?_⟩
    · rw [io_inc _ (Or.inl rfl), io_lta v false (by omega)]
    · rw [io_inc _ (Or.inl rfl), io_lta v false (by omega)]
      exact c.2.1
  · split at h
    · cases h
    · next v1 e =>
      cases h
      obtain ⟨h1, h2, h3⟩ := kp_tkt w hu (by omega) e
      split
      · refine ⟨kp_t h1 (kp_t (kp_l i _ true (by omega)) (kp_inc i _ (Or.inr rfl))), ?_, ?_⟩
        · rw [io_inc _ (Or.inr rfl), io_lta _ true (by omega), h2]
        · rw [io_inc _ (Or.inr rfl), io_lta _ true (by omega)]
          exact h3
      · exact ⟨h1, h2, h3⟩
theorem kp_fil {v v' : Nat → Nat} (w : wf v) {i t : Nat} (hi : i < 24) (hk : io v i 3 / 4 < 10) (ht : io v i 4 + t ≤ 128) (h : fil v i t = some v') : kp i v v' ∧ io v' i 3 = io v i 3 := by
  obtain ⟨-, -, wt, -⟩ := w.2.2 i hi
  unfold fil at h
  split at h
  · next c =>
    cases h
    refine ⟨kp_t (kp_l i v false (by omega)) (kp_t (kp_u i _ (by omega) (by omega)) (kp_inc i _ (Or.inl rfl))), ?_⟩
    rw [io_inc _ (Or.inl rfl), io_u _ (by omega) (by omega), if_neg (by omega), io_lta v false (by omega)]
  · split at h
    · cases h
    · next v1 e =>
      cases h
      obtain ⟨h1, h2, -⟩ := kp_tkb w hk e
      refine ⟨kp_t h1 (kp_t (kp_l i _ true (by omega)) (kp_inc i _ (Or.inr rfl))), ?_⟩
      rw [io_inc _ (Or.inr rfl), io_lta _ true (by omega), h2]
theorem kp_tks {i : Nat} : ∀ m k {v v' : Nat → Nat}, wf v → k + m ≤ 10 → tks v i m k = some v' → kp i v v' ∧ io v' i 3 = io v i 3 := by
  intro m
  induction m with
  | zero => intro k v v' w _ h; cases h; exact ⟨kp_r i v, rfl⟩
  | succ m ih =>
    intro k v v' w hk h
    simp only [tks] at h
    split at h
    · cases h
    · next v1 e =>
      obtain ⟨h1, h2, -⟩ := kp_tkb w (by omega) e
      obtain ⟨a, b⟩ := ih (k + 1) (wf_tkb w (by omega) e) (by omega) h
      exact ⟨kp_t h1 a, b.trans h2⟩
theorem kp_cgr {v v' : Nat → Nat} (w : wf v) {i size : Nat} (hi : i < 24) (hsz : io v i 3 < size) (hs40 : size ≤ 40) (ht : io v i 4 + io v i 3 % 4 ≤ 128) (h : cgr v i size = some v') : kp i v v' ∧ (io v' i 4 % 4 + size % 4 ≤ 4) := by
  have hs := wf_s w hi
  unfold cgr at h
  split at h
  · obtain ⟨h1, -, h3⟩ := kp_wdn w hi (by omega) (by omega) ht h
    exact ⟨h1, h3⟩
  · split at h
    · cases h
    · next v1 e =>
      have h1 : wf v1 ∧ kp i v v1 := by
        split at e
        · exact ⟨(wf_fil w hi (by omega) ht e).1, (kp_fil w hi (by omega) ht e).1⟩
        · cases e; exact ⟨w, kp_r i v⟩
      split at h
      · cases h
      · next v2 e2 =>
        have h2 := wf_tks hi _ _ h1.1 (by split <;> omega) e2
        have h3 := kp_tks _ _ h1.1 (by split <;> omega) e2
        split at h
        · cases h
          exact ⟨kp_t h1.2 h3.1, by omega⟩
        · obtain ⟨h4, -, h5⟩ := kp_tkt h2.1 (by omega) (by omega) h
          exact ⟨kp_t h1.2 (kp_t h3.1 h4), h5⟩
theorem kp_grw {v v' : Nat → Nat} (w : wf v) (wt : wfT v) {i n : Nat} (hi : i < 24) (hn1 : 1 ≤ n) (h : grw v i n = some v') : kp i v v' ∧ io v' i 3 = io v i 3 + n ∧ io v' i 4 % 4 + io v' i 3 % 4 ≤ 4 := by
  obtain ⟨-, -, w4, -⟩ := w.2.2 i hi
  have := wt i hi
  unfold grw at h
  split at h
  · cases h
  · next c =>
    split at h
    · cases h
    · next v1 e =>
      cases h
      obtain ⟨h1, h2⟩ := kp_cgr w hi (by omega) (by omega) (by omega) e
      refine ⟨kp_t h1 (kp_u i v1 (by omega) (by omega)), ?_, ?_⟩
      · rw [io_u v1 (by omega) (by omega), if_pos ⟨rfl, rfl⟩]
      · rw [io_u v1 (by omega) (by omega), if_neg (by omega), io_u v1 (by omega) (by omega), if_pos ⟨rfl, rfl⟩]
        exact h2
/-- what the reference's deeds need -/
def ivr (v : Nat → Nat) : Prop := wf v ∧ wfp v ∧ wfT v
theorem ivr_grw {v v' : Nat → Nat} (w : ivr v) {i n : Nat} (hi : i < 24) (hn1 : 1 ≤ n) (h : grw v i n = some v') : ivr v' := by
  obtain ⟨w1, w2, w3⟩ := w
  obtain ⟨h1, h2, h3⟩ := kp_grw w1 w3 hi hn1 h
  refine ⟨(wf_grw w1 w3 hi hn1 h).1, fun j hj => ?_, fun j hj => ?_⟩
  · rw [h1.1 j 1 (by omega) (Or.inr (by omega)), h1.1 j 2 (by omega) (Or.inr (by omega))]
    exact w2 j hj
  · by_cases e : j = i
    · rw [e]; exact h3
    · rw [h1.1 j 3 (by omega) (Or.inl e), h1.1 j 4 (by omega) (Or.inl e)]
      exact w3 j hj
theorem io_mk0 (v : Nat → Nat) (i d nm kind at_ j f : Nat) (hf : f < 15) : io (mk0 v i d nm kind at_) j f = if j = i then (if f = 0 then kind else if f = 1 then d else if f = 2 then nm else if f = 3 then (if kind = 1 then 1 else 0) else if f = 4 then at_ else io v j f) else io v j f := by
  unfold mk0
  rw [io_u _ (by omega) hf, io_u _ (by omega) hf, io_u _ (by omega) hf, io_u _ (by omega) hf, io_u _ (by omega) hf]
  by_cases e : j = i
  · simp only [e, true_and, if_true]
    by_cases e4 : f = 4
    · subst e4; simp
    · by_cases e3 : f = 3
      · subst e3; simp
      · by_cases e2 : f = 2
        · subst e2; simp
        · by_cases e1 : f = 1
          · subst e1; simp
          · by_cases e0 : f = 0
            · subst e0; simp
            · simp [e0, e1, e2, e3, e4]
  · simp [e]
theorem io_mkv (v : Nat → Nat) (i d nm kind at_ j f : Nat) (hf : f < 15) (hat : at_ < 128) : io (mkv v i d nm kind at_) j f = if j = i then (if f = 0 then kind else if f = 1 then d else if f = 2 then nm else if f = 3 then (if kind = 1 then 1 else 0) else if f = 4 then at_ else io v j f) else io v j f := by
  rw [← io_mk0 v i d nm kind at_ j f hf]
  unfold mkv
  split
  · exact vu_n _ _ _ _ (by omega)
  · rfl
theorem wf_mkv {v : Nat → Nat} (w : wf v) {i d nm kind at_ : Nat} (hkd : kind = 1 ∨ kind = 2) (hat : at_ < 128) : wf (mkv v i d nm kind at_) := by
  have h0 : wf (mk0 v i d nm kind at_) := by
    unfold mk0
    refine wf_set (wf_set (wf_set (wf_set (wf_set w (by omega) (fun _ => by omega) (by omega) (by omega) (by omega)) (by omega) (by omega) (by omega) (by omega) (by omega)) (by omega) (by omega) (by omega) (by omega) (by omega)) (by omega) (by omega) (fun _ => by split <;> omega) (by omega) (by omega)) (by omega) (by omega) (by omega) (fun _ => hat) (by omega)
  unfold mkv
  split
  · have h1 : vf_upd (mk0 v i d nm kind at_) (8 + at_) 0 = lta (mk0 v i d nm kind at_) at_ false 1 := rfl
    rw [h1]
    exact wf_lta h0 false (by omega)
  · exact h0
theorem mks_of {v v' : Nat → Nat} {d nm kind i : Nat} (w : wfg v) (h : mks v d nm kind = some (i, v')) : ∃ g at_, gfr v d kind = some g ∧ ¬ (kind = 1 ∧ room v < v 4 + 1) ∧ (if kind = 1 then rnr v g 1 else some 0) = some at_ ∧ fni v g = some i ∧ v' = mkv v i d nm kind at_ ∧ at_ < 4 * (v 0 * v 1) ∧ g < v 0 := by
  have hge := gb_ge w.1.1 w.2.1.1
  unfold mks at h
  split at h
  · cases h
  · next g e1 =>
    split at h
    · cases h
    · next hno =>
      split at h
      · cases h
      · next at_ e2 =>
        split at h
        · cases h
        · next j e3 =>
          cases h
          refine ⟨g, at_, e1, hno, e2, e3, rfl, ?_, (gfr_nt w e1).1⟩
          split at e2
          · exact (rnr_end w (by omega) (by omega) e2).1
          · cases e2; omega
theorem ivr_mks {v v' : Nat → Nat} (w : ivr v) {d nm kind i : Nat} (hd : d < 2 ^ 32) (hnm : nm < 2 ^ 32) (hkd : kind = 1 ∨ kind = 2) (h : mks v d nm kind = some (i, v')) : ivr v' := by
  obtain ⟨w1, w2, w3⟩ := w
  have hgb := wf_gb w1.1
  obtain ⟨g, at_, -, -, e2, -, rfl, hat, -⟩ := mks_of w1.1 h
  refine ⟨wf_mkv w1 hkd (by omega), fun j hj => ?_, fun j hj => ?_⟩
  · rw [io_mkv _ _ _ _ _ _ _ _ (by omega) (by omega), io_mkv _ _ _ _ _ _ _ _ (by omega) (by omega)]
    have := w2 j hj
    split <;> simp_all
  · rw [io_mkv _ _ _ _ _ _ _ _ (by omega) (by omega), io_mkv _ _ _ _ _ _ _ _ (by omega) (by omega)]
    have := w3 j hj
    by_cases e : j = i
    · rw [if_pos e, if_pos e, if_neg (by decide), if_neg (by decide), if_neg (by decide), if_neg (by decide), if_pos rfl, if_neg (by decide), if_neg (by decide), if_neg (by decide), if_pos rfl]
      split <;> omega
    · rw [if_neg e, if_neg e]
      exact this
theorem ivr_rmv {v : Nat → Nat} (w : ivr v) {i : Nat} (hi : i < 24) : ivr (rmv v i) := by
  obtain ⟨w1, w2, w3⟩ := w
  obtain ⟨-, ws, w4, -⟩ := w1.2.2 i hi
  have hwt := w3 i hi
  have wl := wf_lta w1 true (x := io v i 4) (n := io v i 3 % 4) (by omega)
  obtain ⟨h1, h2, h3⟩ := frb_p hi (io v i 3 / 4) 0 wl (by omega)
  have e : ∀ j f, f < 15 → io (rmv v i) j f = if j = i ∧ f = 0 then 0 else io v j f := by
    intro j f hf
    unfold rmv
    rw [io_u _ (by omega) hf, h3, io_lta v true (by omega)]
  refine ⟨?_, fun j hj => ?_, fun j hj => ?_⟩
  · exact wf_set h1 (by omega) (fun _ => by omega) (by omega) (by omega) (by omega)
  · rw [e j 1 (by omega), e j 2 (by omega), if_neg (by omega), if_neg (by omega)]
    exact w2 j hj
  · rw [e j 3 (by omega), e j 4 (by omega), if_neg (by omega), if_neg (by omega)]
    exact w3 j hj
theorem ivr_sgrow {v : Nat → Nat} (w : ivr v) (x y : Int32) : ivr (s_grow v x y).2 := by
  have hgi := wf_gi w.1.1
  unfold s_grow
  split
  · next c =>
    split
    · exact w
    · obtain ⟨k, hk, rfl, -⟩ := isFil_of w.1.1 c.1
      obtain ⟨n, hn1, hn2, rfl⟩ := inR_of (by decide) c.2
      rw [nI_clamp (by omega), nI_clamp (by omega)]
      dsimp only
      cases q : grw v k n with
      | none => exact w
      | some v' => exact ivr_grw w (by omega) hn1 q
  · exact w
theorem ivr_smake {v : Nat → Nat} (w : ivr v) (d nm kd : Int32) : ivr (s_make v d nm kd).2 := by
  have hgi := wf_gi w.1.1
  unfold s_make
  split
  · next c =>
    split
    · exact w
    · obtain ⟨k, hk, rfl, -⟩ := isDir_of w.1.1 c.1
      obtain ⟨n, -, hn2, rfl⟩ := inR_of (by decide) c.2.1
      obtain ⟨kk, hk1, hk2, rfl⟩ := inR_of (by decide) c.2.2
      rw [nI_clamp (by omega), nI_clamp (by omega), nI_clamp (by omega)]
      cases q : mks v k n kk with
      | none => exact w
      | some p => exact ivr_mks (i := p.1) (v' := p.2) w (by omega) (by omega) (by omega) q
  · exact w
theorem ivr_sremove {v : Nat → Nat} (w : ivr v) (x : Int32) : ivr (s_remove v x).2 := by
  have hgi := wf_gi w.1.1
  unfold s_remove
  split
  · next c =>
    split
    · exact w
    · obtain ⟨k, hk, rfl, -⟩ := there_of w.1.1 c
      rw [nI_clamp (by omega)]
      exact ivr_rmv w (by omega)
  · exact w
