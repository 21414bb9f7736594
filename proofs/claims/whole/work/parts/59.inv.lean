/-! WHAT ALWAYS HOLDS: every deed keeps it -/
def OB (v v' : Nat → Nat) : Prop := v' 0 = v 0 ∧ v' 1 = v 1 ∧ (wfo v → wfo v') ∧ (wfb v → wfb v')
theorem OB_r (v : Nat → Nat) : OB v v := ⟨rfl, rfl, id, id⟩
theorem OB_t {a b c : Nat → Nat} (h1 : OB a b) (h2 : OB b c) : OB a c := ⟨h2.1.trans h1.1, h2.2.1.trans h1.2.1, fun q => h2.2.2.1 (h1.2.2.1 q), fun q => h2.2.2.2 (h1.2.2.2 q)⟩
theorem OB_m {v v' : Nat → Nat} (h0 : v' 0 = v 0) (h1 : v' 1 = v 1) (hf : ∀ x, 4 * (v 0 * v 1) ≤ x → x < 128 → fr v x = false → fr v' x = false) (hb : ∀ j f, 4 ≤ f → f < 15 → j < 24 → io v' j f = io v j f ∨ (f = 4 ∧ io v' j f < 4 * (v 0 * v 1)) ∨ (5 ≤ f ∧ io v' j f < v 0 * v 1)) : OB v v' := by
  refine ⟨h0, h1, fun wo x h2 h3 => ?_, fun wb j hj => ?_⟩
  · rw [h0, h1] at h2
    exact hf x h2 h3 (wo x h2 h3)
  · rw [h0, h1]
    obtain ⟨q1, q2⟩ := wb j hj
    refine ⟨?_, fun k hk => ?_⟩
    · rcases hb j 4 (by omega) (by omega) hj with z | z | z
      · rw [z]; exact q1
      · exact z.2
      · omega
    · rcases hb j (5 + k) (by omega) (by omega) hj with z | z | z
      · rw [z]; exact q2 k hk
      · omega
      · exact z.2
theorem OB_l (v : Nat → Nat) {x n : Nat} {f : Bool} (h : x + n ≤ 128) (hf : f = true → x + n ≤ 4 * (v 0 * v 1)) : OB v (lta v x f n) := by
  refine OB_m (lta_out _ _ _ _ _ (by omega)) (lta_out _ _ _ _ _ (by omega)) (fun y h1 h2 h3 => ?_) (fun j g h4 h5 _ => Or.inl (io_lta v f h j g))
  rw [fr_lta]
  unfold setq
  split
  · next q =>
    cases f with
    | false => rfl
    | true => have := hf rfl; omega
  · exact h3
theorem OB_s (v : Nat → Nat) {i f y : Nat} (hf : f < 15) (h4 : f = 4 → y < 4 * (v 0 * v 1)) (h5 : 5 ≤ f → y < v 0 * v 1) : OB v (vf_upd v (136 + 15 * i + f) y) := by
  refine OB_m (vu_n _ _ _ _ (by omega)) (vu_n _ _ _ _ (by omega)) (fun x h1 h2 h3 => by rw [fr_io v h2]; exact h3) (fun j g h6 h7 _ => ?_)
  rw [io_u v hf h7]
  split
  · next q =>
    rcases (show g = 4 ∨ 5 ≤ g by omega) with z | z
    · exact Or.inr (Or.inl ⟨z, h4 (by omega)⟩)
    · exact Or.inr (Or.inr ⟨z, h5 (by omega)⟩)
  · exact Or.inl rfl
theorem OB_c (v : Nat → Nat) {j y : Nat} (hj : j = 6 ∨ j = 7) : OB v (vf_upd v j y) := OB_m (vu_n _ _ _ _ (by omega)) (vu_n _ _ _ _ (by omega)) (fun x h1 h2 h3 => by unfold fr at *; rw [vu_n _ _ _ _ (by omega)]; exact h3) (fun i f _ _ _ => Or.inl (vu_n _ _ _ _ (by omega)))
theorem OB_tkb {v v' : Nat → Nat} (w : wf v) {i k : Nat} (hk : k < 10) (h : tkb v i k = some v') : OB v v' := by
  obtain ⟨x, -, hx, hc, hio, hfr⟩ := tkb_f w hk h
  refine OB_m (hc 0 (by decide)) (hc 1 (by decide)) (fun y h1 h2 h3 => ?_) (fun j f h4 h5 _ => ?_)
  · rw [hfr y h2]
    unfold setq
    split
    · rfl
    · exact h3
  · rw [hio j f h5]
    split
    · exact Or.inr (Or.inr ⟨by omega, hx⟩)
    · exact Or.inl rfl
theorem OB_tkt {v v' : Nat → Nat} (w : wf v) {i bl u : Nat} (hu : 1 ≤ u) (hu4 : u ≤ 4) (h : tkt v i bl u = some v') : OB v v' := by
  obtain ⟨x, -, hx, -, hc, hio, hfr⟩ := tkt_f w hu hu4 h
  refine OB_m (hc 0 (by decide)) (hc 1 (by decide)) (fun y h1 h2 h3 => ?_) (fun j f h4 h5 _ => ?_)
  · rw [hfr y h2]
    unfold setq
    split
    · rfl
    · exact h3
  · rw [hio j f h5]
    split
    · exact Or.inr (Or.inl ⟨by omega, hx⟩)
    · exact Or.inl rfl
theorem OB_tks {i : Nat} (hi : i < 24) : ∀ m k {v v' : Nat → Nat}, wf v → k + m ≤ 10 → tks v i m k = some v' → OB v v' := by
  intro m
  induction m with
  | zero => intro k v v' w _ h; cases h; exact OB_r v
  | succ m ih =>
    intro k v v' w hk h
    simp only [tks] at h
    cases q : tkb v i k with
    | none => rw [q] at h; cases h
    | some v1 =>
      rw [q] at h
      exact OB_t (OB_tkb w (by omega) q) (ih (k + 1) (wf_tkb w (by omega) q) (by omega) h)
theorem OB_wdn {v v' : Nat → Nat} (w : wf v) {i t u : Nat} (hi : i < 24) (hu : 1 ≤ u) (hu4 : u < 4) (ht : io v i 4 + t ≤ 4 * (v 0 * v 1)) (h : wdn v i t u = some v') : OB v v' := by
  have hgb := wf_gb w.1
  have h4 := (w.2.2 i hi).2.2.1
  unfold wdn at h
  split at h
  · next q =>
    cases h
    exact OB_t (OB_l v (by omega) (fun z => by cases z)) (OB_c _ (Or.inl rfl))
  · cases q : tkt v i (io v i 3 / 4) u with
    | none => rw [q] at h; cases h
    | some v1 =>
      rw [q] at h
      cases h
      have h1 := OB_tkt w hu (by omega) q
      split
      · exact OB_t h1 (OB_t (OB_l v1 (by omega) (fun _ => by rw [h1.1, h1.2.1]; exact ht)) (OB_c _ (Or.inr rfl)))
      · exact h1
theorem OB_fil {v v' : Nat → Nat} (w : wf v) (wb : wfb v) {i t : Nat} (hi : i < 24) (hk : io v i 3 / 4 < 10) (ht : io v i 4 + t ≤ 4 * (v 0 * v 1)) (h : fil v i t = some v') : OB v v' := by
  have hgb := wf_gb w.1
  have h4 := (w.2.2 i hi).2.2.1
  have hb := (wb i hi).1
  unfold fil at h
  split at h
  · next q =>
    cases h
    have h1 : OB v (lta v (io v i 4) false 4) := OB_l v (by omega) (fun z => by cases z)
    exact OB_t h1 (OB_t (OB_s _ (by omega) (fun z => by omega) (fun z => by rw [h1.1, h1.2.1]; omega)) (OB_c _ (Or.inl rfl)))
  · cases q : tkb v i (io v i 3 / 4) with
    | none => rw [q] at h; cases h
    | some v1 =>
      rw [q] at h
      cases h
      have h1 := OB_tkb w hk q
      exact OB_t h1 (OB_t (OB_l v1 (by omega) (fun _ => by rw [h1.1, h1.2.1]; exact ht)) (OB_c _ (Or.inr rfl)))
theorem tl_in {v : Nat → Nat} (wb : wfb v) (wT : wfT v) {i : Nat} (hi : i < 24) : io v i 4 + io v i 3 % 4 ≤ 4 * (v 0 * v 1) := by
  have h1 := (wb i hi).1
  have h2 := wT i hi
  omega
theorem OB_cgr {v v' : Nat → Nat} (w : wf v) (wb : wfb v) (wT : wfT v) {i size : Nat} (hi : i < 24) (hsz : io v i 3 < size) (hs40 : size ≤ 40) (h : cgr v i size = some v') : OB v v' := by
  have ht := tl_in wb wT hi
  have hgb := wf_gb w.1
  by_cases c : size / 4 = io v i 3 / 4
  · unfold cgr at h
    rw [if_pos c] at h
    exact OB_wdn w hi (by omega) (by omega) ht h
  · rw [cgr_b (by omega)] at h
    cases q : fst1 v i with
    | none => rw [q] at h; cases h
    | some v1 =>
      rw [q] at h
      dsimp only at h
      have h1 : OB v v1 ∧ wf v1 := by
        unfold fst1 at q
        split at q
        · exact ⟨OB_fil w wb hi (by omega) ht q, (wf_fil w hi (by omega) (by omega) q).1⟩
        · exact ⟨OB_tkb w (by omega) q, wf_tkb w (by omega) q⟩
      unfold cg2 at h
      cases q2 : tks v1 i (size / 4 - (io v i 3 / 4 + 1)) (io v i 3 / 4 + 1) with
      | none => rw [q2] at h; cases h
      | some v2 =>
        rw [q2] at h
        dsimp only at h
        have h2 := OB_tks hi _ _ h1.2 (by omega) q2
        have w2 := (wf_tks hi _ _ h1.2 (by omega) q2).1
        split at h
        · cases h; exact OB_t h1.1 h2
        · exact OB_t h1.1 (OB_t h2 (OB_tkt w2 (by omega) (by omega) h))
theorem OB_grw {v v' : Nat → Nat} (w : wf v) (wb : wfb v) (wT : wfT v) {i n : Nat} (hi : i < 24) (hn : 1 ≤ n) (h : grw v i n = some v') : OB v v' := by
  unfold grw at h
  split at h
  · cases h
  · next c =>
    cases q : cgr v i (io v i 3 + n) with
    | none => rw [q] at h; cases h
    | some v1 =>
      rw [q] at h
      cases h
      exact OB_t (OB_cgr w wb wT hi (by omega) (by omega) q) (OB_s _ (by decide) (fun z => by omega) (fun z => by omega))
theorem chn_sub {v v' : Nat → Nat} (h0 : v' 0 = v 0) (h2 : v' 2 = v 2) (hk : ∀ k, k ≠ 0 → k < v 0 * v 2 → io v k 0 ≠ 0 → io v' k 0 ≠ 0 ∧ io v' k 1 = io v k 1) : ∀ n k, chn v n k → chn v' n k := by
  intro n
  induction n with
  | zero => intro k h; exact h
  | succ n ih =>
    intro k h
    obtain ⟨q1, q2, q3, q4⟩ := h
    obtain ⟨z1, z2⟩ := hk k q1 q2 q3
    refine ⟨q1, by rw [h0, h2]; exact q2, z1, ?_⟩
    rw [z2]
    exact ih _ q4
theorem inv_of {v v' : Nat → Nat} (iv : inv v) (h1 : ivr v') (h2 : v' 2 = v 2) (ho : OB v v') (hk : ∀ k f, f < 2 → io v' k f = io v k f) : inv v' := by
  obtain ⟨-, ⟨d1, d2⟩, wo, wz, wb, r0⟩ := iv
  refine ⟨h1, ⟨by rw [hk 0 1 (by decide)]; exact d1, fun k hk2 hth => ?_⟩, ho.2.2.1 wo, fun i h3 h4 => ?_, ho.2.2.2 wb, by rw [hk 0 0 (by decide)]; exact r0⟩
  · rw [ho.1, h2] at hk2
    rw [hk k 0 (by decide)] at hth
    obtain ⟨n, hn, hc⟩ := d2 k hk2 hth
    exact ⟨n, hn, chn_sub ho.1 h2 (fun j _ _ q => ⟨by rw [hk j 0 (by decide)]; exact q, hk j 1 (by decide)⟩) n k hc⟩
  · rw [ho.1, h2] at h3
    rw [hk i 0 (by decide)]
    exact wz i h3 h4
theorem inv_grw {v v' : Nat → Nat} (iv : inv v) {i n : Nat} (hi : i < 24) (hn : 1 ≤ n) (h : grw v i n = some v') : inv v' := by
  have hkp := (kp_grw iv.1.1 iv.1.2.2 hi hn h).1
  exact inv_of iv (ivr_grw iv.1 hi hn h) (hkp.2 2 (by decide)) (OB_grw iv.1.1 iv.2.2.2.2.1 iv.1.2.2 hi hn h) (fun k f hf => hkp.1 k f (by omega) (Or.inr (by omega)))
theorem inv_mks {v v' : Nat → Nat} (iv : inv v) {d nm kind i : Nat} (hd : d < v 0 * v 2) (hd1 : io v d 0 ≠ 0) (hnm : nm < 2 ^ 32) (hkd : kind = 1 ∨ kind = 2) (h : mks v d nm kind = some (i, v')) : inv v' := by
  have w := iv.1.1
  have hgi := wf_gi w.1
  have hgb := wf_gb w.1
  have hge := gb_ge w.1.1.1 w.1.2.1.1
  have iv1 := ivr_mks iv.1 (by omega) hnm hkd h
  obtain ⟨g, at_, q1, q2, q3, q4, rfl, q5, q6⟩ := mks_of w.1 h
  obtain ⟨hi1, hi2, -, -⟩ := fni_lt q6 q4
  have hio := fun j f (hf : f < 15) => io_mkv v i d nm kind at_ j f hf (by omega)
  have hc := fun c (hc : c < 8) => mkv_c v (i := i) (d := d) (nm := nm) (kind := kind) (at_ := at_) hc
  obtain ⟨-, ⟨d1, d2⟩, wo, wz, wb, r0⟩ := iv
  have hi0 : i ≠ 0 := fun q => by rw [q, r0] at hi2; cases hi2
  have hOB : OB v (mkv v i d nm kind at_) := by
    refine OB_m (hc 0 (by decide)) (hc 1 (by decide)) (fun y h1 h2 h3 => ?_) (fun j f h4 h5 _ => ?_)
    · rcases hkd with rfl | rfl
      · rw [fr_mk1 v h2]
        unfold setq
        split
        · rfl
        · exact h3
      · rw [fr_mk2 v h2]; exact h3
    · rw [hio j f h5]
      split
      · rw [if_neg (by omega), if_neg (by omega), if_neg (by omega), if_neg (by omega)]
        split
        · exact Or.inr (Or.inl ⟨by omega, q5⟩)
        · exact Or.inl rfl
      · exact Or.inl rfl
  have sub := chn_sub (v := v) (v' := mkv v i d nm kind at_) (hc 0 (by decide)) (hc 2 (by decide)) (fun k _ _ hth => by
    have : k ≠ i := fun q => hth (by rw [q]; exact hi2)
    rw [hio k 0 (by decide), hio k 1 (by decide), if_neg this, if_neg this]
    exact ⟨hth, rfl⟩)
  refine ⟨iv1, ⟨?_, fun k hk hth => ?_⟩, hOB.2.2.1 wo, fun j h1 h2 => ?_, hOB.2.2.2 wb, ?_⟩
  · rw [hio 0 1 (by decide), if_neg (Ne.symm hi0)]; exact d1
  · rw [hc 0 (by decide), hc 2 (by decide)] at hk
    by_cases e : k = i
    · subst e
      obtain ⟨n, hn, hcn⟩ := d2 d hd hd1
      have hch : chn (mkv v k d nm kind at_) (n + 1) k := by
        refine ⟨hi0, by rw [hc 0 (by decide), hc 2 (by decide)]; exact hk, hth, ?_⟩
        rw [hio k 1 (by decide), if_pos rfl, if_neg (by decide), if_pos rfl]
        exact sub n d hcn
      have := chn_lt iv1.1.1 hch
      rw [hc 0 (by decide), hc 2 (by decide)] at this
      exact ⟨n + 1, by omega, hch⟩
    · rw [hio k 0 (by decide), if_neg e] at hth
      obtain ⟨n, hn, hcn⟩ := d2 k hk hth
      exact ⟨n, hn, sub n k hcn⟩
  · rw [hc 0 (by decide), hc 2 (by decide)] at h1
    rw [hio j 0 (by decide), if_neg (by omega)]
    exact wz j h1 h2
  · rw [hio 0 0 (by decide), if_neg (Ne.symm hi0)]; exact r0
theorem OB_frb {i : Nat} (hi : i < 24) : ∀ m k {u : Nat → Nat}, wf u → wfb u → k + m ≤ 10 → OB u (frb u i m k) := by
  intro m
  induction m with
  | zero => intro k u _ _ _; exact OB_r u
  | succ m ih =>
    intro k u w wb hk
    have hgb := wf_gb w.1
    have hb := (wb i hi).2 k (by omega)
    simp only [frb]
    have h1 : OB u (lta u (4 * io u i (5 + k)) true 4) := OB_l u (by omega) (fun _ => by omega)
    exact OB_t h1 (ih (k + 1) (wf_lta w true (by omega)) (h1.2.2.2 wb) (by omega))
theorem inv_rmv {v : Nat → Nat} (iv : inv v) {i : Nat} (hi : i < v 0 * v 2) (hi0 : i ≠ 0) (ho : hso v i = false) : inv (rmv v i) := by
  have w := iv.1.1
  have hgi := wf_gi w.1
  have hgb := wf_gb w.1
  have hs40 := wf_s w (show i < 24 by omega)
  have htl := tl_in iv.2.2.2.2.1 iv.1.2.2 (show i < 24 by omega)
  have iv1 := ivr_rmv iv.1 (show i < 24 by omega)
  have h1 : OB v (lta v (io v i 4) true (io v i 3 % 4)) := OB_l v (by omega) (fun _ => htl)
  have wl := wf_lta w true (x := io v i 4) (n := io v i 3 % 4) (by omega)
  have hf1 := frb_p (i := i) (by omega) (io v i 3 / 4) 0 wl (by omega)
  have hOB : OB v (rmv v i) := OB_t h1 (OB_t (OB_frb (by omega) _ _ wl (h1.2.2.2 iv.2.2.2.2.1) (by omega)) (OB_s _ (by decide) (fun z => by omega) (fun z => by omega)))
  have hio : ∀ j f, f < 15 → io (rmv v i) j f = if j = i ∧ f = 0 then 0 else io v j f := by
    intro j f hf
    unfold rmv
    rw [io_u _ (by decide) hf, hf1.2.2, io_lta _ _ (by omega)]
  have hc2 : rmv v i 2 = v 2 := by
    unfold rmv
    rw [vu_n _ _ _ _ (by omega), frb_c _ _ _ _ (by decide), lta_out _ _ _ _ _ (by omega)]
  obtain ⟨-, ⟨d1, d2⟩, wo, wz, wb, r0⟩ := iv
  have hno : ∀ k, 1 ≤ k → k < v 0 * v 2 → io v k 0 ≠ 0 → io v k 1 ≠ i := by
    intro k k1 k2 k3 k4
    have := anyB_t (p := fun j => decide (1 ≤ j ∧ io v j 0 ≠ 0 ∧ io v j 1 = i)) (v 0 * v 2) k k2 (decide_eq_true ⟨k1, k3, k4⟩)
    rw [show anyB (fun j => decide (1 ≤ j ∧ io v j 0 ≠ 0 ∧ io v j 1 = i)) (v 0 * v 2) = hso v i from rfl, ho] at this
    cases this
  have sub : ∀ n k, k ≠ i → chn v n k → chn (rmv v i) n k := by
    intro n
    induction n with
    | zero => intro k _ h; exact h
    | succ n ih =>
      intro k hk h
      obtain ⟨q1, q2, q3, q4⟩ := h
      refine ⟨q1, by rw [hOB.1, hc2]; exact q2, by rw [hio k 0 (by decide), if_neg (by omega)]; exact q3, ?_⟩
      rw [hio k 1 (by decide), if_neg (by omega)]
      exact ih _ (hno k (by omega) q2 q3) q4
  refine ⟨iv1, ⟨?_, fun k hk hth => ?_⟩, hOB.2.2.1 wo, fun j h1 h2 => ?_, hOB.2.2.2 wb, ?_⟩
  · rw [hio 0 1 (by decide), if_neg (by omega)]; exact d1
  · rw [hOB.1, hc2] at hk
    rw [hio k 0 (by decide)] at hth
    split at hth
    · exact absurd rfl hth
    · next e =>
      obtain ⟨n, hn, hcn⟩ := d2 k hk hth
      exact ⟨n, hn, sub n k (fun q => e ⟨q, rfl⟩) hcn⟩
  · rw [hOB.1, hc2] at h1
    rw [hio j 0 (by decide)]
    split
    · rfl
    · exact wz j h1 h2
  · rw [hio 0 0 (by decide), if_neg (by omega)]; exact r0
theorem inv_mvv {v : Nat → Nat} (iv : inv v) {i d nm n : Nat} (hi : i < v 0 * v 2) (hi0 : i ≠ 0) (hth : io v i 0 ≠ 0) (hd : d < v 0 * v 2) (hnm : nm < 2 ^ 32) (hc : chn v n d) (hw : wth v i n d = false) : inv (mvv v i d nm) := by
  have w := iv.1.1
  have hgi := wf_gi w.1
  have hio := fun j f (hf : f < 15) => io_mvv v i d nm j f hf
  have h0 := mvv_c v (i := i) (d := d) (nm := nm) (c := 0) (by decide)
  have h1 := mvv_c v (i := i) (d := d) (nm := nm) (c := 1) (by decide)
  have h2 := mvv_c v (i := i) (d := d) (nm := nm) (c := 2) (by decide)
  have hch := chn_mvv (nm := nm) hi0 hi hth hc hw
  have hOB : OB v (mvv v i d nm) := OB_t (OB_s v (by decide) (fun z => by omega) (fun z => by omega)) (OB_s _ (by decide) (fun z => by omega) (fun z => by omega))
  have w1 : wf (mvv v i d nm) := wf_mvv w
  obtain ⟨⟨-, wp, wT⟩, ⟨d1, d2⟩, wo, wz, wb, r0⟩ := iv
  have all : ∀ m k, chn v m k → ∃ l, chn (mvv v i d nm) l k := by
    intro m
    induction m with
    | zero => intro k h; exact ⟨0, h⟩
    | succ m ih =>
      intro k h
      by_cases e : k = i
      · rw [e]; exact ⟨_, hch⟩
      · obtain ⟨q1, q2, q3, q4⟩ := h
        obtain ⟨l, hl⟩ := ih _ q4
        refine ⟨l + 1, q1, by rw [h0, h2]; exact q2, by rw [hio k 0 (by decide), if_neg (by omega), if_neg (by omega)]; exact q3, ?_⟩
        rw [hio k 1 (by decide), if_neg (by omega), if_neg (by omega)]
        exact hl
  refine ⟨⟨w1, fun j hj => ?_, fun j hj => ?_⟩, ⟨?_, fun k hk hth2 => ?_⟩, hOB.2.2.1 wo, fun j h3 h4 => ?_, hOB.2.2.2 wb, ?_⟩
  · rw [hio j 1 (by decide), hio j 2 (by decide)]
    have := wp j hj
    constructor
    · split
      · omega
      · rw [if_neg (by omega)]; exact this.1
    · rw [if_neg (by omega)]
      split
      · exact hnm
      · exact this.2
  · rw [hio j 4 (by decide), hio j 3 (by decide), if_neg (by omega), if_neg (by omega), if_neg (by omega), if_neg (by omega)]
    exact wT j hj
  · rw [hio 0 1 (by decide), if_neg (by omega), if_neg (by omega)]; exact d1
  · rw [h0, h2] at hk
    rw [hio k 0 (by decide), if_neg (by omega), if_neg (by omega)] at hth2
    obtain ⟨m, -, hcm⟩ := d2 k hk hth2
    obtain ⟨l, hl⟩ := all m k hcm
    have := chn_lt w1.1 hl
    rw [h0, h2] at this
    exact ⟨l, by omega, hl⟩
  · rw [h0, h2] at h3
    rw [hio j 0 (by decide), if_neg (by omega), if_neg (by omega)]
    exact wz j h3 h4
  · rw [hio 0 0 (by decide), if_neg (by omega), if_neg (by omega)]; exact r0
theorem inv_mvF {v : Nat → Nat} (iv : inv v) {i d nm : Nat} (hi : i < v 0 * v 2) (hi0 : i ≠ 0) (hth : io v i 0 ≠ 0) (hd : d < v 0 * v 2) (hd1 : io v d 0 ≠ 0) (hnm : nm < 2 ^ 32) (hw : wthF v i 24 d = false) : inv (mvv v i d nm) := by
  obtain ⟨n, hn, hc⟩ := iv.2.1.2 d hd hd1
  rw [wthF_eq v i n 24 d hc hn] at hw
  exact inv_mvv iv hi hi0 hth hd hnm hc hw
theorem OB_gts {i G P : Nat} (hi : i < 24) : ∀ m k {u : Nat → Nat}, wf u → k + m ≤ 10 → (∀ j, k ≤ j → j < k + m → nwb u G P j < u 0 * u 1) → OB u (gts u i G P m k) := by
  intro m
  induction m with
  | zero => intro k u _ _ _; exact OB_r u
  | succ m ih =>
    intro k u w hk hn
    have hgb := wf_gb w.1
    have hnk := hn k (by omega) (by omega)
    have e : u 1 * G + P + k * (1 + u 3) = nwb u G P k := rfl
    simp only [gts]
    rw [e]
    have h1 : OB u (vf_upd u (136 + 15 * i + (5 + k)) (nwb u G P k)) := OB_s u (by omega) (fun z => by omega) (fun _ => hnk)
    have h2 : OB (vf_upd u (136 + 15 * i + (5 + k)) (nwb u G P k)) (lta (vf_upd u (136 + 15 * i + (5 + k)) (nwb u G P k)) (4 * nwb u G P k) false 4) := OB_l _ (by omega) (fun z => by cases z)
    refine OB_t h1 (OB_t h2 (ih (k + 1) (wf_lta (wf_set w (by omega) (fun z => by omega) (fun z => by omega) (fun z => by omega) (fun _ => by omega)) false (by omega)) (by omega) (fun j j1 j2 => ?_)))
    have e2 : nwb (lta (vf_upd u (136 + 15 * i + (5 + k)) (nwb u G P k)) (4 * nwb u G P k) false 4) G P j = nwb u G P j := by
      unfold nwb
      rw [c_v _ _ (by decide), c_v _ _ (by decide)]
    rw [e2, c_v _ _ (by decide), c_v _ _ (by decide)]
    exact hn j (by omega) (by omega)
theorem inv_gth {v : Nat → Nat} (iv : inv v) {i G P : Nat} (hi : i < v 0 * v 2) (hG : G < v 0) (hr : rfr v G P (io v i 3 / 4) = true) : inv (gth v i G P) := by
  have w := iv.1.1
  have hgi := wf_gi w.1
  have hgb := wf_gb w.1
  have hs40 := wf_s w (show i < 24 by omega)
  have hnw : ∀ k, k < io v i 3 / 4 → nwb v G P k < v 0 * v 1 := by
    intro k hk
    have h1 := gb_lt hG (rfr_of hr hk).1
    unfold nwb
    rw [Nat.add_assoc]
    omega
  obtain ⟨gw, -, gio, gio5, gc, g7⟩ := gth_wf (G := G) (P := P) w (show i < 24 by omega) (fun k hk => by have := hnw k hk; omega)
  have f1 := OB_frb (i := i) (by omega) (io v i 3 / 4) 0 w iv.2.2.2.2.1 (by omega)
  have f2 := frb_p (i := i) (by omega) (io v i 3 / 4) 0 w (by omega)
  have fc := fun c hc => frb_c (i := i) (io v i 3 / 4) 0 v c hc
  have f3 := OB_gts (i := i) (G := G) (P := P) (by omega) (io v i 3 / 4) 0 f2.1 (by omega) (fun j _ hj => by
    have e2 : nwb (frb v i (io v i 3 / 4) 0) G P j = nwb v G P j := by unfold nwb; rw [fc 1 (by decide), fc 3 (by decide)]
    rw [e2, fc 0 (by decide), fc 1 (by decide)]
    exact hnw j (by omega))
  refine inv_of iv ⟨gw, fun j hj => ?_, fun j hj => ?_⟩ (gc 2 (by decide)) (OB_t f1 (OB_t f3 (OB_c _ (Or.inr rfl)))) (fun k f hf => gio k f (by omega) (Or.inr (by omega)))
  · rw [gio j 1 (by decide) (Or.inr (by decide)), gio j 2 (by decide) (Or.inr (by decide))]
    exact iv.1.2.1 j hj
  · rw [gio j 4 (by decide) (Or.inr (by decide)), gio j 3 (by decide) (Or.inr (by decide))]
    exact iv.1.2.2 j hj
theorem inv_shr {v : Nat → Nat} (iv : inv v) {i n : Nat} (hi : i < v 0 * v 2) (hn1 : 1 ≤ n) (hn : n ≤ io v i 3) : inv (shr v i n) := by
  have w := iv.1.1
  have wB := iv.2.2.2.2.1
  have hgi := wf_gi w.1
  have hgb := wf_gb w.1
  have hs40 := wf_s w (show i < 24 by omega)
  have htl := tl_in wB iv.1.2.2 (show i < 24 by omega)
  have hT := iv.1.2.2 i (by omega)
  have h4 := (w.2.2 i (by omega)).2.2.1
  generalize hsz : io v i 3 - n = sz1
  have hlt : sz1 < io v i 3 := by omega
  have hb10 := (wB i (by omega)).2 (sz1 / 4) (by omega)
  have h1 : OB v (lta v (io v i 4) true (io v i 3 % 4)) := OB_l v (by omega) (fun _ => htl)
  have wl := wf_lta w true (x := io v i 4) (n := io v i 3 % 4) (by omega)
  have hf1 := frb_p (i := i) (by omega) (io v i 3 / 4 - sz1 / 4) (sz1 / 4) wl (by omega)
  have hfo := OB_frb (i := i) (by omega) (io v i 3 / 4 - sz1 / 4) (sz1 / 4) wl (h1.2.2.2 wB) (by omega)
  have hio : ∀ j f, f < 15 → io (shr v i n) j f = if j = i ∧ f = 3 then sz1 else if j = i ∧ f = 4 ∧ sz1 / 4 < io v i 3 / 4 then 4 * io v i (5 + sz1 / 4) else io v j f := by
    intro j f hf
    unfold shr
    rw [hsz, io_u _ (by decide) hf]
    by_cases e1 : j = i ∧ f = 3
    · rw [if_pos e1, if_pos e1]
    · rw [if_neg e1, if_neg e1]
      by_cases e2 : sz1 / 4 = io v i 3 / 4
      · rw [if_pos e2, io_lta _ _ (by omega), if_neg (by omega)]
      · rw [if_neg e2, io_lta _ _ (by omega), io_u _ (by decide) hf, hf1.2.2, io_lta _ _ (by omega)]
        by_cases e3 : j = i ∧ f = 4
        · rw [if_pos e3, if_pos ⟨e3.1, e3.2, by omega⟩]
        · rw [if_neg e3, if_neg (fun q => e3 ⟨q.1, q.2.1⟩)]
  have hh : wf (shr v i n) ∧ OB v (shr v i n) ∧ shr v i n 2 = v 2 := by
    unfold shr
    rw [hsz]
    by_cases e2 : sz1 / 4 = io v i 3 / 4
    · rw [if_pos e2]
      refine ⟨wf_set (wf_lta w true (by omega)) (by decide) (fun z => by omega) (fun z => by omega) (fun z => by omega) (fun z => by omega), OB_t (OB_l v (by omega) (fun _ => by omega)) (OB_s _ (by decide) (fun z => by omega) (fun z => by omega)), ?_⟩
      rw [vu_n _ _ _ _ (by omega), lta_out _ _ _ _ _ (by omega)]
    · rw [if_neg e2]
      have hc0 := h1.1
      have hc1 := h1.2.1
      have k1 := OB_t h1 hfo
      have k2 : OB (frb (lta v (io v i 4) true (io v i 3 % 4)) i (io v i 3 / 4 - sz1 / 4) (sz1 / 4)) (vf_upd (frb (lta v (io v i 4) true (io v i 3 % 4)) i (io v i 3 / 4 - sz1 / 4) (sz1 / 4)) (136 + 15 * i + 4) (4 * io v i (5 + sz1 / 4))) := OB_s _ (by decide) (fun _ => by rw [k1.1, k1.2.1]; omega) (fun z => by omega)
      refine ⟨wf_set (wf_lta (wf_set hf1.1 (by decide) (fun z => by omega) (fun z => by omega) (fun _ => by omega) (fun z => by omega)) false (by omega)) (by decide) (fun z => by omega) (fun z => by omega) (fun z => by omega) (fun z => by omega), OB_t k1 (OB_t k2 (OB_t (OB_l _ (by omega) (fun z => by cases z)) (OB_s _ (by decide) (fun z => by omega) (fun z => by omega)))), ?_⟩
      rw [vu_n _ _ _ _ (by omega), lta_out _ _ _ _ _ (by omega), vu_n _ _ _ _ (by omega), frb_c _ _ _ _ (by decide), lta_out _ _ _ _ _ (by omega)]
  refine inv_of iv ⟨hh.1, fun j hj => ?_, fun j hj => ?_⟩ hh.2.2 hh.2.1 (fun k f hf => by rw [hio k f (by omega), if_neg (by omega), if_neg (by omega)])
  · rw [hio j 1 (by decide), hio j 2 (by decide), if_neg (by omega), if_neg (by omega), if_neg (by omega), if_neg (by omega)]
    exact iv.1.2.1 j hj
  · rw [hio j 4 (by decide), hio j 3 (by decide), if_neg (show ¬ (j = i ∧ 4 = 3) by omega), if_neg (show ¬ (j = i ∧ 3 = 4 ∧ sz1 / 4 < io v i 3 / 4) by omega)]
    by_cases e : j = i
    · subst e
      rw [if_pos (show j = j ∧ 3 = 3 from ⟨rfl, rfl⟩)]
      split
      · omega
      · omega
    · rw [if_neg (fun q => e q.1), if_neg (fun q => e q.1)]
      exact iv.1.2.2 j hj
