/-! WHAT ALWAYS HOLDS: the calls keep it; a text's volume is never spoilt -/
def Inv (v : Nat → Nat) : Prop := inv v ∧ tdy v
theorem tdy_sb {v v' : Nat → Nat} (h : tdy v) (hs : sb v v') : tdy v' := fun c hc => by rw [hs c hc]; exact h c hc
theorem Inv_make {v : Nat → Nat} (h : Inv v) (x y z : Int32) : Inv (s_make v x y z).2 := by
  unfold s_make
  split
  · next q =>
    split
    · exact h
    · obtain ⟨d, hd, rfl, hd1⟩ := isDir_of h.1.1.1.1 q.1
      obtain ⟨nm, -, hnm, rfl⟩ := inR_of (by decide) q.2.1
      obtain ⟨kd, hk1, hk2, rfl⟩ := inR_of (by decide) q.2.2
      have hgi := wf_gi h.1.1.1.1
      rw [nI_clamp (by omega), nI_clamp (by omega), nI_clamp (by omega)]
      cases c : mks v d nm kd with
      | none => exact h
      | some p => exact ⟨inv_mks h.1 hd (by omega) (by omega) (by omega) (i := p.1) (v' := p.2) c, tdy_sb h.2 (sb_mks h.1.1.1.1 (i := p.1) (v1 := p.2) c)⟩
  · exact h
theorem Inv_grow {v : Nat → Nat} (h : Inv v) (x y : Int32) : Inv (s_grow v x y).2 := by
  unfold s_grow
  split
  · next q =>
    split
    · exact h
    · obtain ⟨i, hi, rfl, hi2⟩ := isFil_of h.1.1.1.1 q.1
      obtain ⟨n, hn1, hn, rfl⟩ := inR_of (by decide) q.2
      have hgi := wf_gi h.1.1.1.1
      rw [nI_clamp (by omega), nI_clamp (by omega)]
      cases c : grw v i n with
      | none => exact h
      | some v' => exact ⟨inv_grw h.1 (by omega) hn1 c, tdy_sb h.2 (wf_grw h.1.1.1 h.1.1.2.2 (by omega) hn1 c).2⟩
  · exact h
theorem sb_frb {i : Nat} (hi : i < 24) {m k : Nat} {v : Nat → Nat} (w : wf v) (hk : k + m ≤ 10) : sb v (frb v i m k) := (frb_p hi m k w hk).2.1
theorem Inv_shrink {v : Nat → Nat} (h : Inv v) (x y : Int32) : Inv (s_shrink v x y).2 := by
  unfold s_shrink
  split
  · next q =>
    split
    · exact h
    · obtain ⟨i, hi, rfl, hi2⟩ := isFil_of h.1.1.1.1 q.1
      have hgi := wf_gi h.1.1.1.1
      have hs40 := wf_s h.1.1.1 (show i < 24 by omega)
      have q2 := q.2
      rw [nI_clamp (by omega)] at q2
      obtain ⟨n, hn1, hn, rfl⟩ := inR_of (by omega) q2
      rw [nI_clamp (by omega), nI_clamp (by omega)]
      refine ⟨inv_shr h.1 hi hn1 hn, tdy_sb h.2 ?_⟩
      have w := h.1.1.1
      have hgb := wf_gb w.1
      have htl := tl_in h.1.2.2.2.2.1 h.1.1.2.2 (show i < 24 by omega)
      have hb10 := (w.2.2 i (by omega)).2.2.2 ((io v i 3 - n) / 4) (by omega)
      unfold shr
      refine sb_t ?_ (sb_u _ (by omega))
      split
      · exact sb_l v true (by omega)
      · exact sb_t (sb_t (sb_l v true (by omega)) (sb_frb (by omega) (wf_lta w true (by omega)) (by omega))) (sb_t (sb_u _ (by omega)) (sb_l _ false (by omega)))
  · exact h
theorem Inv_remove {v : Nat → Nat} (h : Inv v) (x : Int32) : Inv (s_remove v x).2 := by
  unfold s_remove
  split
  · next q =>
    split
    · exact h
    · next q2 =>
      obtain ⟨i, hi, rfl, hth⟩ := there_of h.1.1.1.1 q
      have w := h.1.1.1
      have hgi := wf_gi w.1
      have hgb := wf_gb w.1
      have hs40 := wf_s w (show i < 24 by omega)
      have htl := tl_in h.1.2.2.2.2.1 h.1.1.2.2 (show i < 24 by omega)
      rw [nI_clamp (by omega)] at q2
      rw [nI_clamp (by omega)]
      refine ⟨inv_rmv h.1 hi (fun z => q2 (Or.inr (Or.inl (by rw [z]; rfl)))) (Bool.eq_false_iff.mpr (fun z => q2 (Or.inr (Or.inr z)))), tdy_sb h.2 ?_⟩
      unfold rmv
      exact sb_t (sb_t (sb_l v true (by omega)) (sb_frb (by omega) (wf_lta w true (by omega)) (by omega))) (sb_u _ (by omega))
  · exact h
theorem Inv_move {v : Nat → Nat} (h : Inv v) (x y z : Int32) : Inv (s_move v x y z).2 := by
  unfold s_move
  split
  · next q =>
    split
    · exact h
    · next q2 =>
      obtain ⟨i, hi, rfl, hth⟩ := there_of h.1.1.1.1 q.1
      obtain ⟨d, hd, rfl, hd1⟩ := isDir_of h.1.1.1.1 q.2.1
      obtain ⟨nm, -, hnm, rfl⟩ := inR_of (by decide) q.2.2
      have hgi := wf_gi h.1.1.1.1
      rw [nI_clamp (by omega), nI_clamp (by omega), nI_clamp (by omega)] at q2
      rw [nI_clamp (by omega), nI_clamp (by omega), nI_clamp (by omega)]
      refine ⟨inv_mvF h.1 hi (fun z => q2 (Or.inr (Or.inl (by rw [z]; rfl)))) hth hd (by omega) (by omega) (Bool.eq_false_iff.mpr (fun z => q2 (Or.inr (Or.inr (Or.inl z))))), tdy_sb h.2 ?_⟩
      unfold mvv
      exact sb_t (sb_u v (by omega)) (sb_u _ (by omega))
  · exact h
theorem Inv_gather {v : Nat → Nat} (h : Inv v) (x : Int32) : Inv (s_gather v x).2 := by
  unfold s_gather
  split
  · next q =>
    split
    · exact h
    · obtain ⟨i, hi, rfl, hi2⟩ := isFil_of h.1.1.1.1 q
      have w := h.1.1.1
      have hgi := wf_gi w.1
      have hgb := wf_gb w.1
      rw [nI_clamp (by omega)]
      cases c : gfind v i with
      | none => exact h
      | some gp =>
        obtain ⟨j, -, -, e⟩ := sr_ge _ _ c
        obtain ⟨e1, e2, e3⟩ := gin_of (v := v) (a := bh v (i / v 2) j) (q := io v i 3 / 4) e
        have hG := bh_lt w.1 (i / v 2) j
        rw [← e1] at hG e3
        refine ⟨inv_gth h.1 hi hG e3, tdy_sb h.2 (gth_wf (G := gp.1) (P := gp.2) w (show i < 24 by omega) (fun k hk => ?_)).2.1⟩
        have h1 := gb_lt hG (rfr_of e3 hk).1
        unfold nwb
        rw [Nat.add_assoc]
        omega
  · exact h
theorem Inv_dd {v : Nat → Nat} (h : Inv v) (which a b c : Nat) : Inv (dd v which a b c).2 := by
  unfold dd
  split
  · exact Inv_make h _ _ _
  · split
    · split
      · exact Inv_make h _ _ _
      · exact Inv_grow (Inv_make h _ _ _) _ _
    · split
      · exact Inv_grow h _ _
      · exact Inv_remove h _
theorem Inv_drw (nx : Int32 → Int32) (o : Int32 → Nat) : ∀ n v s m, Inv v → Inv (drw nx o n v s m).2 := by
  intro n
  induction n with
  | zero => intro v s m h; exact h
  | succ n ih => intro v s m h; rw [drw]; exact ih _ _ _ (Inv_dd h _ _ _ _)
theorem Inv_draw {v : Nat → Nat} (h : Inv v) (s n : Int32) : Inv (s_draw v s n).2 := by
  unfold s_draw
  split
  · split
    · exact h
    · exact Inv_drw _ _ _ _ _ _ h
  · exact h
theorem Inv_flip {v : Nat → Nat} (h : Inv v) (x : Int32) : Inv (s_flip v x).2 := by
  unfold s_flip
  split
  · next q =>
    have w := h.1.1.1
    have hgb := wf_gb w.1
    have hge := gb_ge w.1.1.1 w.1.2.1.1
    have q' := q
    rw [fragI] at q'
    obtain ⟨k, -, hk, rfl⟩ := inR_of (by omega) q'
    rw [nI_clamp (by omega)]
    have hio : ∀ y i f, io (vf_upd v (8 + k) y) i f = io v i f := fun y i f => vu_n _ _ _ _ (by omega)
    have hc : ∀ y c, c < 8 → vf_upd v (8 + k) y c = v c := fun y c hc => vu_n _ _ _ _ (by omega)
    generalize hy : (if fr v k = true then 0 else 1) = y
    have hy1 : y ≤ 1 := by rw [← hy]; split <;> omega
    have wf1 : wf (vf_upd v (8 + k) y) := by
      obtain ⟨w1, w2, w3⟩ := w
      refine ⟨?_, fun z hz => ?_, fun i hi => ?_⟩
      · unfold wfg
        rw [hc y 0 (by decide), hc y 1 (by decide), hc y 2 (by decide), hc y 3 (by decide), hc y 4 (by decide), hc y 5 (by decide)]
        exact w1
      · by_cases e : z = k
        · rw [e, vu_s]; exact hy1
        · rw [vu_n _ _ _ _ (by omega)]; exact w2 z hz
      · simp only [hio]
        exact w3 i hi
    refine ⟨inv_of h.1 ⟨wf1, fun j hj => by rw [hio, hio]; exact h.1.1.2.1 j hj, fun j hj => by rw [hio, hio]; exact h.1.1.2.2 j hj⟩ (hc y 2 (by decide)) (OB_m (hc y 0 (by decide)) (hc y 1 (by decide)) (fun z h1 h2 h3 => ?_) (fun j f _ _ _ => Or.inl (hio y j f))) (fun j f _ => hio y j f), tdy_sb h.2 (sb_u v (by omega))⟩
    show decide (vf_upd v (8 + k) y (8 + z) = 1) = false
    rw [vu_n _ _ _ _ (by omega)]
    exact h3
  · exact h
theorem Inv_mend {v : Nat → Nat} (h : Inv v) : Inv (s_mend v).2 := by
  have w := h.1.1.1
  have hgb := wf_gb w.1
  show Inv (mnd v (4 * v 0 * v 1))
  rw [fragI]
  have hio := mnd_io v (4 * (v 0 * v 1)) (by omega)
  have hc := fun c (hc : c < 8) => mnd_c v (4 * (v 0 * v 1)) c (Or.inl hc)
  refine ⟨inv_of h.1 ⟨wf_mnd w _ (by omega), fun j hj => by rw [hio, hio]; exact h.1.1.2.1 j hj, fun j hj => by rw [hio, hio]; exact h.1.1.2.2 j hj⟩ (hc 2 (by decide)) (OB_m (hc 0 (by decide)) (hc 1 (by decide)) (fun z h1 h2 h3 => ?_) (fun j f _ _ _ => Or.inl (hio j f))) (fun j f _ => hio j f), fun c hc => ?_⟩
  · unfold fr at *
    rw [mnd_c v _ _ (Or.inr (by omega))]
    exact h3
  · rw [mnd_c v _ _ (Or.inr (by omega))]
    exact h.2 c hc
theorem anyB_e {p q : Nat → Bool} : ∀ n, (∀ k, k < n → p k = q k) → anyB p n = anyB q n := by
  intro n
  induction n with
  | zero => intro _; rfl
  | succ n ih => intro h; simp only [anyB]; rw [ih (fun k hk => h k (by omega)), h n (by omega)]
theorem anyB_sh (p : Nat → Bool) : ∀ m, anyB p (m + 1) = (p 0 || anyB (fun j => p (j + 1)) m) := by
  intro m
  induction m with
  | zero => simp only [anyB, Bool.false_or, Bool.or_false]
  | succ m ih => rw [anyB_s, ih, anyB_s, Bool.or_assoc]
theorem hasF_e {v v' : Nat → Nat} (w : wf v) {j : Nat} (hj : j < 24) (h : ∀ f, f < 15 → io v' j f = io v j f) (x : Nat) : hasF v' j x = hasF v j x := by
  have es : sz v' j = sz v j := by unfold sz; rw [h 0 (by decide), h 3 (by decide)]
  have h40 := sz_le w hj
  rw [hasF_sz, hasF_sz, es, h 4 (by decide)]
  congr 1
  exact anyB_e _ (fun k hk => by rw [h (5 + k) (by omega)])
theorem hasF_0 {v : Nat → Nat} {j : Nat} (h : sz v j = 0) (x : Nat) : hasF v j x = false := by
  rw [hasF_sz, h]
  rfl
theorem spt_add {v v' : Nat → Nat} {i : Nat} (w : wfg v) (h0 : v' 0 = v 0) (h1 : v' 1 = v 1) (h2 : v' 2 = v 2) (w' : wfg v') (wo : wfo v) (hs : spt v = false) (hi : i < v 0 * v 2) (hj : ∀ j x, j ≠ i → j < 24 → hasF v' j x = hasF v j x) (hn : ∀ x, hasF v i x = false) (hf : ∀ x, x < 128 → fr v' x = (fr v x && !hasF v' i x)) : spt v' = false := by
  have hgi := wf_gi w
  refine spt_t w' (fun x hx => ?_)
  rw [hf x hx, spt_f wo hs hx]
  unfold due
  rw [own_none, own_none, h0, h1, h2]
  cases c : hasF v' i x with
  | true =>
    rw [anyB_t (p := fun i => hasF v' i x) _ i hi c]
    simp
  | false =>
    rw [anyB_e (p := fun i => hasF v' i x) (q := fun i => hasF v i x) (v 0 * v 2) (fun k hk => ?_)]
    · simp
    · by_cases e : k = i
      · rw [e, c, hn]
      · exact hj k x e (by omega)
theorem spt_mks {v v' : Nat → Nat} (iv : inv v) (hs : spt v = false) {d nm kind i : Nat} (hkd : kind = 1 ∨ kind = 2) (h : mks v d nm kind = some (i, v')) : spt v' = false := by
  have w := iv.1.1
  have hgi := wf_gi w.1
  have hgb := wf_gb w.1
  obtain ⟨g, at_, q1, q2, q3, q4, rfl, q5, q6⟩ := mks_of w.1 h
  obtain ⟨hi1, hi2, -, -⟩ := fni_lt q6 q4
  have hio := fun j f (hf : f < 15) => io_mkv v i d nm kind at_ j f hf (by omega)
  have hc := fun c (hc : c < 8) => mkv_c v (i := i) (d := d) (nm := nm) (kind := kind) (at_ := at_) hc
  refine spt_add (i := i) w.1 (hc 0 (by decide)) (hc 1 (by decide)) (hc 2 (by decide)) (wf_mkv w hkd (by omega)).1 iv.2.2.1 hs hi1 (fun j x hj hj2 => hasF_e w hj2 (fun f hf => by rw [hio j f hf, if_neg hj]) x) (fun x => hasF_0 (by unfold sz; rw [if_pos hi2]) x) (fun x hx => ?_)
  have e0 : io (mkv v i d nm kind at_) i 0 = kind := by rw [hio i 0 (by decide), if_pos rfl, if_pos rfl]
  have e3 : io (mkv v i d nm kind at_) i 3 = if kind = 1 then 1 else 0 := by rw [hio i 3 (by decide), if_pos rfl]; rfl
  have e4 : io (mkv v i d nm kind at_) i 4 = at_ := by rw [hio i 4 (by decide), if_pos rfl]; rfl
  have es : sz (mkv v i d nm kind at_) i = if kind = 1 then 1 else 0 := by unfold sz; rw [e0, if_neg (by omega), e3]
  rcases hkd with rfl | rfl
  · rw [fr_mk1 v hx, hasF_sz, es, e4]
    unfold setq
    by_cases z : at_ ≤ x ∧ x < at_ + 1
    · rw [if_pos z, decide_eq_true (show 0 < (if 1 = 1 then 1 else 0) % 4 ∧ at_ ≤ x ∧ x < at_ + (if 1 = 1 then 1 else 0) % 4 from ⟨by decide, z.1, z.2⟩)]
      simp
    · rw [if_neg z, decide_eq_false (show ¬ (0 < (if 1 = 1 then 1 else 0) % 4 ∧ at_ ≤ x ∧ x < at_ + (if 1 = 1 then 1 else 0) % 4) from fun q => z ⟨q.2.1, q.2.2⟩)]
      show fr v x = (fr v x && !false)
      rw [Bool.not_false, Bool.and_true]
  · rw [fr_mk2 v hx, hasF_0 es x, Bool.not_false, Bool.and_true]
theorem tks_f {i : Nat} : ∀ m k {v v2 : Nat → Nat}, wf v → k + m ≤ 10 → tks v i m k = some v2 → (∀ c, c < 8 → v2 c = v c) ∧ (∀ j f, f < 15 → (j ≠ i ∨ f < 5 + k ∨ 5 + k + m ≤ f) → io v2 j f = io v j f) ∧ ∀ y, y < 128 → fr v2 y = (fr v y && !(anyB (fun j => decide (y / 4 = io v2 i (5 + (k + j)))) m)) := by
  intro m
  induction m with
  | zero =>
    intro k v v2 w _ h
    cases h
    exact ⟨fun _ _ => rfl, fun _ _ _ _ => rfl, fun y _ => by simp only [anyB, Bool.not_false, Bool.and_true]⟩
  | succ m ih =>
    intro k v v2 w hk h
    simp only [tks] at h
    cases q : tkb v i k with
    | none => rw [q] at h; cases h
    | some v1 =>
      rw [q] at h
      obtain ⟨x, -, hx, hc, hio, hfr⟩ := tkb_f w (by omega) q
      obtain ⟨r1, r2, r3⟩ := ih (k + 1) (wf_tkb w (by omega) q) (by omega) h
      refine ⟨fun c hc2 => by rw [r1 c hc2, hc c hc2], fun j f hf hj => by rw [r2 j f hf (by omega), hio j f hf, if_neg (by omega)], fun y hy => ?_⟩
      have ek : io v2 i (5 + (k + 0)) = x := by
        show io v2 i (5 + k) = x
        rw [r2 i (5 + k) (by omega) (by omega), hio i (5 + k) (by omega), if_pos ⟨rfl, rfl⟩]
      rw [r3 y hy, hfr y hy, setq_4, anyB_sh, ek]
      have e2 : anyB (fun j => decide (y / 4 = io v2 i (5 + (k + 1 + j)))) m = anyB (fun j => decide (y / 4 = io v2 i (5 + (k + (j + 1))))) m := anyB_e _ (fun j _ => by rw [show k + 1 + j = k + (j + 1) by omega])
      rw [e2]
      by_cases z : y / 4 = x
      · rw [if_pos z, decide_eq_true z]; simp
      · rw [if_neg z, decide_eq_false z]; simp
theorem grw_new {v v' : Nat → Nat} (iv : inv v) {i n : Nat} (hi : i < v 0 * v 2) (hth : io v i 0 ≠ 0) (h3 : io v i 3 = 0) (hn : 1 ≤ n) (h : grw v i n = some v') : (∀ c, c < 8 → v' c = v c) ∧ (∀ j f, f < 15 → j ≠ i → io v' j f = io v j f) ∧ ∀ y, y < 128 → fr v' y = (fr v y && !hasF v' i y) := by
  have w := iv.1.1
  have hgi := wf_gi w.1
  have hgb := wf_gb w.1
  unfold grw at h
  rw [h3, Nat.zero_add] at h
  split at h
  · cases h
  · next c =>
    have hn40 : n ≤ 40 := by omega
    cases q : cgr v i n with
    | none => rw [q] at h; cases h
    | some v1 =>
      rw [q] at h
      cases h
      have key : ∀ v2 x, (∀ c, c < 8 → v1 c = v c) → (∀ j f, f < 15 → j ≠ i ∨ f < 3 → io v1 j f = io v j f) → (n % 4 = 0 ∨ (io v1 i 4 = x)) → (∀ k, k < n / 4 → io v1 i (5 + k) = io v2 i (5 + k)) → (∀ y, y < 128 → fr v1 y = ((fr v y && !(anyB (fun j => decide (y / 4 = io v2 i (5 + j))) (n / 4))) && !(decide (0 < n % 4 ∧ x ≤ y ∧ y < x + n % 4)))) → (∀ c, c < 8 → vf_upd v1 (136 + 15 * i + 3) n c = v c) ∧ (∀ j f, f < 15 → j ≠ i → io (vf_upd v1 (136 + 15 * i + 3) n) j f = io v j f) ∧ ∀ y, y < 128 → fr (vf_upd v1 (136 + 15 * i + 3) n) y = (fr v y && !hasF (vf_upd v1 (136 + 15 * i + 3) n) i y) := by
        intro v2 x k1 k2 k3 k4 k5
        refine ⟨fun c hc => by rw [vu_n _ _ _ _ (by omega), k1 c hc], fun j f hf hj => by rw [io_u _ (by decide) hf, if_neg (by omega), k2 j f hf (Or.inl hj)], fun y hy => ?_⟩
        have es : sz (vf_upd v1 (136 + 15 * i + 3) n) i = n := by
          have e0 : io (vf_upd v1 (136 + 15 * i + 3) n) i 0 = io v1 i 0 := by rw [io_u _ (by decide) (by decide), if_neg (by omega)]
          unfold sz
          rw [e0, k2 i 0 (by decide) (Or.inr (by decide)), if_neg hth, io_u _ (by decide) (by decide), if_pos ⟨rfl, rfl⟩]
        have e4 : io (vf_upd v1 (136 + 15 * i + 3) n) i 4 = io v1 i 4 := by rw [io_u _ (by decide) (by decide), if_neg (by omega)]
        rw [fr_io _ hy, k5 y hy, hasF_sz, es, e4]
        rw [anyB_e (p := fun k => decide (y / 4 = io (vf_upd v1 (136 + 15 * i + 3) n) i (5 + k))) (q := fun j => decide (y / 4 = io v2 i (5 + j))) (n / 4) (fun k hk => by rw [io_u _ (by decide) (by omega), if_neg (by omega), k4 k hk])]
        have ed : decide (0 < n % 4 ∧ io v1 i 4 ≤ y ∧ y < io v1 i 4 + n % 4) = decide (0 < n % 4 ∧ x ≤ y ∧ y < x + n % 4) := by
          rcases k3 with z | z
          · rw [decide_eq_false (by omega), decide_eq_false (by omega)]
          · rw [z]
        rw [ed]
        cases decide (0 < n % 4 ∧ x ≤ y ∧ y < x + n % 4) <;> cases anyB (fun j => decide (y / 4 = io v2 i (5 + j))) (n / 4) <;> cases fr v y <;> rfl
      unfold cgr at q
      rw [h3] at q
      by_cases c4 : n / 4 = 0
      · rw [if_pos (by omega)] at q
        unfold wdn at q
        rw [if_neg (fun z => by omega), h3] at q
        cases q2 : tkt v i (0 / 4) (n % 4) with
        | none => rw [q2] at q; cases q
        | some v3 =>
          rw [q2] at q
          dsimp only at q
          rw [if_neg (by decide)] at q
          cases q
          obtain ⟨x, -, hx, hx2, hc, hio, hfr⟩ := tkt_f w (show 1 ≤ n % 4 by omega) (by omega) q2
          refine key v x hc (fun j f hf hj => by rw [hio j f hf, if_neg (by omega)]) (Or.inr (by rw [hio i 4 (by decide), if_pos ⟨rfl, rfl⟩])) (fun k hk => by omega) (fun y hy => ?_)
          rw [hfr y hy, c4]
          unfold setq
          show _ = ((fr v y && !false) && _)
          rw [Bool.not_false, Bool.and_true]
          by_cases z : x ≤ y ∧ y < x + n % 4
          · rw [if_pos z, decide_eq_true (show 0 < n % 4 ∧ x ≤ y ∧ y < x + n % 4 by omega)]; simp
          · rw [if_neg z, decide_eq_false (fun q => z ⟨q.2.1, q.2.2⟩)]; simp
      · rw [if_neg (by omega)] at q
        simp only [show ¬ 0 < 0 % 4 from by decide, if_false] at q
        rw [show 0 / 4 = 0 from rfl, Nat.sub_zero] at q
        cases q2 : tks v i (n / 4) 0 with
        | none => rw [q2] at q; cases q
        | some v2 =>
          rw [q2] at q
          dsimp only at q
          obtain ⟨r1, r2, r3⟩ := tks_f (n / 4) 0 w (by omega) q2
          have r3' : ∀ y, y < 128 → fr v2 y = (fr v y && !(anyB (fun j => decide (y / 4 = io v2 i (5 + j))) (n / 4))) := fun y hy => by
            rw [r3 y hy]
            simp only [Nat.zero_add]
          have w2 := (wf_tks (show i < 24 by omega) (n / 4) 0 w (by omega) q2).1
          split at q
          · next u0 =>
            cases q
            refine key _ 0 r1 (fun j f hf hj => r2 j f hf (by omega)) (Or.inl u0) (fun k _ => rfl) (fun y hy => ?_)
            rw [r3' y hy, decide_eq_false (show ¬ (0 < n % 4 ∧ 0 ≤ y ∧ y < 0 + n % 4) by omega), Bool.not_false, Bool.and_true]
          · next u0 =>
            obtain ⟨x, -, hx, hx2, hc, hio, hfr⟩ := tkt_f w2 (show 1 ≤ n % 4 by omega) (by omega) q
            refine key v2 x (fun c hc2 => by rw [hc c hc2, r1 c hc2]) (fun j f hf hj => by rw [hio j f hf, if_neg (by omega), r2 j f hf (by omega)]) (Or.inr (by rw [hio i 4 (by decide), if_pos ⟨rfl, rfl⟩])) (fun k hk => by rw [hio i (5 + k) (by omega), if_neg (by omega)]) (fun y hy => ?_)
            rw [hfr y hy]
            unfold setq
            by_cases z : x ≤ y ∧ y < x + n % 4
            · rw [if_pos z, decide_eq_true (show 0 < n % 4 ∧ x ≤ y ∧ y < x + n % 4 by omega)]; simp
            · rw [if_neg z, decide_eq_false (fun q => z ⟨q.2.1, q.2.2⟩), r3' y hy]; simp
theorem spt_grw {v v' : Nat → Nat} (iv : inv v) (hs : spt v = false) {i n : Nat} (hi : i < v 0 * v 2) (hth : io v i 0 ≠ 0) (h3 : io v i 3 = 0) (hn : 1 ≤ n) (h : grw v i n = some v') : spt v' = false ∧ ∀ c, c < 8 → v' c = v c := by
  have w := iv.1.1
  have hgi := wf_gi w.1
  obtain ⟨hc, hio, hfr⟩ := grw_new iv hi hth h3 hn h
  exact ⟨spt_add (i := i) w.1 (hc 0 (by decide)) (hc 1 (by decide)) (hc 2 (by decide)) (wf_grw w iv.1.2.2 (by omega) hn h).1.1 iv.2.2.1 hs hi (fun j x hj hj2 => hasF_e w hj2 (fun f hf => hio j f hf hj) x) (fun x => hasF_0 (by unfold sz; rw [if_neg hth, h3]) x) hfr, hc⟩
