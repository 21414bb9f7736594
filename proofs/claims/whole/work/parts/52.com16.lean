/-! THE CLASS: deeds: shrink, remove, move -/
theorem fr_frb {v : Nat → Nat} (w : wf v) {i : Nat} (hi : i < 24) (y : Nat) : ∀ m k u, k + m ≤ 10 → (∀ j f, io u j f = io v j f) → fr (frb u i m k) y = fbq v i true m k (fr u) y := by
  intro m
  induction m with
  | zero => intro k u _ _; rfl
  | succ m ih =>
    intro k u hk hu
    have hb := (w.2.2 i hi).2.2.2 k (by omega)
    simp only [frb, fbq]
    rw [ih (k + 1) _ (by omega) (fun j f => by rw [io_lta u true (by rw [hu]; omega), hu])]
    congr 1
    funext z
    rw [fr_lta, hu]
theorem setq_e {p q : Nat → Bool} {x n : Nat} {f : Bool} {y : Nat} (h : p y = q y) : setq p x n f y = setq q x n f y := by
  unfold setq
  split
  · rfl
  · exact h
theorem fbq_i (v : Nat → Nat) (i : Nat) (m k : Nat) (q : Nat → Bool) (y : Nat) : fbq v i true m k q y = (q y || anyB (fun j => decide (y / 4 = io v i (5 + (k + j)))) m) := by
  cases c : anyB (fun j => decide (y / 4 = io v i (5 + (k + j)))) m with
  | true =>
    obtain ⟨j, hj, e⟩ := anyB_ex _ c
    rw [fbq_t v i true y m k q (Or.inl ⟨k + j, by omega, by omega, of_decide_eq_true e⟩), Bool.or_true]
  | false =>
    rw [Bool.or_false]
    refine fbq_f v i true y m k q (fun j h1 h2 e => ?_)
    have := anyB_t (p := fun j => decide (y / 4 = io v i (5 + (k + j)))) m (j - k) (by omega) (decide_eq_true (by rw [show k + (j - k) = j by omega]; exact e))
    rw [c] at this
    cases this
theorem own_h {v : Nat → Nat} {i x : Nat} (hi : i < v 0 * v 2) (h : hasF v i x = true) : (own v x).isNone = false := by
  rw [own_none, anyB_t (p := fun i => hasF v i x) _ i hi h]
  rfl
theorem fr_own {v : Nat → Nat} (wo : wfo v) (hs : spt v = false) {i x : Nat} (hx : x < 128) (hi : i < v 0 * v 2) (h : hasF v i x = true) : fr v x = false := by
  rw [spt_f wo hs hx]
  unfold due
  rw [own_h hi h, Bool.and_false]
theorem hasF_t {v : Nat → Nat} {i x : Nat} (h0 : io v i 0 ≠ 0) (h1 : io v i 4 ≤ x) (h2 : x < io v i 4 + io v i 3 % 4) : hasF v i x = true := by
  rw [hasF_sz, sz_t h0, decide_eq_true ⟨by omega, h1, h2⟩, Bool.true_or]
theorem hasF_b {v : Nat → Nat} {i x k : Nat} (h0 : io v i 0 ≠ 0) (hk : k < io v i 3 / 4) (h : x / 4 = io v i (5 + k)) : hasF v i x = true := by
  rw [hasF_sz, sz_t h0, anyB_t (p := fun k => decide (x / 4 = io v i (5 + k))) _ k hk (decide_eq_true h), Bool.or_true]
theorem cnt_lt {p q : Nat → Bool} {i : Nat} (hpq : ∀ x, p x = true → q x = true) (hq : q i = true) (hp : p i = false) : ∀ n, i < n → cnt p n + 1 ≤ cnt q n := by
  have mono : ∀ n, cnt p n ≤ cnt q n := by
    intro n
    induction n with
    | zero => exact Nat.le_refl _
    | succ n ih =>
      simp only [cnt]
      cases c : p n with
      | true => rw [hpq n c]; omega
      | false => simp; omega
  intro n
  induction n with
  | zero => intro h; omega
  | succ n ih =>
    intro h
    simp only [cnt]
    by_cases e : i = n
    · subst e
      have := mono i
      rw [hq, hp]
      simp
      omega
    · have := ih (by omega)
      cases c : p n with
      | true => rw [hpq n c]; simp; omega
      | false => simp; omega
def chB (v : Nat → Nat) : Nat → Nat → Bool
  | 0, k => decide (k = 0)
  | n + 1, k => decide (k ≠ 0 ∧ k < v 0 * v 2 ∧ io v k 0 ≠ 0) && chB v n (io v k 1)
theorem chB_e (v : Nat → Nat) : ∀ n k, chB v n k = true ↔ chn v n k := by
  intro n
  induction n with
  | zero => intro k; simp only [chB, chn]; exact ⟨of_decide_eq_true, decide_eq_true⟩
  | succ n ih =>
    intro k
    simp only [chB, chn, Bool.and_eq_true]
    rw [ih]
    constructor
    · rintro ⟨h1, h2⟩
      have := of_decide_eq_true h1
      exact ⟨this.1, this.2.1, this.2.2, h2⟩
    · rintro ⟨h1, h2, h3, h4⟩
      exact ⟨decide_eq_true ⟨h1, h2, h3⟩, h4⟩
theorem chn_u (v : Nat → Nat) : ∀ a b x, chn v a x → chn v b x → a = b := by
  intro a
  induction a with
  | zero =>
    intro b x h1 h2
    cases b with
    | zero => rfl
    | succ b => exact absurd h1 h2.1
  | succ a ih =>
    intro b x h1 h2
    cases b with
    | zero => exact absurd h2 h1.1
    | succ b => rw [ih b _ h1.2.2.2 h2.2.2.2]
theorem chn_cnt {v : Nat → Nat} (hN : 1 ≤ v 0 * v 2) : ∀ n k, chn v n k → n + 1 ≤ cnt (fun x => anyB (fun j => chB v j x) (n + 1)) (v 0 * v 2) := by
  intro n
  induction n with
  | zero =>
    intro k h
    exact cnt_0 (p := fun x => anyB (fun j => chB v j x) (0 + 1)) rfl _ hN
  | succ n ih =>
    intro k h
    have h1 := ih _ h.2.2.2
    have h2 := cnt_lt (p := fun x => anyB (fun j => chB v j x) (n + 1)) (q := fun x => anyB (fun j => chB v j x) (n + 1 + 1)) (i := k) (fun x hx => by show (anyB (fun j => chB v j x) (n + 1) || chB v (n + 1) x) = true; rw [hx]; rfl) (anyB_t (p := fun j => chB v j k) _ (n + 1) (by omega) ((chB_e v _ _).mpr h)) (anyB_f (p := fun j => chB v j k) _ (fun j hj => by
      cases c : chB v j k with
      | false => rfl
      | true => have := chn_u v _ _ _ ((chB_e v _ _).mp c) h; omega)) (v 0 * v 2) h.2.1
    omega
theorem chn_lt {v : Nat → Nat} (w : wfg v) {n k : Nat} (h : chn v n k) : n < v 0 * v 2 := by
  have h1 := chn_cnt (gb_ge w.1.1 w.2.2.1.1) n k h
  have h2 := cnt_le (fun x => anyB (fun j => chB v j x) (n + 1)) (v 0 * v 2)
  omega
theorem iR_rm {v : Nat → Nat} {K : Nat → Nat → Int32} {i : Nat} (w : wf v) (hR : iR v K) (v' : Nat → Nat) (h0 : io v' i 0 = 0) (ho : ∀ j f, f < 15 → j ≠ i → io v' j f = io v j f) : iR v' (kBe K i 0 (-4) (-4)) := by
  intro j hj
  by_cases e : j = i
  · subst e
    have es : sz v' j = 0 := by unfold sz; rw [if_pos h0]
    refine ⟨?_, ?_, ?_, fun q => absurd h0 q, fun k hk => by rw [es] at hk; omega⟩
    · rw [h0, kBe_at, if_pos ⟨by decide, rfl⟩]; rfl
    · rw [es, kBe_at, if_pos ⟨by decide, rfl⟩]; rfl
    · rw [kBe_at, if_pos ⟨by decide, rfl⟩]; unfold tlI; rw [es]; rfl
  · refine iR1_e w hj (hR j hj) (fun f hf => ho j f hf e) (fun f hf => ?_) (fun k hk => ?_)
    · rw [kBe_at, if_neg (by omega)]
    · rw [kBe_at, if_neg (by omega)]
theorem iR_en {v : Nat → Nat} {K : Nat → Nat → Int32} {i d nm : Nat} (w : wf v) (hR : iR v K) : iR (mvv v i d nm) (kEn K i (nI d) (nI nm)) := by
  intro j hj
  have hio := fun f (hf : f < 15) => io_mvv v i d nm j f hf
  by_cases e : j = i
  · subst e
    have z : ∀ f, f < 15 → f ≠ 1 → f ≠ 2 → io (mvv v j d nm) j f = io v j f := fun f hf h1 h2 => by rw [hio f hf, if_neg (by omega), if_neg (by omega)]
    have es : sz (mvv v j d nm) j = sz v j := by unfold sz; rw [z 0 (by decide) (by decide) (by decide), z 3 (by decide) (by decide) (by decide)]
    have et : tlI (mvv v j d nm) j = tlI v j := by unfold tlI; rw [es, z 4 (by decide) (by decide) (by decide)]
    have h40 := sz_le w hj
    obtain ⟨q0, q1, q2, q3, q4⟩ := hR j hj
    refine ⟨?_, ?_, ?_, fun _ => ⟨?_, ?_⟩, fun k hk => ?_⟩
    · rw [z 0 (by decide) (by decide) (by decide), kEn_at, if_neg (by omega), if_neg (by omega)]; exact q0
    · rw [es, kEn_at, if_neg (by omega), if_neg (by omega)]; exact q1
    · rw [et, kEn_at, if_neg (by omega), if_neg (by omega)]; exact q2
    · rw [hio 1 (by decide), if_pos ⟨rfl, rfl⟩, kEn_at, if_pos ⟨rfl, rfl⟩]
    · rw [hio 2 (by decide), if_neg (by omega), if_pos ⟨rfl, rfl⟩, kEn_at, if_neg (by omega), if_pos ⟨rfl, rfl⟩]
    · rw [es] at hk
      rw [z (5 + k) (by omega) (by omega) (by omega), kEn_at, if_neg (by omega), if_neg (by omega)]
      exact q4 k hk
  · refine iR1_e w hj (hR j hj) (fun f hf => by rw [hio f hf, if_neg (by omega), if_neg (by omega)]) (fun f hf => ?_) (fun k hk => ?_)
    · rw [kEn_at, if_neg (by omega), if_neg (by omega)]
    · rw [kEn_at, if_neg (by omega), if_neg (by omega)]
section C16
variable {g : sg_H} {a D : Nat} {v : Nat → Nat} {b d : Nat → Int32} {K : Nat → Nat → Int32} {e m : Int32}
theorem frb_c {i : Nat} : ∀ m k (u : Nat → Nat) c, c < 8 → frb u i m k c = u c := by
  intro m
  induction m with
  | zero => intro k u c _; rfl
  | succ m ih =>
    intro k u c hc
    simp only [frb]
    rw [ih _ _ c hc, lta_out _ _ _ _ _ (by omega)]
theorem k_putAll (hg : a + 13 ≤ g.1) (ha : a < 800) (hb : mbq (fr v) b) (hR : iR v K) (w : wf v) (wt : wfT v) (i k0 : Nat) (hi : i < 24) (hk0 : k0 ≤ sz v i / 4) : sg_K MX6_putAllOf [.ref a, .int (nI i), .int (nI k0), .ref (a + 2), .int (bI true)] (vo g a v b d K e m) (fun r h' => r = none ∧ ∃ b', h' = vo g a v b' d K e m ∧ mbq (paq v i k0 true (fr v)) b') := by
  have k := k_putAllOf (vo_V (g := g) (a := a) (L := v) (b := b) (d := d) (K := K) (e := e) (m := m) hg) (by omega) (vo_I hg ha) hR w wt (vo_F hg ha) hb (by omega) (by omega) (by omega) i k0 hi hk0 true
  obtain ⟨r, h', h1, h2, b', h3, h4⟩ := k
  refine ⟨r, h', h1, h2, b', ?_, h4⟩
  rw [h3, vo_ub1]
set_option maxRecDepth 100000 in
theorem k_shrinkFile (hg : a + 13 ≤ g.1) (ha : a < 800) (hD : DE g a D) (hb : mbq (fr v) b) (hR : iR v K) (iv : inv v) (x y : Int32) : sg_K MX0_shrinkFile [.ref D, .int x, .int y] (vo g a v b d K (nI (v 6)) (nI (v 7))) (fun r h' => r = some (.int (s_shrink v x y).1) ∧ VS g a (s_shrink v x y).2 h') := by
  have w := iv.1.1
  have wT := iv.1.2.2
  have wB := iv.2.2.2.2.1
  have hgi := wf_gi w.1
  have hgb := wf_gb w.1
  have hD8 := hD.2.2.2.1
  generalize hS : s_shrink v x y = S
  show sg_A MX0_shrinkFile 0 [some (.ref D), some (.int x), some (.int y), none, none, none] [] _ _
  have bad : ¬ (isFil v x = true ∧ inR y 1 (io v x.toNatClampNeg 3) = true) → sg_A MX0_shrinkFile 29 [some (.ref D), some (.int x), some (.int y), none, none, none] [] (vo g a v b d K (nI (v 6)) (nI (v 7))) (fun r h' => r = some (.int S.1) ∧ VS g a S.2 h') := by
    intro q
    refine at_k (-1) dX0_shrinkFile_29 rfl (by decide) ?_
    refine at_ret dX0_shrinkFile_30 rfl rfl ?_
    rw [s_shrink, if_neg q] at hS
    subst hS
    exact ⟨rfl, b, d, K, rfl, hb, hR⟩
  refine at_ld (i := 0) dX0_shrinkFile_0 rfl rfl rfl ?_
  refine at_get dX0_shrinkFile_1 fX0_31 (de_O hD) (by omega) rfl ?_
  refine at_ld (i := 1) dX0_shrinkFile_4 rfl rfl rfl ?_
  refine at_rv [_] dX0_shrinkFile_5 mX2_kindOf ⟨Nat.le_of_ble_eq_true rfl, Nat.le_of_ble_eq_true rfl⟩ lX0_40 iX2_kindOf rfl rfl (vo_I hg ha).1 (by omega) rfl (Nat.le_of_ble_eq_true rfl) (Nat.le_of_ble_eq_true rfl) ⟨rfl, rfl⟩ (k_kindX (vo_I hg ha) hR w.1 iv.2.2.2.1 x) ?_
  refine at_k (nI 2) dX0_shrinkFile_8 rfl (by decide) ?_
  refine at_ine 29 dX0_shrinkFile_9 (by decide) (fun c => ?_) (fun c => ?_)
  · exact bad (fun q => c (by have q1 := q.1; rw [isFil_k] at q1; rw [of_decide_eq_true q1]))
  · have c1 : isFil v x = true := by
      rw [isFil_k]
      have := kdX_le w x
      exact decide_eq_true ((nI_eq32 (by omega) (by decide)).mp (Classical.not_not.mp c))
    obtain ⟨i, hi, rfl, hi2⟩ := isFil_of w.1 c1
    have hs40 := wf_s w (show i < 24 by omega)
    have hth : io v i 0 ≠ 0 := by omega
    have es : sz v i = io v i 3 := sz_t hth
    rw [nI_clamp (by omega)] at bad
    have ks := fun d => k_sizeOf (vo_I (g := g) (a := a) (L := v) (b := b) (d := d) (K := K) (e := nI (v 6)) (m := nI (v 7)) hg ha) hR i (by omega)
    rw [es] at ks
    refine at_ld (i := 2) dX0_shrinkFile_12 rfl rfl rfl ?_
    refine at_k (nI 1) dX0_shrinkFile_13 rfl (by decide) ?_
    refine at_ilt 29 dX0_shrinkFile_14 (by decide) (fun c2 => ?_) (fun c2 => ?_)
    · refine bad (fun q => ?_)
      obtain ⟨k, h1, h2, rfl⟩ := inR_of (by omega) q.2
      exact nI_nlt h1 (by omega) c2
    · have c2' : ¬ y < 0 := fun q => c2 (Int32.lt_trans q (by decide))
      obtain ⟨n, hn, rfl⟩ := nI_of c2'
      have hn1 : 1 ≤ n := by
        rcases Nat.eq_zero_or_pos n with q | q
        · rw [q] at c2; exact absurd (by decide) c2
        · exact q
      refine at_ld (i := 2) dX0_shrinkFile_17 rfl rfl rfl ?_
      refine at_ld (i := 0) dX0_shrinkFile_18 rfl rfl rfl ?_
      refine at_get dX0_shrinkFile_19 fX0_31 (de_O hD) (by omega) rfl ?_
      refine at_ld (i := 1) dX0_shrinkFile_22 rfl rfl rfl ?_
      refine at_rv [_] dX0_shrinkFile_23 mX2_sizeOf ⟨Nat.le_of_ble_eq_true rfl, Nat.le_of_ble_eq_true rfl⟩ lX0_88 iX2_sizeOf rfl rfl (vo_I hg ha).1 (by omega) rfl (Nat.le_of_ble_eq_true rfl) (Nat.le_of_ble_eq_true rfl) ⟨rfl, rfl⟩ (ks _) ?_
      refine at_ile 31 dX0_shrinkFile_26 (by decide) (fun c3 => ?_) (fun c3 => bad (fun q => ?_))
      · have hn40 := (nI_leI hn (by omega)).mp c3
        rw [s_shrink, nI_clamp (by omega), if_pos ⟨c1, by rw [inR_nI hn]; exact decide_eq_true ⟨hn1, hn40⟩⟩, nI_clamp hn] at hS
        have hT := wT i (by omega)
        have h4 := (w.2.2 i (by omega)).2.2.1
        refine at_ld (i := 0) dX0_shrinkFile_31 rfl rfl rfl ?_
        refine at_get dX0_shrinkFile_32 fX0_9 (de_O hD) (by omega) rfl ?_
        refine at_cv [] dX0_shrinkFile_35 mX6_isSpoilt ⟨Nat.le_of_ble_eq_true rfl, Nat.le_of_ble_eq_true rfl⟩ lX0_50 iX6_isSpoilt rfl rfl (vo_V hg) (by omega) rfl (Nat.le_of_ble_eq_true rfl) (Nat.le_of_ble_eq_true rfl) (k_isSpoilt hg ha hb hR w iv.1.2.2 iv.2.2.1) ?_ ?_
        · rintro r h1 ⟨-, d', rfl⟩
          exact ⟨rfl, rfl⟩
        · rintro r h1 ⟨rfl, d', rfl⟩
          try dsimp only [Option.toList, List.cons_append, List.nil_append]
          refine at_zeq 44 dX0_shrinkFile_38 (by decide) (fun c4 => ?_) (fun c4 => ?_)
          · have c4' : spt v = false := (bI_0 _).mp c4
            rw [if_neg (show ¬ spt v = true by rw [c4']; decide)] at hS
            have kbo := k_blocksOf (vo_I (g := g) (a := a) (L := v) (b := b) (d := d') (K := K) (e := nI (v 6)) (m := nI (v 7)) hg ha) hR w i (by omega)
            rw [es] at kbo
            have hbl : ∀ k, k < io v i 3 / 4 → K 5 (i * 10 + k) = nI (io v i (5 + k)) := fun k hk => (hR i (by omega)).2.2.2.2 k (by rw [es]; omega)
            generalize hsz : io v i 3 - n = sz1 at hS
            have hsz1 : sz1 < io v i 3 := by omega
            -- the tail's place
            have tl : ∀ T : Int32, T = (if sz1 % 4 = 0 then -4 else if sz1 / 4 < io v i 3 / 4 then nI (4 * io v i (5 + sz1 / 4)) else nI (io v i 4)) → sg_A MX0_shrinkFile 108 [some (.ref D), some (.int (nI i)), some (.int (nI n)), some (.int (nI sz1)), some (.int (nI (sz1 / 4))), some (.int T)] [] (vo g a v b d' K (nI (v 6)) (nI (v 7))) (fun r h' => r = some (.int S.1) ∧ VS g a S.2 h') := by
              intro T hTe
              have hb10 := (w.2.2 i (by omega)).2.2.2 (sz1 / 4) (by omega)
              refine at_ld (i := 0) dX0_shrinkFile_108 rfl rfl rfl ?_
              refine at_get dX0_shrinkFile_109 fX0_9 (de_O hD) (by omega) rfl ?_
              refine at_ld (i := 1) dX0_shrinkFile_112 rfl rfl rfl ?_
              refine at_ld (i := 4) dX0_shrinkFile_113 rfl rfl rfl ?_
              refine at_ld (i := 0) dX0_shrinkFile_115 rfl rfl rfl ?_
              refine at_get dX0_shrinkFile_116 fX0_26 (de_O hD) (by omega) rfl ?_
              refine at_k (nI 1) dX0_shrinkFile_119 rfl (by decide) ?_
              refine at_cv [_, _, _, _] dX0_shrinkFile_120 mX6_putAllOf ⟨Nat.le_of_ble_eq_true rfl, Nat.le_of_ble_eq_true rfl⟩ lX0_154 iX6_putAllOf rfl rfl (vo_V hg) (by omega) rfl (Nat.le_of_ble_eq_true rfl) (Nat.le_of_ble_eq_true rfl) (k_putAll hg ha hb hR w wT i (sz1 / 4) (by omega) (by omega)) ?_ ?_
              · rintro r h1 ⟨-, b', rfl, -⟩
                exact ⟨rfl, rfl⟩
              · rintro r h1 ⟨rfl, b', rfl, hb'⟩
                try dsimp only [Option.toList, List.cons_append, List.nil_append]
                have hX : ∀ q b2, q = (if sz1 % 4 = 0 then paq v i (sz1 / 4) true (fr v) else setq (paq v i (sz1 / 4) true (fr v)) (if sz1 / 4 < io v i 3 / 4 then 4 * io v i (5 + sz1 / 4) else io v i 4) (sz1 % 4) false) → mbq q b2 → sg_A MX0_shrinkFile 136 [some (.ref D), some (.int (nI i)), some (.int (nI n)), some (.int (nI sz1)), some (.int (nI (sz1 / 4))), some (.int T)] [] (vo g a v b2 d' K (nI (v 6)) (nI (v 7))) (fun r h' => r = some (.int S.1) ∧ VS g a S.2 h') := by
                  intro q b2 hq hb2
                  refine at_ld (i := 0) dX0_shrinkFile_136 rfl rfl rfl ?_
                  refine at_get dX0_shrinkFile_137 fX0_31 (de_O hD) (by omega) rfl ?_
                  refine at_ld (i := 1) dX0_shrinkFile_140 rfl rfl rfl ?_
                  refine at_ld (i := 3) dX0_shrinkFile_141 rfl rfl rfl ?_
                  refine at_ld (i := 5) dX0_shrinkFile_142 rfl rfl rfl ?_
                  refine at_wv [_, _, _] dX0_shrinkFile_144 mX2_setSize ⟨Nat.le_of_ble_eq_true rfl, Nat.le_of_ble_eq_true rfl⟩ lX0_74 iX2_setSize rfl rfl (vo_I hg ha).1 (by omega) rfl (Nat.le_of_ble_eq_true rfl) (Nat.le_of_ble_eq_true rfl) ⟨rfl, rfl⟩ (k_setSize hg ha i (by omega) (nI sz1) T) ⟨rfl, rfl⟩ ?_
                  try dsimp only [Option.toList, List.cons_append, List.nil_append]
                  refine at_ld (i := 3) dX0_shrinkFile_147 rfl rfl rfl ?_
                  refine at_ret dX0_shrinkFile_148 rfl rfl ?_
                  subst hS
                  refine ⟨rfl, ?_⟩
                  have hc : ∀ c, c < 8 → shr v i n c = v c := by
                    intro c hc
                    unfold shr
                    rw [vu_n _ _ _ _ (by omega)]
                    split
                    · rw [lta_out _ _ _ _ _ (by omega)]
                    · rw [lta_out _ _ _ _ _ (by omega), vu_n _ _ _ _ (by omega), frb_c _ _ _ _ hc, lta_out _ _ _ _ _ (by omega)]
                  have hf1 := frb_p (i := i) (by omega) (io v i 3 / 4 - sz1 / 4) (sz1 / 4) (wf_lta w true (x := io v i 4) (n := io v i 3 % 4) (by omega)) (by omega)
                  have hio : ∀ j f, f < 15 → io (shr v i n) j f = if j = i ∧ f = 3 then sz1 else if j = i ∧ f = 4 ∧ sz1 / 4 < io v i 3 / 4 then 4 * io v i (5 + sz1 / 4) else io v j f := by
                    intro j f hf
                    unfold shr
                    rw [hsz, io_u _ (by decide) hf]
                    by_cases e1 : j = i ∧ f = 3
                    · rw [if_pos e1, if_pos e1]
                    · rw [if_neg e1, if_neg e1]
                      by_cases e2 : sz1 / 4 = io v i 3 / 4
                      · rw [if_pos e2, io_lta _ _ (by omega), if_neg (by omega)]
                      · rw [if_neg e2, io_lta _ _ (by omega), io_u _ (by decide) hf, hf1.2.2, io_lta _ _ (by omega)]
                        by_cases e3 : j = i ∧ f = 4
                        · rw [if_pos e3, if_pos ⟨e3.1, e3.2, by omega⟩]
                        · rw [if_neg e3, if_neg (fun q => e3 ⟨q.1, q.2.1⟩)]
                  refine VS_of (v' := shr v i n) (fun c hc2 => hc c (by omega)) (by rw [hc 6 (by decide)]) (by rw [hc 7 (by decide)]) ?_ (iR_sz w hR hth (by rw [hio i 3 (by decide), if_pos ⟨rfl, rfl⟩]) (fun j f hf hj => by rw [hio j f hf, if_neg (by omega), if_neg (by omega)]) ?_ (fun k hk => by rw [hio i (5 + k) (by omega), if_neg (by omega), if_neg (by omega)]; exact hbl k (by omega)))
                  · refine mbq_e (fun z hz => ?_) hb2
                    rw [hq]
                    unfold shr
                    rw [fr_io _ hz, hsz]
                    by_cases e2 : sz1 / 4 = io v i 3 / 4
                    · rw [if_pos e2, fr_lta, if_neg (show ¬ sz1 / 4 < io v i 3 / 4 by omega)]
                      unfold paq
                      rw [es, if_neg (show ¬ io v i 3 % 4 = 0 by omega), show io v i 3 / 4 - sz1 / 4 = 0 by omega]
                      have hno : io v i 4 ≤ z → z < io v i 4 + io v i 3 % 4 → fr v z = false := fun h1 h2 => fr_own iv.2.2.1 c4' hz hi (hasF_t hth h1 h2)
                      show (if sz1 % 4 = 0 then setq (fr v) (io v i 4) (io v i 3 % 4) true else setq (setq (fr v) (io v i 4) (io v i 3 % 4) true) (io v i 4) (sz1 % 4) false) z = _
                      split
                      · next e0 => rw [e0]; rfl
                      · unfold setq
                        by_cases z1 : io v i 4 ≤ z ∧ z < io v i 4 + sz1 % 4
                        · rw [if_pos z1, if_neg (by omega)]
                          exact (hno z1.1 (by omega)).symm
                        · rw [if_neg z1]
                          by_cases z2 : io v i 4 ≤ z ∧ z < io v i 4 + io v i 3 % 4
                          · rw [if_pos z2, if_pos (by omega)]
                          · rw [if_neg z2, if_neg (by omega)]
                    · rw [if_neg e2, fr_lta]
                      have e1 : ∀ z, z < 128 → fr (vf_upd (frb (lta v (io v i 4) true (io v i 3 % 4)) i (io v i 3 / 4 - sz1 / 4) (sz1 / 4)) (136 + 15 * i + 4) (4 * io v i (5 + sz1 / 4))) z = paq v i (sz1 / 4) true (fr v) z := by
                        intro z hz
                        rw [fr_io _ hz, fr_frb w (by omega) z _ _ _ (by omega) (fun j f => io_lta _ _ (by omega) _ _)]
                        rw [fbq_i, fr_lta]
                        unfold paq
                        rw [es]
                        split
                        · next e0 =>
                          rw [fbq_i, e0]
                          congr 1
                          unfold setq
                          rw [if_neg (by omega)]
                        · unfold setq
                          by_cases z1 : io v i 4 ≤ z ∧ z < io v i 4 + io v i 3 % 4
                          · rw [if_pos z1, if_pos z1, Bool.true_or]
                          · rw [if_neg z1, if_neg z1, fbq_i]
                      by_cases e0 : sz1 % 4 = 0
                      · rw [if_pos e0, e0]
                        rw [show setq (fr (vf_upd (frb (lta v (io v i 4) true (io v i 3 % 4)) i (io v i 3 / 4 - sz1 / 4) (sz1 / 4)) (136 + 15 * i + 4) (4 * io v i (5 + sz1 / 4)))) (4 * io v i (5 + sz1 / 4)) 0 false z = fr (vf_upd (frb (lta v (io v i 4) true (io v i 3 % 4)) i (io v i 3 / 4 - sz1 / 4) (sz1 / 4)) (136 + 15 * i + 4) (4 * io v i (5 + sz1 / 4))) z by unfold setq; rw [if_neg (by omega)]]
                        exact (e1 z hz).symm
                      · rw [if_neg e0, if_pos (show sz1 / 4 < io v i 3 / 4 by omega)]
                        exact setq_e (e1 z hz).symm
                  · rw [hTe, hio i 4 (by decide), if_neg (show ¬ (i = i ∧ 4 = 3) by omega)]
                    by_cases e0 : sz1 % 4 = 0
                    · rw [if_pos e0, if_pos e0]
                    · rw [if_neg e0, if_neg e0]
                      by_cases e2 : sz1 / 4 < io v i 3 / 4
                      · rw [if_pos e2, if_pos ⟨rfl, rfl, e2⟩]
                      · rw [if_neg e2, if_neg (fun q => e2 q.2.2)]
                by_cases e0 : sz1 % 4 = 0
                · rw [if_pos e0] at hTe
                  have kp := k_putN (vo_F (g := g) (a := a) (L := v) (b := b') (d := d') (K := K) (e := nI (v 6)) (m := nI (v 7)) hg ha) (-4) (nI (sz1 % 4)) false (by decide)
                  rw [← hTe] at kp
                  refine at_ld (i := 0) dX0_shrinkFile_123 rfl rfl rfl ?_
                  refine at_get dX0_shrinkFile_124 fX0_26 (de_O hD) (by omega) rfl ?_
                  refine at_ld (i := 5) dX0_shrinkFile_127 rfl rfl rfl ?_
                  refine at_ld (i := 3) dX0_shrinkFile_129 rfl rfl rfl ?_
                  refine at_k (nI 4) dX0_shrinkFile_130 rfl (by decide) ?_
                  refine at_rem dX0_shrinkFile_131 (by decide) ?_
                  try dsimp only
                  rw [nI_rem (by omega) (by decide)]
                  refine at_k (nI 0) dX0_shrinkFile_132 rfl (by decide) ?_
                  refine at_wv [_, _, _] dX0_shrinkFile_133 mX1_put ⟨Nat.le_of_ble_eq_true rfl, Nat.le_of_ble_eq_true rfl⟩ lX0_114 iX1_put rfl rfl (vo_F hg ha).1 (by omega) rfl (Nat.le_of_ble_eq_true rfl) (Nat.le_of_ble_eq_true rfl) ⟨rfl, rfl⟩ (kp) ⟨rfl, rfl⟩ ?_
                  try dsimp only [Option.toList, List.cons_append, List.nil_append]
                  exact hX _ b' (if_pos e0).symm hb'
                · rw [if_neg e0] at hTe
                  have hTn : T = nI (if sz1 / 4 < io v i 3 / 4 then 4 * io v i (5 + sz1 / 4) else io v i 4) := by rw [hTe]; split <;> rfl
                  have hlt : (if sz1 / 4 < io v i 3 / 4 then 4 * io v i (5 + sz1 / 4) else io v i 4) < 128 ∧ (if sz1 / 4 < io v i 3 / 4 then 4 * io v i (5 + sz1 / 4) else io v i 4) % 4 + sz1 % 4 ≤ 4 := by
                    split
                    · exact ⟨by omega, by omega⟩
                    · exact ⟨by omega, by omega⟩
                  have kp := k_put (vo_F (g := g) (a := a) (L := v) (b := b') (d := d') (K := K) (e := nI (v 6)) (m := nI (v 7)) hg ha) _ (sz1 % 4) false hlt.1 hlt.2
                  rw [vo_ub1, ← hTn] at kp
                  refine at_ld (i := 0) dX0_shrinkFile_123 rfl rfl rfl ?_
                  refine at_get dX0_shrinkFile_124 fX0_26 (de_O hD) (by omega) rfl ?_
                  refine at_ld (i := 5) dX0_shrinkFile_127 rfl rfl rfl ?_
                  refine at_ld (i := 3) dX0_shrinkFile_129 rfl rfl rfl ?_
                  refine at_k (nI 4) dX0_shrinkFile_130 rfl (by decide) ?_
                  refine at_rem dX0_shrinkFile_131 (by decide) ?_
                  try dsimp only
                  rw [nI_rem (by omega) (by decide)]
                  refine at_k (nI 0) dX0_shrinkFile_132 rfl (by decide) ?_
                  refine at_wv [_, _, _] dX0_shrinkFile_133 mX1_put ⟨Nat.le_of_ble_eq_true rfl, Nat.le_of_ble_eq_true rfl⟩ lX0_114 iX1_put rfl rfl (vo_F hg ha).1 (by omega) rfl (Nat.le_of_ble_eq_true rfl) (Nat.le_of_ble_eq_true rfl) ⟨rfl, rfl⟩ (kp) ⟨rfl, rfl⟩ ?_
                  try dsimp only [Option.toList, List.cons_append, List.nil_append]
                  exact hX _ _ (if_neg e0).symm (mbq_put hb' hlt.1 hlt.2 false)
            refine at_ld (i := 0) dX0_shrinkFile_44 rfl rfl rfl ?_
            refine at_get dX0_shrinkFile_45 fX0_31 (de_O hD) (by omega) rfl ?_
            refine at_ld (i := 1) dX0_shrinkFile_48 rfl rfl rfl ?_
            refine at_rv [_] dX0_shrinkFile_49 mX2_sizeOf ⟨Nat.le_of_ble_eq_true rfl, Nat.le_of_ble_eq_true rfl⟩ lX0_88 iX2_sizeOf rfl rfl (vo_I hg ha).1 (by omega) rfl (Nat.le_of_ble_eq_true rfl) (Nat.le_of_ble_eq_true rfl) ⟨rfl, rfl⟩ (ks _) ?_
            refine at_ld (i := 2) dX0_shrinkFile_52 rfl rfl rfl ?_
            refine at_bin dX0_shrinkFile_53 rfl ?_
            try dsimp only
            rw [nI_sub hn40, hsz]
            refine at_st (i := 3) dX0_shrinkFile_54 rfl rfl (Nat.le_of_ble_eq_true rfl) rfl ?_
            try dsimp only [List.set_cons_succ, List.set_cons_zero]
            refine at_ld (i := 3) dX0_shrinkFile_55 rfl rfl rfl ?_
            refine at_k (nI 4) dX0_shrinkFile_56 rfl (by decide) ?_
            refine at_div dX0_shrinkFile_57 (by decide) ?_
            try dsimp only
            rw [nI_div (by omega) (by decide)]
            refine at_st (i := 4) dX0_shrinkFile_58 rfl rfl (Nat.le_of_ble_eq_true rfl) rfl ?_
            try dsimp only [List.set_cons_succ, List.set_cons_zero]
            refine at_k (-4) dX0_shrinkFile_60 rfl (by decide) ?_
            refine at_st (i := 5) dX0_shrinkFile_62 rfl rfl (Nat.le_of_ble_eq_true rfl) rfl ?_
            try dsimp only [List.set_cons_succ, List.set_cons_zero]
            refine at_ld (i := 3) dX0_shrinkFile_64 rfl rfl rfl ?_
            refine at_k (nI 4) dX0_shrinkFile_65 rfl (by decide) ?_
            refine at_rem dX0_shrinkFile_66 (by decide) ?_
            try dsimp only
            rw [nI_rem (by omega) (by decide)]
            by_cases e0 : sz1 % 4 = 0
            · refine at_zle 108 dX0_shrinkFile_67 (by decide) (fun _ => ?_) (fun c => absurd ((by rw [e0]; decide)) c)
              exact tl _ (if_pos e0).symm
            · refine at_zle 108 dX0_shrinkFile_67 (by decide) (fun c => absurd c (nI_nle (by omega) (by omega))) (fun _ => ?_)
              refine at_ld (i := 4) dX0_shrinkFile_70 rfl rfl rfl ?_
              refine at_ld (i := 0) dX0_shrinkFile_72 rfl rfl rfl ?_
              refine at_get dX0_shrinkFile_73 fX0_31 (de_O hD) (by omega) rfl ?_
              refine at_ld (i := 1) dX0_shrinkFile_76 rfl rfl rfl ?_
              refine at_rv [_] dX0_shrinkFile_77 mX2_blocksOf ⟨Nat.le_of_ble_eq_true rfl, Nat.le_of_ble_eq_true rfl⟩ lX0_95 iX2_blocksOf rfl rfl (vo_I hg ha).1 (by omega) rfl (Nat.le_of_ble_eq_true rfl) (Nat.le_of_ble_eq_true rfl) ⟨rfl, rfl⟩ (kbo) ?_
              by_cases e2 : sz1 / 4 < io v i 3 / 4
              · refine at_ige 98 dX0_shrinkFile_80 (by decide) (fun c => absurd c (nI_ge e2 (by omega))) (fun _ => ?_)
                have hb10 := (w.2.2 i (by omega)).2.2.2 (sz1 / 4) (by omega)
                refine at_ld (i := 0) dX0_shrinkFile_83 rfl rfl rfl ?_
                refine at_get dX0_shrinkFile_84 fX0_31 (de_O hD) (by omega) rfl ?_
                refine at_ld (i := 1) dX0_shrinkFile_87 rfl rfl rfl ?_
                refine at_ld (i := 4) dX0_shrinkFile_88 rfl rfl rfl ?_
                refine at_rv [_, _] dX0_shrinkFile_90 mX2_blockAt ⟨Nat.le_of_ble_eq_true rfl, Nat.le_of_ble_eq_true rfl⟩ lX0_133 iX2_blockAt rfl rfl (vo_I hg ha).1 (by omega) rfl (Nat.le_of_ble_eq_true rfl) (Nat.le_of_ble_eq_true rfl) ⟨rfl, rfl⟩ (k_blockAt (vo_I hg ha) hR i (sz1 / 4) (by omega) (by omega) (by rw [es]; exact e2)) ?_
                refine at_k (nI 4) dX0_shrinkFile_93 rfl (by decide) ?_
                refine at_bin dX0_shrinkFile_94 rfl ?_
                try dsimp only
                rw [nI_mul, Nat.mul_comm _ 4]
                refine at_goto 106 dX0_shrinkFile_95 (by decide) ?_
                refine at_st (i := 5) dX0_shrinkFile_106 rfl rfl (Nat.le_of_ble_eq_true rfl) rfl ?_
                try dsimp only [List.set_cons_succ, List.set_cons_zero]
                exact tl _ (by rw [if_neg e0, if_pos e2])
              · refine at_ige 98 dX0_shrinkFile_80 (by decide) (fun _ => ?_) (fun c => absurd (nI_le (by omega) (by omega)) c)
                have kt := k_tailOf (vo_I (g := g) (a := a) (L := v) (b := b) (d := d') (K := K) (e := nI (v 6)) (m := nI (v 7)) hg ha) hR i (by omega)
                have etl : tlI v i = nI (io v i 4) := by unfold tlI; rw [es, if_neg (by omega)]
                rw [etl] at kt
                refine at_ld (i := 0) dX0_shrinkFile_98 rfl rfl rfl ?_
                refine at_get dX0_shrinkFile_99 fX0_31 (de_O hD) (by omega) rfl ?_
                refine at_ld (i := 1) dX0_shrinkFile_102 rfl rfl rfl ?_
                refine at_rv [_] dX0_shrinkFile_103 mX2_tailOf ⟨Nat.le_of_ble_eq_true rfl, Nat.le_of_ble_eq_true rfl⟩ lX0_108 iX2_tailOf rfl rfl (vo_I hg ha).1 (by omega) rfl (Nat.le_of_ble_eq_true rfl) (Nat.le_of_ble_eq_true rfl) ⟨rfl, rfl⟩ (kt) ?_
                refine at_st (i := 5) dX0_shrinkFile_106 rfl rfl (Nat.le_of_ble_eq_true rfl) rfl ?_
                try dsimp only [List.set_cons_succ, List.set_cons_zero]
                exact tl _ (by rw [if_neg e0, if_neg e2])
          · rw [if_pos (bI_1 c4)] at hS
            subst hS
            refine at_k (-2) dX0_shrinkFile_41 rfl (by decide) ?_
            refine at_ret dX0_shrinkFile_43 rfl rfl ?_
            exact ⟨rfl, b, d', K, rfl, hb, hR⟩
      · rw [inR_nI hn] at q
        have := of_decide_eq_true q.2
        exact c3 (nI_le this.2 (by omega))
end C16
