/-! THE REFERENCE: move, gather, the map -/
def mvv (v : Nat → Nat) (i d nm : Nat) : Nat → Nat := vf_upd (vf_upd v (136 + 15 * i + 1) d) (136 + 15 * i + 2) nm
def wthF (v : Nat → Nat) (i : Nat) : Nat → Nat → Bool
  | 0, _ => false
  | f + 1, up => if up = i then true else if up = 0 then false else wthF v i f (io v up 1)
def dpt (v : Nat → Nat) : Nat → Nat → Nat
  | 0, _ => 0
  | f + 1, k => if k = 0 then 0 else dpt v f (io v k 1) + 1
theorem wthF_eq (v : Nat → Nat) (i : Nat) : ∀ n f up, chn v n up → n < f → wthF v i f up = wth v i n up := by
  intro n
  induction n with
  | zero =>
    intro f up hc hf
    obtain ⟨f, rfl⟩ : ∃ g, f = g + 1 := ⟨f - 1, by omega⟩
    have e : up = 0 := hc
    subst e
    simp only [wthF, wth]
    by_cases q : 0 = i
    · rw [if_pos q, decide_eq_true q]
    · rw [if_neg q, decide_eq_false q]
      simp
  | succ n ih =>
    intro f up hc hf
    obtain ⟨f, rfl⟩ : ∃ g, f = g + 1 := ⟨f - 1, by omega⟩
    obtain ⟨h0, h1, h2, h3⟩ := hc
    simp only [wthF, wth]
    by_cases q : up = i
    · rw [if_pos q, decide_eq_true q, Bool.true_or]
    · rw [if_neg q, if_neg h0, decide_eq_false q, Bool.false_or]
      exact ih f _ h3 (by omega)
theorem dpt_eq (v : Nat → Nat) : ∀ n f k, chn v n k → n < f → dpt v f k = n := by
  intro n
  induction n with
  | zero =>
    intro f k hc hf
    obtain ⟨f, rfl⟩ : ∃ g, f = g + 1 := ⟨f - 1, by omega⟩
    have e : k = 0 := hc
    simp only [dpt]
    rw [if_pos e]
  | succ n ih =>
    intro f k hc hf
    obtain ⟨f, rfl⟩ : ∃ g, f = g + 1 := ⟨f - 1, by omega⟩
    obtain ⟨h0, h1, h2, h3⟩ := hc
    simp only [dpt]
    rw [if_neg h0, ih f _ h3 (by omega)]
theorem chn_keep {v v' : Nat → Nat} {i : Nat} (h0 : v' 0 = v 0) (h2 : v' 2 = v 2) (hk : ∀ k, k ≠ i → io v' k 0 = io v k 0 ∧ io v' k 1 = io v k 1) : ∀ n k, chn v n k → wth v i n k = false → chn v' n k := by
  intro n
  induction n with
  | zero => intro k hc _; exact hc
  | succ n ih =>
    intro k hc hw
    obtain ⟨a, b, c, d⟩ := hc
    simp only [wth, Bool.or_eq_false_iff, decide_eq_false_iff_not] at hw
    obtain ⟨e1, e2⟩ := hk k hw.1
    refine ⟨a, by rw [h0, h2]; exact b, by rw [e1]; exact c, ?_⟩
    rw [e2]
    exact ih _ d hw.2
def wfd (v : Nat → Nat) : Prop := io v 0 1 = 4294967292 ∧ ∀ k, k < v 0 * v 2 → io v k 0 ≠ 0 → ∃ n, n < 24 ∧ chn v n k
def s_move (v : Nat → Nat) (x d nm : Int32) : Int32 × (Nat → Nat) := if there v x = true ∧ isDir v d = true ∧ inR nm 0 9 = true then (if spt v = true ∨ x = 0 ∨ wthF v x.toNatClampNeg 24 d.toNatClampNeg = true ∨ (ino v d.toNatClampNeg nm.toNatClampNeg ≠ none ∧ ino v d.toNatClampNeg nm.toNatClampNeg ≠ some x.toNatClampNeg) then (-2, v) else (nI (dpt (mvv v x.toNatClampNeg d.toNatClampNeg nm.toNatClampNeg) 30 x.toNatClampNeg), mvv v x.toNatClampNeg d.toNatClampNeg nm.toNatClampNeg)) else (-1, v)
theorem io_mvv (v : Nat → Nat) (i d nm j f : Nat) (hf : f < 15) : io (mvv v i d nm) j f = if j = i ∧ f = 1 then d else if j = i ∧ f = 2 then nm else io v j f := by
  unfold mvv
  rw [io_u _ (by omega) hf, io_u _ (by omega) hf]
  by_cases e2 : j = i ∧ f = 2
  · rw [if_pos e2, if_neg (by omega), if_pos e2]
  · rw [if_neg e2]
    by_cases e1 : j = i ∧ f = 1
    · rw [if_pos e1, if_pos e1]
    · rw [if_neg e1, if_neg e1, if_neg e2]
theorem chn_mvv {v : Nat → Nat} {i d nm n : Nat} (hi0 : i ≠ 0) (hi : i < v 0 * v 2) (hth : io v i 0 ≠ 0) (hc : chn v n d) (hw : wth v i n d = false) : chn (mvv v i d nm) (n + 1) i := by
  have e0 : (mvv v i d nm) 0 = v 0 := by unfold mvv; rw [vu_n _ _ _ _ (by omega), vu_n _ _ _ _ (by omega)]
  have e2 : (mvv v i d nm) 2 = v 2 := by unfold mvv; rw [vu_n _ _ _ _ (by omega), vu_n _ _ _ _ (by omega)]
  refine ⟨hi0, by rw [e0, e2]; exact hi, by rw [io_mvv _ _ _ _ _ _ (by omega), if_neg (by omega), if_neg (by omega)]; exact hth, ?_⟩
  rw [io_mvv _ _ _ _ _ _ (by omega), if_pos ⟨rfl, rfl⟩]
  exact chn_keep e0 e2 (fun k hk => by
    rw [io_mvv _ _ _ _ _ _ (by omega), io_mvv _ _ _ _ _ _ (by omega), if_neg (by omega), if_neg (by omega), if_neg (by omega), if_neg (by omega)]
    exact ⟨rfl, rfl⟩) n d hc hw
def rfr (v : Nat → Nat) (g p q : Nat) : Bool := allB (fun k => decide (p + k * (1 + v 3) < v 1) && fbk v (v 1 * g + (p + k * (1 + v 3)))) q
def gts (v : Nat → Nat) (i g p : Nat) : Nat → Nat → (Nat → Nat)
  | 0, _ => v
  | m + 1, k => gts (lta (vf_upd v (136 + 15 * i + (5 + k)) (v 1 * g + p + k * (1 + v 3))) (4 * (v 1 * g + p + k * (1 + v 3))) false 4) i g p m (k + 1)
def gth (v : Nat → Nat) (i g p : Nat) : Nat → Nat := vf_upd (gts (frb v i (io v i 3 / 4) 0) i g p (io v i 3 / 4) 0) 7 (gts (frb v i (io v i 3 / 4) 0) i g p (io v i 3 / 4) 0 7 + io v i 3 / 4)
def gfind (v : Nat → Nat) (i : Nat) : Option (Nat × Nat) := srch (fun n => srch (fun p => if rfr v (bh v (i / v 2) n) p (io v i 3 / 4) = true then some (bh v (i / v 2) n, p) else none) 0 (v 1)) 0 (v 0)
def s_gather (v : Nat → Nat) (x : Int32) : Int32 × (Nat → Nat) := if isFil v x = true then (if spt v = true ∨ io v x.toNatClampNeg 3 / 4 < 2 then (-2, v) else (match gfind v x.toNatClampNeg with | none => (-3, v) | some gp => (nI (flw (gth v x.toNatClampNeg gp.1 gp.2) x.toNatClampNeg), gth v x.toNatClampNeg gp.1 gp.2))) else (-1, v)
theorem allB_of {p : Nat → Bool} : ∀ n, allB p n = true → ∀ k, k < n → p k = true := by
  intro n
  induction n with
  | zero => intro _ k hk; omega
  | succ n ih =>
    intro h k hk
    simp only [allB, Bool.and_eq_true] at h
    rcases Nat.lt_succ_iff_lt_or_eq.mp hk with q | q
    · exact ih h.1 k q
    · rw [q]; exact h.2
section R14
variable {h : sg_H} (A : Nat → Nat → Int32) (F : Nat → Int32) (v : Nat → Nat)
set_option maxRecDepth 100000 in
set_option maxHeartbeats 4000000 in
theorem c_move (hn : 72 ≤ h.1) (w : wf v) (wp : wfp v) (wd : wfd v) (x d nm : Int32) : sg_Kw MX8_move [.ref 64, .int x, .int d, .int nm] (mv h A F v) (some (.int (s_move v x d nm).1)) (mv h A F (s_move v x d nm).2) := by
  have hgi := wf_gi w.1
  show sg_A MX8_move 0 [some (.ref 64), some (.int x), some (.int d), some (.int nm), none] [] _ _
  have bad : ¬ (there v x = true ∧ isDir v d = true ∧ inR nm 0 9 = true) → sg_A MX8_move 28 [some (.ref 64), some (.int x), some (.int d), some (.int nm), none] [] (mv h A F v) (fun r' h' => r' = some (.int (s_move v x d nm).1) ∧ h' = mv h A F (s_move v x d nm).2) := by
    intro hno
    refine at_k (-1) dX8_move_28 rfl (by decide) ?_
    refine at_ret dX8_move_29 rfl rfl ?_
    rw [s_move, if_neg hno]
    exact ⟨rfl, rfl⟩
  refine at_ld (i := 0) dX8_move_0 rfl rfl rfl ?_
  refine at_ld (i := 1) dX8_move_1 rfl rfl rfl ?_
  refine at_rv [_] dX8_move_2 mX8_isThere ⟨Nat.le_of_ble_eq_true rfl, Nat.le_of_ble_eq_true rfl⟩ lX8_176 iX8_isThere rfl rfl (mv_o hn _ _ _) (by omega) rfl (Nat.le_of_ble_eq_true rfl) (Nat.le_of_ble_eq_true rfl) ⟨rfl, rfl⟩ (c_isThere A F v hn w.1 (wf_k w) x) ?_
  refine at_zeq 28 dX8_move_5 (by decide) (fun c => ?_) (fun c => ?_)
  · have c1 := (bI_0 _).mp c
    exact bad (fun z => by rw [c1] at z; cases z.1)
  · have c1 := bI_1 c
    refine at_ld (i := 0) dX8_move_8 rfl rfl rfl ?_
    refine at_ld (i := 2) dX8_move_9 rfl rfl rfl ?_
    refine at_rv [_] dX8_move_10 mX8_isDirectory ⟨Nat.le_of_ble_eq_true rfl, Nat.le_of_ble_eq_true rfl⟩ lX8_223 iX8_isDirectory rfl rfl (mv_o hn _ _ _) (by omega) rfl (Nat.le_of_ble_eq_true rfl) (Nat.le_of_ble_eq_true rfl) ⟨rfl, rfl⟩ (c_isDirectory A F v hn w.1 (wf_k w) d) ?_
    refine at_zeq 28 dX8_move_13 (by decide) (fun c2 => ?_) (fun c2 => ?_)
    · have c3 := (bI_0 _).mp c2
      exact bad (fun z => by rw [c3] at z; cases z.2.1)
    · have c3 := bI_1 c2
      refine at_ld (i := 3) dX8_move_16 rfl rfl rfl ?_
      refine at_i2l dX8_move_17 ?_
      refine at_lconst dX8_move_18 ?_
      refine at_ldc2 dX8_move_19 kX8_226 ?_
      refine at_rs [_, _, _] dX8_move_22 mX8_in ⟨Nat.le_of_ble_eq_true rfl, Nat.le_of_ble_eq_true rfl⟩ lX8_41 tX8_in rfl (Nat.le_of_ble_eq_true rfl) (Nat.le_of_ble_eq_true rfl) ⟨rfl, rfl⟩ (c_inA _ nm 0 9 rfl rfl (by decide) (by decide)) ?_
      refine at_zne 30 dX8_move_25 (by decide) (fun c4 => ?_) (fun c4 => ?_)
      · have c5 := bI_1 c4
        rw [s_move, if_pos ⟨c1, c3, c5⟩]
        obtain ⟨i, hi, rfl, hth⟩ := there_of w.1 c1
        obtain ⟨k, hk, rfl, hkd⟩ := isDir_of w.1 c3
        obtain ⟨n, -, hn2, rfl⟩ := inR_of (by decide) c5
        obtain ⟨dn, hdn, hch⟩ := wd.2 k hk (by omega)
        rw [nI_clamp (by omega), nI_clamp (by omega), nI_clamp (by omega)]
        rw [wthF_eq v i dn 24 k hch hdn]
        have sta : (spt v = true ∨ nI i = 0 ∨ wth v i dn k = true ∨ (ino v k n ≠ none ∧ ino v k n ≠ some i)) → ∀ y4, sg_A MX8_move 71 [some (.ref 64), some (.int (nI i)), some (.int (nI k)), some (.int (nI n)), y4] [] (mv h A F v) (fun r' h' => r' = some (.int (if spt v = true ∨ nI i = 0 ∨ wth v i dn k = true ∨ (ino v k n ≠ none ∧ ino v k n ≠ some i) then (-2, v) else (nI (dpt (mvv v i k n) 30 i), mvv v i k n)).1) ∧ h' = mv h A F (if spt v = true ∨ nI i = 0 ∨ wth v i dn k = true ∨ (ino v k n ≠ none ∧ ino v k n ≠ some i) then (-2, v) else (nI (dpt (mvv v i k n) 30 i), mvv v i k n)).2) := by
          intro hy y4
          refine at_k (-2) dX8_move_71 rfl (by decide) ?_
          refine at_ret dX8_move_73 rfl rfl ?_
          rw [if_pos hy]
          exact ⟨rfl, rfl⟩
        refine at_ld (i := 0) dX8_move_30 rfl rfl rfl ?_
        refine at_ld (i := 2) dX8_move_31 rfl rfl rfl ?_
        refine at_ld (i := 3) dX8_move_32 rfl rfl rfl ?_
        refine at_rv [_, _] dX8_move_33 mX8_inodeOf ⟨Nat.le_of_ble_eq_true rfl, Nat.le_of_ble_eq_true rfl⟩ lX8_103 iX8_inodeOf rfl rfl (mv_o hn _ _ _) (by omega) rfl (Nat.le_of_ble_eq_true rfl) (Nat.le_of_ble_eq_true rfl) ⟨rfl, rfl⟩ (c_inodeOf A F v hn w wp k n (by omega) (by omega)) ?_
        refine at_st (i := 4) dX8_move_36 rfl rfl (Nat.le_of_ble_eq_true rfl) rfl ?_
        try dsimp only [List.set_cons_succ, List.set_cons_zero]
        refine at_ld (i := 0) dX8_move_38 rfl rfl rfl ?_
        refine at_rv [] dX8_move_39 mX8_isSpoilt ⟨Nat.le_of_ble_eq_true rfl, Nat.le_of_ble_eq_true rfl⟩ lX8_240 iX8_isSpoilt rfl rfl (mv_o hn _ _ _) (by omega) rfl (Nat.le_of_ble_eq_true rfl) (Nat.le_of_ble_eq_true rfl) ⟨rfl, rfl⟩ (c_isSpoilt A F v hn w) ?_
        refine at_zne 71 dX8_move_42 (by decide) (fun c6 => ?_) (fun c6 => ?_)
        · exact sta (Or.inl (bI_1 c6)) _
        · have c7 := (bI_0 _).mp (Classical.not_not.mp c6)
          refine at_ld (i := 1) dX8_move_45 rfl rfl rfl ?_
          refine at_zeq 71 dX8_move_46 (by decide) (fun c8 => ?_) (fun c8 => ?_)
          · exact sta (Or.inr (Or.inl c8)) _
          · have c8' : i ≠ 0 := fun z => c8 (by rw [z]; rfl)
            refine at_ld (i := 0) dX8_move_49 rfl rfl rfl ?_
            refine at_ld (i := 2) dX8_move_50 rfl rfl rfl ?_
            refine at_ld (i := 1) dX8_move_51 rfl rfl rfl ?_
            refine at_rv [_, _] dX8_move_52 mX8_isWithin ⟨Nat.le_of_ble_eq_true rfl, Nat.le_of_ble_eq_true rfl⟩ lX8_281 iX8_isWithin rfl rfl (mv_o hn _ _ _) (by omega) rfl (Nat.le_of_ble_eq_true rfl) (Nat.le_of_ble_eq_true rfl) ⟨rfl, rfl⟩ (c_isWithin A F v hn w wd.1 i (by omega) dn k hch) ?_
            refine at_zne 71 dX8_move_55 (by decide) (fun c9 => ?_) (fun c9 => ?_)
            · exact sta (Or.inr (Or.inr (Or.inl (bI_1 c9)))) _
            · have c10 := (bI_0 _).mp (Classical.not_not.mp c9)
              have go : ¬ (ino v k n ≠ none ∧ ino v k n ≠ some i) → ∀ y4, sg_A MX8_move 74 [some (.ref 64), some (.int (nI i)), some (.int (nI k)), some (.int (nI n)), y4] [] (mv h A F v) (fun r' h' => r' = some (.int (if spt v = true ∨ nI i = 0 ∨ wth v i dn k = true ∨ (ino v k n ≠ none ∧ ino v k n ≠ some i) then (-2, v) else (nI (dpt (mvv v i k n) 30 i), mvv v i k n)).1) ∧ h' = mv h A F (if spt v = true ∨ nI i = 0 ∨ wth v i dn k = true ∨ (ino v k n ≠ none ∧ ino v k n ≠ some i) then (-2, v) else (nI (dpt (mvv v i k n) 30 i), mvv v i k n)).2) := by
                intro hz y4
                have hno : ¬ (spt v = true ∨ nI i = 0 ∨ wth v i dn k = true ∨ (ino v k n ≠ none ∧ ino v k n ≠ some i)) := by
                  rintro (z | z | z | z)
                  · rw [c7] at z; cases z
                  · exact c8 z
                  · rw [c10] at z; cases z
                  · exact hz z
                rw [if_neg hno]
                have hc2 := chn_mvv (nm := n) c8' hi hth hch c10
                rw [dpt_eq _ _ 30 i hc2 (by omega)]
                have w2 : wf (mvv v i k n) := wf_set (wf_set w (by omega) (by omega) (by omega) (by omega) (by omega)) (by omega) (by omega) (by omega) (by omega) (by omega)
                refine at_ld (i := 0) dX8_move_74 rfl rfl rfl ?_
                refine at_ld (i := 1) dX8_move_75 rfl rfl rfl ?_
                refine at_k (nI 1) dX8_move_76 rfl (by decide) ?_
                refine at_ld (i := 2) dX8_move_77 rfl rfl rfl ?_
                refine at_wv [_, _, _] dX8_move_78 mX8_sets ⟨Nat.le_of_ble_eq_true rfl, Nat.le_of_ble_eq_true rfl⟩ lX8_236 iX8_sets rfl rfl (mv_o hn _ _ _) (by omega) rfl (Nat.le_of_ble_eq_true rfl) (Nat.le_of_ble_eq_true rfl) ⟨rfl, rfl⟩ (c_sets A F v hn i 1 k _ rfl (by omega)) ⟨rfl, rfl⟩ ?_
                try dsimp only [Option.toList, List.cons_append, List.nil_append]
                refine at_ld (i := 0) dX8_move_81 rfl rfl rfl ?_
                refine at_ld (i := 1) dX8_move_82 rfl rfl rfl ?_
                refine at_k (nI 2) dX8_move_83 rfl (by decide) ?_
                refine at_ld (i := 3) dX8_move_84 rfl rfl rfl ?_
                refine at_wv [_, _, _] dX8_move_85 mX8_sets ⟨Nat.le_of_ble_eq_true rfl, Nat.le_of_ble_eq_true rfl⟩ lX8_236 iX8_sets rfl rfl (mv_o hn _ _ _) (by omega) rfl (Nat.le_of_ble_eq_true rfl) (Nat.le_of_ble_eq_true rfl) ⟨rfl, rfl⟩ (c_sets A F _ hn i 2 n _ rfl (by omega)) ⟨rfl, rfl⟩ ?_
                try dsimp only [Option.toList, List.cons_append, List.nil_append]
                refine at_ld (i := 0) dX8_move_88 rfl rfl rfl ?_
                refine at_ld (i := 1) dX8_move_89 rfl rfl rfl ?_
                refine at_rv [_] dX8_move_90 mX8_farFromRoot ⟨Nat.le_of_ble_eq_true rfl, Nat.le_of_ble_eq_true rfl⟩ lX8_284 iX8_farFromRoot rfl rfl (mv_o hn _ _ _) (by omega) rfl (Nat.le_of_ble_eq_true rfl) (Nat.le_of_ble_eq_true rfl) ⟨rfl, rfl⟩ (c_farFromRoot A F (mvv v i k n) hn w2 (dn + 1) i hc2) ?_
                refine at_ret dX8_move_93 rfl rfl ?_
                exact ⟨rfl, rfl⟩
              refine at_ld (i := 4) dX8_move_58 rfl rfl rfl ?_
              refine at_k (-4) dX8_move_60 rfl (by decide) ?_
              cases q : ino v k n with
              | none =>
                refine at_ieq 74 dX8_move_62 (by decide) (fun c11 => ?_) (fun c11 => ?_)
                · rw [q] at go
                  exact go (fun z => z.1 rfl) _
                · exact absurd rfl c11
              | some j =>
                have hj := ino_lt q
                refine at_ieq 74 dX8_move_62 (by decide) (fun c11 => ?_) (fun c11 => ?_)
                · exact absurd c11 (oI_n (by omega))
                · rw [show oI (some j) = nI j from rfl]
                  refine at_ld (i := 4) dX8_move_65 rfl rfl rfl ?_
                  refine at_ld (i := 1) dX8_move_67 rfl rfl rfl ?_
                  refine at_ieq 74 dX8_move_68 (by decide) (fun c12 => ?_) (fun c12 => ?_)
                  · have c13 := (nI_eq32 (by omega) (by omega)).mp c12
                    rw [q] at go
                    exact go (fun z => z.2 (by rw [c13])) _
                  · have c13 : j ≠ i := fun z => c12 (by rw [z])
                    rw [q] at sta
                    exact sta (Or.inr (Or.inr (Or.inr ⟨(fun z => by cases z), fun z => c13 (Option.some.inj z)⟩))) _
      · have c5 := (bI_0 _).mp (Classical.not_not.mp c4)
        exact bad (fun z => by rw [c5] at z; cases z.2.2)
set_option maxRecDepth 100000 in
theorem c_isRowFree (hn : 72 ≤ h.1) (w : wf v) (g p q : Nat) (hg : g < v 0) (hp : p < v 1) (hq : q ≤ 10) : sg_Kr MX8_isRowFree [.ref 64, .int (nI g), .int (nI p), .int (nI q)] (mv h A F v) (.int (bI (rfr v g p q))) := by
  have hgb := wf_gb w.1
  have hb8 := w.1.2.1
  have hs3 := w.1.2.2.2.1
  show sg_A MX8_isRowFree 0 [some (.ref 64), some (.int (nI g)), some (.int (nI p)), some (.int (nI q)), none, none, none] [] _ _
  refine at_k (nI 1) dX8_isRowFree_0 rfl (by decide) ?_
  refine at_st (i := 4) dX8_isRowFree_1 rfl rfl (Nat.le_of_ble_eq_true rfl) rfl ?_
  try dsimp only [List.set_cons_succ, List.set_cons_zero]
  refine at_k (nI 0) dX8_isRowFree_3 rfl (by decide) ?_
  refine at_st (i := 5) dX8_isRowFree_4 rfl rfl (Nat.le_of_ble_eq_true rfl) rfl ?_
  try dsimp only [List.set_cons_succ, List.set_cons_zero]
  have outer : ∀ y6 : Option Value, sg_A MX8_isRowFree 6 [some (.ref 64), some (.int (nI g)), some (.int (nI p)), some (.int (nI q)), some (.int (nI 1)), some (.int (nI 0)), y6] [] (mv h A F v) (fun r h' => r = some (.int (bI (rfr v g p q))) ∧ h' = mv h A F v) := by
    refine lpN (fun k => ∀ y6 : Option Value, sg_A MX8_isRowFree 6 [some (.ref 64), some (.int (nI g)), some (.int (nI p)), some (.int (nI q)), some (.int (bI (allB (fun k => decide (p + k * (1 + v 3) < v 1) && fbk v (v 1 * g + (p + k * (1 + v 3)))) k))), some (.int (nI k)), y6] [] (mv h A F v) (fun r h' => r = some (.int (bI (rfr v g p q))) ∧ h' = mv h A F v)) q ?_ ?_
    · intro y6
      refine at_ld (i := 5) dX8_isRowFree_6 rfl rfl rfl ?_
      refine at_ld (i := 3) dX8_isRowFree_8 rfl rfl rfl ?_
      refine at_ige 74 dX8_isRowFree_9 (by decide) (fun c => ?_) (fun c => ?_)
      · refine at_ld (i := 4) dX8_isRowFree_74 rfl rfl rfl ?_
        refine at_ret dX8_isRowFree_76 rfl (bI_narr _) ?_
        exact ⟨rfl, rfl⟩
      · exact absurd (nI_le (Nat.le_refl _) (by omega)) c
    · intro k hk ih y6
      have hmul : k * (1 + v 3) ≤ 40 := Nat.le_trans (Nat.mul_le_mul (show k ≤ 10 by omega) (show 1 + v 3 ≤ 4 by omega)) (by decide)
      have nx : ∀ b : Bool, b = allB (fun k => decide (p + k * (1 + v 3) < v 1) && fbk v (v 1 * g + (p + k * (1 + v 3)))) (k + 1) → ∀ y6, sg_A MX8_isRowFree 66 [some (.ref 64), some (.int (nI g)), some (.int (nI p)), some (.int (nI q)), some (.int (bI (allB (fun k => decide (p + k * (1 + v 3) < v 1) && fbk v (v 1 * g + (p + k * (1 + v 3)))) k))), some (.int (nI k)), y6] [.int (bI b)] (mv h A F v) (fun r h' => r = some (.int (bI (rfr v g p q))) ∧ h' = mv h A F v) := by
        intro b hb y6
        subst hb
        refine at_st (i := 4) dX8_isRowFree_66 rfl rfl (Nat.le_of_ble_eq_true rfl) rfl ?_
        try dsimp only [List.set_cons_succ, List.set_cons_zero]
        refine at_iinc (nI 1) dX8_isRowFree_68 rfl rfl (by decide) ?_
        try dsimp only [List.set_cons_succ, List.set_cons_zero]
        refine at_goto 6 dX8_isRowFree_71 (by decide) ?_
        rw [nI_add]
        exact ih _
      refine at_ld (i := 5) dX8_isRowFree_6 rfl rfl rfl ?_
      refine at_ld (i := 3) dX8_isRowFree_8 rfl rfl rfl ?_
      refine at_ige 74 dX8_isRowFree_9 (by decide) (fun c => ?_) (fun c => ?_)
      · exact absurd c (nI_ge hk (by omega))
      · refine at_ld (i := 2) dX8_isRowFree_12 rfl rfl rfl ?_
        refine at_ld (i := 5) dX8_isRowFree_13 rfl rfl rfl ?_
        refine at_k (nI 1) dX8_isRowFree_15 rfl (by decide) ?_
        refine at_ld (i := 0) dX8_isRowFree_16 rfl rfl rfl ?_
        refine at_get dX8_isRowFree_17 fX8_7 (mv_o hn _ _ _) (by omega) rfl ?_
        refine at_k (nI 3) dX8_isRowFree_20 rfl (by decide) ?_
        refine at_ald 3 dX8_isRowFree_21 (mv_a hn _ _ _) rfl (by decide) (by decide) ?_
        refine at_bin dX8_isRowFree_22 rfl ?_
        try dsimp only
        rw [nI_add]
        refine at_bin dX8_isRowFree_23 rfl ?_
        try dsimp only
        rw [nI_mul]
        refine at_bin dX8_isRowFree_24 rfl ?_
        try dsimp only
        rw [nI_add]
        refine at_st (i := 6) dX8_isRowFree_25 rfl rfl (Nat.le_of_ble_eq_true rfl) rfl ?_
        try dsimp only [List.set_cons_succ, List.set_cons_zero]
        refine at_ld (i := 4) dX8_isRowFree_27 rfl rfl rfl ?_
        refine at_zeq 65 dX8_isRowFree_29 (by decide) (fun c1 => ?_) (fun c1 => ?_)
        · have c2 := (bI_0 _).mp c1
          refine at_k (nI 0) dX8_isRowFree_65 rfl (by decide) ?_
          exact nx false (by rw [allB, c2]; rfl) _
        · have c2 := bI_1 c1
          refine at_ld (i := 6) dX8_isRowFree_32 rfl rfl rfl ?_
          refine at_ld (i := 0) dX8_isRowFree_34 rfl rfl rfl ?_
          refine at_get dX8_isRowFree_35 fX8_7 (mv_o hn _ _ _) (by omega) rfl ?_
          refine at_k (nI 1) dX8_isRowFree_38 rfl (by decide) ?_
          refine at_ald 1 dX8_isRowFree_39 (mv_a hn _ _ _) rfl (by decide) (by decide) ?_
          refine at_ige 65 dX8_isRowFree_40 (by decide) (fun c3 => ?_) (fun c3 => ?_)
          · have c4 := (nI_leI (by omega) (by omega)).mp c3
            refine at_k (nI 0) dX8_isRowFree_65 rfl (by decide) ?_
            exact nx false (by rw [allB, c2, decide_eq_false (by omega)]; rfl) _
          · have c4 : p + k * (1 + v 3) < v 1 := by
              rcases Nat.lt_or_ge (p + k * (1 + v 3)) (v 1) with z | z
              · exact z
              · exact absurd (nI_le z (by omega)) c3
            have hlt := gb_lt hg c4
            refine at_ld (i := 0) dX8_isRowFree_43 rfl rfl rfl ?_
            refine at_ld (i := 0) dX8_isRowFree_44 rfl rfl rfl ?_
            refine at_get dX8_isRowFree_45 fX8_7 (mv_o hn _ _ _) (by omega) rfl ?_
            refine at_k (nI 1) dX8_isRowFree_48 rfl (by decide) ?_
            refine at_ald 1 dX8_isRowFree_49 (mv_a hn _ _ _) rfl (by decide) (by decide) ?_
            refine at_ld (i := 1) dX8_isRowFree_50 rfl rfl rfl ?_
            refine at_bin dX8_isRowFree_51 rfl ?_
            try dsimp only
            rw [nI_mul]
            refine at_ld (i := 6) dX8_isRowFree_52 rfl rfl rfl ?_
            refine at_bin dX8_isRowFree_54 rfl ?_
            try dsimp only
            rw [nI_add]
            refine at_rv [_] dX8_isRowFree_55 mX8_isFreeBlock ⟨Nat.le_of_ble_eq_true rfl, Nat.le_of_ble_eq_true rfl⟩ lX8_149 iX8_isFreeBlock rfl rfl (mv_o hn _ _ _) (by omega) rfl (Nat.le_of_ble_eq_true rfl) (Nat.le_of_ble_eq_true rfl) ⟨rfl, rfl⟩ (c_isFreeBlock A F v hn (v 1 * g + (p + k * (1 + v 3))) (by omega) (fun j hj => w.2.1 _ (by omega))) ?_
            refine at_zeq 65 dX8_isRowFree_58 (by decide) (fun c5 => ?_) (fun c5 => ?_)
            · have c6 := (bI_0 _).mp c5
              refine at_k (nI 0) dX8_isRowFree_65 rfl (by decide) ?_
              exact nx false (by rw [allB, c2, c6]; simp) _
            · have c6 := bI_1 c5
              refine at_k (nI 1) dX8_isRowFree_61 rfl (by decide) ?_
              refine at_goto 66 dX8_isRowFree_62 (by decide) ?_
              exact nx true (by rw [allB, c2, c6, decide_eq_true c4]; rfl) _
  exact outer _
set_option maxRecDepth 100000 in
set_option maxHeartbeats 4000000 in
theorem c_gathers (hn : 72 ≤ h.1) (w : wf v) (i g p : Nat) (hi : i < 24) (hg : g < v 0) (hr : ∀ k, k < io v i 3 / 4 → p + k * (1 + v 3) < v 1) (hp : p < v 1) : sg_Kw MX8_gathers [.ref 64, .int (nI i), .int (nI g), .int (nI p)] (mv h A F v) none (mv h A F (gth v i g p)) := by
  have hgb := wf_gb w.1
  have hs := wf_s w hi
  have hb8 := w.1.2.1
  have hs3 := w.1.2.2.2.1
  show sg_A MX8_gathers 0 [some (.ref 64), some (.int (nI i)), some (.int (nI g)), some (.int (nI p)), none, none] [] _ _
  refine at_k (nI 0) dX8_gathers_0 rfl (by decide) ?_
  refine at_st (i := 4) dX8_gathers_1 rfl rfl (Nat.le_of_ble_eq_true rfl) rfl ?_
  try dsimp only [List.set_cons_succ, List.set_cons_zero]
  have second : ∀ (v1 : Nat → Nat), wf v1 → v1 1 = v 1 → v1 3 = v 3 → io v1 i 3 = io v i 3 → ∀ y4, sg_A MX8_gathers 36 [some (.ref 64), some (.int (nI i)), some (.int (nI g)), some (.int (nI p)), y4, none] [] (mv h A F v1) (fun r' h' => r' = none ∧ h' = mv h A F (vf_upd (gts v1 i g p (io v i 3 / 4) 0) 7 (gts v1 i g p (io v i 3 / 4) 0 7 + io v i 3 / 4))) := by
    intro v1 w1 e1 e3 es y4
    refine at_k (nI 0) dX8_gathers_36 rfl (by decide) ?_
    refine at_st (i := 4) dX8_gathers_37 rfl rfl (Nat.le_of_ble_eq_true rfl) rfl ?_
    try dsimp only [List.set_cons_succ, List.set_cons_zero]
    have loop : ∀ m k (v2 : Nat → Nat), wf v2 → v2 1 = v 1 → v2 3 = v 3 → io v2 i 3 = io v i 3 → k + m = io v i 3 / 4 → ∀ y5, sg_A MX8_gathers 39 [some (.ref 64), some (.int (nI i)), some (.int (nI g)), some (.int (nI p)), some (.int (nI k)), y5] [] (mv h A F v2) (fun r' h' => r' = none ∧ h' = mv h A F (vf_upd (gts v2 i g p m k) 7 (gts v2 i g p m k 7 + io v i 3 / 4))) := by
      intro m
      induction m with
      | zero =>
        intro k v2 w2 f1 f3 fs hk y5
        refine at_ld (i := 4) dX8_gathers_39 rfl rfl rfl ?_
        refine at_ld (i := 0) dX8_gathers_41 rfl rfl rfl ?_
        refine at_ld (i := 1) dX8_gathers_42 rfl rfl rfl ?_
        refine at_rv [_] dX8_gathers_43 mX8_blocks ⟨Nat.le_of_ble_eq_true rfl, Nat.le_of_ble_eq_true rfl⟩ lX8_194 iX8_blocks rfl rfl (mv_o hn _ _ _) (by omega) rfl (Nat.le_of_ble_eq_true rfl) (Nat.le_of_ble_eq_true rfl) ⟨rfl, rfl⟩ (c_blocks A F v2 hn i hi (by omega)) ?_
        refine at_ige 100 dX8_gathers_46 (by decide) (fun c => ?_) (fun c => ?_)
        · refine at_ld (i := 0) dX8_gathers_100 rfl rfl rfl ?_
          refine at_get dX8_gathers_101 fX8_7 (mv_o hn _ _ _) (by omega) rfl ?_
          refine at_k (nI 7) dX8_gathers_104 rfl (by decide) ?_
          refine at_dup2 dX8_gathers_106 rfl rfl ?_
          refine at_ald (7) dX8_gathers_107 (mv_a hn _ _ _) rfl (by decide) (by decide) ?_
          refine at_ld (i := 0) dX8_gathers_108 rfl rfl rfl ?_
          refine at_ld (i := 1) dX8_gathers_109 rfl rfl rfl ?_
          refine at_rv [_] dX8_gathers_110 mX8_blocks ⟨Nat.le_of_ble_eq_true rfl, Nat.le_of_ble_eq_true rfl⟩ lX8_194 iX8_blocks rfl rfl (mv_o hn _ _ _) (by omega) rfl (Nat.le_of_ble_eq_true rfl) (Nat.le_of_ble_eq_true rfl) ⟨rfl, rfl⟩ (c_blocks A F v2 hn i hi (by omega)) ?_
          refine at_bin dX8_gathers_113 rfl ?_
          try dsimp only
          rw [nI_add, fs]
          refine at_ast 7 dX8_gathers_114 (mv_a hn _ _ _) (by omega) rfl (by decide) (by decide) (mv_s h A F v2 7 _ _ rfl) ?_
          refine at_vret dX8_gathers_115 rfl ?_
          exact ⟨rfl, rfl⟩
        · rw [fs] at c
          exact absurd (nI_le (by omega) (by omega)) c
      | succ m ih =>
        intro k v2 w2 f1 f3 fs hk y5
        have hmul : k * (1 + v 3) ≤ 40 := Nat.le_trans (Nat.mul_le_mul (show k ≤ 10 by omega) (show 1 + v 3 ≤ 4 by omega)) (by decide)
        have hlt := gb_lt hg (hr k (by omega))
        refine at_ld (i := 4) dX8_gathers_39 rfl rfl rfl ?_
        refine at_ld (i := 0) dX8_gathers_41 rfl rfl rfl ?_
        refine at_ld (i := 1) dX8_gathers_42 rfl rfl rfl ?_
        refine at_rv [_] dX8_gathers_43 mX8_blocks ⟨Nat.le_of_ble_eq_true rfl, Nat.le_of_ble_eq_true rfl⟩ lX8_194 iX8_blocks rfl rfl (mv_o hn _ _ _) (by omega) rfl (Nat.le_of_ble_eq_true rfl) (Nat.le_of_ble_eq_true rfl) ⟨rfl, rfl⟩ (c_blocks A F v2 hn i hi (by omega)) ?_
        refine at_ige 100 dX8_gathers_46 (by decide) (fun c => ?_) (fun c => ?_)
        · rw [fs] at c
          exact absurd c (nI_ge (by omega) (by omega))
        · refine at_ld (i := 0) dX8_gathers_49 rfl rfl rfl ?_
          refine at_get dX8_gathers_50 fX8_7 (mv_o hn _ _ _) (by omega) rfl ?_
          refine at_k (nI 1) dX8_gathers_53 rfl (by decide) ?_
          refine at_ald 1 dX8_gathers_54 (mv_a hn _ _ _) rfl (by decide) (by decide) ?_
          refine at_ld (i := 2) dX8_gathers_55 rfl rfl rfl ?_
          refine at_bin dX8_gathers_56 rfl ?_
          try dsimp only
          rw [nI_mul]
          refine at_ld (i := 3) dX8_gathers_57 rfl rfl rfl ?_
          refine at_bin dX8_gathers_58 rfl ?_
          try dsimp only
          rw [nI_add]
          refine at_ld (i := 4) dX8_gathers_59 rfl rfl rfl ?_
          refine at_k (nI 1) dX8_gathers_61 rfl (by decide) ?_
          refine at_ld (i := 0) dX8_gathers_62 rfl rfl rfl ?_
          refine at_get dX8_gathers_63 fX8_7 (mv_o hn _ _ _) (by omega) rfl ?_
          refine at_k (nI 3) dX8_gathers_66 rfl (by decide) ?_
          refine at_ald 3 dX8_gathers_67 (mv_a hn _ _ _) rfl (by decide) (by decide) ?_
          refine at_bin dX8_gathers_68 rfl ?_
          try dsimp only
          rw [nI_add]
          refine at_bin dX8_gathers_69 rfl ?_
          try dsimp only
          rw [nI_mul]
          refine at_bin dX8_gathers_70 rfl ?_
          try dsimp only
          rw [nI_add]
          have eb : v2 1 * g + p + k * (1 + v2 3) = v 1 * g + (p + k * (1 + v 3)) := by rw [f1, f3, Nat.add_assoc]
          refine at_st (i := 5) dX8_gathers_71 rfl rfl (Nat.le_of_ble_eq_true rfl) rfl ?_
          try dsimp only [List.set_cons_succ, List.set_cons_zero]
          refine at_ld (i := 0) dX8_gathers_73 rfl rfl rfl ?_
          refine at_ld (i := 1) dX8_gathers_74 rfl rfl rfl ?_
          refine at_k (nI 5) dX8_gathers_75 rfl (by decide) ?_
          refine at_ld (i := 4) dX8_gathers_76 rfl rfl rfl ?_
          refine at_bin dX8_gathers_78 rfl ?_
          try dsimp only
          rw [nI_add]
          refine at_ld (i := 5) dX8_gathers_79 rfl rfl rfl ?_
          refine at_wv [_, _, _] dX8_gathers_81 mX8_sets ⟨Nat.le_of_ble_eq_true rfl, Nat.le_of_ble_eq_true rfl⟩ lX8_236 iX8_sets rfl rfl (mv_o hn _ _ _) (by omega) rfl (Nat.le_of_ble_eq_true rfl) (Nat.le_of_ble_eq_true rfl) ⟨rfl, rfl⟩ (c_sets A F v2 hn i (5 + k) (v2 1 * g + p + k * (1 + v2 3)) _ rfl (by omega)) ⟨rfl, rfl⟩ ?_
          try dsimp only [Option.toList, List.cons_append, List.nil_append]
          refine at_ld (i := 0) dX8_gathers_84 rfl rfl rfl ?_
          refine at_k (nI 4) dX8_gathers_85 rfl (by decide) ?_
          refine at_ld (i := 5) dX8_gathers_86 rfl rfl rfl ?_
          refine at_bin dX8_gathers_88 rfl ?_
          try dsimp only
          rw [nI_mul]
          refine at_k (nI 4) dX8_gathers_89 rfl (by decide) ?_
          refine at_k (nI 0) dX8_gathers_90 rfl (by decide) ?_
          refine at_wv [_, _, _] dX8_gathers_91 mX8_letsAll ⟨Nat.le_of_ble_eq_true rfl, Nat.le_of_ble_eq_true rfl⟩ lX8_253 iX8_letsAll rfl rfl (mv_o hn _ _ _) (by omega) rfl (Nat.le_of_ble_eq_true rfl) (Nat.le_of_ble_eq_true rfl) ⟨rfl, rfl⟩ (c_letsAll A F _ hn (4 * (v2 1 * g + p + k * (1 + v2 3))) 4 (by omega) false) ⟨rfl, rfl⟩ ?_
          try dsimp only [Option.toList, List.cons_append, List.nil_append]
          refine at_iinc (nI 1) dX8_gathers_94 rfl rfl (by decide) ?_
          try dsimp only [List.set_cons_succ, List.set_cons_zero]
          refine at_goto 39 dX8_gathers_97 (by decide) ?_
          rw [nI_add]
          rw [gts]
          have w3 : wf (lta (vf_upd v2 (136 + 15 * i + (5 + k)) (v2 1 * g + p + k * (1 + v2 3))) (4 * (v2 1 * g + p + k * (1 + v2 3))) false 4) := wf_lta (wf_set w2 (by omega) (by omega) (by omega) (by omega) (fun _ => by omega)) false (by omega)
          refine ih (k + 1) _ w3 ?_ ?_ ?_ (by omega) _
          · rw [lta_out _ _ _ _ _ (by omega), vu_n _ _ _ _ (by omega), f1]
          · rw [lta_out _ _ _ _ _ (by omega), vu_n _ _ _ _ (by omega), f3]
          · rw [io_lta _ _ (by omega), io_u _ (by omega) (by omega), if_neg (by omega), fs]
    exact loop (io v i 3 / 4) 0 v1 w1 e1 e3 es (by omega) _
  have first : ∀ m k (v1 : Nat → Nat), wf v1 → v1 1 = v 1 → v1 3 = v 3 → (∀ j f, io v1 j f = io v j f) → k + m = io v i 3 / 4 → sg_A MX8_gathers 3 [some (.ref 64), some (.int (nI i)), some (.int (nI g)), some (.int (nI p)), some (.int (nI k)), none] [] (mv h A F v1) (fun r' h' => r' = none ∧ h' = mv h A F (vf_upd (gts (frb v1 i m k) i g p (io v i 3 / 4) 0) 7 (gts (frb v1 i m k) i g p (io v i 3 / 4) 0 7 + io v i 3 / 4))) := by
    intro m
    induction m with
    | zero =>
      intro k v1 w1 e1 e3 es hk
      refine at_ld (i := 4) dX8_gathers_3 rfl rfl rfl ?_
      refine at_ld (i := 0) dX8_gathers_5 rfl rfl rfl ?_
      refine at_ld (i := 1) dX8_gathers_6 rfl rfl rfl ?_
      refine at_rv [_] dX8_gathers_7 mX8_blocks ⟨Nat.le_of_ble_eq_true rfl, Nat.le_of_ble_eq_true rfl⟩ lX8_194 iX8_blocks rfl rfl (mv_o hn _ _ _) (by omega) rfl (Nat.le_of_ble_eq_true rfl) (Nat.le_of_ble_eq_true rfl) ⟨rfl, rfl⟩ (c_blocks A F v1 hn i hi (by rw [es]; omega)) ?_
      refine at_ige 36 dX8_gathers_10 (by decide) (fun c => ?_) (fun c => ?_)
      · exact second v1 w1 e1 e3 (es i 3) _
      · rw [es] at c
        exact absurd (nI_le (by omega) (by omega)) c
    | succ m ih =>
      intro k v1 w1 e1 e3 es hk
      have hb := (w1.2.2 i hi).2.2.2 k (by omega)
      refine at_ld (i := 4) dX8_gathers_3 rfl rfl rfl ?_
      refine at_ld (i := 0) dX8_gathers_5 rfl rfl rfl ?_
      refine at_ld (i := 1) dX8_gathers_6 rfl rfl rfl ?_
      refine at_rv [_] dX8_gathers_7 mX8_blocks ⟨Nat.le_of_ble_eq_true rfl, Nat.le_of_ble_eq_true rfl⟩ lX8_194 iX8_blocks rfl rfl (mv_o hn _ _ _) (by omega) rfl (Nat.le_of_ble_eq_true rfl) (Nat.le_of_ble_eq_true rfl) ⟨rfl, rfl⟩ (c_blocks A F v1 hn i hi (by rw [es]; omega)) ?_
      refine at_ige 36 dX8_gathers_10 (by decide) (fun c => ?_) (fun c => ?_)
      · rw [es] at c
        exact absurd c (nI_ge (by omega) (by omega))
      · refine at_ld (i := 0) dX8_gathers_13 rfl rfl rfl ?_
        refine at_k (nI 4) dX8_gathers_14 rfl (by decide) ?_
        refine at_ld (i := 0) dX8_gathers_15 rfl rfl rfl ?_
        refine at_ld (i := 1) dX8_gathers_16 rfl rfl rfl ?_
        refine at_k (nI 5) dX8_gathers_17 rfl (by decide) ?_
        refine at_ld (i := 4) dX8_gathers_18 rfl rfl rfl ?_
        refine at_bin dX8_gathers_20 rfl ?_
        try dsimp only
        rw [nI_add]
        refine at_rv [_, _] dX8_gathers_21 mX8_of ⟨Nat.le_of_ble_eq_true rfl, Nat.le_of_ble_eq_true rfl⟩ lX8_173 iX8_of rfl rfl (mv_o hn _ _ _) (by omega) rfl (Nat.le_of_ble_eq_true rfl) (Nat.le_of_ble_eq_true rfl) ⟨rfl, rfl⟩ (c_of A F v1 hn i (5 + k) (by omega)) ?_
        refine at_bin dX8_gathers_24 rfl ?_
        try dsimp only
        rw [nI_mul]
        refine at_k (nI 4) dX8_gathers_25 rfl (by decide) ?_
        refine at_k (nI 1) dX8_gathers_26 rfl (by decide) ?_
        refine at_wv [_, _, _] dX8_gathers_27 mX8_letsAll ⟨Nat.le_of_ble_eq_true rfl, Nat.le_of_ble_eq_true rfl⟩ lX8_253 iX8_letsAll rfl rfl (mv_o hn _ _ _) (by omega) rfl (Nat.le_of_ble_eq_true rfl) (Nat.le_of_ble_eq_true rfl) ⟨rfl, rfl⟩ (c_letsAll A F v1 hn (4 * io v1 i (5 + k)) 4 (by omega) true) ⟨rfl, rfl⟩ ?_
        try dsimp only [Option.toList, List.cons_append, List.nil_append]
        refine at_iinc (nI 1) dX8_gathers_30 rfl rfl (by decide) ?_
        try dsimp only [List.set_cons_succ, List.set_cons_zero]
        refine at_goto 3 dX8_gathers_33 (by decide) ?_
        rw [nI_add]
        refine ih (k + 1) _ (wf_lta w1 true (by omega)) ?_ ?_ (fun a b => by rw [io_lta v1 true (by omega)]; exact es a b) (by omega)
        · rw [lta_out _ _ _ _ _ (by omega), e1]
        · rw [lta_out _ _ _ _ _ (by omega), e3]
  exact first (io v i 3 / 4) 0 v w rfl rfl (fun _ _ => rfl) (by omega)
theorem gts_p {i g p : Nat} (hi : i < 24) : ∀ m k {v : Nat → Nat}, wf v → k + m ≤ 10 → (∀ j, k ≤ j → j < k + m → v 1 * g + p + j * (1 + v 3) < 32) → wf (gts v i g p m k) ∧ sb v (gts v i g p m k) ∧ (∀ j f, f < 15 → (j ≠ i ∨ f < 5) → io (gts v i g p m k) j f = io v j f) ∧ ∀ c, c < 8 → gts v i g p m k c = v c := by
  intro m
  induction m with
  | zero => intro k v w _ _; exact ⟨w, sb_r v, fun _ _ _ _ => rfl, fun _ _ => rfl⟩
  | succ m ih =>
    intro k v w hk hb
    have hbk := hb k (Nat.le_refl _) (by omega)
    have w1 := wf_lta (wf_set w (i := i) (f := 5 + k) (y := v 1 * g + p + k * (1 + v 3)) (by omega) (by omega) (by omega) (by omega) (fun _ => by omega)) false (x := 4 * (v 1 * g + p + k * (1 + v 3))) (n := 4) (by omega)
    have c0 : ∀ c, c < 8 → lta (vf_upd v (136 + 15 * i + (5 + k)) (v 1 * g + p + k * (1 + v 3))) (4 * (v 1 * g + p + k * (1 + v 3))) false 4 c = v c := fun c hc => by
      rw [lta_out _ _ _ _ _ (by omega), vu_n _ _ _ _ (by omega)]
    obtain ⟨h1, h2, h3, h4⟩ := ih (k + 1) w1 (by omega) (fun j hj1 hj2 => by rw [c0 1 (by omega), c0 3 (by omega)]; exact hb j (by omega) (by omega))
    refine ⟨h1, sb_t (sb_t (sb_u v (by omega)) (sb_l _ false (by omega))) h2, fun j f hf hj => ?_, fun c hc => ?_⟩
    · simp only [gts]
      rw [h3 j f hf hj, io_lta _ _ (by omega), io_u _ (by omega) hf, if_neg]
      rintro ⟨a, b⟩
      rcases hj with z | z
      · exact z a
      · omega
    · simp only [gts]
      rw [h4 c hc, c0 c hc]
end R14
