/-! THE REFERENCE: files that grow -/
theorem nI_subge {a b c : Nat} (ha : a < 2 ^ 30) (hb : b < 2 ^ 30) (hc : c < 2 ^ 30) : nI c ≤ nI a - nI b ↔ c + b ≤ a := by
  rw [Int32.le_iff_toInt_le, Int32.toInt_sub, nI_toInt (by omega), nI_toInt (by omega), nI_toInt (by omega)]
  rw [Int.bmod_eq_of_le (by omega) (by omega)]
  omega
def sb (v v' : Nat → Nat) : Prop := ∀ c, 496 ≤ c → v' c = v c
theorem sb_r (v : Nat → Nat) : sb v v := fun _ _ => rfl
theorem sb_t {a b c : Nat → Nat} (h1 : sb a b) (h2 : sb b c) : sb a c := fun k hk => (h2 k hk).trans (h1 k hk)
theorem sb_u (v : Nat → Nat) {j y : Nat} (hj : j < 496) : sb v (vf_upd v j y) := fun k hk => vu_n _ _ _ _ (by omega)
theorem sb_l (v : Nat → Nat) {x n : Nat} (b : Bool) (hx : x + n ≤ 488) : sb v (lta v x b n) := fun k hk => lta_out v x b k n (by omega)
theorem sb_tkb {v v' : Nat → Nat} (w : wf v) {i k : Nat} (hi : i < 24) (hk : k < 10) (h : tkb v i k = some v') : sb v v' := by
  have hgb := wf_gb w.1
  unfold tkb at h
  split at h
  · cases h
  · next b e =>
    cases h
    have hb := bnr_lt w.1 e
    exact sb_t (sb_u v (by omega)) (sb_l _ _ (by omega))
theorem sb_tkt {v v' : Nat → Nat} (w : wf v) {i bl u : Nat} (hi : i < 24) (hu : 1 ≤ u) (hu4 : u ≤ 4) (h : tkt v i bl u = some v') : sb v v' := by
  have hgb := wf_gb w.1
  unfold tkt at h
  split at h
  · cases h
  · next x e =>
    cases h
    obtain ⟨h1, h2⟩ := rnr_end w.1 hu hu4 e
    exact sb_t (sb_u v (by omega)) (sb_l _ _ (by omega))
def inc (v : Nat → Nat) (j : Nat) : Nat → Nat := vf_upd v j (v j + 1)
def wdn (v : Nat → Nat) (i t u : Nat) : Option (Nat → Nat) := if 0 < t ∧ io v i 4 % 4 + u ≤ 4 ∧ allB (fun k => fr v (io v i 4 + t + k)) (u - t) = true then some (inc (lta v (io v i 4 + t) false (u - t)) 6) else
  match tkt v i (io v i 3 / 4) u with
  | none => none
  | some v1 => some (if 0 < t then inc (lta v1 (io v i 4) true t) 7 else v1)
def fil (v : Nat → Nat) (i t : Nat) : Option (Nat → Nat) := if io v i 4 % 4 = 0 ∧ allB (fun k => fr v (io v i 4 + t + k)) (4 - t) = true then some (inc (vf_upd (lta v (io v i 4) false 4) (136 + 15 * i + (5 + io v i 3 / 4)) (io v i 4 / 4)) 6) else
  match tkb v i (io v i 3 / 4) with
  | none => none
  | some v1 => some (inc (lta v1 (io v i 4) true t) 7)
def tks (v : Nat → Nat) (i : Nat) : Nat → Nat → Option (Nat → Nat)
  | 0, _ => some v
  | m + 1, k => match tkb v i k with
    | none => none
    | some v1 => tks v1 i m (k + 1)
def cgr (v : Nat → Nat) (i size : Nat) : Option (Nat → Nat) := if size / 4 = io v i 3 / 4 then wdn v i (io v i 3 % 4) (size % 4) else
  match (if 0 < io v i 3 % 4 then fil v i (io v i 3 % 4) else some v) with
  | none => none
  | some v1 => match tks v1 i (size / 4 - (if 0 < io v i 3 % 4 then io v i 3 / 4 + 1 else io v i 3 / 4)) (if 0 < io v i 3 % 4 then io v i 3 / 4 + 1 else io v i 3 / 4) with
    | none => none
    | some v2 => if size % 4 = 0 then some v2 else tkt v2 i (size / 4) (size % 4)
def grw (v : Nat → Nat) (i n : Nat) : Option (Nat → Nat) := if 40 < io v i 3 + n ∨ room v < v 4 + n then none else
  match cgr v i (io v i 3 + n) with
  | none => none
  | some v' => some (vf_upd v' (136 + 15 * i + 3) (io v i 3 + n))
theorem vu_comm {α : Type} (A : Nat → α) {a b : Nat} (h : a ≠ b) (x y : α) : vf_upd (vf_upd A a x) b y = vf_upd (vf_upd A b y) a x := by
  funext j
  simp only [vf_upd]
  by_cases h1 : j = a
  · by_cases h2 : j = b
    · omega
    · simp [h1, h]
  · by_cases h2 : j = b
    · have h3 : ¬ b = a := fun e => h e.symm
      simp [h2, h3]
    · simp [h1, h2]
theorem wf_wdn {v v' : Nat → Nat} (w : wf v) {i t u : Nat} (hi : i < 24) (hu : 1 ≤ u) (hu4 : u < 4) (ht : io v i 4 + t ≤ 128) (h : wdn v i t u = some v') : wf v' ∧ sb v v' := by
  obtain ⟨-, -, wt, -⟩ := w.2.2 i hi
  unfold wdn at h
  split at h
  · next c =>
    cases h
    exact ⟨wf_c (wf_lta w false (by omega)) 6 _ (Or.inl rfl), sb_t (sb_l v false (by omega)) (sb_u _ (by omega))⟩
  · split at h
    · cases h
    · next v1 e =>
      cases h
      have w1 := wf_tkt w hu (by omega) e
      have s1 := sb_tkt w hi hu (by omega) e
      split
      · exact ⟨wf_c (wf_lta w1 true (by omega)) 7 _ (Or.inr rfl), sb_t s1 (sb_t (sb_l _ true (by omega)) (sb_u _ (by omega)))⟩
      · exact ⟨w1, s1⟩
theorem wf_fil {v v' : Nat → Nat} (w : wf v) {i t : Nat} (hi : i < 24) (hk : io v i 3 / 4 < 10) (ht : io v i 4 + t ≤ 128) (h : fil v i t = some v') : wf v' ∧ sb v v' := by
  obtain ⟨-, -, wt, -⟩ := w.2.2 i hi
  unfold fil at h
  split at h
  · next c =>
    cases h
    exact ⟨wf_c (wf_set (wf_lta w false (by omega)) (by omega) (by omega) (by omega) (by omega) (fun _ => by omega)) 6 _ (Or.inl rfl), sb_t (sb_l v false (by omega)) (sb_t (sb_u _ (by omega)) (sb_u _ (by omega)))⟩
  · split at h
    · cases h
    · next v1 e =>
      cases h
      have w1 := wf_tkb w hk e
      have s1 := sb_tkb w hi hk e
      exact ⟨wf_c (wf_lta w1 true (by omega)) 7 _ (Or.inr rfl), sb_t s1 (sb_t (sb_l _ true (by omega)) (sb_u _ (by omega)))⟩
theorem wf_tks {i : Nat} (hi : i < 24) : ∀ m k {v v' : Nat → Nat}, wf v → k + m ≤ 10 → tks v i m k = some v' → wf v' ∧ sb v v' := by
  intro m
  induction m with
  | zero => intro k v v' w _ h; cases h; exact ⟨w, sb_r v⟩
  | succ m ih =>
    intro k v v' w hk h
    simp only [tks] at h
    split at h
    · cases h
    · next v1 e =>
      obtain ⟨a, b⟩ := ih (k + 1) (wf_tkb w (by omega) e) (by omega) h
      exact ⟨a, sb_t (sb_tkb w hi (by omega) e) b⟩
theorem okA_s (x : Nat → Nat) : ¬ okA (some x) = 0 := fun e => absurd (show bI true = 0 from e) (by decide)
section R9
variable {h : sg_H} (A : Nat → Nat → Int32) (F : Nat → Int32) (v : Nat → Nat)
set_option maxRecDepth 100000 in
theorem c_copies (hn : 72 ≤ h.1) (a b : Nat) (ha : a < 3) (hb : b < 3) (hab : a ≠ b) : sg_Kw MX8_copies [.ref (65 + a), .ref (65 + b)] (mh h A F) none (mh h (vf_upd A b (fun c => if c < 496 then A a c else A b c)) F) := by
  have fa : ∀ A' : Nat → Nat → Int32, sg_at (mh h A' F) (65 + a) (.inl (false, 496, A' a)) := fun A' => by
    have := mh_a hn A' F a (by omega)
    rcases (show a = 0 ∨ a = 1 ∨ a = 2 by omega) with rfl | rfl | rfl <;> exact this
  have fb : ∀ A' : Nat → Nat → Int32, sg_at (mh h A' F) (65 + b) (.inl (false, 496, A' b)) := fun A' => by
    have := mh_a hn A' F b (by omega)
    rcases (show b = 0 ∨ b = 1 ∨ b = 2 by omega) with rfl | rfl | rfl <;> exact this
  have ub : ∀ (A' : Nat → Nat → Int32) f, sg_up (mh h A' F) (65 + b) (.inl (false, 496, f)) = mh h (vf_upd A' b f) F := fun A' f => by
    have := mh_ua h A' F b (by omega) f
    rcases (show b = 0 ∨ b = 1 ∨ b = 2 by omega) with rfl | rfl | rfl <;> exact this
  show sg_A MX8_copies 0 [some (.ref (65 + a)), some (.ref (65 + b)), none] [] _ _
  refine at_k (nI 0) dX8_copies_0 rfl (by decide) ?_
  refine at_st (i := 2) dX8_copies_1 rfl rfl (Nat.le_of_ble_eq_true rfl) rfl ?_
  try dsimp only [List.set_cons_succ, List.set_cons_zero]
  have e0 : mh h A F = mh h (vf_upd A b (fun c => if c < 0 then A a c else A b c)) F := by
    have : (fun c => if c < 0 then A a c else A b c) = A b := by funext c; rw [if_neg (by omega)]
    rw [this, vu_id]
  rw [e0]
  refine lpN (fun k => sg_A MX8_copies 2 [some (.ref (65 + a)), some (.ref (65 + b)), some (.int (nI k))] [] (mh h (vf_upd A b (fun c => if c < k then A a c else A b c)) F) (fun r h' => r = none ∧ h' = mh h (vf_upd A b (fun c => if c < 496 then A a c else A b c)) F)) 496 ?_ ?_
  · refine at_ld (i := 2) dX8_copies_2 rfl rfl rfl ?_
    refine at_k (nI 496) dX8_copies_3 rfl (by decide) ?_
    refine at_ige 21 dX8_copies_6 (by decide) (fun c => ?_) (fun c => ?_)
    · refine at_vret dX8_copies_21 rfl ?_
      exact ⟨rfl, rfl⟩
    · exact absurd (nI_le (Nat.le_refl _) (by omega)) c
  · intro k hk ih
    refine at_ld (i := 2) dX8_copies_2 rfl rfl rfl ?_
    refine at_k (nI 496) dX8_copies_3 rfl (by decide) ?_
    refine at_ige 21 dX8_copies_6 (by decide) (fun c => ?_) (fun c => ?_)
    · exact absurd c (nI_ge hk (by omega))
    · refine at_ld (i := 1) dX8_copies_9 rfl rfl rfl ?_
      refine at_ld (i := 2) dX8_copies_10 rfl rfl rfl ?_
      refine at_ld (i := 0) dX8_copies_11 rfl rfl rfl ?_
      refine at_ld (i := 2) dX8_copies_12 rfl rfl rfl ?_
      refine at_ald k dX8_copies_13 (fa _) rfl hk (by decide) ?_
      rw [vu_n _ _ _ _ hab]
      refine at_ast k dX8_copies_14 (fb _) (by omega) rfl hk (by decide) (ub _ _) ?_
      rw [vu_vu, vu_s]
      have e : upd (fun c => if c < k then A a c else A b c) k (A a k) = (fun c => if c < k + 1 then A a c else A b c) := by
        funext c
        simp only [upd]
        by_cases h1 : c = k
        · rw [if_pos h1, if_pos (by omega), h1]
        · rw [if_neg h1]
          by_cases h2 : c < k
          · rw [if_pos h2, if_pos (by omega)]
          · rw [if_neg h2, if_neg (by omega)]
      rw [e]
      refine at_iinc (nI 1) dX8_copies_15 rfl rfl (by decide) ?_
      try dsimp only [List.set_cons_succ, List.set_cons_zero]
      refine at_goto 2 dX8_copies_18 (by decide) ?_
      rw [nI_add]
      exact ih
/-- one more is counted in cell j -/
theorem mv_inc (hn : 72 ≤ h.1) (j : Nat) (hj : j < 496) : sg_up (mv h A F v) 65 (.inl (false, 496, upd (fun k => nI (v k)) j (nI (v j) + nI 1))) = mv h A F (inc v j) := mv_s h A F v j _ _ (nI_add _ _)
set_option maxRecDepth 100000 in
theorem c_widens (hn : 72 ≤ h.1) (w : wf v) (i t u : Nat) (hi : i < 24) (htu : t < u) (hu4 : u < 4) (ht : io v i 4 + t ≤ 128) : sg_Kw MX8_widens [.ref 64, .int (nI i), .int (nI t), .int (nI u)] (mv h A F v) (some (.int (okA (wdn v i t u)))) (mv h A F ((wdn v i t u).getD v)) := by
  have hs := wf_s w hi
  obtain ⟨-, -, wt, -⟩ := w.2.2 i hi
  show sg_A MX8_widens 0 [some (.ref 64), some (.int (nI i)), some (.int (nI t)), some (.int (nI u)), none] [] _ _
  refine at_ld (i := 0) dX8_widens_0 rfl rfl rfl ?_
  refine at_ld (i := 1) dX8_widens_1 rfl rfl rfl ?_
  refine at_k (nI 4) dX8_widens_2 rfl (by decide) ?_
  refine at_rv [_, _] dX8_widens_3 mX8_of ⟨Nat.le_of_ble_eq_true rfl, Nat.le_of_ble_eq_true rfl⟩ lX8_173 iX8_of rfl rfl (mv_o hn _ _ _) (by omega) rfl (Nat.le_of_ble_eq_true rfl) (Nat.le_of_ble_eq_true rfl) ⟨rfl, rfl⟩ (c_of A F v hn i 4 (by omega)) ?_
  refine at_st (i := 4) dX8_widens_6 rfl rfl (Nat.le_of_ble_eq_true rfl) rfl ?_
  try dsimp only [List.set_cons_succ, List.set_cons_zero]
  refine at_ld (i := 2) dX8_widens_8 rfl rfl rfl ?_
  have rest : ¬ (0 < t ∧ io v i 4 % 4 + u ≤ 4 ∧ allB (fun k => fr v (io v i 4 + t + k)) (u - t) = true) → sg_A MX8_widens 61 [some (.ref 64), some (.int (nI i)), some (.int (nI t)), some (.int (nI u)), some (.int (nI (io v i 4)))] [] (mv h A F v) (fun r' h' => r' = some (.int (okA (wdn v i t u))) ∧ h' = mv h A F ((wdn v i t u).getD v)) := by
    intro hno
    rw [wdn, if_neg hno]
    refine at_ld (i := 0) dX8_widens_61 rfl rfl rfl ?_
    refine at_ld (i := 1) dX8_widens_62 rfl rfl rfl ?_
    refine at_ld (i := 0) dX8_widens_63 rfl rfl rfl ?_
    refine at_ld (i := 1) dX8_widens_64 rfl rfl rfl ?_
    refine at_rv [_] dX8_widens_65 mX8_blocks ⟨Nat.le_of_ble_eq_true rfl, Nat.le_of_ble_eq_true rfl⟩ lX8_194 iX8_blocks rfl rfl (mv_o hn _ _ _) (by omega) rfl (Nat.le_of_ble_eq_true rfl) (Nat.le_of_ble_eq_true rfl) ⟨rfl, rfl⟩ (c_blocks A F v hn i hi (by omega)) ?_
    refine at_ld (i := 3) dX8_widens_68 rfl rfl rfl ?_
    refine at_wv [_, _, _] dX8_widens_69 mX8_takesTail ⟨Nat.le_of_ble_eq_true rfl, Nat.le_of_ble_eq_true rfl⟩ lX8_257 iX8_takesTail rfl rfl (mv_o hn _ _ _) (by omega) rfl (Nat.le_of_ble_eq_true rfl) (Nat.le_of_ble_eq_true rfl) ⟨rfl, rfl⟩ (c_takesTail A F v hn w i (io v i 3 / 4) u hi (by omega) (by omega) (by omega)) ⟨rfl, rfl⟩ ?_
    try dsimp only [Option.toList, List.cons_append, List.nil_append]
    cases q : tkt v i (io v i 3 / 4) u with
    | none =>
      refine at_zne 77 dX8_widens_72 (by decide) (fun c => ?_) (fun c => ?_)
      · exact absurd rfl c
      · refine at_k (nI 0) dX8_widens_75 rfl (by decide) ?_
        refine at_ret dX8_widens_76 rfl rfl ?_
        exact ⟨rfl, rfl⟩
    | some v1 =>
      have w1 := wf_tkt w (by omega) (by omega) q
      refine at_zne 77 dX8_widens_72 (by decide) (fun c => ?_) (fun c => ?_)
      · rw [show (some v1).getD v = v1 from rfl]
        refine at_ld (i := 2) dX8_widens_77 rfl rfl rfl ?_
        refine at_zle 100 dX8_widens_78 (by decide) (fun c1 => ?_) (fun c1 => ?_)
        · have c2 : ¬ 0 < t := fun z => nI_nle z (by omega) c1
          refine at_k (nI 1) dX8_widens_100 rfl (by decide) ?_
          refine at_ret dX8_widens_101 rfl rfl ?_
          try dsimp only
          rw [if_neg c2]
          exact ⟨rfl, rfl⟩
        · have c2 : 0 < t := by
            rcases Nat.eq_zero_or_pos t with z | z
            · rw [z] at c1; exact absurd (by decide) c1
            · exact z
          refine at_ld (i := 0) dX8_widens_81 rfl rfl rfl ?_
          refine at_ld (i := 4) dX8_widens_82 rfl rfl rfl ?_
          refine at_ld (i := 2) dX8_widens_84 rfl rfl rfl ?_
          refine at_k (nI 1) dX8_widens_85 rfl (by decide) ?_
          refine at_wv [_, _, _] dX8_widens_86 mX8_letsAll ⟨Nat.le_of_ble_eq_true rfl, Nat.le_of_ble_eq_true rfl⟩ lX8_253 iX8_letsAll rfl rfl (mv_o hn _ _ _) (by omega) rfl (Nat.le_of_ble_eq_true rfl) (Nat.le_of_ble_eq_true rfl) ⟨rfl, rfl⟩ (c_letsAll A F v1 hn (io v i 4) t (by omega) true) ⟨rfl, rfl⟩ ?_
          try dsimp only [Option.toList, List.cons_append, List.nil_append]
          refine at_ld (i := 0) dX8_widens_89 rfl rfl rfl ?_
          refine at_get dX8_widens_90 fX8_7 (mv_o hn _ _ _) (by omega) rfl ?_
          refine at_k (nI 7) dX8_widens_93 rfl (by decide) ?_
          refine at_dup2 dX8_widens_95 rfl rfl ?_
          refine at_ald (7) dX8_widens_96 (mv_a hn _ _ _) rfl (by decide) (by decide) ?_
          refine at_k (nI 1) dX8_widens_97 rfl (by decide) ?_
          refine at_bin dX8_widens_98 rfl ?_
          refine at_ast 7 dX8_widens_99 (mv_a hn _ _ _) (by omega) rfl (by decide) (by decide) (mv_inc A F _ hn 7 (by decide)) ?_
          refine at_k (nI 1) dX8_widens_100 rfl (by decide) ?_
          refine at_ret dX8_widens_101 rfl rfl ?_
          try dsimp only
          rw [if_pos c2]
          exact ⟨rfl, rfl⟩
      · exact absurd (Classical.not_not.mp c) (okA_s _)
  refine at_zle 61 dX8_widens_9 (by decide) (fun c => ?_) (fun c => ?_)
  · have c2 : ¬ 0 < t := fun z => nI_nle z (by omega) c
    exact rest (fun z => c2 z.1)
  · have c2 : 0 < t := by
      rcases Nat.eq_zero_or_pos t with z | z
      · rw [z] at c; exact absurd (by decide) c
      · exact z
    refine at_ld (i := 4) dX8_widens_12 rfl rfl rfl ?_
    refine at_k (nI 4) dX8_widens_14 rfl (by decide) ?_
    refine at_rem dX8_widens_15 (by decide) ?_
    rw [nI_rem (by omega) (by decide)]
    refine at_ld (i := 3) dX8_widens_16 rfl rfl rfl ?_
    refine at_bin dX8_widens_17 rfl ?_
    try dsimp only
    rw [nI_add]
    refine at_k (nI 4) dX8_widens_18 rfl (by decide) ?_
    refine at_igt 61 dX8_widens_19 (by decide) (fun c3 => ?_) (fun c3 => ?_)
    · have c4 := (nI_ltI (by omega) (by omega)).mp c3
      exact rest (fun z => by omega)
    · have c4 : io v i 4 % 4 + u ≤ 4 := by
        rcases Nat.lt_or_ge 4 (io v i 4 % 4 + u) with z | z
        · exact absurd (nI_lt z (by omega)) c3
        · exact z
      refine at_ld (i := 0) dX8_widens_22 rfl rfl rfl ?_
      refine at_ld (i := 4) dX8_widens_23 rfl rfl rfl ?_
      refine at_ld (i := 2) dX8_widens_25 rfl rfl rfl ?_
      refine at_bin dX8_widens_26 rfl ?_
      try dsimp only
      rw [nI_add]
      refine at_ld (i := 3) dX8_widens_27 rfl rfl rfl ?_
      refine at_ld (i := 2) dX8_widens_28 rfl rfl rfl ?_
      refine at_bin dX8_widens_29 rfl ?_
      try dsimp only
      rw [nI_sub (by omega)]
      refine at_rv [_, _] dX8_widens_30 mX8_areFree ⟨Nat.le_of_ble_eq_true rfl, Nat.le_of_ble_eq_true rfl⟩ lX8_145 iX8_areFree rfl rfl (mv_o hn _ _ _) (by omega) rfl (Nat.le_of_ble_eq_true rfl) (Nat.le_of_ble_eq_true rfl) ⟨rfl, rfl⟩ (c_areFree A F v hn (io v i 4 + t) (u - t) (by omega) (fun k hk => w.2.1 _ (by omega))) ?_
      refine at_zeq 61 dX8_widens_33 (by decide) (fun c5 => ?_) (fun c5 => ?_)
      · have c6 := (bI_0 _).mp c5
        exact rest (fun z => by rw [c6] at z; cases z.2.2)
      · have c6 := bI_1 c5
        refine at_ld (i := 0) dX8_widens_36 rfl rfl rfl ?_
        refine at_ld (i := 4) dX8_widens_37 rfl rfl rfl ?_
        refine at_ld (i := 2) dX8_widens_39 rfl rfl rfl ?_
        refine at_bin dX8_widens_40 rfl ?_
        try dsimp only
        rw [nI_add]
        refine at_ld (i := 3) dX8_widens_41 rfl rfl rfl ?_
        refine at_ld (i := 2) dX8_widens_42 rfl rfl rfl ?_
        refine at_bin dX8_widens_43 rfl ?_
        try dsimp only
        rw [nI_sub (by omega)]
        refine at_k (nI 0) dX8_widens_44 rfl (by decide) ?_
        refine at_wv [_, _, _] dX8_widens_45 mX8_letsAll ⟨Nat.le_of_ble_eq_true rfl, Nat.le_of_ble_eq_true rfl⟩ lX8_253 iX8_letsAll rfl rfl (mv_o hn _ _ _) (by omega) rfl (Nat.le_of_ble_eq_true rfl) (Nat.le_of_ble_eq_true rfl) ⟨rfl, rfl⟩ (c_letsAll A F v hn (io v i 4 + t) (u - t) (by omega) false) ⟨rfl, rfl⟩ ?_
        try dsimp only [Option.toList, List.cons_append, List.nil_append]
        refine at_ld (i := 0) dX8_widens_48 rfl rfl rfl ?_
        refine at_get dX8_widens_49 fX8_7 (mv_o hn _ _ _) (by omega) rfl ?_
        refine at_k (nI 6) dX8_widens_52 rfl (by decide) ?_
        refine at_dup2 dX8_widens_54 rfl rfl ?_
        refine at_ald (6) dX8_widens_55 (mv_a hn _ _ _) rfl (by decide) (by decide) ?_
        refine at_k (nI 1) dX8_widens_56 rfl (by decide) ?_
        refine at_bin dX8_widens_57 rfl ?_
        refine at_ast 6 dX8_widens_58 (mv_a hn _ _ _) (by omega) rfl (by decide) (by decide) (mv_inc A F _ hn 6 (by decide)) ?_
        refine at_k (nI 1) dX8_widens_59 rfl (by decide) ?_
        refine at_ret dX8_widens_60 rfl rfl ?_
        rw [wdn, if_pos ⟨c2, c4, c6⟩]
        exact ⟨rfl, rfl⟩
set_option maxRecDepth 100000 in
theorem c_fills (hn : 72 ≤ h.1) (w : wf v) (i t : Nat) (hi : i < 24) (ht1 : 0 < t) (ht3 : t < 4) (hk : io v i 3 / 4 < 10) (ht : io v i 4 + t ≤ 128) : sg_Kw MX8_fills [.ref 64, .int (nI i), .int (nI t)] (mv h A F v) (some (.int (okA (fil v i t)))) (mv h A F ((fil v i t).getD v)) := by
  have hs := wf_s w hi
  obtain ⟨-, -, wt, -⟩ := w.2.2 i hi
  show sg_A MX8_fills 0 [some (.ref 64), some (.int (nI i)), some (.int (nI t)), none, none] [] _ _
  refine at_ld (i := 0) dX8_fills_0 rfl rfl rfl ?_
  refine at_ld (i := 1) dX8_fills_1 rfl rfl rfl ?_
  refine at_k (nI 4) dX8_fills_2 rfl (by decide) ?_
  refine at_rv [_, _] dX8_fills_3 mX8_of ⟨Nat.le_of_ble_eq_true rfl, Nat.le_of_ble_eq_true rfl⟩ lX8_173 iX8_of rfl rfl (mv_o hn _ _ _) (by omega) rfl (Nat.le_of_ble_eq_true rfl) (Nat.le_of_ble_eq_true rfl) ⟨rfl, rfl⟩ (c_of A F v hn i 4 (by omega)) ?_
  refine at_st (i := 3) dX8_fills_6 rfl rfl (Nat.le_of_ble_eq_true rfl) rfl ?_
  try dsimp only [List.set_cons_succ, List.set_cons_zero]
  refine at_ld (i := 0) dX8_fills_7 rfl rfl rfl ?_
  refine at_ld (i := 1) dX8_fills_8 rfl rfl rfl ?_
  refine at_rv [_] dX8_fills_9 mX8_blocks ⟨Nat.le_of_ble_eq_true rfl, Nat.le_of_ble_eq_true rfl⟩ lX8_194 iX8_blocks rfl rfl (mv_o hn _ _ _) (by omega) rfl (Nat.le_of_ble_eq_true rfl) (Nat.le_of_ble_eq_true rfl) ⟨rfl, rfl⟩ (c_blocks A F v hn i hi (by omega)) ?_
  refine at_st (i := 4) dX8_fills_12 rfl rfl (Nat.le_of_ble_eq_true rfl) rfl ?_
  try dsimp only [List.set_cons_succ, List.set_cons_zero]
  refine at_ld (i := 3) dX8_fills_14 rfl rfl rfl ?_
  refine at_k (nI 4) dX8_fills_15 rfl (by decide) ?_
  refine at_rem dX8_fills_16 (by decide) ?_
  rw [nI_rem (by omega) (by decide)]
  have rest : ¬ (io v i 4 % 4 = 0 ∧ allB (fun k => fr v (io v i 4 + t + k)) (4 - t) = true) → sg_A MX8_fills 65 [some (.ref 64), some (.int (nI i)), some (.int (nI t)), some (.int (nI (io v i 4))), some (.int (nI (io v i 3 / 4)))] [] (mv h A F v) (fun r' h' => r' = some (.int (okA (fil v i t))) ∧ h' = mv h A F ((fil v i t).getD v)) := by
    intro hno
    rw [fil, if_neg hno]
    refine at_ld (i := 0) dX8_fills_65 rfl rfl rfl ?_
    refine at_ld (i := 1) dX8_fills_66 rfl rfl rfl ?_
    refine at_ld (i := 4) dX8_fills_67 rfl rfl rfl ?_
    refine at_wv [_, _] dX8_fills_69 mX8_takesBlock ⟨Nat.le_of_ble_eq_true rfl, Nat.le_of_ble_eq_true rfl⟩ lX8_261 iX8_takesBlock rfl rfl (mv_o hn _ _ _) (by omega) rfl (Nat.le_of_ble_eq_true rfl) (Nat.le_of_ble_eq_true rfl) ⟨rfl, rfl⟩ (c_takesBlock A F v hn w i (io v i 3 / 4) hi hk) ⟨rfl, rfl⟩ ?_
    try dsimp only [Option.toList, List.cons_append, List.nil_append]
    cases q : tkb v i (io v i 3 / 4) with
    | none =>
      refine at_zne 77 dX8_fills_72 (by decide) (fun c => ?_) (fun c => ?_)
      · exact absurd rfl c
      · refine at_k (nI 0) dX8_fills_75 rfl (by decide) ?_
        refine at_ret dX8_fills_76 rfl rfl ?_
        exact ⟨rfl, rfl⟩
    | some v1 =>
      have w1 := wf_tkb w hk q
      refine at_zne 77 dX8_fills_72 (by decide) (fun c => ?_) (fun c => ?_)
      · rw [show (some v1).getD v = v1 from rfl]
        refine at_ld (i := 0) dX8_fills_77 rfl rfl rfl ?_
        refine at_ld (i := 3) dX8_fills_78 rfl rfl rfl ?_
        refine at_ld (i := 2) dX8_fills_79 rfl rfl rfl ?_
        refine at_k (nI 1) dX8_fills_80 rfl (by decide) ?_
        refine at_wv [_, _, _] dX8_fills_81 mX8_letsAll ⟨Nat.le_of_ble_eq_true rfl, Nat.le_of_ble_eq_true rfl⟩ lX8_253 iX8_letsAll rfl rfl (mv_o hn _ _ _) (by omega) rfl (Nat.le_of_ble_eq_true rfl) (Nat.le_of_ble_eq_true rfl) ⟨rfl, rfl⟩ (c_letsAll A F v1 hn (io v i 4) t (by omega) true) ⟨rfl, rfl⟩ ?_
        try dsimp only [Option.toList, List.cons_append, List.nil_append]
        refine at_ld (i := 0) dX8_fills_84 rfl rfl rfl ?_
        refine at_get dX8_fills_85 fX8_7 (mv_o hn _ _ _) (by omega) rfl ?_
        refine at_k (nI 7) dX8_fills_88 rfl (by decide) ?_
        refine at_dup2 dX8_fills_90 rfl rfl ?_
        refine at_ald (7) dX8_fills_91 (mv_a hn _ _ _) rfl (by decide) (by decide) ?_
        refine at_k (nI 1) dX8_fills_92 rfl (by decide) ?_
        refine at_bin dX8_fills_93 rfl ?_
        refine at_ast 7 dX8_fills_94 (mv_a hn _ _ _) (by omega) rfl (by decide) (by decide) (mv_inc A F _ hn 7 (by decide)) ?_
        refine at_k (nI 1) dX8_fills_95 rfl (by decide) ?_
        refine at_ret dX8_fills_96 rfl rfl ?_
        exact ⟨rfl, rfl⟩
      · exact absurd (Classical.not_not.mp c) (okA_s _)
  refine at_zne 65 dX8_fills_17 (by decide) (fun c => ?_) (fun c => ?_)
  · have c1 : ¬ io v i 4 % 4 = 0 := fun z => c (by rw [z]; rfl)
    exact rest (fun z => c1 z.1)
  · have c1 := (nI_eq32 (b := 0) (by omega) (by decide)).mp (Classical.not_not.mp c)
    refine at_ld (i := 0) dX8_fills_20 rfl rfl rfl ?_
    refine at_ld (i := 3) dX8_fills_21 rfl rfl rfl ?_
    refine at_ld (i := 2) dX8_fills_22 rfl rfl rfl ?_
    refine at_bin dX8_fills_23 rfl ?_
    try dsimp only
    rw [nI_add]
    refine at_k (nI 4) dX8_fills_24 rfl (by decide) ?_
    refine at_ld (i := 2) dX8_fills_25 rfl rfl rfl ?_
    refine at_bin dX8_fills_26 rfl ?_
    try dsimp only
    rw [nI_sub (by omega)]
    refine at_rv [_, _] dX8_fills_27 mX8_areFree ⟨Nat.le_of_ble_eq_true rfl, Nat.le_of_ble_eq_true rfl⟩ lX8_145 iX8_areFree rfl rfl (mv_o hn _ _ _) (by omega) rfl (Nat.le_of_ble_eq_true rfl) (Nat.le_of_ble_eq_true rfl) ⟨rfl, rfl⟩ (c_areFree A F v hn (io v i 4 + t) (4 - t) (by omega) (fun k hk => w.2.1 _ (by omega))) ?_
    refine at_zeq 65 dX8_fills_30 (by decide) (fun c2 => ?_) (fun c2 => ?_)
    · have c3 := (bI_0 _).mp c2
      exact rest (fun z => by rw [c3] at z; cases z.2)
    · have c3 := bI_1 c2
      refine at_ld (i := 0) dX8_fills_33 rfl rfl rfl ?_
      refine at_ld (i := 3) dX8_fills_34 rfl rfl rfl ?_
      refine at_k (nI 4) dX8_fills_35 rfl (by decide) ?_
      refine at_k (nI 0) dX8_fills_36 rfl (by decide) ?_
      refine at_wv [_, _, _] dX8_fills_37 mX8_letsAll ⟨Nat.le_of_ble_eq_true rfl, Nat.le_of_ble_eq_true rfl⟩ lX8_253 iX8_letsAll rfl rfl (mv_o hn _ _ _) (by omega) rfl (Nat.le_of_ble_eq_true rfl) (Nat.le_of_ble_eq_true rfl) ⟨rfl, rfl⟩ (c_letsAll A F v hn (io v i 4) 4 (by omega) false) ⟨rfl, rfl⟩ ?_
      try dsimp only [Option.toList, List.cons_append, List.nil_append]
      refine at_ld (i := 0) dX8_fills_40 rfl rfl rfl ?_
      refine at_ld (i := 1) dX8_fills_41 rfl rfl rfl ?_
      refine at_k (nI 5) dX8_fills_42 rfl (by decide) ?_
      refine at_ld (i := 4) dX8_fills_43 rfl rfl rfl ?_
      refine at_bin dX8_fills_45 rfl ?_
      try dsimp only
      rw [nI_add]
      refine at_ld (i := 3) dX8_fills_46 rfl rfl rfl ?_
      refine at_k (nI 4) dX8_fills_47 rfl (by decide) ?_
      refine at_div dX8_fills_48 (by decide) ?_
      rw [nI_div (by omega) (by decide)]
      refine at_wv [_, _, _] dX8_fills_49 mX8_sets ⟨Nat.le_of_ble_eq_true rfl, Nat.le_of_ble_eq_true rfl⟩ lX8_236 iX8_sets rfl rfl (mv_o hn _ _ _) (by omega) rfl (Nat.le_of_ble_eq_true rfl) (Nat.le_of_ble_eq_true rfl) ⟨rfl, rfl⟩ (c_sets A F _ hn i (5 + io v i 3 / 4) (io v i 4 / 4) _ rfl (by omega)) ⟨rfl, rfl⟩ ?_
      try dsimp only [Option.toList, List.cons_append, List.nil_append]
      refine at_ld (i := 0) dX8_fills_52 rfl rfl rfl ?_
      refine at_get dX8_fills_53 fX8_7 (mv_o hn _ _ _) (by omega) rfl ?_
      refine at_k (nI 6) dX8_fills_56 rfl (by decide) ?_
      refine at_dup2 dX8_fills_58 rfl rfl ?_
      refine at_ald (6) dX8_fills_59 (mv_a hn _ _ _) rfl (by decide) (by decide) ?_
      refine at_k (nI 1) dX8_fills_60 rfl (by decide) ?_
      refine at_bin dX8_fills_61 rfl ?_
      refine at_ast 6 dX8_fills_62 (mv_a hn _ _ _) (by omega) rfl (by decide) (by decide) (mv_inc A F _ hn 6 (by decide)) ?_
      refine at_k (nI 1) dX8_fills_63 rfl (by decide) ?_
      refine at_ret dX8_fills_64 rfl rfl ?_
      rw [fil, if_pos ⟨c1, c3⟩]
      exact ⟨rfl, rfl⟩
set_option maxRecDepth 100000 in
theorem c_canGrow (hn : 72 ≤ h.1) (w : wf v) (i size : Nat) (hi : i < 24) (hsz : io v i 3 < size) (hs40 : size ≤ 40) (ht : io v i 4 + io v i 3 % 4 ≤ 128) : sg_K MX8_canGrow [.ref 64, .int (nI i), .int (nI size)] (mv h A F v) (fun r h' => r = some (.int (okA (cgr v i size))) ∧ ∃ v', h' = mv h A F v' ∧ sb v v' ∧ wf v' ∧ ∀ x, cgr v i size = some x → v' = x) := by
  have hs := wf_s w hi
  show sg_A MX8_canGrow 0 [some (.ref 64), some (.int (nI i)), some (.int (nI size)), none, none, none, none, none] [] _ _
  refine at_ld (i := 0) dX8_canGrow_0 rfl rfl rfl ?_
  refine at_ld (i := 1) dX8_canGrow_1 rfl rfl rfl ?_
  refine at_rv [_] dX8_canGrow_2 mX8_blocks ⟨Nat.le_of_ble_eq_true rfl, Nat.le_of_ble_eq_true rfl⟩ lX8_194 iX8_blocks rfl rfl (mv_o hn _ _ _) (by omega) rfl (Nat.le_of_ble_eq_true rfl) (Nat.le_of_ble_eq_true rfl) ⟨rfl, rfl⟩ (c_blocks A F v hn i hi (by omega)) ?_
  refine at_st (i := 3) dX8_canGrow_5 rfl rfl (Nat.le_of_ble_eq_true rfl) rfl ?_
  try dsimp only [List.set_cons_succ, List.set_cons_zero]
  refine at_ld (i := 0) dX8_canGrow_6 rfl rfl rfl ?_
  refine at_ld (i := 1) dX8_canGrow_7 rfl rfl rfl ?_
  refine at_rv [_] dX8_canGrow_8 mX8_tail ⟨Nat.le_of_ble_eq_true rfl, Nat.le_of_ble_eq_true rfl⟩ lX8_191 iX8_tail rfl rfl (mv_o hn _ _ _) (by omega) rfl (Nat.le_of_ble_eq_true rfl) (Nat.le_of_ble_eq_true rfl) ⟨rfl, rfl⟩ (c_tail A F v hn i hi (by omega)) ?_
  refine at_st (i := 4) dX8_canGrow_11 rfl rfl (Nat.le_of_ble_eq_true rfl) rfl ?_
  try dsimp only [List.set_cons_succ, List.set_cons_zero]
  refine at_ld (i := 2) dX8_canGrow_13 rfl rfl rfl ?_
  refine at_k (nI 4) dX8_canGrow_14 rfl (by decide) ?_
  refine at_div dX8_canGrow_15 (by decide) ?_
  rw [nI_div (by omega) (by decide)]
  refine at_st (i := 5) dX8_canGrow_16 rfl rfl (Nat.le_of_ble_eq_true rfl) rfl ?_
  try dsimp only [List.set_cons_succ, List.set_cons_zero]
  refine at_ld (i := 2) dX8_canGrow_18 rfl rfl rfl ?_
  refine at_k (nI 4) dX8_canGrow_19 rfl (by decide) ?_
  refine at_rem dX8_canGrow_20 (by decide) ?_
  rw [nI_rem (by omega) (by decide)]
  refine at_st (i := 6) dX8_canGrow_21 rfl rfl (Nat.le_of_ble_eq_true rfl) rfl ?_
  try dsimp only [List.set_cons_succ, List.set_cons_zero]
  refine at_ld (i := 5) dX8_canGrow_23 rfl rfl rfl ?_
  refine at_ld (i := 3) dX8_canGrow_25 rfl rfl rfl ?_
  refine at_ine 39 dX8_canGrow_26 (by decide) (fun c => ?_) (fun c => ?_)
  · have c1 : ¬ size / 4 = io v i 3 / 4 := fun z => c (by rw [z])
    rw [cgr, if_neg c1]
    -- the blocks, from one on
    have blk : ∀ m k (v1 : Nat → Nat), wf v1 → sb v v1 → k + m = size / 4 → sg_A MX8_canGrow 62 [some (.ref 64), some (.int (nI i)), some (.int (nI size)), some (.int (nI (io v i 3 / 4))), some (.int (nI (io v i 3 % 4))), some (.int (nI (size / 4))), some (.int (nI (size % 4))), some (.int (nI k))] [] (mv h A F v1) (fun r h' => r = some (.int (okA (match tks v1 i m k with | none => none | some v2 => if size % 4 = 0 then some v2 else tkt v2 i (size / 4) (size % 4)))) ∧ ∃ v', h' = mv h A F v' ∧ sb v v' ∧ wf v' ∧ ∀ x, (match tks v1 i m k with | none => none | some v2 => if size % 4 = 0 then some v2 else tkt v2 i (size / 4) (size % 4)) = some x → v' = x) := by
      intro m
      induction m with
      | zero =>
        intro k v1 w1 s1 hk
        refine at_ld (i := 7) dX8_canGrow_62 rfl rfl rfl ?_
        refine at_ld (i := 5) dX8_canGrow_64 rfl rfl rfl ?_
        refine at_ige 87 dX8_canGrow_66 (by decide) (fun c2 => ?_) (fun c2 => ?_)
        · simp only [tks]
          refine at_ld (i := 6) dX8_canGrow_87 rfl rfl rfl ?_
          refine at_zeq 104 dX8_canGrow_89 (by decide) (fun c3 => ?_) (fun c3 => ?_)
          · have c4 : size % 4 = 0 := (nI_eq32 (b := 0) (by omega) (by decide)).mp c3
            rw [if_pos c4]
            refine at_k (nI 1) dX8_canGrow_104 rfl (by decide) ?_
            refine at_goto 109 dX8_canGrow_105 (by decide) ?_
            refine at_ret dX8_canGrow_109 rfl rfl ?_
            exact ⟨rfl, v1, rfl, s1, w1, fun x hx => by cases hx; rfl⟩
          · have c4 : ¬ size % 4 = 0 := fun z => c3 (by rw [z]; rfl)
            rw [if_neg c4]
            refine at_ld (i := 0) dX8_canGrow_92 rfl rfl rfl ?_
            refine at_ld (i := 1) dX8_canGrow_93 rfl rfl rfl ?_
            refine at_ld (i := 5) dX8_canGrow_94 rfl rfl rfl ?_
            refine at_ld (i := 6) dX8_canGrow_96 rfl rfl rfl ?_
            refine at_wv [_, _, _] dX8_canGrow_98 mX8_takesTail ⟨Nat.le_of_ble_eq_true rfl, Nat.le_of_ble_eq_true rfl⟩ lX8_257 iX8_takesTail rfl rfl (mv_o hn _ _ _) (by omega) rfl (Nat.le_of_ble_eq_true rfl) (Nat.le_of_ble_eq_true rfl) ⟨rfl, rfl⟩ (c_takesTail A F v1 hn w1 i (size / 4) (size % 4) hi (by omega) (by omega) (by omega)) ⟨rfl, rfl⟩ ?_
            try dsimp only [Option.toList, List.cons_append, List.nil_append]
            cases q : tkt v1 i (size / 4) (size % 4) with
            | none =>
              refine at_zeq 108 dX8_canGrow_101 (by decide) (fun c5 => ?_) (fun c5 => ?_)
              · refine at_k (nI 0) dX8_canGrow_108 rfl (by decide) ?_
                refine at_ret dX8_canGrow_109 rfl rfl ?_
                exact ⟨rfl, v1, rfl, s1, w1, fun x hx => by cases hx⟩
              · exact absurd rfl c5
            | some v2 =>
              have w2 := wf_tkt w1 (by omega) (by omega) q
              have s2 := sb_tkt w1 hi (by omega) (by omega) q
              refine at_zeq 108 dX8_canGrow_101 (by decide) (fun c5 => ?_) (fun c5 => ?_)
              · exact absurd c5 (okA_s _)
              · refine at_k (nI 1) dX8_canGrow_104 rfl (by decide) ?_
                refine at_goto 109 dX8_canGrow_105 (by decide) ?_
                refine at_ret dX8_canGrow_109 rfl rfl ?_
                exact ⟨rfl, v2, rfl, sb_t s1 s2, w2, fun x hx => by cases hx; rfl⟩
        · exact absurd (nI_le (by omega) (by omega)) c2
      | succ m ih =>
        intro k v1 w1 s1 hk
        refine at_ld (i := 7) dX8_canGrow_62 rfl rfl rfl ?_
        refine at_ld (i := 5) dX8_canGrow_64 rfl rfl rfl ?_
        refine at_ige 87 dX8_canGrow_66 (by decide) (fun c2 => ?_) (fun c2 => ?_)
        · exact absurd c2 (nI_ge (by omega) (by omega))
        · refine at_ld (i := 0) dX8_canGrow_69 rfl rfl rfl ?_
          refine at_ld (i := 1) dX8_canGrow_70 rfl rfl rfl ?_
          refine at_ld (i := 7) dX8_canGrow_71 rfl rfl rfl ?_
          refine at_wv [_, _] dX8_canGrow_73 mX8_takesBlock ⟨Nat.le_of_ble_eq_true rfl, Nat.le_of_ble_eq_true rfl⟩ lX8_261 iX8_takesBlock rfl rfl (mv_o hn _ _ _) (by omega) rfl (Nat.le_of_ble_eq_true rfl) (Nat.le_of_ble_eq_true rfl) ⟨rfl, rfl⟩ (c_takesBlock A F v1 hn w1 i k hi (by omega)) ⟨rfl, rfl⟩ ?_
          try dsimp only [Option.toList, List.cons_append, List.nil_append]
          simp only [tks]
          cases q : tkb v1 i k with
          | none =>
            refine at_zne 81 dX8_canGrow_76 (by decide) (fun c3 => ?_) (fun c3 => ?_)
            · exact absurd rfl c3
            · refine at_k (nI 0) dX8_canGrow_79 rfl (by decide) ?_
              refine at_ret dX8_canGrow_80 rfl rfl ?_
              exact ⟨rfl, v1, rfl, s1, w1, fun x hx => by cases hx⟩
          | some v2 =>
            have w2 := wf_tkb w1 (by omega) q
            have s2 := sb_tkb w1 hi (by omega) q
            refine at_zne 81 dX8_canGrow_76 (by decide) (fun c3 => ?_) (fun c3 => ?_)
            · rw [show (some v2).getD v1 = v2 from rfl]
              refine at_iinc (nI 1) dX8_canGrow_81 rfl rfl (by decide) ?_
              try dsimp only [List.set_cons_succ, List.set_cons_zero]
              refine at_goto 62 dX8_canGrow_84 (by decide) ?_
              rw [nI_add]
              exact ih (k + 1) v2 w2 (sb_t s1 s2) (by omega)
            · exact absurd (Classical.not_not.mp c3) (okA_s _)
    refine at_ld (i := 3) dX8_canGrow_39 rfl rfl rfl ?_
    refine at_st (i := 7) dX8_canGrow_40 rfl rfl (Nat.le_of_ble_eq_true rfl) rfl ?_
    try dsimp only [List.set_cons_succ, List.set_cons_zero]
    refine at_ld (i := 4) dX8_canGrow_42 rfl rfl rfl ?_
    refine at_zle 62 dX8_canGrow_44 (by decide) (fun c2 => ?_) (fun c2 => ?_)
    · have c3 : ¬ 0 < io v i 3 % 4 := fun z => nI_nle z (by omega) c2
      rw [if_neg c3, if_neg c3]
      exact blk _ _ v w (sb_r v) (by omega)
    · have c3 : 0 < io v i 3 % 4 := by
        rcases Nat.eq_zero_or_pos (io v i 3 % 4) with z | z
        · rw [z] at c2; exact absurd (by decide) c2
        · exact z
      rw [if_pos c3, if_pos c3]
      refine at_ld (i := 0) dX8_canGrow_47 rfl rfl rfl ?_
      refine at_ld (i := 1) dX8_canGrow_48 rfl rfl rfl ?_
      refine at_ld (i := 4) dX8_canGrow_49 rfl rfl rfl ?_
      refine at_wv [_, _] dX8_canGrow_51 mX8_fills ⟨Nat.le_of_ble_eq_true rfl, Nat.le_of_ble_eq_true rfl⟩ lX8_267 iX8_fills rfl rfl (mv_o hn _ _ _) (by omega) rfl (Nat.le_of_ble_eq_true rfl) (Nat.le_of_ble_eq_true rfl) ⟨rfl, rfl⟩ (c_fills A F v hn w i (io v i 3 % 4) hi c3 (by omega) (by omega) ht) ⟨rfl, rfl⟩ ?_
      try dsimp only [Option.toList, List.cons_append, List.nil_append]
      cases q : fil v i (io v i 3 % 4) with
      | none =>
        refine at_zne 59 dX8_canGrow_54 (by decide) (fun c4 => ?_) (fun c4 => ?_)
        · exact absurd rfl c4
        · refine at_k (nI 0) dX8_canGrow_57 rfl (by decide) ?_
          refine at_ret dX8_canGrow_58 rfl rfl ?_
          exact ⟨rfl, v, rfl, sb_r v, w, fun x hx => by cases hx⟩
      | some v1 =>
        obtain ⟨w1, s1⟩ := wf_fil w hi (by omega) ht q
        refine at_zne 59 dX8_canGrow_54 (by decide) (fun c4 => ?_) (fun c4 => ?_)
        · rw [show (some v1).getD v = v1 from rfl]
          refine at_iinc (nI 1) dX8_canGrow_59 rfl rfl (by decide) ?_
          try dsimp only [List.set_cons_succ, List.set_cons_zero]
          rw [nI_add]
          exact blk _ _ v1 w1 s1 (by omega)
        · exact absurd (Classical.not_not.mp c4) (okA_s _)
  · have c1 := (nI_eq32 (by omega) (by omega)).mp (Classical.not_not.mp c)
    rw [cgr, if_pos c1]
    refine at_ld (i := 0) dX8_canGrow_29 rfl rfl rfl ?_
    refine at_ld (i := 1) dX8_canGrow_30 rfl rfl rfl ?_
    refine at_ld (i := 4) dX8_canGrow_31 rfl rfl rfl ?_
    refine at_ld (i := 6) dX8_canGrow_33 rfl rfl rfl ?_
    refine at_wv [_, _, _] dX8_canGrow_35 mX8_widens ⟨Nat.le_of_ble_eq_true rfl, Nat.le_of_ble_eq_true rfl⟩ lX8_264 iX8_widens rfl rfl (mv_o hn _ _ _) (by omega) rfl (Nat.le_of_ble_eq_true rfl) (Nat.le_of_ble_eq_true rfl) ⟨rfl, rfl⟩ (c_widens A F v hn w i (io v i 3 % 4) (size % 4) hi (by omega) (by omega) ht) ⟨rfl, rfl⟩ ?_
    try dsimp only [Option.toList, List.cons_append, List.nil_append]
    refine at_ret dX8_canGrow_38 rfl (bI_narr _) ?_
    refine ⟨rfl, _, rfl, ?_⟩
    cases q : wdn v i (io v i 3 % 4) (size % 4) with
    | none => exact ⟨sb_r v, w, fun x hx => by cases hx⟩
    | some v1 =>
      obtain ⟨w1, s1⟩ := wf_wdn w hi (by omega) (by omega) ht q
      exact ⟨s1, w1, fun x hx => by cases hx; rfl⟩
end R9
