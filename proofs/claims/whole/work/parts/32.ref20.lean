/-! THE REFERENCE: a line of the text -/
theorem rq_b {good : Bool} {code : Nat} {P : Ps} (h : ¬ P.2.2.2.2.1 = 0) : rqP good code P = P := by
  rw [rqP, if_neg (fun z => h z.2)]
theorem rd_b {t : Nat → Nat} {n : Nat} {P : Ps} (h : ¬ P.2.2.2.2.1 = 0) : rdP t n P = P := by
  rw [rdP, if_neg h]
theorem nm_b {t : Nat → Nat} {n lo hi : Nat} {P : Ps} (h : ¬ P.2.2.2.2.1 = 0) : nmP t n lo hi P = (0, P) := by
  rw [nmP, rq_b h, rq_b h, if_neg h, rd_b h]
theorem st_b {P : Ps} (h : ¬ P.2.2.2.2.1 = 0) : stP P = P := rq_b h
/-- what a line leaves -/
def lnR (t : Nat → Nat) (n : Nat) (v : Nat → Nat) (o : Option Nat) (dm : Nat) (E : Nat → Nat) (D : Nat → Int32) (x y z : Nat) (P7 : Ps) (v' : Nat → Nat) (P' : Ps) (dm' : Nat) (D' : Nat → Int32) : Prop :=
  (¬ P7.2.2.2.2.1 = 0 → P' = P7) ∧
  (P7.2.2.2.2.1 = 0 → ∀ k, o = some k → if (ino v (if x = 0 then 0 else E (x - 1)) y).isSome = true then P'.2.2.2.2.1 = 4 ∧ P'.2.2.2.2.2 = P7.2.1 else
    match cmS v (if x = 0 then 0 else E (x - 1)) y k z with
    | none => P'.2.2.2.2.1 = 5 ∧ P'.2.2.2.2.2 = P7.2.1
    | some p => v' = p.2 ∧ P' = rdP t n P7 ∧ dm' = (if k = 1 then dm + 1 else dm) ∧ D' = (if k = 1 then upd D dm (nI p.1) else D))
theorem sb_mks {v v1 : Nat → Nat} {d nm kind i : Nat} (w : wfg v) (q : mks v d nm kind = some (i, v1)) : sb v v1 := by
  have hgb := wf_gb w
  have hgi := wf_gi w
  obtain ⟨g2, at2, -, -, -, e3, rfl, hat2, hg⟩ := mks_of w q
  obtain ⟨hi, -, -, -⟩ := fni_lt hg e3
  intro c hc
  unfold mkv mk0
  split
  · rw [vu_n _ _ _ _ (by omega), vu_n _ _ _ _ (by omega), vu_n _ _ _ _ (by omega), vu_n _ _ _ _ (by omega), vu_n _ _ _ _ (by omega), vu_n _ _ _ _ (by omega)]
  · rw [vu_n _ _ _ _ (by omega), vu_n _ _ _ _ (by omega), vu_n _ _ _ _ (by omega), vu_n _ _ _ _ (by omega), vu_n _ _ _ _ (by omega)]
theorem cms_of {v : Nat → Nat} {d nm kind size : Nat} {p : Nat × (Nat → Nat)} (h : cmS v d nm kind size = some p) : ∃ v1, mks v d nm kind = some (p.1, v1) ∧ (if 0 < size then grw v1 p.1 size = some p.2 else p.2 = v1) := by
  unfold cmS at h
  split at h
  · cases h
  · next q e =>
    split at h
    · next c =>
      split at h
      · cases h
      · next v2 e2 =>
        cases h
        refine ⟨q.2, e, ?_⟩
        rw [if_pos c]
        exact e2
    · next c =>
      cases h
      refine ⟨p.2, e, ?_⟩
      rw [if_neg c]
theorem cms_ok {v : Nat → Nat} (w : ivr v) {d nm kind size : Nat} {p : Nat × (Nat → Nat)} (hd : d < 2 ^ 32) (hnm : nm < 2 ^ 32) (hkd : kind = 1 ∨ kind = 2) (h : cmS v d nm kind size = some p) : ivr p.2 ∧ sb v p.2 ∧ p.1 < v 0 * v 2 := by
  obtain ⟨v1, e1, e2⟩ := cms_of h
  have w1 := ivr_mks w hd hnm hkd e1
  have s1 := sb_mks w.1.1 e1
  have hgi := wf_gi w.1.1
  obtain ⟨g2, at2, -, -, -, e3, -, -, hg⟩ := mks_of w.1.1 e1
  obtain ⟨hi, -, -, -⟩ := fni_lt hg e3
  by_cases c : 0 < size
  · rw [if_pos c] at e2
    exact ⟨ivr_grw w1 (by omega) c e2, sb_t s1 (wf_grw w1.1 w1.2.2 (by omega) c e2).2, hi⟩
  · rw [if_neg c] at e2
    rw [e2]
    exact ⟨w1, s1, hi⟩
section R20
variable {h : sg_H} (A : Nat → Nat → Int32) (F : Nat → Int32) (v : Nat → Nat) (t : Nat → Nat) (n : Nat)
set_option maxRecDepth 100000 in
set_option maxHeartbeats 2000000 in
theorem c_readLin (hn : 72 ≤ h.1) (ht : tpo A F t n) (w : ivr v) (E : Nat → Nat) (dm : Nat) (hdm : dm < 40) (hE : ∀ j, j < dm → A 6 j = nI (E j) ∧ E j < v 0 * v 2) (P P0 PA P7 : Ps) (R1 R2 R3 : Nat × Ps) (hP : okP n P) (o : Option Nat) (eo : lnw t n P = o) (e0 : rqP (decide (o = some 1 ∨ o = some 2)) 2 P = P0) (eA : rdP t n P0 = PA) (e1 : nmP t n 0 dm PA = R1) (e2 : nmP t n 0 9 R1.2 = R2) (e3 : (if o = some 2 ∧ R2.2.2.2.2.2.1 = 0 then nmP t n 0 40 R2.2 else (0, R2.2)) = R3) (e7 : stP R3.2 = P7) (h0 : okP n P0) (hA : okP n PA) (h1 : okP n R1.2) (h2 : okP n R2.2) (h3 : okP n R3.2) (h7 : okP n P7) (hin : P7.2.2.2.2.1 = 0 → (o = some 1 ∧ R3.1 = 0 ∨ o = some 2) ∧ R1.1 ≤ dm ∧ R2.1 ≤ 9 ∧ R3.1 ≤ 40) :
    sg_K MX8_readLine [.ref 64] (mp h A F v P dm) (fun r h' => r = none ∧ ∃ A' v' P' dm', h' = mp h A' F v' P' dm' ∧ keT A A' ∧ okP n P' ∧ sb v v' ∧ lnR t n v o dm E (A 6) R1.1 R2.1 R3.1 P7 v' P' dm' (A' 6)) := by
  have hgi := wf_gi w.1.1
  have hg0 := w.1.1.1.1
  have hg2 := w.1.1.2.2.1.1
  have hgp : 0 < v 0 * v 2 := Nat.mul_pos hg0 hg2
  have ho : ∀ k, o = some k → k < 3 := by
    intro k q
    rw [← eo] at q
    unfold lnw at q
    repeat' split at q
    all_goals first | (cases q; done) | (cases q; decide) | (cases q; omega)
  have hoe : ∀ k, k < 3 → (oI o = nI k ↔ o = some k) := by
    intro k hk
    cases o with
    | none => exact ⟨fun z => absurd z.symm (oI_n (by omega)), fun z => by cases z⟩
    | some j =>
      have := ho j rfl
      refine ⟨fun z => ?_, fun z => by cases z; rfl⟩
      rw [(nI_eq32 (a := j) (b := k) (by omega) (by omega)).mp z]
  show sg_A MX8_readLine 0 [some (.ref 64), none, none, none, none, none] [] _ _
  -- the end
  have fin : ∀ (A1 : Nat → Nat → Int32) v1 (P1 : Ps) dm1 ls, keT A A1 → okP n P1 → sb v v1 → lnR t n v o dm E (A 6) R1.1 R2.1 R3.1 P7 v1 (rdP t n P1) dm1 (A1 6) → sg_A MX8_readLine 140 (some (.ref 64) :: ls) [] (mp h A1 F v1 P1 dm1) (fun r h' => r = none ∧ ∃ A' v' P' dm', h' = mp h A' F v' P' dm' ∧ keT A A' ∧ okP n P' ∧ sb v v' ∧ lnR t n v o dm E (A 6) R1.1 R2.1 R3.1 P7 v' P' dm' (A' 6)) := by
    intro A1 v1 P1 dm1 ls k1 k2 k3 k4
    have ht1 : tpo A1 F t n := ⟨ht.1, ht.2.1, fun p hp => by rw [k1 5 (by omega)]; exact ht.2.2 p hp⟩
    refine at_ld (i := 0) dX8_readLine_140 rfl rfl rfl ?_
    refine at_wv [] dX8_readLine_141 mX8_reads ⟨Nat.le_of_ble_eq_true rfl, Nat.le_of_ble_eq_true rfl⟩ lX8_87 iX8_reads rfl rfl (mt_o hn _ _ _ _ _ _ _ _ _ _) (by omega) rfl (Nat.le_of_ble_eq_true rfl) (Nat.le_of_ble_eq_true rfl) ⟨rfl, rfl⟩ (c_rdm A1 F v1 t n hn ht1 P1 k2 dm1 _ rfl) ⟨rfl, rfl⟩ ?_
    try dsimp only [Option.toList, List.cons_append, List.nil_append]
    refine at_vret dX8_readLine_144 rfl ?_
    exact ⟨rfl, A1, v1, _, dm1, rfl, k1, ok_rd k2, k3, k4⟩
  have go : ∀ b : Bool, b = decide (o = some 1 ∨ o = some 2) → sg_A MX8_readLine 21 [some (.ref 64), some (.int (oI o)), none, none, none, none] [.int (bI b), .ref 64] (mp h A F v P dm) (fun r h' => r = none ∧ ∃ A' v' P' dm', h' = mp h A' F v' P' dm' ∧ keT A A' ∧ okP n P' ∧ sb v v' ∧ lnR t n v o dm E (A 6) R1.1 R2.1 R3.1 P7 v' P' dm' (A' 6)) := by
    intro b hb
    subst hb
    refine at_k (nI 2) dX8_readLine_21 rfl (by decide) ?_
    refine at_wv [_, _] dX8_readLine_22 mX8_requires ⟨Nat.le_of_ble_eq_true rfl, Nat.le_of_ble_eq_true rfl⟩ lX8_83 iX8_requires rfl rfl (mt_o hn _ _ _ _ _ _ _ _ _ _) (by omega) rfl (Nat.le_of_ble_eq_true rfl) (Nat.le_of_ble_eq_true rfl) ⟨rfl, rfl⟩ (c_rqm A F v n hn P hP dm _ 2 P0 e0) ⟨rfl, rfl⟩ ?_
    try dsimp only [Option.toList, List.cons_append, List.nil_append]
    refine at_ld (i := 0) dX8_readLine_25 rfl rfl rfl ?_
    refine at_wv [] dX8_readLine_26 mX8_reads ⟨Nat.le_of_ble_eq_true rfl, Nat.le_of_ble_eq_true rfl⟩ lX8_87 iX8_reads rfl rfl (mt_o hn _ _ _ _ _ _ _ _ _ _) (by omega) rfl (Nat.le_of_ble_eq_true rfl) (Nat.le_of_ble_eq_true rfl) ⟨rfl, rfl⟩ (c_rdm A F v t n hn ht P0 h0 dm PA eA) ⟨rfl, rfl⟩ ?_
    try dsimp only [Option.toList, List.cons_append, List.nil_append]
    refine at_ld (i := 0) dX8_readLine_29 rfl rfl rfl ?_
    refine at_k (nI 0) dX8_readLine_30 rfl (by decide) ?_
    refine at_ld (i := 0) dX8_readLine_31 rfl rfl rfl ?_
    refine at_get dX8_readLine_32 fX8_100 (mt_o hn _ _ _ _ _ _ _ _ _ _) (by omega) rfl ?_
    refine at_wv [_, _] dX8_readLine_35 mX8_readNumber ⟨Nat.le_of_ble_eq_true rfl, Nat.le_of_ble_eq_true rfl⟩ lX8_93 iX8_readNumber rfl rfl (mt_o hn _ _ _ _ _ _ _ _ _ _) (by omega) rfl (Nat.le_of_ble_eq_true rfl) (Nat.le_of_ble_eq_true rfl) ⟨rfl, rfl⟩ (c_rnm A F v t n hn ht PA hA dm 0 dm (by decide) (by omega) R1 e1) ⟨rfl, rfl⟩ ?_
    try dsimp only [Option.toList, List.cons_append, List.nil_append]
    refine at_st (i := 2) dX8_readLine_38 rfl rfl (Nat.le_of_ble_eq_true rfl) rfl ?_
    try dsimp only [List.set_cons_succ, List.set_cons_zero]
    refine at_ld (i := 0) dX8_readLine_39 rfl rfl rfl ?_
    refine at_k (nI 0) dX8_readLine_40 rfl (by decide) ?_
    refine at_k (nI 9) dX8_readLine_41 rfl (by decide) ?_
    refine at_wv [_, _] dX8_readLine_43 mX8_readNumber ⟨Nat.le_of_ble_eq_true rfl, Nat.le_of_ble_eq_true rfl⟩ lX8_93 iX8_readNumber rfl rfl (mt_o hn _ _ _ _ _ _ _ _ _ _) (by omega) rfl (Nat.le_of_ble_eq_true rfl) (Nat.le_of_ble_eq_true rfl) ⟨rfl, rfl⟩ (c_rnm A F v t n hn ht R1.2 h1 dm 0 9 (by decide) (by decide) R2 e2) ⟨rfl, rfl⟩ ?_
    try dsimp only [Option.toList, List.cons_append, List.nil_append]
    refine at_st (i := 3) dX8_readLine_46 rfl rfl (Nat.le_of_ble_eq_true rfl) rfl ?_
    try dsimp only [List.set_cons_succ, List.set_cons_zero]
    refine at_ld (i := 1) dX8_readLine_47 rfl rfl rfl ?_
    refine at_k (nI 2) dX8_readLine_48 rfl (by decide) ?_
    have go2 : sg_A MX8_readLine 70 [some (.ref 64), some (.int (oI o)), some (.int (nI R1.1)), some (.int (nI R2.1)), none, none] [.int (nI R3.1)] (mp h A F v R3.2 dm) (fun r h' => r = none ∧ ∃ A' v' P' dm', h' = mp h A' F v' P' dm' ∧ keT A A' ∧ okP n P' ∧ sb v v' ∧ lnR t n v o dm E (A 6) R1.1 R2.1 R3.1 P7 v' P' dm' (A' 6)) := by
      have hf := h7.2.2.2.2
      refine at_st (i := 4) dX8_readLine_70 rfl rfl (Nat.le_of_ble_eq_true rfl) rfl ?_
      try dsimp only [List.set_cons_succ, List.set_cons_zero]
      refine at_ld (i := 0) dX8_readLine_72 rfl rfl rfl ?_
      refine at_wv [] dX8_readLine_73 mX8_requiresStop ⟨Nat.le_of_ble_eq_true rfl, Nat.le_of_ble_eq_true rfl⟩ lX8_97 iX8_requiresStop rfl rfl (mt_o hn _ _ _ _ _ _ _ _ _ _) (by omega) rfl (Nat.le_of_ble_eq_true rfl) (Nat.le_of_ble_eq_true rfl) ⟨rfl, rfl⟩ (c_rsm A F v n hn R3.2 h3 dm P7 e7) ⟨rfl, rfl⟩ ?_
      try dsimp only [Option.toList, List.cons_append, List.nil_append]
      refine at_ld (i := 0) dX8_readLine_76 rfl rfl rfl ?_
      refine at_get dX8_readLine_77 fX8_49 (mt_o hn _ _ _ _ _ _ _ _ _ _) (by omega) rfl ?_
      refine at_zne 140 dX8_readLine_80 (by decide) (fun c => ?_) (fun c => ?_)
      · have c1 : ¬ P7.2.2.2.2.1 = 0 := fun z => c (by rw [z]; rfl)
        refine fin A v P7 dm _ (keT_r A) h7 (sb_r v) ⟨fun _ => rd_b c1, fun z => absurd z c1⟩
      · have c1 := (nI_eq32 (b := 0) (by omega) (by decide)).mp (Classical.not_not.mp c)
        obtain ⟨hk, b1, b2, b3⟩ := hin c1
        obtain ⟨k, ek, hk12, hk1⟩ : ∃ k, o = some k ∧ (k = 1 ∨ k = 2) ∧ (k = 1 → R3.1 = 0) := by
          rcases hk with z | z
          · exact ⟨1, z.1, Or.inl rfl, fun _ => z.2⟩
          · exact ⟨2, z, Or.inr rfl, fun z => by cases z⟩
        subst ek
        have hd : (if R1.1 = 0 then 0 else E (R1.1 - 1)) < v 0 * v 2 := by
          split
          · exact hgp
          · exact (hE _ (by omega)).2
        have go3 : ∀ d, d = (if R1.1 = 0 then 0 else E (R1.1 - 1)) → sg_A MX8_readLine 99 [some (.ref 64), some (.int (nI k)), some (.int (nI R1.1)), some (.int (nI R2.1)), some (.int (nI R3.1)), none] [.int (nI d)] (mp h A F v P7 dm) (fun r h' => r = none ∧ ∃ A' v' P' dm', h' = mp h A' F v' P' dm' ∧ keT A A' ∧ okP n P' ∧ sb v v' ∧ lnR t n v (some k) dm E (A 6) R1.1 R2.1 R3.1 P7 v' P' dm' (A' 6)) := by
          intro d ed
          rw [← ed] at hd
          refine at_st (i := 5) dX8_readLine_99 rfl rfl (Nat.le_of_ble_eq_true rfl) rfl ?_
          try dsimp only [List.set_cons_succ, List.set_cons_zero]
          refine at_ld (i := 0) dX8_readLine_101 rfl rfl rfl ?_
          refine at_ld (i := 0) dX8_readLine_102 rfl rfl rfl ?_
          refine at_ld (i := 5) dX8_readLine_103 rfl rfl rfl ?_
          refine at_ld (i := 3) dX8_readLine_105 rfl rfl rfl ?_
          refine at_rv [_, _] dX8_readLine_106 mX8_inodeOf ⟨Nat.le_of_ble_eq_true rfl, Nat.le_of_ble_eq_true rfl⟩ lX8_103 iX8_inodeOf rfl rfl (mt_o hn _ _ _ _ _ _ _ _ _ _) (by omega) rfl (Nat.le_of_ble_eq_true rfl) (Nat.le_of_ble_eq_true rfl) ⟨rfl, rfl⟩ (c_inodeOf A _ v hn w.1 w.2.1 d R2.1 (by omega) (by omega)) ?_
          refine at_k (-4) dX8_readLine_109 rfl (by decide) ?_
          have hP4 := ok_rq h7 false (code := 4) (by decide)
          have hf4 : rqP false 4 P7 = (P7.1, P7.2.1, P7.2.2.1, P7.2.2.2.1, 4, P7.2.1) := by rw [rqP, if_pos ⟨rfl, c1⟩]
          have hf5 : rqP false 5 P7 = (P7.1, P7.2.1, P7.2.2.1, P7.2.2.2.1, 5, P7.2.1) := by rw [rqP, if_pos ⟨rfl, c1⟩]
          have eT : rqP true 4 P7 = P7 := by rw [rqP, if_neg (fun z => by cases z.1)]
          cases q : ino v d R2.1 with
          | none =>
            refine at_ine 118 dX8_readLine_111 (by decide) (fun c2 => ?_) (fun c2 => ?_)
            · exact absurd rfl c2
            · refine at_k (nI 1) dX8_readLine_114 rfl (by decide) ?_
              refine at_goto 119 dX8_readLine_115 (by decide) ?_
              refine at_k (nI 4) dX8_readLine_119 rfl (by decide) ?_
              refine at_wv [_, _] dX8_readLine_120 mX8_requires ⟨Nat.le_of_ble_eq_true rfl, Nat.le_of_ble_eq_true rfl⟩ lX8_83 iX8_requires rfl rfl (mt_o hn _ _ _ _ _ _ _ _ _ _) (by omega) rfl (Nat.le_of_ble_eq_true rfl) (Nat.le_of_ble_eq_true rfl) ⟨rfl, rfl⟩ (c_rq A F v n hn P7 h7 dm true 4) ⟨rfl, rfl⟩ ?_
              try dsimp only [Option.toList, List.cons_append, List.nil_append]
              refine at_ld (i := 0) dX8_readLine_123 rfl rfl rfl ?_
              refine at_get dX8_readLine_124 fX8_49 (mt_o hn _ _ _ _ _ _ _ _ _ _) (by omega) rfl ?_
              rw [eT, c1]
              refine at_zne 140 dX8_readLine_127 (by decide) (fun c3 => ?_) (fun c3 => ?_)
              · exact absurd rfl c3
              · refine at_ld (i := 0) dX8_readLine_130 rfl rfl rfl ?_
                refine at_ld (i := 5) dX8_readLine_131 rfl rfl rfl ?_
                refine at_ld (i := 3) dX8_readLine_133 rfl rfl rfl ?_
                refine at_ld (i := 1) dX8_readLine_134 rfl rfl rfl ?_
                refine at_ld (i := 4) dX8_readLine_135 rfl rfl rfl ?_
                refine at_cv [_, _, _, _] dX8_readLine_137 mX8_comes ⟨Nat.le_of_ble_eq_true rfl, Nat.le_of_ble_eq_true rfl⟩ lX8_106 iX8_comes rfl rfl (mt_o hn _ _ _ _ _ _ _ _ _ _) (by omega) rfl (Nat.le_of_ble_eq_true rfl) (Nat.le_of_ble_eq_true rfl) (c_comes A F v n hn w P7 h7 c1 dm d R2.1 k R3.1 hd (by omega) hk12 b3 hdm hk1) ?_ ?_
                · intro r h1 hq
                  obtain ⟨-, A', -, hq⟩ := hq
                  revert hq
                  split
                  · rintro ⟨v'', rfl, -⟩; exact ⟨rfl, rfl⟩
                  · rintro ⟨rfl, -⟩; exact ⟨rfl, rfl⟩
                · intro r h1 hq
                  obtain ⟨rfl, A', hk, hq⟩ := hq
                  try dsimp only [Option.toList, List.cons_append, List.nil_append]
                  revert hq
                  cases qc : cmS v d R2.1 k R3.1 with
                  | none =>
                    rintro ⟨v'', rfl, s⟩
                    refine fin A' v'' _ dm _ hk (ok_rq h7 false (by decide)) s ⟨fun z => absurd c1 z, fun _ k' ek' => ?_⟩
                    cases ek'
                    rw [← ed, q, if_neg (by decide), qc]
                    dsimp only
                    rw [hf5, rd_b (P := (P7.1, P7.2.1, P7.2.2.1, P7.2.2.2.1, 5, P7.2.1)) (by show ¬ (5 : Nat) = 0; decide)]
                    exact ⟨rfl, rfl⟩
                  | some p =>
                    rintro ⟨rfl, hD⟩
                    refine fin A' p.2 P7 _ _ hk h7 (cms_ok w (by omega) (by omega) hk12 qc).2.1 ⟨fun z => absurd c1 z, fun _ k' ek' => ?_⟩
                    cases ek'
                    rw [← ed, q, if_neg (by decide), qc]
                    exact ⟨rfl, rfl, rfl, hD⟩
          | some j =>
            have hj := ino_lt q
            refine at_ine 118 dX8_readLine_111 (by decide) (fun c2 => ?_) (fun c2 => ?_)
            · refine at_k (nI 0) dX8_readLine_118 rfl (by decide) ?_
              refine at_k (nI 4) dX8_readLine_119 rfl (by decide) ?_
              refine at_wv [_, _] dX8_readLine_120 mX8_requires ⟨Nat.le_of_ble_eq_true rfl, Nat.le_of_ble_eq_true rfl⟩ lX8_83 iX8_requires rfl rfl (mt_o hn _ _ _ _ _ _ _ _ _ _) (by omega) rfl (Nat.le_of_ble_eq_true rfl) (Nat.le_of_ble_eq_true rfl) ⟨rfl, rfl⟩ (c_rq A F v n hn P7 h7 dm false 4) ⟨rfl, rfl⟩ ?_
              try dsimp only [Option.toList, List.cons_append, List.nil_append]
              refine at_ld (i := 0) dX8_readLine_123 rfl rfl rfl ?_
              refine at_get dX8_readLine_124 fX8_49 (mt_o hn _ _ _ _ _ _ _ _ _ _) (by omega) rfl ?_
              rw [hf4]
              refine at_zne 140 dX8_readLine_127 (by decide) (fun c3 => ?_) (fun c3 => ?_)
              · refine fin A v _ dm _ (keT_r A) (by rw [← hf4]; exact hP4) (sb_r v) ⟨fun z => absurd c1 z, fun _ k' ek' => ?_⟩
                cases ek'
                rw [← ed, q, if_pos (show (some j).isSome = true from rfl), rd_b (P := (P7.1, P7.2.1, P7.2.2.1, P7.2.2.2.1, 4, P7.2.1)) (by show ¬ (4 : Nat) = 0; decide)]
                exact ⟨rfl, rfl⟩
              · exact absurd (show ¬ nI 4 = 0 by decide) c3
            · exact absurd (Classical.not_not.mp c2) (oI_n (by omega))
        refine at_ld (i := 2) dX8_readLine_83 rfl rfl rfl ?_
        refine at_zne 91 dX8_readLine_84 (by decide) (fun c2 => ?_) (fun c2 => ?_)
        · have c3 : ¬ R1.1 = 0 := fun z => c2 (by rw [z]; rfl)
          refine at_ld (i := 0) dX8_readLine_91 rfl rfl rfl ?_
          refine at_get dX8_readLine_92 fX8_29 (mt_o hn _ _ _ _ _ _ _ _ _ _) (by omega) rfl ?_
          refine at_ld (i := 2) dX8_readLine_95 rfl rfl rfl ?_
          refine at_k (nI 1) dX8_readLine_96 rfl (by decide) ?_
          refine at_bin dX8_readLine_97 rfl ?_
          refine at_ald (R1.1 - 1) dX8_readLine_98 (mt_a6 hn _ _ _ _ _ _ _ _ _ _) (nI_sub (by omega)) (by omega) (by decide) ?_
          rw [(hE (R1.1 - 1) (by omega)).1]
          exact go3 _ (if_neg c3).symm
        · have c3 := (nI_eq32 (b := 0) (by omega) (by decide)).mp (Classical.not_not.mp c2)
          refine at_k (nI 0) dX8_readLine_87 rfl (by decide) ?_
          refine at_goto 99 dX8_readLine_88 (by decide) ?_
          exact go3 0 (if_pos c3).symm
    refine at_ine 69 dX8_readLine_49 (by decide) (fun c => ?_) (fun c => ?_)
    · have c1 : ¬ o = some 2 := fun z => c ((hoe 2 (by decide)).mpr z)
      refine at_k (nI 0) dX8_readLine_69 rfl (by decide) ?_
      rw [if_neg (fun z => c1 z.1)] at e3
      subst e3
      exact go2
    · have c1 := (hoe 2 (by decide)).mp (Classical.not_not.mp c)
      have hf := h2.2.2.2.2
      refine at_ld (i := 0) dX8_readLine_52 rfl rfl rfl ?_
      refine at_get dX8_readLine_53 fX8_49 (mt_o hn _ _ _ _ _ _ _ _ _ _) (by omega) rfl ?_
      refine at_zne 69 dX8_readLine_56 (by decide) (fun c2 => ?_) (fun c2 => ?_)
      · have c3 : ¬ R2.2.2.2.2.2.1 = 0 := fun z => c2 (by rw [z]; rfl)
        refine at_k (nI 0) dX8_readLine_69 rfl (by decide) ?_
        rw [if_neg (fun z => c3 z.2)] at e3
        subst e3
        exact go2
      · have c3 := (nI_eq32 (b := 0) (by omega) (by decide)).mp (Classical.not_not.mp c2)
        rw [if_pos ⟨c1, c3⟩] at e3
        refine at_ld (i := 0) dX8_readLine_59 rfl rfl rfl ?_
        refine at_k (nI 0) dX8_readLine_60 rfl (by decide) ?_
        refine at_k (nI 40) dX8_readLine_61 rfl (by decide) ?_
        refine at_wv [_, _] dX8_readLine_63 mX8_readNumber ⟨Nat.le_of_ble_eq_true rfl, Nat.le_of_ble_eq_true rfl⟩ lX8_93 iX8_readNumber rfl rfl (mt_o hn _ _ _ _ _ _ _ _ _ _) (by omega) rfl (Nat.le_of_ble_eq_true rfl) (Nat.le_of_ble_eq_true rfl) ⟨rfl, rfl⟩ (c_rnm A F v t n hn ht R2.2 h2 dm 0 40 (by decide) (by decide) R3 e3) ⟨rfl, rfl⟩ ?_
        try dsimp only [Option.toList, List.cons_append, List.nil_append]
        refine at_goto 70 dX8_readLine_66 (by decide) ?_
        exact go2
  refine at_ld (i := 0) dX8_readLine_0 rfl rfl rfl ?_
  refine at_rv [] dX8_readLine_1 mX8_lineNow ⟨Nat.le_of_ble_eq_true rfl, Nat.le_of_ble_eq_true rfl⟩ lX8_90 iX8_lineNow rfl rfl (mt_o hn _ _ _ _ _ _ _ _ _ _) (by omega) rfl (Nat.le_of_ble_eq_true rfl) (Nat.le_of_ble_eq_true rfl) ⟨rfl, rfl⟩ (c_lineNow A F v t n hn ht P hP dm) ?_
  refine at_st (i := 1) dX8_readLine_4 rfl rfl (Nat.le_of_ble_eq_true rfl) rfl ?_
  try dsimp only [List.set_cons_succ, List.set_cons_zero]
  refine at_ld (i := 0) dX8_readLine_5 rfl rfl rfl ?_
  refine at_ld (i := 1) dX8_readLine_6 rfl rfl rfl ?_
  refine at_k (nI 1) dX8_readLine_7 rfl (by decide) ?_
  rw [eo]
  refine at_ieq 16 dX8_readLine_8 (by decide) (fun c => ?_) (fun c => ?_)
  · have c1 := (hoe 1 (by decide)).mp c
    refine at_k (nI 1) dX8_readLine_16 rfl (by decide) ?_
    refine at_goto 21 dX8_readLine_17 (by decide) ?_
    exact go true (decide_eq_true (Or.inl c1)).symm
  · have c1 : ¬ o = some 1 := fun z => c ((hoe 1 (by decide)).mpr z)
    refine at_ld (i := 1) dX8_readLine_11 rfl rfl rfl ?_
    refine at_k (nI 2) dX8_readLine_12 rfl (by decide) ?_
    refine at_ine 20 dX8_readLine_13 (by decide) (fun c2 => ?_) (fun c2 => ?_)
    · have c3 : ¬ o = some 2 := fun z => c2 ((hoe 2 (by decide)).mpr z)
      refine at_k (nI 0) dX8_readLine_20 rfl (by decide) ?_
      exact go false (decide_eq_false (fun z => by rcases z with z | z; exact c1 z; exact c3 z)).symm
    · have c3 := (hoe 2 (by decide)).mp (Classical.not_not.mp c2)
      refine at_k (nI 1) dX8_readLine_16 rfl (by decide) ?_
      refine at_goto 21 dX8_readLine_17 (by decide) ?_
      exact go true (decide_eq_true (Or.inr c3)).symm
end R20
