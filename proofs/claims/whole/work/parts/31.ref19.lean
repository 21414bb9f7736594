/-! THE REFERENCE: the first line, what a line brings -/
theorem rd_f {t : Nat → Nat} {n : Nat} {P : Ps} (h : (rdP t n P).2.2.2.2.1 = 0) : P.2.2.2.2.1 = 0 := by
  unfold rdP at h
  split at h
  · assumption
  · exact h
theorem nm_f {t : Nat → Nat} {n lo hi : Nat} {P : Ps} (h : (nmP t n lo hi P).2.2.2.2.2.1 = 0) : P.2.2.2.2.1 = 0 ∧ lo ≤ (nmP t n lo hi P).1 ∧ (nmP t n lo hi P).1 ≤ hi ∧ P.2.2.1 = 2 ∧ (nmP t n lo hi P).1 = P.2.2.2.1 ∧ (nmP t n lo hi P).2 = rdP t n P := by
  have h1 := rd_f h
  obtain ⟨h2, h3, h4⟩ := rq_f (by decide) h1
  obtain ⟨h5, h6, h7⟩ := rq_f (by decide) h2
  have h8 := of_decide_eq_true h3
  have e : (nmP t n lo hi P).1 = P.2.2.2.1 := if_pos h1
  rw [e]
  refine ⟨h5, h8.1, h8.2, of_decide_eq_true h6, rfl, ?_⟩
  show rdP t n _ = _
  rw [h4, h7]
def v6 (v : Nat → Nat) (g b i s r l : Nat) : Nat → Nat := vf_upd (vf_upd (vf_upd (vf_upd (vf_upd (vf_upd v 0 g) 1 b) 2 i) 3 s) 4 r) 5 l
/-- the first line's readings, one behind the other -/
def vlA (t : Nat → Nat) (n : Nat) (P : Ps) : Ps := rdP t n (rqP (decide (lnw t n P = some 0)) 2 P)
def vl1 (t : Nat → Nat) (n : Nat) (P : Ps) : Nat × Ps := nmP t n 1 4 (vlA t n P)
def vl2 (t : Nat → Nat) (n : Nat) (P : Ps) : Nat × Ps := nmP t n 1 8 (vl1 t n P).2
def vl3 (t : Nat → Nat) (n : Nat) (P : Ps) : Nat × Ps := nmP t n 1 6 (vl2 t n P).2
def vl4 (t : Nat → Nat) (n : Nat) (P : Ps) : Nat × Ps := nmP t n 0 3 (vl3 t n P).2
def vl5 (t : Nat → Nat) (n : Nat) (P : Ps) : Nat × Ps := nmP t n 0 99 (vl4 t n P).2
def vl6 (t : Nat → Nat) (n : Nat) (P : Ps) : Nat × Ps := nmP t n 1 8 (vl5 t n P).2
def vl7 (t : Nat → Nat) (n : Nat) (P : Ps) : Ps := stP (vl6 t n P).2
def vlV (t : Nat → Nat) (n : Nat) (P : Ps) (v : Nat → Nat) : Nat → Nat := if (vl7 t n P).2.2.2.2.1 = 0 then an1 (v6 v (vl1 t n P).1 (vl2 t n P).1 (vl3 t n P).1 (vl4 t n P).1 (vl5 t n P).1 (vl6 t n P).1) else v
def vlP (t : Nat → Nat) (n : Nat) (P : Ps) : Ps := rdP t n (vl7 t n P)
theorem ok_vlA {t : Nat → Nat} {n : Nat} {P : Ps} (h : okP n P) : okP n (vlA t n P) := ok_rd (ok_rq h _ (by decide))
theorem ok_vl7 {t : Nat → Nat} {n : Nat} {P : Ps} (h : okP n P) : okP n (vl1 t n P).2 ∧ okP n (vl2 t n P).2 ∧ okP n (vl3 t n P).2 ∧ okP n (vl4 t n P).2 ∧ okP n (vl5 t n P).2 ∧ okP n (vl6 t n P).2 ∧ okP n (vl7 t n P) := by
  have h1 : okP n (vl1 t n P).2 := by unfold vl1; exact ok_nm (ok_vlA h) _ _
  have h2 : okP n (vl2 t n P).2 := by unfold vl2; exact ok_nm h1 _ _
  have h3 : okP n (vl3 t n P).2 := by unfold vl3; exact ok_nm h2 _ _
  have h4 : okP n (vl4 t n P).2 := by unfold vl4; exact ok_nm h3 _ _
  have h5 : okP n (vl5 t n P).2 := by unfold vl5; exact ok_nm h4 _ _
  have h6 : okP n (vl6 t n P).2 := by unfold vl6; exact ok_nm h5 _ _
  have h7 : okP n (vl7 t n P) := by unfold vl7 stP; exact ok_rq h6 _ (by decide)
  exact ⟨h1, h2, h3, h4, h5, h6, h7⟩
theorem vl_in {t : Nat → Nat} {n : Nat} {P : Ps} (h : (vl7 t n P).2.2.2.2.1 = 0) : (1 ≤ (vl1 t n P).1 ∧ (vl1 t n P).1 ≤ 4) ∧ (1 ≤ (vl2 t n P).1 ∧ (vl2 t n P).1 ≤ 8) ∧ (1 ≤ (vl3 t n P).1 ∧ (vl3 t n P).1 ≤ 6) ∧ (vl4 t n P).1 ≤ 3 ∧ (vl5 t n P).1 ≤ 99 ∧ (1 ≤ (vl6 t n P).1 ∧ (vl6 t n P).1 ≤ 8) := by
  have h6 : (vl6 t n P).2.2.2.2.2.1 = 0 := by unfold vl7 stP at h; exact (rq_f (by decide) h).1
  have q6 : (vl5 t n P).2.2.2.2.2.1 = 0 ∧ 1 ≤ (vl6 t n P).1 ∧ (vl6 t n P).1 ≤ 8 := by unfold vl6 at h6 ⊢; exact ⟨(nm_f h6).1, (nm_f h6).2.1, (nm_f h6).2.2.1⟩
  have h5 := q6.1
  have q5 : (vl4 t n P).2.2.2.2.2.1 = 0 ∧ 0 ≤ (vl5 t n P).1 ∧ (vl5 t n P).1 ≤ 99 := by unfold vl5 at h5 ⊢; exact ⟨(nm_f h5).1, (nm_f h5).2.1, (nm_f h5).2.2.1⟩
  have h4 := q5.1
  have q4 : (vl3 t n P).2.2.2.2.2.1 = 0 ∧ 0 ≤ (vl4 t n P).1 ∧ (vl4 t n P).1 ≤ 3 := by unfold vl4 at h4 ⊢; exact ⟨(nm_f h4).1, (nm_f h4).2.1, (nm_f h4).2.2.1⟩
  have h3 := q4.1
  have q3 : (vl2 t n P).2.2.2.2.2.1 = 0 ∧ 1 ≤ (vl3 t n P).1 ∧ (vl3 t n P).1 ≤ 6 := by unfold vl3 at h3 ⊢; exact ⟨(nm_f h3).1, (nm_f h3).2.1, (nm_f h3).2.2.1⟩
  have h2 := q3.1
  have q2 : (vl1 t n P).2.2.2.2.2.1 = 0 ∧ 1 ≤ (vl2 t n P).1 ∧ (vl2 t n P).1 ≤ 8 := by unfold vl2 at h2 ⊢; exact ⟨(nm_f h2).1, (nm_f h2).2.1, (nm_f h2).2.2.1⟩
  have h1 := q2.1
  have q1 : 1 ≤ (vl1 t n P).1 ∧ (vl1 t n P).1 ≤ 4 := by unfold vl1 at h1 ⊢; exact ⟨(nm_f h1).2.1, (nm_f h1).2.2.1⟩
  exact ⟨q1, q2.2, q3.2, q4.2.2, q5.2.2, q6.2⟩
def keT (A A' : Nat → Nat → Int32) : Prop := ∀ k, k = 2 ∨ k = 3 ∨ k = 4 ∨ k = 5 → A' k = A k
theorem keT_r (A : Nat → Nat → Int32) : keT A A := fun _ _ => rfl
theorem keT_t {A B C : Nat → Nat → Int32} (h1 : keT A B) (h2 : keT B C) : keT A C := fun k hk => (h2 k hk).trans (h1 k hk)
theorem keT_1 (A : Nat → Nat → Int32) (B : Nat → Int32) : keT A (vf_upd A 1 B) := fun k hk => vu_n _ _ _ _ (by omega)
theorem keT_6 (A : Nat → Nat → Int32) (B : Nat → Int32) : keT A (vf_upd A 6 B) := fun k hk => vu_n _ _ _ _ (by omega)
/-- what a line brings: the inode and the state; none: there is no room -/
def cmS (v : Nat → Nat) (d nm kind size : Nat) : Option (Nat × (Nat → Nat)) := match mks v d nm kind with
  | none => none
  | some p => if 0 < size then (match grw p.2 p.1 size with | none => none | some v2 => some (p.1, v2)) else some p
section R19
variable {h : sg_H} (A : Nat → Nat → Int32) (F : Nat → Int32) (v : Nat → Nat) (t : Nat → Nat) (n : Nat)
theorem c_rnm (hn : 72 ≤ h.1) (ht : tpo A F t n) (P : Ps) (hP : okP n P) (dm lo hi : Nat) (hlo : lo < 1000) (hhi : hi < 1000) (R : Nat × Ps) (e : nmP t n lo hi P = R) : sg_Kw MX8_readNumber [.ref 64, .int (nI lo), .int (nI hi)] (mp h A F v P dm) (some (.int (nI R.1))) (mp h A F v R.2 dm) := by
  rw [← e]
  exact c_readNumber A F v t n hn ht P hP dm lo hi hlo hhi
theorem c_rdm (hn : 72 ≤ h.1) (ht : tpo A F t n) (P : Ps) (hP : okP n P) (dm : Nat) (R : Ps) (e : rdP t n P = R) : sg_Kw MX8_reads [.ref 64] (mp h A F v P dm) none (mp h A F v R dm) := by
  rw [← e]
  exact c_rd A F v t n hn ht P hP dm
theorem c_rqm (hn : 72 ≤ h.1) (P : Ps) (hP : okP n P) (dm : Nat) (good : Bool) (code : Nat) (R : Ps) (e : rqP good code P = R) : sg_Kw MX8_requires [.ref 64, .int (bI good), .int (nI code)] (mp h A F v P dm) none (mp h A F v R dm) := by
  rw [← e]
  exact c_rq A F v n hn P hP dm good code
theorem c_rsm (hn : 72 ≤ h.1) (P : Ps) (hP : okP n P) (dm : Nat) (R : Ps) (e : stP P = R) : sg_Kw MX8_requiresStop [.ref 64] (mp h A F v P dm) none (mp h A F v R dm) := by
  rw [← e]
  exact c_requiresStop A F v n hn P hP dm
set_option maxRecDepth 100000 in
theorem c_readVol (hn : 72 ≤ h.1) (ht : tpo A F t n) (P P0 PA P7 P8 : Ps) (R1 R2 R3 R4 R5 R6 : Nat × Ps) (hP : okP n P) (dm : Nat) (e0 : rqP (decide (lnw t n P = some 0)) 2 P = P0) (eA : rdP t n P0 = PA) (e1 : nmP t n 1 4 PA = R1) (e2 : nmP t n 1 8 R1.2 = R2) (e3 : nmP t n 1 6 R2.2 = R3) (e4 : nmP t n 0 3 R3.2 = R4) (e5 : nmP t n 0 99 R4.2 = R5) (e6 : nmP t n 1 8 R5.2 = R6) (e7 : stP R6.2 = P7) (e8 : rdP t n P7 = P8) (h0 : okP n P0) (hA : okP n PA) (h1 : okP n R1.2) (h2 : okP n R2.2) (h3 : okP n R3.2) (h4 : okP n R4.2) (h5 : okP n R5.2) (h6 : okP n R6.2) (h7 : okP n P7) (hin : P7.2.2.2.2.1 = 0 → R1.1 ≤ 4 ∧ R2.1 ≤ 8) : sg_Kw MX8_readVolume [.ref 64] (mp h A F v P dm) none (mp h A F (if P7.2.2.2.2.1 = 0 then an1 (v6 v R1.1 R2.1 R3.1 R4.1 R5.1 R6.1) else v) P8 dm) := by
  show sg_A MX8_readVolume 0 [some (.ref 64), none, none, none, none, none, none] [] _ _
  have go : ∀ b : Bool, b = decide (lnw t n P = some 0) → sg_A MX8_readVolume 13 [some (.ref 64), none, none, none, none, none, none] [.int (bI b), .ref 64] (mp h A F v P dm) (fun r' h' => r' = none ∧ h' = mp h A F (if P7.2.2.2.2.1 = 0 then an1 (v6 v R1.1 R2.1 R3.1 R4.1 R5.1 R6.1) else v) P8 dm) := by
    intro b hb
    subst hb
    refine at_k (nI 2) dX8_readVolume_13 rfl (by decide) ?_
    refine at_wv [_, _] dX8_readVolume_14 mX8_requires ⟨Nat.le_of_ble_eq_true rfl, Nat.le_of_ble_eq_true rfl⟩ lX8_83 iX8_requires rfl rfl (mt_o hn _ _ _ _ _ _ _ _ _ _) (by omega) rfl (Nat.le_of_ble_eq_true rfl) (Nat.le_of_ble_eq_true rfl) ⟨rfl, rfl⟩ (c_rqm A F v n hn P hP dm _ 2 P0 e0) ⟨rfl, rfl⟩ ?_
    try dsimp only [Option.toList, List.cons_append, List.nil_append]
    refine at_ld (i := 0) dX8_readVolume_17 rfl rfl rfl ?_
    refine at_wv [] dX8_readVolume_18 mX8_reads ⟨Nat.le_of_ble_eq_true rfl, Nat.le_of_ble_eq_true rfl⟩ lX8_87 iX8_reads rfl rfl (mt_o hn _ _ _ _ _ _ _ _ _ _) (by omega) rfl (Nat.le_of_ble_eq_true rfl) (Nat.le_of_ble_eq_true rfl) ⟨rfl, rfl⟩ (c_rdm A F v t n hn ht P0 h0 dm PA eA) ⟨rfl, rfl⟩ ?_
    try dsimp only [Option.toList, List.cons_append, List.nil_append]
    refine at_ld (i := 0) dX8_readVolume_21 rfl rfl rfl ?_
    refine at_k (nI 1) dX8_readVolume_22 rfl (by decide) ?_
    refine at_k (nI 4) dX8_readVolume_23 rfl (by decide) ?_
    refine at_wv [_, _] dX8_readVolume_24 mX8_readNumber ⟨Nat.le_of_ble_eq_true rfl, Nat.le_of_ble_eq_true rfl⟩ lX8_93 iX8_readNumber rfl rfl (mt_o hn _ _ _ _ _ _ _ _ _ _) (by omega) rfl (Nat.le_of_ble_eq_true rfl) (Nat.le_of_ble_eq_true rfl) ⟨rfl, rfl⟩ (c_rnm A F v t n hn ht PA hA dm 1 4 (by decide) (by decide) R1 e1) ⟨rfl, rfl⟩ ?_
    try dsimp only [Option.toList, List.cons_append, List.nil_append]
    refine at_st (i := 1) dX8_readVolume_27 rfl rfl (Nat.le_of_ble_eq_true rfl) rfl ?_
    try dsimp only [List.set_cons_succ, List.set_cons_zero]
    refine at_ld (i := 0) dX8_readVolume_28 rfl rfl rfl ?_
    refine at_k (nI 1) dX8_readVolume_29 rfl (by decide) ?_
    refine at_k (nI 8) dX8_readVolume_30 rfl (by decide) ?_
    refine at_wv [_, _] dX8_readVolume_32 mX8_readNumber ⟨Nat.le_of_ble_eq_true rfl, Nat.le_of_ble_eq_true rfl⟩ lX8_93 iX8_readNumber rfl rfl (mt_o hn _ _ _ _ _ _ _ _ _ _) (by omega) rfl (Nat.le_of_ble_eq_true rfl) (Nat.le_of_ble_eq_true rfl) ⟨rfl, rfl⟩ (c_rnm A F v t n hn ht R1.2 h1 dm 1 8 (by decide) (by decide) R2 e2) ⟨rfl, rfl⟩ ?_
    try dsimp only [Option.toList, List.cons_append, List.nil_append]
    refine at_st (i := 2) dX8_readVolume_35 rfl rfl (Nat.le_of_ble_eq_true rfl) rfl ?_
    try dsimp only [List.set_cons_succ, List.set_cons_zero]
    refine at_ld (i := 0) dX8_readVolume_36 rfl rfl rfl ?_
    refine at_k (nI 1) dX8_readVolume_37 rfl (by decide) ?_
    refine at_k (nI 6) dX8_readVolume_38 rfl (by decide) ?_
    refine at_wv [_, _] dX8_readVolume_40 mX8_readNumber ⟨Nat.le_of_ble_eq_true rfl, Nat.le_of_ble_eq_true rfl⟩ lX8_93 iX8_readNumber rfl rfl (mt_o hn _ _ _ _ _ _ _ _ _ _) (by omega) rfl (Nat.le_of_ble_eq_true rfl) (Nat.le_of_ble_eq_true rfl) ⟨rfl, rfl⟩ (c_rnm A F v t n hn ht R2.2 h2 dm 1 6 (by decide) (by decide) R3 e3) ⟨rfl, rfl⟩ ?_
    try dsimp only [Option.toList, List.cons_append, List.nil_append]
    refine at_st (i := 3) dX8_readVolume_43 rfl rfl (Nat.le_of_ble_eq_true rfl) rfl ?_
    try dsimp only [List.set_cons_succ, List.set_cons_zero]
    refine at_ld (i := 0) dX8_readVolume_44 rfl rfl rfl ?_
    refine at_k (nI 0) dX8_readVolume_45 rfl (by decide) ?_
    refine at_k (nI 3) dX8_readVolume_46 rfl (by decide) ?_
    refine at_wv [_, _] dX8_readVolume_47 mX8_readNumber ⟨Nat.le_of_ble_eq_true rfl, Nat.le_of_ble_eq_true rfl⟩ lX8_93 iX8_readNumber rfl rfl (mt_o hn _ _ _ _ _ _ _ _ _ _) (by omega) rfl (Nat.le_of_ble_eq_true rfl) (Nat.le_of_ble_eq_true rfl) ⟨rfl, rfl⟩ (c_rnm A F v t n hn ht R3.2 h3 dm 0 3 (by decide) (by decide) R4 e4) ⟨rfl, rfl⟩ ?_
    try dsimp only [Option.toList, List.cons_append, List.nil_append]
    refine at_st (i := 4) dX8_readVolume_50 rfl rfl (Nat.le_of_ble_eq_true rfl) rfl ?_
    try dsimp only [List.set_cons_succ, List.set_cons_zero]
    refine at_ld (i := 0) dX8_readVolume_52 rfl rfl rfl ?_
    refine at_k (nI 0) dX8_readVolume_53 rfl (by decide) ?_
    refine at_k (nI 99) dX8_readVolume_54 rfl (by decide) ?_
    refine at_wv [_, _] dX8_readVolume_56 mX8_readNumber ⟨Nat.le_of_ble_eq_true rfl, Nat.le_of_ble_eq_true rfl⟩ lX8_93 iX8_readNumber rfl rfl (mt_o hn _ _ _ _ _ _ _ _ _ _) (by omega) rfl (Nat.le_of_ble_eq_true rfl) (Nat.le_of_ble_eq_true rfl) ⟨rfl, rfl⟩ (c_rnm A F v t n hn ht R4.2 h4 dm 0 99 (by decide) (by decide) R5 e5) ⟨rfl, rfl⟩ ?_
    try dsimp only [Option.toList, List.cons_append, List.nil_append]
    refine at_st (i := 5) dX8_readVolume_59 rfl rfl (Nat.le_of_ble_eq_true rfl) rfl ?_
    try dsimp only [List.set_cons_succ, List.set_cons_zero]
    refine at_ld (i := 0) dX8_readVolume_61 rfl rfl rfl ?_
    refine at_k (nI 1) dX8_readVolume_62 rfl (by decide) ?_
    refine at_k (nI 8) dX8_readVolume_63 rfl (by decide) ?_
    refine at_wv [_, _] dX8_readVolume_65 mX8_readNumber ⟨Nat.le_of_ble_eq_true rfl, Nat.le_of_ble_eq_true rfl⟩ lX8_93 iX8_readNumber rfl rfl (mt_o hn _ _ _ _ _ _ _ _ _ _) (by omega) rfl (Nat.le_of_ble_eq_true rfl) (Nat.le_of_ble_eq_true rfl) ⟨rfl, rfl⟩ (c_rnm A F v t n hn ht R5.2 h5 dm 1 8 (by decide) (by decide) R6 e6) ⟨rfl, rfl⟩ ?_
    try dsimp only [Option.toList, List.cons_append, List.nil_append]
    refine at_st (i := 6) dX8_readVolume_68 rfl rfl (Nat.le_of_ble_eq_true rfl) rfl ?_
    try dsimp only [List.set_cons_succ, List.set_cons_zero]
    refine at_ld (i := 0) dX8_readVolume_70 rfl rfl rfl ?_
    refine at_wv [] dX8_readVolume_71 mX8_requiresStop ⟨Nat.le_of_ble_eq_true rfl, Nat.le_of_ble_eq_true rfl⟩ lX8_97 iX8_requiresStop rfl rfl (mt_o hn _ _ _ _ _ _ _ _ _ _) (by omega) rfl (Nat.le_of_ble_eq_true rfl) (Nat.le_of_ble_eq_true rfl) ⟨rfl, rfl⟩ (c_rsm A F v n hn R6.2 h6 dm P7 e7) ⟨rfl, rfl⟩ ?_
    try dsimp only [Option.toList, List.cons_append, List.nil_append]
    refine at_ld (i := 0) dX8_readVolume_74 rfl rfl rfl ?_
    have hf := h7.2.2.2.2
    refine at_get dX8_readVolume_75 fX8_49 (mt_o hn _ _ _ _ _ _ _ _ _ _) (by omega) rfl ?_
    refine at_zne 130 dX8_readVolume_78 (by decide) (fun c => ?_) (fun c => ?_)
    · have c1 : ¬ P7.2.2.2.2.1 = 0 := fun z => c (by rw [z]; rfl)
      refine at_ld (i := 0) dX8_readVolume_130 rfl rfl rfl ?_
      refine at_wv [] dX8_readVolume_131 mX8_reads ⟨Nat.le_of_ble_eq_true rfl, Nat.le_of_ble_eq_true rfl⟩ lX8_87 iX8_reads rfl rfl (mt_o hn _ _ _ _ _ _ _ _ _ _) (by omega) rfl (Nat.le_of_ble_eq_true rfl) (Nat.le_of_ble_eq_true rfl) ⟨rfl, rfl⟩ (c_rdm A F v t n hn ht P7 h7 dm P8 e8) ⟨rfl, rfl⟩ ?_
      try dsimp only [Option.toList, List.cons_append, List.nil_append]
      refine at_vret dX8_readVolume_134 rfl ?_
      rw [if_neg c1]
      exact ⟨rfl, rfl⟩
    · have c1 := (nI_eq32 (b := 0) (by omega) (by decide)).mp (Classical.not_not.mp c)
      obtain ⟨b1, b2⟩ := hin c1
      refine at_ld (i := 0) dX8_readVolume_81 rfl rfl rfl ?_
      refine at_get dX8_readVolume_82 fX8_7 (mt_o hn _ _ _ _ _ _ _ _ _ _) (by omega) rfl ?_
      refine at_k (nI 0) dX8_readVolume_85 rfl (by decide) ?_
      refine at_ld (i := 1) dX8_readVolume_86 rfl rfl rfl ?_
      refine at_ast 0 dX8_readVolume_87 (mv_a hn _ _ _) (by omega) rfl (by decide) (by decide) (mv_s h A _ _ 0 _ _ rfl) ?_
      refine at_ld (i := 0) dX8_readVolume_88 rfl rfl rfl ?_
      refine at_get dX8_readVolume_89 fX8_7 (mt_o hn _ _ _ _ _ _ _ _ _ _) (by omega) rfl ?_
      refine at_k (nI 1) dX8_readVolume_92 rfl (by decide) ?_
      refine at_ld (i := 2) dX8_readVolume_93 rfl rfl rfl ?_
      refine at_ast 1 dX8_readVolume_94 (mv_a hn _ _ _) (by omega) rfl (by decide) (by decide) (mv_s h A _ _ 1 _ _ rfl) ?_
      refine at_ld (i := 0) dX8_readVolume_95 rfl rfl rfl ?_
      refine at_get dX8_readVolume_96 fX8_7 (mt_o hn _ _ _ _ _ _ _ _ _ _) (by omega) rfl ?_
      refine at_k (nI 2) dX8_readVolume_99 rfl (by decide) ?_
      refine at_ld (i := 3) dX8_readVolume_100 rfl rfl rfl ?_
      refine at_ast 2 dX8_readVolume_101 (mv_a hn _ _ _) (by omega) rfl (by decide) (by decide) (mv_s h A _ _ 2 _ _ rfl) ?_
      refine at_ld (i := 0) dX8_readVolume_102 rfl rfl rfl ?_
      refine at_get dX8_readVolume_103 fX8_7 (mt_o hn _ _ _ _ _ _ _ _ _ _) (by omega) rfl ?_
      refine at_k (nI 3) dX8_readVolume_106 rfl (by decide) ?_
      refine at_ld (i := 4) dX8_readVolume_107 rfl rfl rfl ?_
      refine at_ast 3 dX8_readVolume_109 (mv_a hn _ _ _) (by omega) rfl (by decide) (by decide) (mv_s h A _ _ 3 _ _ rfl) ?_
      refine at_ld (i := 0) dX8_readVolume_110 rfl rfl rfl ?_
      refine at_get dX8_readVolume_111 fX8_7 (mt_o hn _ _ _ _ _ _ _ _ _ _) (by omega) rfl ?_
      refine at_k (nI 4) dX8_readVolume_114 rfl (by decide) ?_
      refine at_ld (i := 5) dX8_readVolume_115 rfl rfl rfl ?_
      refine at_ast 4 dX8_readVolume_117 (mv_a hn _ _ _) (by omega) rfl (by decide) (by decide) (mv_s h A _ _ 4 _ _ rfl) ?_
      refine at_ld (i := 0) dX8_readVolume_118 rfl rfl rfl ?_
      refine at_get dX8_readVolume_119 fX8_7 (mt_o hn _ _ _ _ _ _ _ _ _ _) (by omega) rfl ?_
      refine at_k (nI 5) dX8_readVolume_122 rfl (by decide) ?_
      refine at_ld (i := 6) dX8_readVolume_123 rfl rfl rfl ?_
      refine at_ast 5 dX8_readVolume_125 (mv_a hn _ _ _) (by omega) rfl (by decide) (by decide) (mv_s h A _ _ 5 _ _ rfl) ?_
      refine at_ld (i := 0) dX8_readVolume_126 rfl rfl rfl ?_
      have z0 : v6 v R1.1 R2.1 R3.1 R4.1 R5.1 R6.1 0 = R1.1 := by simp [v6, vf_upd]
      have z1 : v6 v R1.1 R2.1 R3.1 R4.1 R5.1 R6.1 1 = R2.1 := by simp [v6, vf_upd]
      have hgb : v6 v R1.1 R2.1 R3.1 R4.1 R5.1 R6.1 0 * v6 v R1.1 R2.1 R3.1 R4.1 R5.1 R6.1 1 ≤ 32 := by
        rw [z0, z1]
        exact Nat.le_trans (Nat.mul_le_mul b1 b2) (by decide)
      refine at_wv [] dX8_readVolume_127 mX8_anew ⟨Nat.le_of_ble_eq_true rfl, Nat.le_of_ble_eq_true rfl⟩ lX8_32 iX8_anew rfl rfl (mt_o hn _ _ _ _ _ _ _ _ _ _) (by omega) rfl (Nat.le_of_ble_eq_true rfl) (Nat.le_of_ble_eq_true rfl) ⟨rfl, rfl⟩ (c_anew A _ (v6 v R1.1 R2.1 R3.1 R4.1 R5.1 R6.1) hn hgb) ⟨rfl, rfl⟩ ?_
      try dsimp only [Option.toList, List.cons_append, List.nil_append]
      refine at_ld (i := 0) dX8_readVolume_130 rfl rfl rfl ?_
      refine at_wv [] dX8_readVolume_131 mX8_reads ⟨Nat.le_of_ble_eq_true rfl, Nat.le_of_ble_eq_true rfl⟩ lX8_87 iX8_reads rfl rfl (mt_o hn _ _ _ _ _ _ _ _ _ _) (by omega) rfl (Nat.le_of_ble_eq_true rfl) (Nat.le_of_ble_eq_true rfl) ⟨rfl, rfl⟩ (c_rdm A F (an1 (v6 v R1.1 R2.1 R3.1 R4.1 R5.1 R6.1)) t n hn ht P7 h7 dm P8 e8) ⟨rfl, rfl⟩ ?_
      try dsimp only [Option.toList, List.cons_append, List.nil_append]
      refine at_vret dX8_readVolume_134 rfl ?_
      rw [if_pos c1]
      exact ⟨rfl, rfl⟩
  refine at_ld (i := 0) dX8_readVolume_0 rfl rfl rfl ?_
  refine at_ld (i := 0) dX8_readVolume_1 rfl rfl rfl ?_
  refine at_rv [] dX8_readVolume_2 mX8_lineNow ⟨Nat.le_of_ble_eq_true rfl, Nat.le_of_ble_eq_true rfl⟩ lX8_90 iX8_lineNow rfl rfl (mt_o hn _ _ _ _ _ _ _ _ _ _) (by omega) rfl (Nat.le_of_ble_eq_true rfl) (Nat.le_of_ble_eq_true rfl) ⟨rfl, rfl⟩ (c_lineNow A F v t n hn ht P hP dm) ?_
  cases q : lnw t n P with
  | none =>
    rw [q] at go
    refine at_zne 12 dX8_readVolume_5 (by decide) (fun c => ?_) (fun c => ?_)
    · refine at_k (nI 0) dX8_readVolume_12 rfl (by decide) ?_
      exact go false (by decide)
    · exact absurd (Classical.not_not.mp c) (by decide)
  | some k =>
    rw [q] at go
    have hk : k < 3 := by
      unfold lnw at q
      repeat' split at q
      all_goals first | (cases q; done) | (cases q; decide) | (cases q; omega)
    refine at_zne 12 dX8_readVolume_5 (by decide) (fun c => ?_) (fun c => ?_)
    · have c1 : ¬ k = 0 := fun z => c (by rw [z]; rfl)
      refine at_k (nI 0) dX8_readVolume_12 rfl (by decide) ?_
      exact go false (decide_eq_false (fun z => c1 (Option.some.inj z))).symm
    · have c1 : k = 0 := (nI_eq32 (b := 0) (by omega) (by decide)).mp (Classical.not_not.mp c)
      refine at_k (nI 1) dX8_readVolume_8 rfl (by decide) ?_
      refine at_goto 13 dX8_readVolume_9 (by decide) ?_
      exact go true (decide_eq_true (by rw [c1])).symm
theorem c_readVolume (hn : 72 ≤ h.1) (ht : tpo A F t n) (P : Ps) (hP : okP n P) (dm : Nat) : sg_Kw MX8_readVolume [.ref 64] (mp h A F v P dm) none (mp h A F (vlV t n P v) (vlP t n P) dm) := by
  obtain ⟨h1, h2, h3, h4, h5, h6, h7⟩ := ok_vl7 (t := t) hP
  have := c_readVol (h := h) A F v t n hn ht P _ (vlA t n P) (vl7 t n P) (vlP t n P) (vl1 t n P) (vl2 t n P) (vl3 t n P) (vl4 t n P) (vl5 t n P) (vl6 t n P) hP dm rfl (by rw [vlA]) (by rw [vl1]) (by rw [vl2]) (by rw [vl3]) (by rw [vl4]) (by rw [vl5]) (by rw [vl6]) (by rw [vl7]) (by rw [vlP]) (ok_rq hP _ (by decide)) (ok_vlA hP) h1 h2 h3 h4 h5 h6 h7 (fun z => ⟨(vl_in z).1.2, (vl_in z).2.1.2⟩)
  rw [vlV]
  exact this
set_option maxRecDepth 100000 in
set_option maxHeartbeats 4000000 in
theorem c_comes (hn : 72 ≤ h.1) (w : ivr v) (P : Ps) (hP : okP n P) (hf0 : P.2.2.2.2.1 = 0) (dm d nm kind size : Nat) (hd : d < v 0 * v 2) (hnm : nm < 10) (hkd : kind = 1 ∨ kind = 2) (hsz : size ≤ 40) (hdm : dm < 40) (hk1 : kind = 1 → size = 0) : sg_K MX8_comes [.ref 64, .int (nI d), .int (nI nm), .int (nI kind), .int (nI size)] (mp h A F v P dm) (fun r h' => r = none ∧ ∃ A', keT A A' ∧ match cmS v d nm kind size with
    | none => ∃ v'', h' = mp h A' F v'' (rqP false 5 P) dm ∧ sb v v''
    | some p => h' = mp h A' F p.2 P (if kind = 1 then dm + 1 else dm) ∧ A' 6 = (if kind = 1 then upd (A 6) dm (nI p.1) else A 6)) := by
  have hgi := wf_gi w.1.1
  have hP5 := ok_rq hP false (code := 5) (by decide)
  have hf5 : (rqP false 5 P).2.2.2.2.1 = 5 := by rw [rqP, if_pos ⟨rfl, hf0⟩]
  have eT : rqP true 5 P = P := by rw [rqP, if_neg (fun z => by cases z.1)]
  show sg_A MX8_comes 0 [some (.ref 64), some (.int (nI d)), some (.int (nI nm)), some (.int (nI kind)), some (.int (nI size)), none] [] _ _
  refine at_ld (i := 0) dX8_comes_0 rfl rfl rfl ?_
  refine at_ld (i := 1) dX8_comes_1 rfl rfl rfl ?_
  refine at_ld (i := 2) dX8_comes_2 rfl rfl rfl ?_
  refine at_ld (i := 3) dX8_comes_3 rfl rfl rfl ?_
  refine at_wv [_, _, _] dX8_comes_4 mX8_makes ⟨Nat.le_of_ble_eq_true rfl, Nat.le_of_ble_eq_true rfl⟩ lX8_110 iX8_makes rfl rfl (mt_o hn _ _ _ _ _ _ _ _ _ _) (by omega) rfl (Nat.le_of_ble_eq_true rfl) (Nat.le_of_ble_eq_true rfl) ⟨rfl, rfl⟩ (c_makes A _ v hn w.1 d nm kind hd (by omega) hkd) ⟨rfl, rfl⟩ ?_
  try dsimp only [Option.toList, List.cons_append, List.nil_append]
  refine at_st (i := 5) dX8_comes_7 rfl rfl (Nat.le_of_ble_eq_true rfl) rfl ?_
  try dsimp only [List.set_cons_succ, List.set_cons_zero]
  refine at_ld (i := 0) dX8_comes_9 rfl rfl rfl ?_
  refine at_ld (i := 5) dX8_comes_10 rfl rfl rfl ?_
  -- behind a fault nothing more is done
  have bad : ∀ (A1 : Nat → Nat → Int32) v1 y5, sg_A MX8_comes 57 [some (.ref 64), some (.int (nI d)), some (.int (nI nm)), some (.int (nI kind)), some (.int (nI size)), y5] [] (mp h A1 F v1 (rqP false 5 P) dm) (fun r h' => r = none ∧ h' = mp h A1 F v1 (rqP false 5 P) dm) := by
    intro A1 v1 y5
    refine at_ld (i := 0) dX8_comes_57 rfl rfl rfl ?_
    refine at_get dX8_comes_58 fX8_49 (mt_o hn _ _ _ _ _ _ _ _ _ _) (by omega) rfl ?_
    refine at_zne 90 dX8_comes_61 (by decide) (fun c => ?_) (fun c => ?_)
    · refine at_vret dX8_comes_90 rfl ?_
      exact ⟨rfl, rfl⟩
    · rw [hf5] at c
      exact absurd (by decide) c
  cases q : mks v d nm kind with
  | none =>
    have hcm : cmS v d nm kind size = none := by rw [cmS, q]
    rw [hcm]
    rw [show (mkA v none).1 = -3 from rfl, show (mkA v none).2 = v from rfl]
    refine at_zlt 19 dX8_comes_12 (by decide) (fun c => ?_) (fun c => ?_)
    · refine at_k (nI 0) dX8_comes_19 rfl (by decide) ?_
      refine at_k (nI 5) dX8_comes_20 rfl (by decide) ?_
      refine at_wv [_, _] dX8_comes_21 mX8_requires ⟨Nat.le_of_ble_eq_true rfl, Nat.le_of_ble_eq_true rfl⟩ lX8_83 iX8_requires rfl rfl (mt_o hn _ _ _ _ _ _ _ _ _ _) (by omega) rfl (Nat.le_of_ble_eq_true rfl) (Nat.le_of_ble_eq_true rfl) ⟨rfl, rfl⟩ (c_rq A F v n hn P hP dm false 5) ⟨rfl, rfl⟩ ?_
      try dsimp only [Option.toList, List.cons_append, List.nil_append]
      refine at_ld (i := 0) dX8_comes_24 rfl rfl rfl ?_
      refine at_get dX8_comes_25 fX8_49 (mt_o hn _ _ _ _ _ _ _ _ _ _) (by omega) rfl ?_
      refine at_zne 57 dX8_comes_28 (by decide) (fun c1 => ?_) (fun c1 => ?_)
      · obtain ⟨r, h2, hr, hq⟩ := bad A v (some (.int (-3)))
        exact ⟨r, h2, hr, hq.1, A, keT_r A, v, hq.2, sb_r v⟩
      · rw [hf5] at c1
        exact absurd (by decide) c1
    · exact absurd (by decide) c
  | some p =>
    obtain ⟨i, v1⟩ := p
    obtain ⟨g, at_, -, -, -, e3, -, hat, hg⟩ := mks_of w.1.1 q
    have w1 := ivr_mks w (by omega) (by omega) hkd q
    obtain ⟨hi, -, -, -⟩ := fni_lt hg e3
    rw [show (mkA v (some (i, v1))).1 = nI i from rfl, show (mkA v (some (i, v1))).2 = v1 from rfl]
    have s1 : sb v v1 := by
      have hgb := wf_gb w.1.1
      obtain ⟨g2, at2, -, -, -, -, rfl, hat2, -⟩ := mks_of w.1.1 q
      intro c hc
      unfold mkv mk0
      split
      · rw [vu_n _ _ _ _ (by omega), vu_n _ _ _ _ (by omega), vu_n _ _ _ _ (by omega), vu_n _ _ _ _ (by omega), vu_n _ _ _ _ (by omega), vu_n _ _ _ _ (by omega)]
      · rw [vu_n _ _ _ _ (by omega), vu_n _ _ _ _ (by omega), vu_n _ _ _ _ (by omega), vu_n _ _ _ _ (by omega), vu_n _ _ _ _ (by omega)]
    refine at_zlt 19 dX8_comes_12 (by decide) (fun c => ?_) (fun c => ?_)
    · exact absurd c (nI_pos (by omega))
    · refine at_k (nI 1) dX8_comes_15 rfl (by decide) ?_
      refine at_goto 20 dX8_comes_16 (by decide) ?_
      refine at_k (nI 5) dX8_comes_20 rfl (by decide) ?_
      refine at_wv [_, _] dX8_comes_21 mX8_requires ⟨Nat.le_of_ble_eq_true rfl, Nat.le_of_ble_eq_true rfl⟩ lX8_83 iX8_requires rfl rfl (mt_o hn _ _ _ _ _ _ _ _ _ _) (by omega) rfl (Nat.le_of_ble_eq_true rfl) (Nat.le_of_ble_eq_true rfl) ⟨rfl, rfl⟩ (c_rq A F v1 n hn P hP dm true 5) ⟨rfl, rfl⟩ ?_
      try dsimp only [Option.toList, List.cons_append, List.nil_append]
      refine at_ld (i := 0) dX8_comes_24 rfl rfl rfl ?_
      rw [eT]
      -- the end of a good one
      have good : ∀ (A1 : Nat → Nat → Int32) v2, sg_A MX8_comes 57 [some (.ref 64), some (.int (nI d)), some (.int (nI nm)), some (.int (nI kind)), some (.int (nI size)), some (.int (nI i))] [] (mp h A1 F v2 P dm) (fun r h' => r = none ∧ h' = mp h (if kind = 1 then vf_upd A1 6 (upd (A1 6) dm (nI i)) else A1) F v2 P (if kind = 1 then dm + 1 else dm)) := by
        intro A1 v2
        refine at_ld (i := 0) dX8_comes_57 rfl rfl rfl ?_
        refine at_get dX8_comes_58 fX8_49 (mt_o hn _ _ _ _ _ _ _ _ _ _) (by omega) rfl ?_
        rw [hf0]
        refine at_zne 90 dX8_comes_61 (by decide) (fun c1 => ?_) (fun c1 => ?_)
        · exact absurd rfl c1
        · refine at_ld (i := 3) dX8_comes_64 rfl rfl rfl ?_
          refine at_k (nI 1) dX8_comes_65 rfl (by decide) ?_
          refine at_ine 90 dX8_comes_66 (by decide) (fun c2 => ?_) (fun c2 => ?_)
          · have c3 : ¬ kind = 1 := fun z => c2 (by rw [z])
            refine at_vret dX8_comes_90 rfl ?_
            rw [if_neg c3, if_neg c3]
            exact ⟨rfl, rfl⟩
          · have c3 := (nI_eq32 (by omega) (by decide)).mp (Classical.not_not.mp c2)
            refine at_ld (i := 0) dX8_comes_69 rfl rfl rfl ?_
            refine at_get dX8_comes_70 fX8_29 (mt_o hn _ _ _ _ _ _ _ _ _ _) (by omega) rfl ?_
            refine at_ld (i := 0) dX8_comes_73 rfl rfl rfl ?_
            refine at_get dX8_comes_74 fX8_100 (mt_o hn _ _ _ _ _ _ _ _ _ _) (by omega) rfl ?_
            refine at_ld (i := 5) dX8_comes_77 rfl rfl rfl ?_
            refine at_ast dm dX8_comes_79 (mt_a6 hn _ _ _ _ _ _ _ _ _ _) (by omega) rfl hdm (by decide) (mt_s6 h _ F v2 _ _ _ _ _ _ dm _) ?_
            refine at_ld (i := 0) dX8_comes_80 rfl rfl rfl ?_
            refine at_dup dX8_comes_81 rfl ?_
            refine at_get dX8_comes_82 fX8_100 (mt_o hn _ _ _ _ _ _ _ _ _ _) (by omega) rfl ?_
            refine at_k (nI 1) dX8_comes_85 rfl (by decide) ?_
            refine at_bin dX8_comes_86 rfl ?_
            refine at_put dX8_comes_87 fX8_100 ⟨_, _, rfl, Or.inl rfl, tyX8_ok 14 (by decide), fun _ => ⟨rfl, rfl⟩⟩ (mt_o hn _ _ _ _ _ _ _ _ _ _) (by omega) (Nat.le_of_ble_eq_true rfl) (mt_u14 h _ F v2 _ _ _ _ _ _ dm _ (dm + 1) (nI_add dm 1)) ?_
            refine at_vret dX8_comes_90 rfl ?_
            rw [if_pos c3, if_pos c3]
            exact ⟨rfl, rfl⟩
      refine at_get dX8_comes_25 fX8_49 (mt_o hn _ _ _ _ _ _ _ _ _ _) (by omega) rfl ?_
      rw [hf0]
      refine at_zne 57 dX8_comes_28 (by decide) (fun c1 => ?_) (fun c1 => ?_)
      · exact absurd rfl c1
      · refine at_ld (i := 4) dX8_comes_31 rfl rfl rfl ?_
        refine at_zle 57 dX8_comes_33 (by decide) (fun c2 => ?_) (fun c2 => ?_)
        · have c3 : ¬ 0 < size := fun z => nI_nle z (by omega) c2
          have hcm : cmS v d nm kind size = some (i, v1) := by rw [cmS, q]; dsimp only; rw [if_neg c3]
          rw [hcm]
          obtain ⟨r, h2, hr, hq⟩ := good A v1
          refine ⟨r, h2, hr, hq.1, _, ?_, hq.2, ?_⟩
          · split
            · exact keT_6 A _
            · exact keT_r A
          · split
            · exact vu_s _ _ _
            · rfl
        · have c3 : 0 < size := by
            rcases Nat.eq_zero_or_pos size with z | z
            · rw [z] at c2; exact absurd (by decide) c2
            · exact z
          have c4 : ¬ kind = 1 := fun z => by have := hk1 z; omega
          refine at_ld (i := 0) dX8_comes_36 rfl rfl rfl ?_
          refine at_ld (i := 0) dX8_comes_37 rfl rfl rfl ?_
          refine at_ld (i := 5) dX8_comes_38 rfl rfl rfl ?_
          refine at_ld (i := 4) dX8_comes_40 rfl rfl rfl ?_
          refine at_cv [_, _] dX8_comes_42 mX8_grows ⟨Nat.le_of_ble_eq_true rfl, Nat.le_of_ble_eq_true rfl⟩ lX8_114 iX8_grows rfl rfl (mt_o hn _ _ _ _ _ _ _ _ _ _) (by omega) rfl (Nat.le_of_ble_eq_true rfl) (Nat.le_of_ble_eq_true rfl) (c_grows A _ v1 hn w1.1 w1.2.2 i size (by omega) (by omega) hsz) ?_ ?_
          · rintro r h1 ⟨-, B, rfl⟩
            exact ⟨rfl, rfl⟩
          · rintro r h1 ⟨rfl, B, rfl⟩
            try dsimp only [Option.toList, List.cons_append, List.nil_append]
            cases q2 : grw v1 i size with
            | none =>
              have hcm : cmS v d nm kind size = none := by rw [cmS, q]; dsimp only; rw [if_pos c3, q2]
              rw [hcm]
              have hga : grA v1 i size = -3 := by rw [grA, q2]; rfl
              rw [hga, show (none : Option (Nat → Nat)).getD v1 = v1 from rfl]
              refine at_zlt 52 dX8_comes_45 (by decide) (fun c5 => ?_) (fun c5 => ?_)
              · refine at_k (nI 0) dX8_comes_52 rfl (by decide) ?_
                refine at_k (nI 5) dX8_comes_53 rfl (by decide) ?_
                refine at_wv [_, _] dX8_comes_54 mX8_requires ⟨Nat.le_of_ble_eq_true rfl, Nat.le_of_ble_eq_true rfl⟩ lX8_83 iX8_requires rfl rfl (mt_o hn _ _ _ _ _ _ _ _ _ _) (by omega) rfl (Nat.le_of_ble_eq_true rfl) (Nat.le_of_ble_eq_true rfl) ⟨rfl, rfl⟩ (c_rq (vf_upd A 1 B) F v1 n hn P hP dm false 5) ⟨rfl, rfl⟩ ?_
                try dsimp only [Option.toList, List.cons_append, List.nil_append]
                obtain ⟨r, h2, hr, hq⟩ := bad (vf_upd A 1 B) v1 (some (.int (nI i)))
                exact ⟨r, h2, hr, hq.1, _, keT_1 A B, v1, hq.2, s1⟩
              · exact absurd (by decide) c5
            | some v2 =>
              have hcm : cmS v d nm kind size = some (i, v2) := by rw [cmS, q]; dsimp only; rw [if_pos c3, q2]
              rw [hcm]
              have hga : grA v1 i size = nI (io v1 i 3 + size) := by rw [grA, q2]; rfl
              have hs3 := wf_s w1.1 (i := i) (by omega)
              rw [hga, show (some v2).getD v1 = v2 from rfl]
              refine at_zlt 52 dX8_comes_45 (by decide) (fun c5 => ?_) (fun c5 => ?_)
              · exact absurd c5 (nI_pos (by omega))
              · refine at_k (nI 1) dX8_comes_48 rfl (by decide) ?_
                refine at_goto 53 dX8_comes_49 (by decide) ?_
                refine at_k (nI 5) dX8_comes_53 rfl (by decide) ?_
                refine at_wv [_, _] dX8_comes_54 mX8_requires ⟨Nat.le_of_ble_eq_true rfl, Nat.le_of_ble_eq_true rfl⟩ lX8_83 iX8_requires rfl rfl (mt_o hn _ _ _ _ _ _ _ _ _ _) (by omega) rfl (Nat.le_of_ble_eq_true rfl) (Nat.le_of_ble_eq_true rfl) ⟨rfl, rfl⟩ (c_rq (vf_upd A 1 B) F v2 n hn P hP dm true 5) ⟨rfl, rfl⟩ ?_
                try dsimp only [Option.toList, List.cons_append, List.nil_append]
                rw [eT]
                obtain ⟨r, h2, hr, hq⟩ := good (vf_upd A 1 B) v2
                refine ⟨r, h2, hr, hq.1, _, keT_1 A B, ?_, ?_⟩
                · have hq2 := hq.2
                  rw [if_neg c4, if_neg c4] at hq2
                  rw [if_neg c4]; exact hq2
                · rw [if_neg c4]; exact vu_n _ _ _ _ (by decide)
end R19
