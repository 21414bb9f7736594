/-! THE REFERENCE: lines of the text -/
abbrev Ps : Type := Nat × Nat × Nat × Nat × Nat × Nat
/-- e, b, s, g, f, wr: pos, begun, sort, figure, fault, wrongAt -/
abbrev mp (h : sg_H) (A : Nat → Nat → Int32) (F : Nat → Int32) (v : Nat → Nat) (P : Ps) (dm : Nat) : sg_H := mt h A F v P.1 P.2.1 P.2.2.1 P.2.2.2.1 P.2.2.2.2.1 P.2.2.2.2.2 dm
def rqP (good : Bool) (code : Nat) (P : Ps) : Ps := if good = false ∧ P.2.2.2.2.1 = 0 then (P.1, P.2.1, P.2.2.1, P.2.2.2.1, code, P.2.1) else P
def rdP (t : Nat → Nat) (n : Nat) (P : Ps) : Ps := if P.2.2.2.2.1 = 0 then (tE t n P.1, tB t n P.1, tS t n P.1, rdG t n P.1 P.2.2.2.1, if tX t n P.1 = true then 1 else 0, if tX t n P.1 = true then tB t n P.1 else P.2.2.2.2.2) else P
def okP (n : Nat) (P : Ps) : Prop := P.2.1 ≤ P.1 ∧ P.1 ≤ n ∧ P.2.2.1 ≤ 3 ∧ (P.2.2.1 = 2 → P.2.2.2.1 ≤ 99) ∧ P.2.2.2.2.1 ≤ 5
def nmP (t : Nat → Nat) (n lo hi : Nat) (P : Ps) : Nat × Ps := (if (rqP (decide (lo ≤ P.2.2.2.1 ∧ P.2.2.2.1 ≤ hi)) 3 (rqP (decide (P.2.2.1 = 2)) 2 P)).2.2.2.2.1 = 0 then P.2.2.2.1 else 0, rdP t n (rqP (decide (lo ≤ P.2.2.2.1 ∧ P.2.2.2.1 ≤ hi)) 3 (rqP (decide (P.2.2.1 = 2)) 2 P)))
def stP (P : Ps) : Ps := rqP (decide (P.2.2.1 = 3)) 2 P
theorem rq_g (good : Bool) (code : Nat) (P : Ps) : (rqP good code P).1 = P.1 ∧ (rqP good code P).2.1 = P.2.1 ∧ (rqP good code P).2.2.1 = P.2.2.1 ∧ (rqP good code P).2.2.2.1 = P.2.2.2.1 := by
  unfold rqP
  split <;> exact ⟨rfl, rfl, rfl, rfl⟩
theorem rq_f {good : Bool} {code : Nat} {P : Ps} (hc : code ≠ 0) (h : (rqP good code P).2.2.2.2.1 = 0) : P.2.2.2.2.1 = 0 ∧ good = true ∧ rqP good code P = P := by
  unfold rqP at h ⊢
  by_cases q : good = false ∧ P.2.2.2.2.1 = 0
  · rw [if_pos q] at h; exact absurd h hc
  · rw [if_neg q] at h ⊢
    refine ⟨h, ?_, rfl⟩
    cases good
    · exact absurd ⟨rfl, h⟩ q
    · rfl
theorem ok_rq {n : Nat} {P : Ps} (h : okP n P) (good : Bool) {code : Nat} (hc : code ≤ 5) : okP n (rqP good code P) := by
  obtain ⟨a, b, c, d, e⟩ := h
  unfold rqP
  split
  · exact ⟨a, b, c, d, hc⟩
  · exact ⟨a, b, c, d, e⟩
theorem tBE {t : Nat → Nat} {n p : Nat} : tB t n p ≤ tE t n p := by
  unfold tE
  split
  · exact Nat.le_refl _
  · split
    · exact skw_ge _ _ _
    · split
      · exact skw_ge _ _ _
      · exact Nat.le_succ _
theorem skw_all (q : Nat → Bool) : ∀ f p j, p ≤ j → j < skw q f p → q j = true := by
  intro f
  induction f with
  | zero => intro p j h1 h2; simp only [skw] at h2; omega
  | succ f ih =>
    intro p j h1 h2
    simp only [skw] at h2
    split at h2
    · next c =>
      rcases Nat.eq_or_lt_of_le h1 with z | z
      · rw [← z]; exact c
      · exact ih (p + 1) j z h2
    · omega
theorem tV_le {t : Nat → Nat} {n p : Nat} (h : tS t n p = 2) : tV t n p ≤ 99 := by
  refine (fv_lt _ (fun j hj => ?_)).1
  unfold tS at h
  have hE : tE t n p = skw (fgr t n) 201 (tB t n p) := by
    unfold tE
    split at h
    · omega
    · next c1 =>
      split at h
      · omega
      · next c2 =>
        split at h
        · next c3 => rw [if_neg c1, if_neg c2, if_pos c3]
        · omega
  have := skw_all (fgr t n) 201 (tB t n p) (tB t n p + j) (by omega) (by omega)
  have := of_decide_eq_true this
  omega
theorem ok_rd {t : Nat → Nat} {n : Nat} {P : Ps} (h : okP n P) : okP n (rdP t n P) := by
  obtain ⟨a, b, c, d, e⟩ := h
  unfold rdP
  split
  · refine ⟨tBE, tE_le b, ?_, ?_, ?_⟩
    · show tS t n P.1 ≤ 3
      unfold tS
      repeat' split
      all_goals omega
    · show tS t n P.1 = 2 → rdG t n P.1 P.2.2.2.1 ≤ 99
      intro z
      unfold rdG
      rw [if_pos z]
      exact tV_le z
    · show (if tX t n P.1 = true then 1 else 0) ≤ 5
      split <;> omega
  · exact ⟨a, b, c, d, e⟩
theorem ok_nm {t : Nat → Nat} {n : Nat} {P : Ps} (h : okP n P) (lo hi : Nat) : okP n (nmP t n lo hi P).2 := ok_rd (ok_rq (ok_rq h _ (by decide)) _ (by decide))
def isw (t : Nat → Nat) (n : Nat) (P : Ps) (nn fr a1 a2 a3 : Nat) : Bool := decide (P.2.2.1 = 1 ∧ P.1 - P.2.1 = nn ∧ byt t n (P.2.1 + fr) = nI a1 ∧ byt t n (P.2.1 + fr + 1) = nI a2 ∧ byt t n (P.2.1 + fr + 2) = nI a3)
def lnw (t : Nat → Nat) (n : Nat) (P : Ps) : Option Nat := if isw t n P 6 0 118 111 108 = true ∧ isw t n P 6 3 117 109 101 = true then some 0 else if isw t n P 3 0 100 105 114 = true then some 1 else if isw t n P 4 0 102 105 108 = true ∧ isw t n P 4 1 105 108 101 = true then some 2 else none
section R18
variable {h : sg_H} (A : Nat → Nat → Int32) (F : Nat → Int32) (v : Nat → Nat) (t : Nat → Nat) (n : Nat)
theorem c_rq (hn : 72 ≤ h.1) (P : Ps) (hP : okP n P) (dm : Nat) (good : Bool) (code : Nat) : sg_Kw MX8_requires [.ref 64, .int (bI good), .int (nI code)] (mp h A F v P dm) none (mp h A F v (rqP good code P) dm) := by
  obtain ⟨e, b, s, g, f, wr⟩ := P
  have := c_requires A F v hn e b s g f wr dm (by have := hP.2.2.2.2; dsimp only at this; omega) good code
  unfold rqP
  dsimp only
  by_cases q : good = false ∧ f = 0
  · rw [if_pos q] at this ⊢
    exact this
  · rw [if_neg q] at this ⊢
    exact this
theorem c_rd (hn : 72 ≤ h.1) (ht : tpo A F t n) (P : Ps) (hP : okP n P) (dm : Nat) : sg_Kw MX8_reads [.ref 64] (mp h A F v P dm) none (mp h A F v (rdP t n P) dm) := by
  obtain ⟨e, b, s, g, f, wr⟩ := P
  obtain ⟨h1, h2, h3, h4, h5⟩ := hP
  dsimp only at h1 h2 h3 h4 h5
  unfold rdP
  dsimp only
  by_cases q : f = 0
  · subst q
    rw [if_pos rfl]
    exact c_reads0 A F v t n hn ht e b s g wr dm h2
  · rw [if_neg q]
    exact c_reads1 A F v hn e b s g f wr dm (by omega) (by omega)
set_option maxRecDepth 100000 in
theorem c_is (hn : 72 ≤ h.1) (ht : tpo A F t n) (P : Ps) (hP : okP n P) (dm nn fr a1 a2 a3 : Nat) (hnn : nn < 1000) (hfr : fr < 1000) : sg_Kr MX8_is [.ref 64, .int (nI nn), .int (nI fr), .int (nI a1), .int (nI a2), .int (nI a3)] (mp h A F v P dm) (.int (bI (isw t n P nn fr a1 a2 a3))) := by
  obtain ⟨e, b, s, g, f, wr⟩ := P
  obtain ⟨h1, h2, h3, h4, h5⟩ := hP
  dsimp only at h1 h2 h3 h4 h5
  have h200 := ht.1
  show sg_A MX8_is 0 [some (.ref 64), some (.int (nI nn)), some (.int (nI fr)), some (.int (nI a1)), some (.int (nI a2)), some (.int (nI a3))] [] _ _
  have no : ¬ (s = 1 ∧ e - b = nn ∧ byt t n (b + fr) = nI a1 ∧ byt t n (b + fr + 1) = nI a2 ∧ byt t n (b + fr + 2) = nI a3) → sg_A MX8_is 73 [some (.ref 64), some (.int (nI nn)), some (.int (nI fr)), some (.int (nI a1)), some (.int (nI a2)), some (.int (nI a3))] [] (mp h A F v (e, b, s, g, f, wr) dm) (fun r' h' => r' = some (.int (bI (isw t n (e, b, s, g, f, wr) nn fr a1 a2 a3))) ∧ h' = mp h A F v (e, b, s, g, f, wr) dm) := by
    intro hno
    refine at_k (nI 0) dX8_is_73 rfl (by decide) ?_
    refine at_ret dX8_is_74 rfl rfl ?_
    refine ⟨?_, rfl⟩
    rw [isw, decide_eq_false hno]
    rfl
  refine at_ld (i := 0) dX8_is_0 rfl rfl rfl ?_
  refine at_get dX8_is_1 fX8_58 (mt_o hn _ _ _ _ _ _ _ _ _ _) (by omega) rfl ?_
  refine at_k (nI 1) dX8_is_4 rfl (by decide) ?_
  refine at_ine 73 dX8_is_5 (by decide) (fun c => ?_) (fun c => ?_)
  · exact no (fun z => c (by rw [z.1]))
  · have c1 : s = 1 := (nI_eq32 (a := s) (by omega) (by decide)).mp (Classical.not_not.mp c)
    refine at_ld (i := 0) dX8_is_8 rfl rfl rfl ?_
    refine at_get dX8_is_9 fX8_61 (mt_o hn _ _ _ _ _ _ _ _ _ _) (by omega) rfl ?_
    refine at_ld (i := 0) dX8_is_12 rfl rfl rfl ?_
    refine at_get dX8_is_13 fX8_52 (mt_o hn _ _ _ _ _ _ _ _ _ _) (by omega) rfl ?_
    refine at_bin dX8_is_16 rfl ?_
    try dsimp only
    rw [nI_sub h1]
    refine at_ld (i := 1) dX8_is_17 rfl rfl rfl ?_
    refine at_ine 73 dX8_is_18 (by decide) (fun c2 => ?_) (fun c2 => ?_)
    · exact no (fun z => c2 (by rw [z.2.1]))
    · have c3 := (nI_eq32 (by omega) (by omega)).mp (Classical.not_not.mp c2)
      refine at_ld (i := 0) dX8_is_21 rfl rfl rfl ?_
      refine at_ld (i := 0) dX8_is_22 rfl rfl rfl ?_
      refine at_get dX8_is_23 fX8_52 (mt_o hn _ _ _ _ _ _ _ _ _ _) (by omega) rfl ?_
      refine at_ld (i := 2) dX8_is_26 rfl rfl rfl ?_
      refine at_bin dX8_is_27 rfl ?_
      try dsimp only
      rw [nI_add]
      refine at_rv [_] dX8_is_28 mX8_byteAt ⟨Nat.le_of_ble_eq_true rfl, Nat.le_of_ble_eq_true rfl⟩ lX8_64 iX8_byteAt rfl rfl (mt_o hn _ _ _ _ _ _ _ _ _ _) (by omega) rfl (Nat.le_of_ble_eq_true rfl) (Nat.le_of_ble_eq_true rfl) ⟨rfl, rfl⟩ (c_byteAt A F v t n hn ht _ _ _ _ _ _ _ (b + fr) (by omega)) ?_
      refine at_ld (i := 3) dX8_is_31 rfl rfl rfl ?_
      refine at_ine 73 dX8_is_32 (by decide) (fun c4 => ?_) (fun c4 => ?_)
      · exact no (fun z => c4 z.2.2.1)
      · refine at_ld (i := 0) dX8_is_35 rfl rfl rfl ?_
        refine at_ld (i := 0) dX8_is_36 rfl rfl rfl ?_
        refine at_get dX8_is_37 fX8_52 (mt_o hn _ _ _ _ _ _ _ _ _ _) (by omega) rfl ?_
        refine at_ld (i := 2) dX8_is_40 rfl rfl rfl ?_
        refine at_bin dX8_is_41 rfl ?_
        try dsimp only
        rw [nI_add]
        refine at_k (nI 1) dX8_is_42 rfl (by decide) ?_
        refine at_bin dX8_is_43 rfl ?_
        try dsimp only
        rw [nI_add]
        refine at_rv [_] dX8_is_44 mX8_byteAt ⟨Nat.le_of_ble_eq_true rfl, Nat.le_of_ble_eq_true rfl⟩ lX8_64 iX8_byteAt rfl rfl (mt_o hn _ _ _ _ _ _ _ _ _ _) (by omega) rfl (Nat.le_of_ble_eq_true rfl) (Nat.le_of_ble_eq_true rfl) ⟨rfl, rfl⟩ (c_byteAt A F v t n hn ht _ _ _ _ _ _ _ (b + fr + 1) (by omega)) ?_
        refine at_ld (i := 4) dX8_is_47 rfl rfl rfl ?_
        refine at_ine 73 dX8_is_49 (by decide) (fun c5 => ?_) (fun c5 => ?_)
        · exact no (fun z => c5 z.2.2.2.1)
        · refine at_ld (i := 0) dX8_is_52 rfl rfl rfl ?_
          refine at_ld (i := 0) dX8_is_53 rfl rfl rfl ?_
          refine at_get dX8_is_54 fX8_52 (mt_o hn _ _ _ _ _ _ _ _ _ _) (by omega) rfl ?_
          refine at_ld (i := 2) dX8_is_57 rfl rfl rfl ?_
          refine at_bin dX8_is_58 rfl ?_
          try dsimp only
          rw [nI_add]
          refine at_k (nI 2) dX8_is_59 rfl (by decide) ?_
          refine at_bin dX8_is_60 rfl ?_
          try dsimp only
          rw [nI_add]
          refine at_rv [_] dX8_is_61 mX8_byteAt ⟨Nat.le_of_ble_eq_true rfl, Nat.le_of_ble_eq_true rfl⟩ lX8_64 iX8_byteAt rfl rfl (mt_o hn _ _ _ _ _ _ _ _ _ _) (by omega) rfl (Nat.le_of_ble_eq_true rfl) (Nat.le_of_ble_eq_true rfl) ⟨rfl, rfl⟩ (c_byteAt A F v t n hn ht _ _ _ _ _ _ _ (b + fr + 2) (by omega)) ?_
          refine at_ld (i := 5) dX8_is_64 rfl rfl rfl ?_
          refine at_ine 73 dX8_is_66 (by decide) (fun c6 => ?_) (fun c6 => ?_)
          · exact no (fun z => c6 z.2.2.2.2)
          · refine at_k (nI 1) dX8_is_69 rfl (by decide) ?_
            refine at_goto 74 dX8_is_70 (by decide) ?_
            refine at_ret dX8_is_74 rfl rfl ?_
            refine ⟨?_, rfl⟩
            rw [isw, decide_eq_true ⟨c1, c3, Classical.not_not.mp c4, Classical.not_not.mp c5, Classical.not_not.mp c6⟩]
            rfl
set_option maxRecDepth 100000 in
theorem c_lineNow (hn : 72 ≤ h.1) (ht : tpo A F t n) (P : Ps) (hP : okP n P) (dm : Nat) : sg_Kr MX8_lineNow [.ref 64] (mp h A F v P dm) (.int (oI (lnw t n P))) := by
  show sg_A MX8_lineNow 0 [some (.ref 64)] [] _ _
  have three : ¬ (isw t n P 6 0 118 111 108 = true ∧ isw t n P 6 3 117 109 101 = true) → sg_A MX8_lineNow 34 [some (.ref 64)] [] (mp h A F v P dm) (fun r' h' => r' = some (.int (oI (lnw t n P))) ∧ h' = mp h A F v P dm) := by
    intro hno
    rw [lnw, if_neg hno]
    refine at_ld (i := 0) dX8_lineNow_34 rfl rfl rfl ?_
    refine at_k (nI 3) dX8_lineNow_35 rfl (by decide) ?_
    refine at_k (nI 0) dX8_lineNow_36 rfl (by decide) ?_
    refine at_k (nI 100) dX8_lineNow_37 rfl (by decide) ?_
    refine at_k (nI 105) dX8_lineNow_39 rfl (by decide) ?_
    refine at_k (nI 114) dX8_lineNow_41 rfl (by decide) ?_
    refine at_rv [_, _, _, _, _] dX8_lineNow_43 mX8_is ⟨Nat.le_of_ble_eq_true rfl, Nat.le_of_ble_eq_true rfl⟩ lX8_68 iX8_is rfl rfl (mt_o hn _ _ _ _ _ _ _ _ _ _) (by omega) rfl (Nat.le_of_ble_eq_true rfl) (Nat.le_of_ble_eq_true rfl) ⟨rfl, rfl⟩ (c_is A F v t n hn ht P hP dm 3 0 100 105 114 (by decide) (by decide)) ?_
    refine at_zeq 51 dX8_lineNow_46 (by decide) (fun c => ?_) (fun c => ?_)
    · have c1 := (bI_0 _).mp c
      rw [if_neg (by rw [c1]; decide)]
      refine at_ld (i := 0) dX8_lineNow_51 rfl rfl rfl ?_
      refine at_k (nI 4) dX8_lineNow_52 rfl (by decide) ?_
      refine at_k (nI 0) dX8_lineNow_53 rfl (by decide) ?_
      refine at_k (nI 102) dX8_lineNow_54 rfl (by decide) ?_
      refine at_k (nI 105) dX8_lineNow_56 rfl (by decide) ?_
      refine at_k (nI 108) dX8_lineNow_58 rfl (by decide) ?_
      refine at_rv [_, _, _, _, _] dX8_lineNow_60 mX8_is ⟨Nat.le_of_ble_eq_true rfl, Nat.le_of_ble_eq_true rfl⟩ lX8_68 iX8_is rfl rfl (mt_o hn _ _ _ _ _ _ _ _ _ _) (by omega) rfl (Nat.le_of_ble_eq_true rfl) (Nat.le_of_ble_eq_true rfl) ⟨rfl, rfl⟩ (c_is A F v t n hn ht P hP dm 4 0 102 105 108 (by decide) (by decide)) ?_
      refine at_zeq 85 dX8_lineNow_63 (by decide) (fun c2 => ?_) (fun c2 => ?_)
      · have c3 := (bI_0 _).mp c2
        rw [if_neg (fun z => by rw [c3] at z; cases z.1)]
        refine at_k (-4) dX8_lineNow_85 rfl (by decide) ?_
        refine at_ret dX8_lineNow_87 rfl rfl ?_
        exact ⟨rfl, rfl⟩
      · have c3 := bI_1 c2
        refine at_ld (i := 0) dX8_lineNow_66 rfl rfl rfl ?_
        refine at_k (nI 4) dX8_lineNow_67 rfl (by decide) ?_
        refine at_k (nI 1) dX8_lineNow_68 rfl (by decide) ?_
        refine at_k (nI 105) dX8_lineNow_69 rfl (by decide) ?_
        refine at_k (nI 108) dX8_lineNow_71 rfl (by decide) ?_
        refine at_k (nI 101) dX8_lineNow_73 rfl (by decide) ?_
        refine at_rv [_, _, _, _, _] dX8_lineNow_75 mX8_is ⟨Nat.le_of_ble_eq_true rfl, Nat.le_of_ble_eq_true rfl⟩ lX8_68 iX8_is rfl rfl (mt_o hn _ _ _ _ _ _ _ _ _ _) (by omega) rfl (Nat.le_of_ble_eq_true rfl) (Nat.le_of_ble_eq_true rfl) ⟨rfl, rfl⟩ (c_is A F v t n hn ht P hP dm 4 1 105 108 101 (by decide) (by decide)) ?_
        refine at_zeq 85 dX8_lineNow_78 (by decide) (fun c4 => ?_) (fun c4 => ?_)
        · have c5 := (bI_0 _).mp c4
          rw [if_neg (fun z => by rw [c5] at z; cases z.2)]
          refine at_k (-4) dX8_lineNow_85 rfl (by decide) ?_
          refine at_ret dX8_lineNow_87 rfl rfl ?_
          exact ⟨rfl, rfl⟩
        · have c5 := bI_1 c4
          rw [if_pos ⟨c3, c5⟩]
          refine at_k (nI 2) dX8_lineNow_81 rfl (by decide) ?_
          refine at_goto 87 dX8_lineNow_82 (by decide) ?_
          refine at_ret dX8_lineNow_87 rfl rfl ?_
          exact ⟨rfl, rfl⟩
    · have c1 := bI_1 c
      rw [if_pos c1]
      refine at_k (nI 1) dX8_lineNow_49 rfl (by decide) ?_
      refine at_ret dX8_lineNow_50 rfl rfl ?_
      exact ⟨rfl, rfl⟩
  refine at_ld (i := 0) dX8_lineNow_0 rfl rfl rfl ?_
  refine at_k (nI 6) dX8_lineNow_1 rfl (by decide) ?_
  refine at_k (nI 0) dX8_lineNow_3 rfl (by decide) ?_
  refine at_k (nI 118) dX8_lineNow_4 rfl (by decide) ?_
  refine at_k (nI 111) dX8_lineNow_6 rfl (by decide) ?_
  refine at_k (nI 108) dX8_lineNow_8 rfl (by decide) ?_
  refine at_rv [_, _, _, _, _] dX8_lineNow_10 mX8_is ⟨Nat.le_of_ble_eq_true rfl, Nat.le_of_ble_eq_true rfl⟩ lX8_68 iX8_is rfl rfl (mt_o hn _ _ _ _ _ _ _ _ _ _) (by omega) rfl (Nat.le_of_ble_eq_true rfl) (Nat.le_of_ble_eq_true rfl) ⟨rfl, rfl⟩ (c_is A F v t n hn ht P hP dm 6 0 118 111 108 (by decide) (by decide)) ?_
  refine at_zeq 34 dX8_lineNow_13 (by decide) (fun c => ?_) (fun c => ?_)
  · have c1 := (bI_0 _).mp c
    exact three (fun z => by rw [c1] at z; cases z.1)
  · have c1 := bI_1 c
    refine at_ld (i := 0) dX8_lineNow_16 rfl rfl rfl ?_
    refine at_k (nI 6) dX8_lineNow_17 rfl (by decide) ?_
    refine at_k (nI 3) dX8_lineNow_19 rfl (by decide) ?_
    refine at_k (nI 117) dX8_lineNow_20 rfl (by decide) ?_
    refine at_k (nI 109) dX8_lineNow_22 rfl (by decide) ?_
    refine at_k (nI 101) dX8_lineNow_24 rfl (by decide) ?_
    refine at_rv [_, _, _, _, _] dX8_lineNow_26 mX8_is ⟨Nat.le_of_ble_eq_true rfl, Nat.le_of_ble_eq_true rfl⟩ lX8_68 iX8_is rfl rfl (mt_o hn _ _ _ _ _ _ _ _ _ _) (by omega) rfl (Nat.le_of_ble_eq_true rfl) (Nat.le_of_ble_eq_true rfl) ⟨rfl, rfl⟩ (c_is A F v t n hn ht P hP dm 6 3 117 109 101 (by decide) (by decide)) ?_
    refine at_zeq 34 dX8_lineNow_29 (by decide) (fun c2 => ?_) (fun c2 => ?_)
    · have c3 := (bI_0 _).mp c2
      exact three (fun z => by rw [c3] at z; cases z.2)
    · have c3 := bI_1 c2
      rw [lnw, if_pos ⟨c1, c3⟩]
      refine at_k (nI 0) dX8_lineNow_32 rfl (by decide) ?_
      refine at_ret dX8_lineNow_33 rfl rfl ?_
      exact ⟨rfl, rfl⟩
set_option maxRecDepth 100000 in
theorem c_readNumber (hn : 72 ≤ h.1) (ht : tpo A F t n) (P : Ps) (hP : okP n P) (dm lo hi : Nat) (hlo : lo < 1000) (hhi : hi < 1000) : sg_Kw MX8_readNumber [.ref 64, .int (nI lo), .int (nI hi)] (mp h A F v P dm) (some (.int (nI (nmP t n lo hi P).1))) (mp h A F v (nmP t n lo hi P).2 dm) := by
  have hP1 := ok_rq hP (decide (P.2.2.1 = 2)) (code := 2) (by decide)
  have e1 := rq_g (decide (P.2.2.1 = 2)) 2 P
  have hP2 := ok_rq hP1 (decide (lo ≤ P.2.2.2.1 ∧ P.2.2.2.1 ≤ hi)) (code := 3) (by decide)
  have e2 := rq_g (decide (lo ≤ P.2.2.2.1 ∧ P.2.2.2.1 ≤ hi)) 3 (rqP (decide (P.2.2.1 = 2)) 2 P)
  obtain ⟨P1, hp1⟩ : ∃ P1, P1 = rqP (decide (P.2.2.1 = 2)) 2 P := ⟨_, rfl⟩
  obtain ⟨P2, hp2⟩ : ∃ P2, P2 = rqP (decide (lo ≤ P.2.2.2.1 ∧ P.2.2.2.1 ≤ hi)) 3 P1 := ⟨_, rfl⟩
  have hnm : nmP t n lo hi P = (if P2.2.2.2.2.1 = 0 then P.2.2.2.1 else 0, rdP t n P2) := by rw [hp2, hp1]; rfl
  rw [hnm]
  rw [← hp1] at hP1 e1 hP2 e2
  rw [← hp2] at hP2 e2
  show sg_A MX8_readNumber 0 [some (.ref 64), some (.int (nI lo)), some (.int (nI hi)), none] [] _ _
  -- the end
  have three : sg_A MX8_readNumber 49 [some (.ref 64), some (.int (nI lo)), some (.int (nI hi)), none] [] (mp h A F v P2 dm) (fun r' h' => r' = some (.int (nI (if P2.2.2.2.2.1 = 0 then P.2.2.2.1 else 0))) ∧ h' = mp h A F v (rdP t n P2) dm) := by
    have hf := hP2.2.2.2.2
    refine at_ld (i := 0) dX8_readNumber_49 rfl rfl rfl ?_
    refine at_get dX8_readNumber_50 fX8_49 (mt_o hn _ _ _ _ _ _ _ _ _ _) (by omega) rfl ?_
    refine at_zne 63 dX8_readNumber_53 (by decide) (fun c => ?_) (fun c => ?_)
    · have c1 : ¬ P2.2.2.2.2.1 = 0 := fun z => c (by rw [z]; rfl)
      rw [if_neg c1]
      refine at_k (nI 0) dX8_readNumber_63 rfl (by decide) ?_
      refine at_st (i := 3) dX8_readNumber_64 rfl rfl (Nat.le_of_ble_eq_true rfl) rfl ?_
      try dsimp only [List.set_cons_succ, List.set_cons_zero]
      refine at_ld (i := 0) dX8_readNumber_65 rfl rfl rfl ?_
      refine at_wv [] dX8_readNumber_66 mX8_reads ⟨Nat.le_of_ble_eq_true rfl, Nat.le_of_ble_eq_true rfl⟩ lX8_87 iX8_reads rfl rfl (mt_o hn _ _ _ _ _ _ _ _ _ _) (by omega) rfl (Nat.le_of_ble_eq_true rfl) (Nat.le_of_ble_eq_true rfl) ⟨rfl, rfl⟩ (c_rd A F v t n hn ht P2 hP2 dm) ⟨rfl, rfl⟩ ?_
      try dsimp only [Option.toList, List.cons_append, List.nil_append]
      refine at_ld (i := 3) dX8_readNumber_69 rfl rfl rfl ?_
      refine at_ret dX8_readNumber_70 rfl rfl ?_
      exact ⟨rfl, rfl⟩
    · have c1 := (nI_eq32 (b := 0) (by omega) (by decide)).mp (Classical.not_not.mp c)
      rw [if_pos c1]
      refine at_ld (i := 0) dX8_readNumber_56 rfl rfl rfl ?_
      refine at_get dX8_readNumber_57 fX8_80 (mt_o hn _ _ _ _ _ _ _ _ _ _) (by omega) rfl ?_
      refine at_goto 64 dX8_readNumber_60 (by decide) ?_
      refine at_st (i := 3) dX8_readNumber_64 rfl rfl (Nat.le_of_ble_eq_true rfl) rfl ?_
      try dsimp only [List.set_cons_succ, List.set_cons_zero]
      refine at_ld (i := 0) dX8_readNumber_65 rfl rfl rfl ?_
      refine at_wv [] dX8_readNumber_66 mX8_reads ⟨Nat.le_of_ble_eq_true rfl, Nat.le_of_ble_eq_true rfl⟩ lX8_87 iX8_reads rfl rfl (mt_o hn _ _ _ _ _ _ _ _ _ _) (by omega) rfl (Nat.le_of_ble_eq_true rfl) (Nat.le_of_ble_eq_true rfl) ⟨rfl, rfl⟩ (c_rd A F v t n hn ht P2 hP2 dm) ⟨rfl, rfl⟩ ?_
      try dsimp only [Option.toList, List.cons_append, List.nil_append]
      refine at_ld (i := 3) dX8_readNumber_69 rfl rfl rfl ?_
      refine at_ret dX8_readNumber_70 rfl rfl ?_
      rw [e2.2.2.2, e1.2.2.2]
      exact ⟨rfl, rfl⟩
  have two : sg_A MX8_readNumber 25 [some (.ref 64), some (.int (nI lo)), some (.int (nI hi)), none] [] (mp h A F v P1 dm) (fun r' h' => r' = some (.int (nI (if P2.2.2.2.2.1 = 0 then P.2.2.2.1 else 0))) ∧ h' = mp h A F v (rdP t n P2) dm) := by
    have hf := hP1.2.2.2.2
    refine at_ld (i := 0) dX8_readNumber_25 rfl rfl rfl ?_
    refine at_get dX8_readNumber_26 fX8_49 (mt_o hn _ _ _ _ _ _ _ _ _ _) (by omega) rfl ?_
    refine at_zne 49 dX8_readNumber_29 (by decide) (fun c => ?_) (fun c => ?_)
    · have c1 : ¬ P1.2.2.2.2.1 = 0 := fun z => c (by rw [z]; rfl)
      have : P2 = P1 := by rw [hp2, rqP, if_neg (fun z => c1 z.2)]
      rw [this] at three ⊢
      exact three
    · have hg : P1.2.2.2.1 ≤ 99 := by
        have c1 := (nI_eq32 (b := 0) (by omega) (by decide)).mp (Classical.not_not.mp c)
        refine hP1.2.2.2.1 ?_
        rw [e1.2.2.1]
        rw [hp1] at c1
        exact of_decide_eq_true (rq_f (by decide) c1).2.1
      refine at_ld (i := 0) dX8_readNumber_32 rfl rfl rfl ?_
      refine at_ld (i := 0) dX8_readNumber_33 rfl rfl rfl ?_
      refine at_get dX8_readNumber_34 fX8_80 (mt_o hn _ _ _ _ _ _ _ _ _ _) (by omega) rfl ?_
      refine at_i2l dX8_readNumber_37 ?_
      refine at_ld (i := 1) dX8_readNumber_38 rfl rfl rfl ?_
      refine at_i2l dX8_readNumber_39 ?_
      refine at_ld (i := 2) dX8_readNumber_40 rfl rfl rfl ?_
      refine at_i2l dX8_readNumber_41 ?_
      refine at_rs [_, _, _] dX8_readNumber_42 mX8_in ⟨Nat.le_of_ble_eq_true rfl, Nat.le_of_ble_eq_true rfl⟩ lX8_41 tX8_in rfl (Nat.le_of_ble_eq_true rfl) (Nat.le_of_ble_eq_true rfl) ⟨rfl, rfl⟩ (c_inA _ _ lo hi (nI_l (by omega)) (nI_l (by omega)) (by omega) (by omega)) ?_
      rw [inR_nI (by omega), e1.2.2.2]
      refine at_k (nI 3) dX8_readNumber_45 rfl (by decide) ?_
      refine at_wv [_, _] dX8_readNumber_46 mX8_requires ⟨Nat.le_of_ble_eq_true rfl, Nat.le_of_ble_eq_true rfl⟩ lX8_83 iX8_requires rfl rfl (mt_o hn _ _ _ _ _ _ _ _ _ _) (by omega) rfl (Nat.le_of_ble_eq_true rfl) (Nat.le_of_ble_eq_true rfl) ⟨rfl, rfl⟩ (c_rq A F v n hn P1 hP1 dm _ 3) ⟨rfl, rfl⟩ ?_
      try dsimp only [Option.toList, List.cons_append, List.nil_append]
      rw [← hp2]
      exact three
  refine at_ld (i := 0) dX8_readNumber_0 rfl rfl rfl ?_
  refine at_get dX8_readNumber_1 fX8_49 (mt_o hn _ _ _ _ _ _ _ _ _ _) (by omega) rfl ?_
  refine at_zne 25 dX8_readNumber_4 (by decide) (fun c => ?_) (fun c => ?_)
  · have c1 : ¬ P.2.2.2.2.1 = 0 := fun z => c (by rw [z]; rfl)
    have : P1 = P := by rw [hp1, rqP, if_neg (fun z => c1 z.2)]
    rw [this] at two
    exact two
  · have hs := hP.2.2.1
    have rq : ∀ b : Bool, b = decide (P.2.2.1 = 2) → sg_A MX8_readNumber 21 [some (.ref 64), some (.int (nI lo)), some (.int (nI hi)), none] [.int (bI b), .ref 64] (mp h A F v P dm) (fun r' h' => r' = some (.int (nI (if P2.2.2.2.2.1 = 0 then P.2.2.2.1 else 0))) ∧ h' = mp h A F v (rdP t n P2) dm) := by
      intro b hb
      subst hb
      refine at_k (nI 2) dX8_readNumber_21 rfl (by decide) ?_
      refine at_wv [_, _] dX8_readNumber_22 mX8_requires ⟨Nat.le_of_ble_eq_true rfl, Nat.le_of_ble_eq_true rfl⟩ lX8_83 iX8_requires rfl rfl (mt_o hn _ _ _ _ _ _ _ _ _ _) (by omega) rfl (Nat.le_of_ble_eq_true rfl) (Nat.le_of_ble_eq_true rfl) ⟨rfl, rfl⟩ (c_rq A F v n hn P hP dm _ 2) ⟨rfl, rfl⟩ ?_
      try dsimp only [Option.toList, List.cons_append, List.nil_append]
      rw [← hp1]
      exact two
    refine at_ld (i := 0) dX8_readNumber_7 rfl rfl rfl ?_
    refine at_ld (i := 0) dX8_readNumber_8 rfl rfl rfl ?_
    refine at_get dX8_readNumber_9 fX8_58 (mt_o hn _ _ _ _ _ _ _ _ _ _) (by omega) rfl ?_
    refine at_k (nI 2) dX8_readNumber_12 rfl (by decide) ?_
    refine at_ine 20 dX8_readNumber_13 (by decide) (fun c2 => ?_) (fun c2 => ?_)
    · have c3 : ¬ P.2.2.1 = 2 := fun z => c2 (by rw [z])
      refine at_k (nI 0) dX8_readNumber_20 rfl (by decide) ?_
      exact rq false (decide_eq_false c3).symm
    · have c3 := (nI_eq32 (by omega) (by decide)).mp (Classical.not_not.mp c2)
      refine at_k (nI 1) dX8_readNumber_16 rfl (by decide) ?_
      refine at_goto 21 dX8_readNumber_17 (by decide) ?_
      exact rq true (decide_eq_true c3).symm
set_option maxRecDepth 100000 in
theorem c_requiresStop (hn : 72 ≤ h.1) (P : Ps) (hP : okP n P) (dm : Nat) : sg_Kw MX8_requiresStop [.ref 64] (mp h A F v P dm) none (mp h A F v (stP P) dm) := by
  have hs := hP.2.2.1
  have hf := hP.2.2.2.2
  show sg_A MX8_requiresStop 0 [some (.ref 64)] [] _ _
  refine at_ld (i := 0) dX8_requiresStop_0 rfl rfl rfl ?_
  refine at_get dX8_requiresStop_1 fX8_49 (mt_o hn _ _ _ _ _ _ _ _ _ _) (by omega) rfl ?_
  refine at_zne 25 dX8_requiresStop_4 (by decide) (fun c => ?_) (fun c => ?_)
  · have c1 : ¬ P.2.2.2.2.1 = 0 := fun z => c (by rw [z]; rfl)
    refine at_vret dX8_requiresStop_25 rfl ?_
    rw [stP, rqP, if_neg (fun z => c1 z.2)]
    exact ⟨rfl, rfl⟩
  · have rq : ∀ b : Bool, b = decide (P.2.2.1 = 3) → sg_A MX8_requiresStop 21 [some (.ref 64)] [.int (bI b), .ref 64] (mp h A F v P dm) (fun r' h' => r' = none ∧ h' = mp h A F v (stP P) dm) := by
      intro b hb
      subst hb
      refine at_k (nI 2) dX8_requiresStop_21 rfl (by decide) ?_
      refine at_wv [_, _] dX8_requiresStop_22 mX8_requires ⟨Nat.le_of_ble_eq_true rfl, Nat.le_of_ble_eq_true rfl⟩ lX8_83 iX8_requires rfl rfl (mt_o hn _ _ _ _ _ _ _ _ _ _) (by omega) rfl (Nat.le_of_ble_eq_true rfl) (Nat.le_of_ble_eq_true rfl) ⟨rfl, rfl⟩ (c_rq A F v n hn P hP dm _ 2) ⟨rfl, rfl⟩ ?_
      try dsimp only [Option.toList, List.cons_append, List.nil_append]
      refine at_vret dX8_requiresStop_25 rfl ?_
      exact ⟨rfl, rfl⟩
    refine at_ld (i := 0) dX8_requiresStop_7 rfl rfl rfl ?_
    refine at_ld (i := 0) dX8_requiresStop_8 rfl rfl rfl ?_
    refine at_get dX8_requiresStop_9 fX8_58 (mt_o hn _ _ _ _ _ _ _ _ _ _) (by omega) rfl ?_
    refine at_k (nI 3) dX8_requiresStop_12 rfl (by decide) ?_
    refine at_ine 20 dX8_requiresStop_13 (by decide) (fun c2 => ?_) (fun c2 => ?_)
    · have c3 : ¬ P.2.2.1 = 3 := fun z => c2 (by rw [z])
      refine at_k (nI 0) dX8_requiresStop_20 rfl (by decide) ?_
      exact rq false (decide_eq_false c3).symm
    · have c3 := (nI_eq32 (by omega) (by decide)).mp (Classical.not_not.mp c2)
      refine at_k (nI 1) dX8_requiresStop_16 rfl (by decide) ?_
      refine at_goto 21 dX8_requiresStop_17 (by decide) ?_
      exact rq true (decide_eq_true c3).symm
end R18
