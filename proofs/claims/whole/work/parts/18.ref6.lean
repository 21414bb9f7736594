/-! THE REFERENCE: owners, pairs, sums -/
theorem fragI {v : Nat → Nat} : 4 * v 0 * v 1 = 4 * (v 0 * v 1) := Nat.mul_assoc _ _ _
def prs (v : Nat → Nat) (i : Nat) : Nat := cnt (fun k => decide (1 ≤ k ∧ k % v 5 ≠ 0)) (io v i 3 / 4)
def flp (v : Nat → Nat) (a b : Nat) : Prop := a / v 1 = b / v 1 ∧ b % v 1 = (a % v 1 + 1 + v 3) % v 1
def flw (v : Nat → Nat) (i : Nat) : Nat := cnt (fun k => decide (1 ≤ k ∧ k % v 5 ≠ 0 ∧ io v i (5 + k - 1) / v 1 = io v i (5 + k) / v 1 ∧ io v i (5 + k) % v 1 = (io v i (5 + k - 1) % v 1 + 1 + v 3) % v 1)) (io v i 3 / 4)
def ofk (v : Nat → Nat) (kind : Nat) : Nat := cnt (fun i => decide (io v i 0 = kind)) (v 0 * v 2)
def sme (v : Nat → Nat) (what i : Nat) : Nat := if io v i 0 = 0 then 0 else if what = 10 then io v i 3 else if what = 11 then prs v i else flw v i
def smd (v : Nat → Nat) (what : Nat) : Nat := smN (sme v what) (v 0 * v 2)
section R6
variable {h : sg_H} (A : Nat → Nat → Int32) (F : Nat → Int32) (v : Nat → Nat)
set_option maxRecDepth 100000 in
theorem c_owner (hn : 72 ≤ h.1) (w : wf v) (x : Nat) (hx : x < 128) : sg_Kr MX8_owner [.ref 64, .int (nI x)] (mv h A F v) (.int (oI (own v x))) := by
  have hgi := wf_gi w.1
  show sg_A MX8_owner 0 [some (.ref 64), some (.int (nI x)), none, none, none] [] _ _
  refine at_k (nI 0) dX8_owner_0 rfl (by decide) ?_
  refine at_st (i := 2) dX8_owner_1 rfl rfl (Nat.le_of_ble_eq_true rfl) rfl ?_
  try dsimp only [List.set_cons_succ, List.set_cons_zero]
  have outer : ∀ x3 x4 : Option Value, sg_A MX8_owner 2 [some (.ref 64), some (.int (nI x)), some (.int (nI 0)), x3, x4] [] (mv h A F v) (fun r h' => r = some (.int (oI (own v x))) ∧ h' = mv h A F v) := by
    refine lpN (fun i => ∀ x3 x4 : Option Value, sg_A MX8_owner 2 [some (.ref 64), some (.int (nI x)), some (.int (nI i)), x3, x4] [] (mv h A F v) (fun r h' => r = some (.int (oI (srch (fun i => if hasF v i x = true then some i else none) i (v 0 * v 2 - i)))) ∧ h' = mv h A F v)) (v 0 * v 2) ?_ ?_
    · intro x3 x4
      refine at_ld (i := 2) dX8_owner_2 rfl rfl rfl ?_
      refine at_ld (i := 0) dX8_owner_3 rfl rfl rfl ?_
      refine at_rv [] dX8_owner_4 mX8_inodes ⟨Nat.le_of_ble_eq_true rfl, Nat.le_of_ble_eq_true rfl⟩ lX8_167 iX8_inodes rfl rfl (mv_o hn _ _ _) (by omega) rfl (Nat.le_of_ble_eq_true rfl) (Nat.le_of_ble_eq_true rfl) ⟨rfl, rfl⟩ (c_inodes A F v hn) ?_
      refine at_ige 126 dX8_owner_7 (by decide) (fun c => ?_) (fun c => ?_)
      · refine at_k (-4) dX8_owner_126 rfl (by decide) ?_
        refine at_ret dX8_owner_128 rfl rfl ?_
        rw [sr_0]
        exact ⟨rfl, rfl⟩
      · exact absurd (nI_le (Nat.le_refl _) (by omega)) c
    · intro i hi ih x3 x4
      obtain ⟨wk, ws, wt, wb⟩ := w.2.2 i (by omega)
      have ht := there_nI w.1 hi
      -- at the end of an inode
      have fin : ∀ (x4 : Option Value), sg_A MX8_owner 114 [some (.ref 64), some (.int (nI x)), some (.int (nI i)), some (.int (bI (hasF v i x))), x4] [] (mv h A F v) (fun r h' => r = some (.int (oI (srch (fun i => if hasF v i x = true then some i else none) i (v 0 * v 2 - i)))) ∧ h' = mv h A F v) := by
        intro x4
        refine at_ld (i := 3) dX8_owner_114 rfl rfl rfl ?_
        refine at_zeq 120 dX8_owner_115 (by decide) (fun c => ?_) (fun c => ?_)
        · rw [bI_0] at c
          rw [sr_n hi (if_neg (by rw [c]; exact fun z => by cases z))]
          refine at_iinc (nI 1) dX8_owner_120 rfl rfl (by decide) ?_
          try dsimp only [List.set_cons_succ, List.set_cons_zero]
          refine at_goto 2 dX8_owner_123 (by decide) ?_
          rw [nI_add]
          exact ih _ _
        · have c1 := bI_1 c
          refine at_ld (i := 2) dX8_owner_118 rfl rfl rfl ?_
          refine at_ret dX8_owner_119 rfl rfl ?_
          rw [sr_s hi (if_pos c1)]
          exact ⟨rfl, rfl⟩
      have mid : ∀ (x3 : Option Value), sg_A MX8_owner 61 [some (.ref 64), some (.int (nI x)), some (.int (nI i)), x3, x4] [.int (bI (hasT v i x))] (mv h A F v) (fun r h' => r = some (.int (oI (srch (fun i => if hasF v i x = true then some i else none) i (v 0 * v 2 - i)))) ∧ h' = mv h A F v) := by
        intro x3
        refine at_st (i := 3) dX8_owner_61 rfl rfl (Nat.le_of_ble_eq_true rfl) rfl ?_
        try dsimp only [List.set_cons_succ, List.set_cons_zero]
        refine at_k (nI 0) dX8_owner_62 rfl (by decide) ?_
        refine at_st (i := 4) dX8_owner_63 rfl rfl (Nat.le_of_ble_eq_true rfl) rfl ?_
        try dsimp only [List.set_cons_succ, List.set_cons_zero]
        by_cases q0 : io v i 0 = 0
        · refine at_ld (i := 0) dX8_owner_65 rfl rfl rfl ?_
          refine at_ld (i := 2) dX8_owner_66 rfl rfl rfl ?_
          refine at_rv [_] dX8_owner_67 mX8_isThere ⟨Nat.le_of_ble_eq_true rfl, Nat.le_of_ble_eq_true rfl⟩ lX8_176 iX8_isThere rfl rfl (mv_o hn _ _ _) (by omega) rfl (Nat.le_of_ble_eq_true rfl) (Nat.le_of_ble_eq_true rfl) ⟨rfl, rfl⟩ (c_isThere A F v hn w.1 (wf_k w) (nI i)) ?_
          rw [ht, decide_eq_false (fun z => z q0)]
          refine at_zeq 114 dX8_owner_70 (by decide) (fun c1 => ?_) (fun c1 => ?_)
          · have e : hasT v i x = hasF v i x := by rw [hasF, decide_eq_false (fun z => z q0), Bool.false_and, Bool.or_false]
            rw [e]
            exact fin _
          · exact absurd rfl c1
        · have e0 : bI (hasT v i x) = bI (hasT v i x || anyB (fun k => decide (x / 4 = io v i (5 + k))) 0) := by rw [anyB, Bool.or_false]
          rw [e0]
          refine lpN (fun k => sg_A MX8_owner 65 [some (.ref 64), some (.int (nI x)), some (.int (nI i)), some (.int (bI (hasT v i x || anyB (fun k => decide (x / 4 = io v i (5 + k))) k))), some (.int (nI k))] [] (mv h A F v) (fun r h' => r = some (.int (oI (srch (fun i => if hasF v i x = true then some i else none) i (v 0 * v 2 - i)))) ∧ h' = mv h A F v)) (io v i 3 / 4) ?_ ?_
          · refine at_ld (i := 0) dX8_owner_65 rfl rfl rfl ?_
            refine at_ld (i := 2) dX8_owner_66 rfl rfl rfl ?_
            refine at_rv [_] dX8_owner_67 mX8_isThere ⟨Nat.le_of_ble_eq_true rfl, Nat.le_of_ble_eq_true rfl⟩ lX8_176 iX8_isThere rfl rfl (mv_o hn _ _ _) (by omega) rfl (Nat.le_of_ble_eq_true rfl) (Nat.le_of_ble_eq_true rfl) ⟨rfl, rfl⟩ (c_isThere A F v hn w.1 (wf_k w) (nI i)) ?_
            rw [ht, decide_eq_true q0]
            refine at_zeq 114 dX8_owner_70 (by decide) (fun c1 => ?_) (fun c1 => ?_)
            · exact absurd c1 (by decide)
            · refine at_ld (i := 4) dX8_owner_73 rfl rfl rfl ?_
              refine at_ld (i := 0) dX8_owner_75 rfl rfl rfl ?_
              refine at_ld (i := 2) dX8_owner_76 rfl rfl rfl ?_
              refine at_rv [_] dX8_owner_77 mX8_blocks ⟨Nat.le_of_ble_eq_true rfl, Nat.le_of_ble_eq_true rfl⟩ lX8_194 iX8_blocks rfl rfl (mv_o hn _ _ _) (by omega) rfl (Nat.le_of_ble_eq_true rfl) (Nat.le_of_ble_eq_true rfl) ⟨rfl, rfl⟩ (c_blocks A F v hn i (by omega) (by omega)) ?_
              refine at_ige 114 dX8_owner_80 (by decide) (fun c2 => ?_) (fun c2 => ?_)
              · have e : (hasT v i x || anyB (fun k => decide (x / 4 = io v i (5 + k))) (io v i 3 / 4)) = hasF v i x := by rw [hasF, decide_eq_true q0, Bool.true_and]
                rw [e]
                exact fin _
              · exact absurd (nI_le (Nat.le_refl _) (by omega)) c2
          · intro k hk ihk
            have nx : ∀ b : Bool, b = (hasT v i x || anyB (fun k => decide (x / 4 = io v i (5 + k))) (k + 1)) → sg_A MX8_owner 107 [some (.ref 64), some (.int (nI x)), some (.int (nI i)), some (.int (bI (hasT v i x || anyB (fun k => decide (x / 4 = io v i (5 + k))) k))), some (.int (nI k))] [.int (bI b)] (mv h A F v) (fun r h' => r = some (.int (oI (srch (fun i => if hasF v i x = true then some i else none) i (v 0 * v 2 - i)))) ∧ h' = mv h A F v) := by
              intro b hb
              subst hb
              refine at_st (i := 3) dX8_owner_107 rfl rfl (Nat.le_of_ble_eq_true rfl) rfl ?_
              try dsimp only [List.set_cons_succ, List.set_cons_zero]
              refine at_iinc (nI 1) dX8_owner_108 rfl rfl (by decide) ?_
              try dsimp only [List.set_cons_succ, List.set_cons_zero]
              refine at_goto 65 dX8_owner_111 (by decide) ?_
              rw [nI_add]
              exact ihk
            refine at_ld (i := 0) dX8_owner_65 rfl rfl rfl ?_
            refine at_ld (i := 2) dX8_owner_66 rfl rfl rfl ?_
            refine at_rv [_] dX8_owner_67 mX8_isThere ⟨Nat.le_of_ble_eq_true rfl, Nat.le_of_ble_eq_true rfl⟩ lX8_176 iX8_isThere rfl rfl (mv_o hn _ _ _) (by omega) rfl (Nat.le_of_ble_eq_true rfl) (Nat.le_of_ble_eq_true rfl) ⟨rfl, rfl⟩ (c_isThere A F v hn w.1 (wf_k w) (nI i)) ?_
            rw [ht, decide_eq_true q0]
            refine at_zeq 114 dX8_owner_70 (by decide) (fun c1 => ?_) (fun c1 => ?_)
            · exact absurd c1 (by decide)
            · refine at_ld (i := 4) dX8_owner_73 rfl rfl rfl ?_
              refine at_ld (i := 0) dX8_owner_75 rfl rfl rfl ?_
              refine at_ld (i := 2) dX8_owner_76 rfl rfl rfl ?_
              refine at_rv [_] dX8_owner_77 mX8_blocks ⟨Nat.le_of_ble_eq_true rfl, Nat.le_of_ble_eq_true rfl⟩ lX8_194 iX8_blocks rfl rfl (mv_o hn _ _ _) (by omega) rfl (Nat.le_of_ble_eq_true rfl) (Nat.le_of_ble_eq_true rfl) ⟨rfl, rfl⟩ (c_blocks A F v hn i (by omega) (by omega)) ?_
              refine at_ige 114 dX8_owner_80 (by decide) (fun c2 => ?_) (fun c2 => ?_)
              · exact absurd c2 (nI_ge hk (by omega))
              · refine at_ld (i := 3) dX8_owner_83 rfl rfl rfl ?_
                refine at_zne 102 dX8_owner_84 (by decide) (fun c3 => ?_) (fun c3 => ?_)
                · have c4 := bI_1 c3
                  refine at_k (nI 1) dX8_owner_102 rfl (by decide) ?_
                  refine at_goto 107 dX8_owner_103 (by decide) ?_
                  refine nx true ?_
                  rw [anyB, ← Bool.or_assoc, c4, Bool.true_or]
                · have c4 := (bI_0 _).mp (Classical.not_not.mp c3)
                  refine at_ld (i := 1) dX8_owner_87 rfl rfl rfl ?_
                  refine at_k (nI 4) dX8_owner_88 rfl (by decide) ?_
                  refine at_div dX8_owner_89 (by decide) ?_
                  rw [nI_div (by omega) (by decide)]
                  refine at_ld (i := 0) dX8_owner_90 rfl rfl rfl ?_
                  refine at_ld (i := 2) dX8_owner_91 rfl rfl rfl ?_
                  refine at_k (nI 5) dX8_owner_92 rfl (by decide) ?_
                  refine at_ld (i := 4) dX8_owner_93 rfl rfl rfl ?_
                  refine at_bin dX8_owner_95 rfl ?_
                  try dsimp only
                  rw [nI_add]
                  refine at_rv [_, _] dX8_owner_96 mX8_of ⟨Nat.le_of_ble_eq_true rfl, Nat.le_of_ble_eq_true rfl⟩ lX8_173 iX8_of rfl rfl (mv_o hn _ _ _) (by omega) rfl (Nat.le_of_ble_eq_true rfl) (Nat.le_of_ble_eq_true rfl) ⟨rfl, rfl⟩ (c_of A F v hn i (5 + k) (by omega)) ?_
                  have hbk := wb k (by omega)
                  refine at_ine 106 dX8_owner_99 (by decide) (fun c5 => ?_) (fun c5 => ?_)
                  · have c6 : ¬ x / 4 = io v i (5 + k) := fun z => c5 (by rw [z])
                    refine at_k (nI 0) dX8_owner_106 rfl (by decide) ?_
                    refine nx false ?_
                    rw [anyB, ← Bool.or_assoc, c4, decide_eq_false c6]
                    rfl
                  · have c6 := (nI_eq32 (by omega) (by omega)).mp (Classical.not_not.mp c5)
                    refine at_k (nI 1) dX8_owner_102 rfl (by decide) ?_
                    refine at_goto 107 dX8_owner_103 (by decide) ?_
                    refine nx true ?_
                    rw [anyB, ← Bool.or_assoc, c4, decide_eq_true c6]
                    rfl
      refine at_ld (i := 2) dX8_owner_2 rfl rfl rfl ?_
      refine at_ld (i := 0) dX8_owner_3 rfl rfl rfl ?_
      refine at_rv [] dX8_owner_4 mX8_inodes ⟨Nat.le_of_ble_eq_true rfl, Nat.le_of_ble_eq_true rfl⟩ lX8_167 iX8_inodes rfl rfl (mv_o hn _ _ _) (by omega) rfl (Nat.le_of_ble_eq_true rfl) (Nat.le_of_ble_eq_true rfl) ⟨rfl, rfl⟩ (c_inodes A F v hn) ?_
      refine at_ige 126 dX8_owner_7 (by decide) (fun c => ?_) (fun c => ?_)
      · exact absurd c (nI_ge hi (by omega))
      · refine at_ld (i := 0) dX8_owner_10 rfl rfl rfl ?_
        refine at_ld (i := 2) dX8_owner_11 rfl rfl rfl ?_
        refine at_rv [_] dX8_owner_12 mX8_isThere ⟨Nat.le_of_ble_eq_true rfl, Nat.le_of_ble_eq_true rfl⟩ lX8_176 iX8_isThere rfl rfl (mv_o hn _ _ _) (by omega) rfl (Nat.le_of_ble_eq_true rfl) (Nat.le_of_ble_eq_true rfl) ⟨rfl, rfl⟩ (c_isThere A F v hn w.1 (wf_k w) (nI i)) ?_
        rw [ht]
        refine at_zeq 60 dX8_owner_15 (by decide) (fun c1 => ?_) (fun c1 => ?_)
        · rw [bI_0, decide_eq_false_iff_not] at c1
          refine at_k (nI 0) dX8_owner_60 rfl (by decide) ?_
          have e : nI 0 = bI (hasT v i x) := by rw [hasT, decide_eq_false (fun z => c1 z.1)]; rfl
          rw [e]
          exact mid _
        · have c1' := of_decide_eq_true (bI_1 c1)
          refine at_ld (i := 0) dX8_owner_18 rfl rfl rfl ?_
          refine at_ld (i := 2) dX8_owner_19 rfl rfl rfl ?_
          refine at_rv [_] dX8_owner_20 mX8_tail ⟨Nat.le_of_ble_eq_true rfl, Nat.le_of_ble_eq_true rfl⟩ lX8_191 iX8_tail rfl rfl (mv_o hn _ _ _) (by omega) rfl (Nat.le_of_ble_eq_true rfl) (Nat.le_of_ble_eq_true rfl) ⟨rfl, rfl⟩ (c_tail A F v hn i (by omega) (by omega)) ?_
          refine at_zle 60 dX8_owner_23 (by decide) (fun c2 => ?_) (fun c2 => ?_)
          · have c3 : ¬ 0 < io v i 3 % 4 := fun q => nI_nle q (by omega) c2
            refine at_k (nI 0) dX8_owner_60 rfl (by decide) ?_
            have e : nI 0 = bI (hasT v i x) := by rw [hasT, decide_eq_false (fun z => c3 z.2.1)]; rfl
            rw [e]
            exact mid _
          · have c3 : 0 < io v i 3 % 4 := by
              rcases Nat.eq_zero_or_pos (io v i 3 % 4) with q | q
              · rw [q] at c2; exact absurd (by decide) c2
              · exact q
            refine at_ld (i := 1) dX8_owner_26 rfl rfl rfl ?_
            refine at_i2l dX8_owner_27 ?_
            refine at_ld (i := 0) dX8_owner_28 rfl rfl rfl ?_
            refine at_ld (i := 2) dX8_owner_29 rfl rfl rfl ?_
            refine at_k (nI 4) dX8_owner_30 rfl (by decide) ?_
            refine at_rv [_, _] dX8_owner_31 mX8_of ⟨Nat.le_of_ble_eq_true rfl, Nat.le_of_ble_eq_true rfl⟩ lX8_173 iX8_of rfl rfl (mv_o hn _ _ _) (by omega) rfl (Nat.le_of_ble_eq_true rfl) (Nat.le_of_ble_eq_true rfl) ⟨rfl, rfl⟩ (c_of A F v hn i 4 (by omega)) ?_
            refine at_i2l dX8_owner_34 ?_
            rw [nI_l (by omega)]
            refine at_ld (i := 0) dX8_owner_35 rfl rfl rfl ?_
            refine at_ld (i := 2) dX8_owner_36 rfl rfl rfl ?_
            refine at_k (nI 4) dX8_owner_37 rfl (by decide) ?_
            refine at_rv [_, _] dX8_owner_38 mX8_of ⟨Nat.le_of_ble_eq_true rfl, Nat.le_of_ble_eq_true rfl⟩ lX8_173 iX8_of rfl rfl (mv_o hn _ _ _) (by omega) rfl (Nat.le_of_ble_eq_true rfl) (Nat.le_of_ble_eq_true rfl) ⟨rfl, rfl⟩ (c_of A F v hn i 4 (by omega)) ?_
            refine at_ld (i := 0) dX8_owner_41 rfl rfl rfl ?_
            refine at_ld (i := 2) dX8_owner_42 rfl rfl rfl ?_
            refine at_rv [_] dX8_owner_43 mX8_tail ⟨Nat.le_of_ble_eq_true rfl, Nat.le_of_ble_eq_true rfl⟩ lX8_191 iX8_tail rfl rfl (mv_o hn _ _ _) (by omega) rfl (Nat.le_of_ble_eq_true rfl) (Nat.le_of_ble_eq_true rfl) ⟨rfl, rfl⟩ (c_tail A F v hn i (by omega) (by omega)) ?_
            refine at_bin dX8_owner_46 rfl ?_
            try dsimp only
            rw [nI_add]
            refine at_k (nI 1) dX8_owner_47 rfl (by decide) ?_
            refine at_bin dX8_owner_48 rfl ?_
            try dsimp only
            rw [nI_sub (by omega)]
            refine at_i2l dX8_owner_49 ?_
            rw [nI_l (by omega)]
            refine at_rs [_, _, _] dX8_owner_50 mX8_in ⟨Nat.le_of_ble_eq_true rfl, Nat.le_of_ble_eq_true rfl⟩ lX8_41 tX8_in rfl (Nat.le_of_ble_eq_true rfl) (Nat.le_of_ble_eq_true rfl) ⟨rfl, rfl⟩ (c_in _ _ _ _) ?_
            rw [in_ab (nI x) (by omega) (by omega), inR_nI (by omega)]
            refine at_zeq 60 dX8_owner_53 (by decide) (fun c4 => ?_) (fun c4 => ?_)
            · rw [bI_0, decide_eq_false_iff_not] at c4
              refine at_k (nI 0) dX8_owner_60 rfl (by decide) ?_
              have e : nI 0 = bI (hasT v i x) := by rw [hasT, decide_eq_false (fun z => c4 ⟨z.2.2.1, by omega⟩)]; rfl
              rw [e]
              exact mid _
            · have c5 := of_decide_eq_true (bI_1 c4)
              refine at_k (nI 1) dX8_owner_56 rfl (by decide) ?_
              refine at_goto 61 dX8_owner_57 (by decide) ?_
              have e : nI 1 = bI (hasT v i x) := by rw [hasT, decide_eq_true ⟨c1', c3, c5.1, by omega⟩]; rfl
              rw [e]
              exact mid _
  exact outer _ _
set_option maxRecDepth 100000 in
theorem c_isSpoilt (hn : 72 ≤ h.1) (w : wf v) : sg_Kr MX8_isSpoilt [.ref 64] (mv h A F v) (.int (bI (spt v))) := by
  have hgi := wf_gi w.1
  have hgb := wf_gb w.1
  have hfr := fragI (v := v)
  show sg_A MX8_isSpoilt 0 [some (.ref 64), none, none] [] _ _
  refine at_k (nI 0) dX8_isSpoilt_0 rfl (by decide) ?_
  refine at_st (i := 1) dX8_isSpoilt_1 rfl rfl (Nat.le_of_ble_eq_true rfl) rfl ?_
  try dsimp only [List.set_cons_succ, List.set_cons_zero]
  refine at_k (nI 0) dX8_isSpoilt_2 rfl (by decide) ?_
  refine at_st (i := 2) dX8_isSpoilt_3 rfl rfl (Nat.le_of_ble_eq_true rfl) rfl ?_
  try dsimp only [List.set_cons_succ, List.set_cons_zero]
  refine lpN (fun k => sg_A MX8_isSpoilt 4 [some (.ref 64), some (.int (bI (anyB (fun x => fr v x != (own v x).isNone) k))), some (.int (nI k))] [] (mv h A F v) _) (4 * v 0 * v 1) ?_ ?_
  · refine at_ld (i := 2) dX8_isSpoilt_4 rfl rfl rfl ?_
    refine at_ld (i := 0) dX8_isSpoilt_5 rfl rfl rfl ?_
    refine at_rv [] dX8_isSpoilt_6 mX8_fragments ⟨Nat.le_of_ble_eq_true rfl, Nat.le_of_ble_eq_true rfl⟩ lX8_35 iX8_fragments rfl rfl (mv_o hn _ _ _) (by omega) rfl (Nat.le_of_ble_eq_true rfl) (Nat.le_of_ble_eq_true rfl) ⟨rfl, rfl⟩ (c_fragments A F v hn) ?_
    refine at_ige 51 dX8_isSpoilt_9 (by decide) (fun c => ?_) (fun c => ?_)
    · refine at_ld (i := 1) dX8_isSpoilt_51 rfl rfl rfl ?_
      refine at_ret dX8_isSpoilt_52 rfl (bI_narr _) ?_
      exact ⟨rfl, rfl⟩
    · exact absurd (nI_le (Nat.le_refl _) (by omega)) c
  · intro k hk ih
    have nx : ∀ b : Bool, b = anyB (fun x => fr v x != (own v x).isNone) (k + 1) → sg_A MX8_isSpoilt 44 [some (.ref 64), some (.int (bI (anyB (fun x => fr v x != (own v x).isNone) k))), some (.int (nI k))] [.int (bI b)] (mv h A F v) (fun r h' => r = some (.int (bI (spt v))) ∧ h' = mv h A F v) := by
      intro b hb
      subst hb
      refine at_st (i := 1) dX8_isSpoilt_44 rfl rfl (Nat.le_of_ble_eq_true rfl) rfl ?_
      try dsimp only [List.set_cons_succ, List.set_cons_zero]
      refine at_iinc (nI 1) dX8_isSpoilt_45 rfl rfl (by decide) ?_
      try dsimp only [List.set_cons_succ, List.set_cons_zero]
      refine at_goto 4 dX8_isSpoilt_48 (by decide) ?_
      rw [nI_add]
      exact ih
    refine at_ld (i := 2) dX8_isSpoilt_4 rfl rfl rfl ?_
    refine at_ld (i := 0) dX8_isSpoilt_5 rfl rfl rfl ?_
    refine at_rv [] dX8_isSpoilt_6 mX8_fragments ⟨Nat.le_of_ble_eq_true rfl, Nat.le_of_ble_eq_true rfl⟩ lX8_35 iX8_fragments rfl rfl (mv_o hn _ _ _) (by omega) rfl (Nat.le_of_ble_eq_true rfl) (Nat.le_of_ble_eq_true rfl) ⟨rfl, rfl⟩ (c_fragments A F v hn) ?_
    refine at_ige 51 dX8_isSpoilt_9 (by decide) (fun c => ?_) (fun c => ?_)
    · exact absurd c (nI_ge hk (by omega))
    · refine at_ld (i := 1) dX8_isSpoilt_12 rfl rfl rfl ?_
      refine at_zne 39 dX8_isSpoilt_13 (by decide) (fun c1 => ?_) (fun c1 => ?_)
      · have c2 := bI_1 c1
        refine at_k (nI 1) dX8_isSpoilt_39 rfl (by decide) ?_
        refine at_goto 44 dX8_isSpoilt_40 (by decide) ?_
        exact nx true (by rw [anyB, c2, Bool.true_or])
      · have c2 := (bI_0 _).mp (Classical.not_not.mp c1)
        have dn : ∀ b : Bool, b = (own v k).isNone → sg_A MX8_isSpoilt 36 [some (.ref 64), some (.int (bI (anyB (fun x => fr v x != (own v x).isNone) k))), some (.int (nI k))] [.int (bI b), .int (bI (fr v k))] (mv h A F v) (fun r h' => r = some (.int (bI (spt v))) ∧ h' = mv h A F v) := by
          intro b hb
          refine at_ieq 43 dX8_isSpoilt_36 (by decide) (fun c3 => ?_) (fun c3 => ?_)
          · have c4 : fr v k = b := by
              revert c3
              cases fr v k <;> cases b <;> intro c3 <;> first | rfl | exact absurd c3 (by decide)
            refine at_k (nI 0) dX8_isSpoilt_43 rfl (by decide) ?_
            refine nx false ?_
            rw [anyB, c2, c4, hb]
            simp
          · have c4 : fr v k ≠ b := fun z => c3 (by rw [z])
            refine at_k (nI 1) dX8_isSpoilt_39 rfl (by decide) ?_
            refine at_goto 44 dX8_isSpoilt_40 (by decide) ?_
            refine nx true ?_
            rw [anyB, c2]
            subst hb
            simp [c4]
        refine at_ld (i := 0) dX8_isSpoilt_16 rfl rfl rfl ?_
        refine at_ld (i := 2) dX8_isSpoilt_17 rfl rfl rfl ?_
        refine at_rv [_] dX8_isSpoilt_18 mX8_isFree ⟨Nat.le_of_ble_eq_true rfl, Nat.le_of_ble_eq_true rfl⟩ lX8_141 iX8_isFree rfl rfl (mv_o hn _ _ _) (by omega) rfl (Nat.le_of_ble_eq_true rfl) (Nat.le_of_ble_eq_true rfl) ⟨rfl, rfl⟩ (c_isFree A F v hn k (by omega) (w.2.1 k (by omega))) ?_
        refine at_ld (i := 0) dX8_isSpoilt_21 rfl rfl rfl ?_
        refine at_ld (i := 2) dX8_isSpoilt_22 rfl rfl rfl ?_
        refine at_rv [_] dX8_isSpoilt_23 mX8_owner ⟨Nat.le_of_ble_eq_true rfl, Nat.le_of_ble_eq_true rfl⟩ lX8_197 iX8_owner rfl rfl (mv_o hn _ _ _) (by omega) rfl (Nat.le_of_ble_eq_true rfl) (Nat.le_of_ble_eq_true rfl) ⟨rfl, rfl⟩ (c_owner A F v hn w k (by omega)) ?_
        refine at_k (-4) dX8_isSpoilt_26 rfl (by decide) ?_
        cases q : own v k with
        | none =>
          refine at_ine 35 dX8_isSpoilt_28 (by decide) (fun c3 => ?_) (fun c3 => ?_)
          · exact absurd rfl c3
          · refine at_k (nI 1) dX8_isSpoilt_31 rfl (by decide) ?_
            refine at_goto 36 dX8_isSpoilt_32 (by decide) ?_
            exact dn true (by rw [q]; rfl)
        | some i =>
          have hi := own_lt q
          refine at_ine 35 dX8_isSpoilt_28 (by decide) (fun c3 => ?_) (fun c3 => ?_)
          · refine at_k (nI 0) dX8_isSpoilt_35 rfl (by decide) ?_
            exact dn false (by rw [q]; rfl)
          · exact absurd (Classical.not_not.mp c3) (oI_n (by omega))
set_option maxRecDepth 100000 in
theorem c_pairs (hn : 72 ≤ h.1) (w : wf v) (i : Nat) (hi : i < 24) : sg_Kr MX8_pairs [.ref 64, .int (nI i)] (mv h A F v) (.int (nI (prs v i))) := by
  have hs := wf_s w hi
  have hl := w.1.2.2.2.2.2
  show sg_A MX8_pairs 0 [some (.ref 64), some (.int (nI i)), none, none] [] _ _
  refine at_k (nI 0) dX8_pairs_0 rfl (by decide) ?_
  refine at_st (i := 2) dX8_pairs_1 rfl rfl (Nat.le_of_ble_eq_true rfl) rfl ?_
  try dsimp only [List.set_cons_succ, List.set_cons_zero]
  refine at_k (nI 1) dX8_pairs_2 rfl (by decide) ?_
  refine at_st (i := 3) dX8_pairs_3 rfl rfl (Nat.le_of_ble_eq_true rfl) rfl ?_
  try dsimp only [List.set_cons_succ, List.set_cons_zero]
  by_cases h0 : io v i 3 / 4 = 0
  · refine at_ld (i := 3) dX8_pairs_4 rfl rfl rfl ?_
    refine at_ld (i := 0) dX8_pairs_5 rfl rfl rfl ?_
    refine at_ld (i := 1) dX8_pairs_6 rfl rfl rfl ?_
    refine at_rv [_] dX8_pairs_7 mX8_blocks ⟨Nat.le_of_ble_eq_true rfl, Nat.le_of_ble_eq_true rfl⟩ lX8_194 iX8_blocks rfl rfl (mv_o hn _ _ _) (by omega) rfl (Nat.le_of_ble_eq_true rfl) (Nat.le_of_ble_eq_true rfl) ⟨rfl, rfl⟩ (c_blocks A F v hn i hi (by omega)) ?_
    refine at_ige 41 dX8_pairs_10 (by decide) (fun c => ?_) (fun c => ?_)
    · refine at_ld (i := 2) dX8_pairs_41 rfl rfl rfl ?_
      refine at_ret dX8_pairs_42 rfl rfl ?_
      rw [prs, h0]
      exact ⟨rfl, rfl⟩
    · exact absurd (nI_le (by omega) (by omega)) c
  · have e0 : nI 0 = nI (cnt (fun k => decide (1 ≤ k ∧ k % v 5 ≠ 0)) 1) := by
      rw [cnt, cnt, decide_eq_false (fun z => by omega)]; rfl
    rw [e0]
    refine lpF (fun k => sg_A MX8_pairs 4 [some (.ref 64), some (.int (nI i)), some (.int (nI (cnt (fun k => decide (1 ≤ k ∧ k % v 5 ≠ 0)) k))), some (.int (nI k))] [] (mv h A F v) (fun r h' => r = some (.int (nI (prs v i))) ∧ h' = mv h A F v)) 1 (io v i 3 / 4) (by omega) ?_ ?_
    · refine at_ld (i := 3) dX8_pairs_4 rfl rfl rfl ?_
      refine at_ld (i := 0) dX8_pairs_5 rfl rfl rfl ?_
      refine at_ld (i := 1) dX8_pairs_6 rfl rfl rfl ?_
      refine at_rv [_] dX8_pairs_7 mX8_blocks ⟨Nat.le_of_ble_eq_true rfl, Nat.le_of_ble_eq_true rfl⟩ lX8_194 iX8_blocks rfl rfl (mv_o hn _ _ _) (by omega) rfl (Nat.le_of_ble_eq_true rfl) (Nat.le_of_ble_eq_true rfl) ⟨rfl, rfl⟩ (c_blocks A F v hn i hi (by omega)) ?_
      refine at_ige 41 dX8_pairs_10 (by decide) (fun c => ?_) (fun c => ?_)
      · refine at_ld (i := 2) dX8_pairs_41 rfl rfl rfl ?_
        refine at_ret dX8_pairs_42 rfl rfl ?_
        exact ⟨rfl, rfl⟩
      · exact absurd (nI_le (Nat.le_refl _) (by omega)) c
    · intro k hk1 hk ih
      have nx : ∀ b : Bool, b = decide (1 ≤ k ∧ k % v 5 ≠ 0) → sg_A MX8_pairs 30 [some (.ref 64), some (.int (nI i)), some (.int (nI (cnt (fun k => decide (1 ≤ k ∧ k % v 5 ≠ 0)) k))), some (.int (nI k))] [.int (bI b), .int (nI (cnt (fun k => decide (1 ≤ k ∧ k % v 5 ≠ 0)) k))] (mv h A F v) (fun r h' => r = some (.int (nI (prs v i))) ∧ h' = mv h A F v) := by
        intro b hb
        subst hb
        refine at_rs [_] dX8_pairs_30 mX8_flag ⟨Nat.le_of_ble_eq_true rfl, Nat.le_of_ble_eq_true rfl⟩ lX8_133 tX8_flag rfl (Nat.le_of_ble_eq_true rfl) (Nat.le_of_ble_eq_true rfl) ⟨rfl, rfl⟩ (c_flag _ _) ?_
        refine at_bin dX8_pairs_33 rfl ?_
        try dsimp only
        rw [cnt_s (fun k => decide (1 ≤ k ∧ k % v 5 ≠ 0))]
        refine at_st (i := 2) dX8_pairs_34 rfl rfl (Nat.le_of_ble_eq_true rfl) rfl ?_
        try dsimp only [List.set_cons_succ, List.set_cons_zero]
        refine at_iinc (nI 1) dX8_pairs_35 rfl rfl (by decide) ?_
        try dsimp only [List.set_cons_succ, List.set_cons_zero]
        refine at_goto 4 dX8_pairs_38 (by decide) ?_
        rw [nI_add]
        exact ih
      refine at_ld (i := 3) dX8_pairs_4 rfl rfl rfl ?_
      refine at_ld (i := 0) dX8_pairs_5 rfl rfl rfl ?_
      refine at_ld (i := 1) dX8_pairs_6 rfl rfl rfl ?_
      refine at_rv [_] dX8_pairs_7 mX8_blocks ⟨Nat.le_of_ble_eq_true rfl, Nat.le_of_ble_eq_true rfl⟩ lX8_194 iX8_blocks rfl rfl (mv_o hn _ _ _) (by omega) rfl (Nat.le_of_ble_eq_true rfl) (Nat.le_of_ble_eq_true rfl) ⟨rfl, rfl⟩ (c_blocks A F v hn i hi (by omega)) ?_
      refine at_ige 41 dX8_pairs_10 (by decide) (fun c => ?_) (fun c => ?_)
      · exact absurd c (nI_ge hk (by omega))
      · refine at_ld (i := 2) dX8_pairs_13 rfl rfl rfl ?_
        refine at_ld (i := 3) dX8_pairs_14 rfl rfl rfl ?_
        refine at_ld (i := 0) dX8_pairs_15 rfl rfl rfl ?_
        refine at_get dX8_pairs_16 fX8_7 (mv_o hn _ _ _) (by omega) rfl ?_
        refine at_k (nI 5) dX8_pairs_19 rfl (by decide) ?_
        refine at_ald 5 dX8_pairs_20 (mv_a hn _ _ _) rfl (by decide) (by decide) ?_
        refine at_rem dX8_pairs_21 (nI_ne0 (by omega) (by omega)) ?_
        rw [nI_rem (by omega) (by omega)]
        have hml := Nat.mod_lt k (show 0 < v 5 by omega)
        refine at_zeq 29 dX8_pairs_22 (by decide) (fun c1 => ?_) (fun c1 => ?_)
        · have c2 := (nI_eq32 (b := 0) (by omega) (by decide)).mp c1
          refine at_k (nI 0) dX8_pairs_29 rfl (by decide) ?_
          exact nx false (decide_eq_false (fun z => z.2 c2)).symm
        · have c2 : k % v 5 ≠ 0 := fun z => c1 (by rw [z]; rfl)
          refine at_k (nI 1) dX8_pairs_25 rfl (by decide) ?_
          refine at_goto 30 dX8_pairs_26 (by decide) ?_
          exact nx true (decide_eq_true ⟨hk1, c2⟩).symm
theorem prs_le (i : Nat) : prs v i ≤ io v i 3 / 4 := cnt_le _ _
theorem flw_le (i : Nat) : flw v i ≤ io v i 3 / 4 := cnt_le _ _
set_option maxRecDepth 100000 in
theorem c_follows (hn : 72 ≤ h.1) (w : wf v) (i : Nat) (hi : i < 24) : sg_Kr MX8_follows [.ref 64, .int (nI i)] (mv h A F v) (.int (nI (flw v i))) := by
  have hs := wf_s w hi
  have hl := w.1.2.2.2.2.2
  have hb8 := w.1.2.1
  have hs3 := w.1.2.2.2.1
  obtain ⟨-, -, -, wb⟩ := w.2.2 i hi
  show sg_A MX8_follows 0 [some (.ref 64), some (.int (nI i)), none, none, none, none] [] _ _
  refine at_k (nI 0) dX8_follows_0 rfl (by decide) ?_
  refine at_st (i := 2) dX8_follows_1 rfl rfl (Nat.le_of_ble_eq_true rfl) rfl ?_
  try dsimp only [List.set_cons_succ, List.set_cons_zero]
  refine at_k (nI 1) dX8_follows_2 rfl (by decide) ?_
  refine at_st (i := 3) dX8_follows_3 rfl rfl (Nat.le_of_ble_eq_true rfl) rfl ?_
  try dsimp only [List.set_cons_succ, List.set_cons_zero]
  by_cases h0 : io v i 3 / 4 = 0
  · refine at_ld (i := 3) dX8_follows_4 rfl rfl rfl ?_
    refine at_ld (i := 0) dX8_follows_5 rfl rfl rfl ?_
    refine at_ld (i := 1) dX8_follows_6 rfl rfl rfl ?_
    refine at_rv [_] dX8_follows_7 mX8_blocks ⟨Nat.le_of_ble_eq_true rfl, Nat.le_of_ble_eq_true rfl⟩ lX8_194 iX8_blocks rfl rfl (mv_o hn _ _ _) (by omega) rfl (Nat.le_of_ble_eq_true rfl) (Nat.le_of_ble_eq_true rfl) ⟨rfl, rfl⟩ (c_blocks A F v hn i hi (by omega)) ?_
    refine at_ige 121 dX8_follows_10 (by decide) (fun c => ?_) (fun c => ?_)
    · refine at_ld (i := 2) dX8_follows_121 rfl rfl rfl ?_
      refine at_ret dX8_follows_122 rfl rfl ?_
      rw [flw, h0]
      exact ⟨rfl, rfl⟩
    · exact absurd (nI_le (by omega) (by omega)) c
  · obtain ⟨p, hp⟩ : ∃ p : Nat → Bool, p = (fun k => decide (1 ≤ k ∧ k % v 5 ≠ 0 ∧ io v i (5 + k - 1) / v 1 = io v i (5 + k) / v 1 ∧ io v i (5 + k) % v 1 = (io v i (5 + k - 1) % v 1 + 1 + v 3) % v 1)) := ⟨_, rfl⟩
    have ef : flw v i = cnt p (io v i 3 / 4) := by rw [flw, hp]
    have hp0 : p 0 = false := by rw [hp]; exact decide_eq_false (fun z => by omega)
    have e0 : nI 0 = nI (cnt p 1) := by
      simp only [cnt, hp0]; rfl
    rw [ef, e0]
    have outer : ∀ x4 x5 : Option Value, sg_A MX8_follows 4 [some (.ref 64), some (.int (nI i)), some (.int (nI (cnt p 1))), some (.int (nI 1)), x4, x5] [] (mv h A F v) (fun r h' => r = some (.int (nI (cnt p (io v i 3 / 4)))) ∧ h' = mv h A F v) := by
      refine lpF (fun k => ∀ x4 x5 : Option Value, sg_A MX8_follows 4 [some (.ref 64), some (.int (nI i)), some (.int (nI (cnt p k))), some (.int (nI k)), x4, x5] [] (mv h A F v) (fun r h' => r = some (.int (nI (cnt p (io v i 3 / 4)))) ∧ h' = mv h A F v)) 1 (io v i 3 / 4) (by omega) ?_ ?_
      · intro x4 x5
        refine at_ld (i := 3) dX8_follows_4 rfl rfl rfl ?_
        refine at_ld (i := 0) dX8_follows_5 rfl rfl rfl ?_
        refine at_ld (i := 1) dX8_follows_6 rfl rfl rfl ?_
        refine at_rv [_] dX8_follows_7 mX8_blocks ⟨Nat.le_of_ble_eq_true rfl, Nat.le_of_ble_eq_true rfl⟩ lX8_194 iX8_blocks rfl rfl (mv_o hn _ _ _) (by omega) rfl (Nat.le_of_ble_eq_true rfl) (Nat.le_of_ble_eq_true rfl) ⟨rfl, rfl⟩ (c_blocks A F v hn i hi (by omega)) ?_
        refine at_ige 121 dX8_follows_10 (by decide) (fun c => ?_) (fun c => ?_)
        · refine at_ld (i := 2) dX8_follows_121 rfl rfl rfl ?_
          refine at_ret dX8_follows_122 rfl rfl ?_
          exact ⟨rfl, rfl⟩
        · exact absurd (nI_le (Nat.le_refl _) (by omega)) c
      · intro k hk1 hk ih x4 x5
        have hpk : p k = decide (1 ≤ k ∧ k % v 5 ≠ 0 ∧ io v i (5 + k - 1) / v 1 = io v i (5 + k) / v 1 ∧ io v i (5 + k) % v 1 = (io v i (5 + k - 1) % v 1 + 1 + v 3) % v 1) := by rw [hp]
        have ha : io v i (5 + k - 1) < 32 := by
          rw [show 5 + k - 1 = 5 + (k - 1) by omega]; exact wb (k - 1) (by omega)
        have hb := wb k (by omega)
        generalize hae : io v i (5 + k - 1) = a at ha hpk
        generalize hbe : io v i (5 + k) = b at hb hpk
        have nx : ∀ y4 y5, ∀ q : Bool, q = p k → sg_A MX8_follows 110 [some (.ref 64), some (.int (nI i)), some (.int (nI (cnt p k))), some (.int (nI k)), y4, y5] [.int (bI q), .int (nI (cnt p k))] (mv h A F v) (fun r h' => r = some (.int (nI (cnt p (io v i 3 / 4)))) ∧ h' = mv h A F v) := by
          intro y4 y5 q hq
          subst hq
          refine at_rs [_] dX8_follows_110 mX8_flag ⟨Nat.le_of_ble_eq_true rfl, Nat.le_of_ble_eq_true rfl⟩ lX8_133 tX8_flag rfl (Nat.le_of_ble_eq_true rfl) (Nat.le_of_ble_eq_true rfl) ⟨rfl, rfl⟩ (c_flag _ _) ?_
          refine at_bin dX8_follows_113 rfl ?_
          try dsimp only
          rw [cnt_s p]
          refine at_st (i := 2) dX8_follows_114 rfl rfl (Nat.le_of_ble_eq_true rfl) rfl ?_
          try dsimp only [List.set_cons_succ, List.set_cons_zero]
          refine at_iinc (nI 1) dX8_follows_115 rfl rfl (by decide) ?_
          try dsimp only [List.set_cons_succ, List.set_cons_zero]
          refine at_goto 4 dX8_follows_118 (by decide) ?_
          rw [nI_add]
          exact ih _ _
        refine at_ld (i := 3) dX8_follows_4 rfl rfl rfl ?_
        refine at_ld (i := 0) dX8_follows_5 rfl rfl rfl ?_
        refine at_ld (i := 1) dX8_follows_6 rfl rfl rfl ?_
        refine at_rv [_] dX8_follows_7 mX8_blocks ⟨Nat.le_of_ble_eq_true rfl, Nat.le_of_ble_eq_true rfl⟩ lX8_194 iX8_blocks rfl rfl (mv_o hn _ _ _) (by omega) rfl (Nat.le_of_ble_eq_true rfl) (Nat.le_of_ble_eq_true rfl) ⟨rfl, rfl⟩ (c_blocks A F v hn i hi (by omega)) ?_
        refine at_ige 121 dX8_follows_10 (by decide) (fun c => ?_) (fun c => ?_)
        · exact absurd c (nI_ge hk (by omega))
        · refine at_ld (i := 0) dX8_follows_13 rfl rfl rfl ?_
          refine at_ld (i := 1) dX8_follows_14 rfl rfl rfl ?_
          refine at_k (nI 5) dX8_follows_15 rfl (by decide) ?_
          refine at_ld (i := 3) dX8_follows_16 rfl rfl rfl ?_
          refine at_bin dX8_follows_17 rfl ?_
          try dsimp only
          rw [nI_add]
          refine at_k (nI 1) dX8_follows_18 rfl (by decide) ?_
          refine at_bin dX8_follows_19 rfl ?_
          try dsimp only
          rw [nI_sub (by omega)]
          refine at_rv [_, _] dX8_follows_20 mX8_of ⟨Nat.le_of_ble_eq_true rfl, Nat.le_of_ble_eq_true rfl⟩ lX8_173 iX8_of rfl rfl (mv_o hn _ _ _) (by omega) rfl (Nat.le_of_ble_eq_true rfl) (Nat.le_of_ble_eq_true rfl) ⟨rfl, rfl⟩ (c_of A F v hn i (5 + k - 1) (by omega)) ?_
          rw [hae]
          refine at_st (i := 4) dX8_follows_23 rfl rfl (Nat.le_of_ble_eq_true rfl) rfl ?_
          try dsimp only [List.set_cons_succ, List.set_cons_zero]
          refine at_ld (i := 0) dX8_follows_25 rfl rfl rfl ?_
          refine at_ld (i := 1) dX8_follows_26 rfl rfl rfl ?_
          refine at_k (nI 5) dX8_follows_27 rfl (by decide) ?_
          refine at_ld (i := 3) dX8_follows_28 rfl rfl rfl ?_
          refine at_bin dX8_follows_29 rfl ?_
          try dsimp only
          rw [nI_add]
          refine at_rv [_, _] dX8_follows_30 mX8_of ⟨Nat.le_of_ble_eq_true rfl, Nat.le_of_ble_eq_true rfl⟩ lX8_173 iX8_of rfl rfl (mv_o hn _ _ _) (by omega) rfl (Nat.le_of_ble_eq_true rfl) (Nat.le_of_ble_eq_true rfl) ⟨rfl, rfl⟩ (c_of A F v hn i (5 + k) (by omega)) ?_
          rw [hbe]
          refine at_st (i := 5) dX8_follows_33 rfl rfl (Nat.le_of_ble_eq_true rfl) rfl ?_
          try dsimp only [List.set_cons_succ, List.set_cons_zero]
          refine at_ld (i := 2) dX8_follows_35 rfl rfl rfl ?_
          refine at_ld (i := 3) dX8_follows_36 rfl rfl rfl ?_
          refine at_ld (i := 0) dX8_follows_37 rfl rfl rfl ?_
          refine at_get dX8_follows_38 fX8_7 (mv_o hn _ _ _) (by omega) rfl ?_
          refine at_k (nI 5) dX8_follows_41 rfl (by decide) ?_
          refine at_ald 5 dX8_follows_42 (mv_a hn _ _ _) rfl (by decide) (by decide) ?_
          refine at_rem dX8_follows_43 (nI_ne0 (by omega) (by omega)) ?_
          rw [nI_rem (by omega) (by omega)]
          have hml := Nat.mod_lt k (show 0 < v 5 by omega)
          refine at_zeq 109 dX8_follows_44 (by decide) (fun c1 => ?_) (fun c1 => ?_)
          · have c2 := (nI_eq32 (b := 0) (by omega) (by decide)).mp c1
            refine at_k (nI 0) dX8_follows_109 rfl (by decide) ?_
            exact nx _ _ false (by rw [hpk]; exact (decide_eq_false (fun z => z.2.1 c2)).symm)
          · have c2 : k % v 5 ≠ 0 := fun z => c1 (by rw [z]; rfl)
            refine at_ld (i := 4) dX8_follows_47 rfl rfl rfl ?_
            refine at_ld (i := 0) dX8_follows_49 rfl rfl rfl ?_
            refine at_get dX8_follows_50 fX8_7 (mv_o hn _ _ _) (by omega) rfl ?_
            refine at_k (nI 1) dX8_follows_53 rfl (by decide) ?_
            refine at_ald 1 dX8_follows_54 (mv_a hn _ _ _) rfl (by decide) (by decide) ?_
            refine at_div dX8_follows_55 (nI_ne0 (by omega) (by omega)) ?_
            rw [nI_div (by omega) (by omega)]
            refine at_ld (i := 5) dX8_follows_56 rfl rfl rfl ?_
            refine at_ld (i := 0) dX8_follows_58 rfl rfl rfl ?_
            refine at_get dX8_follows_59 fX8_7 (mv_o hn _ _ _) (by omega) rfl ?_
            refine at_k (nI 1) dX8_follows_62 rfl (by decide) ?_
            refine at_ald 1 dX8_follows_63 (mv_a hn _ _ _) rfl (by decide) (by decide) ?_
            refine at_div dX8_follows_64 (nI_ne0 (by omega) (by omega)) ?_
            rw [nI_div (by omega) (by omega)]
            have hda := Nat.div_le_self a (v 1)
            have hdb := Nat.div_le_self b (v 1)
            refine at_ine 109 dX8_follows_65 (by decide) (fun c3 => ?_) (fun c3 => ?_)
            · have c4 : ¬ a / v 1 = b / v 1 := fun z => c3 (by rw [z])
              refine at_k (nI 0) dX8_follows_109 rfl (by decide) ?_
              exact nx _ _ false (by rw [hpk]; exact (decide_eq_false (fun z => c4 z.2.2.1)).symm)
            · have c4 := (nI_eq32 (by omega) (by omega)).mp (Classical.not_not.mp c3)
              refine at_ld (i := 5) dX8_follows_68 rfl rfl rfl ?_
              refine at_ld (i := 0) dX8_follows_70 rfl rfl rfl ?_
              refine at_get dX8_follows_71 fX8_7 (mv_o hn _ _ _) (by omega) rfl ?_
              refine at_k (nI 1) dX8_follows_74 rfl (by decide) ?_
              refine at_ald 1 dX8_follows_75 (mv_a hn _ _ _) rfl (by decide) (by decide) ?_
              refine at_rem dX8_follows_76 (nI_ne0 (by omega) (by omega)) ?_
              rw [nI_rem (by omega) (by omega)]
              refine at_ld (i := 4) dX8_follows_77 rfl rfl rfl ?_
              refine at_ld (i := 0) dX8_follows_79 rfl rfl rfl ?_
              refine at_get dX8_follows_80 fX8_7 (mv_o hn _ _ _) (by omega) rfl ?_
              refine at_k (nI 1) dX8_follows_83 rfl (by decide) ?_
              refine at_ald 1 dX8_follows_84 (mv_a hn _ _ _) rfl (by decide) (by decide) ?_
              refine at_rem dX8_follows_85 (nI_ne0 (by omega) (by omega)) ?_
              rw [nI_rem (by omega) (by omega)]
              refine at_k (nI 1) dX8_follows_86 rfl (by decide) ?_
              refine at_bin dX8_follows_87 rfl ?_
              try dsimp only
              rw [nI_add]
              refine at_ld (i := 0) dX8_follows_88 rfl rfl rfl ?_
              refine at_get dX8_follows_89 fX8_7 (mv_o hn _ _ _) (by omega) rfl ?_
              refine at_k (nI 3) dX8_follows_92 rfl (by decide) ?_
              refine at_ald 3 dX8_follows_93 (mv_a hn _ _ _) rfl (by decide) (by decide) ?_
              refine at_bin dX8_follows_94 rfl ?_
              try dsimp only
              rw [nI_add]
              have hma := Nat.mod_lt a (show 0 < v 1 by omega)
              have hmb := Nat.mod_lt b (show 0 < v 1 by omega)
              have hmc := Nat.mod_lt (a % v 1 + 1 + v 3) (show 0 < v 1 by omega)
              refine at_ld (i := 0) dX8_follows_95 rfl rfl rfl ?_
              refine at_get dX8_follows_96 fX8_7 (mv_o hn _ _ _) (by omega) rfl ?_
              refine at_k (nI 1) dX8_follows_99 rfl (by decide) ?_
              refine at_ald 1 dX8_follows_100 (mv_a hn _ _ _) rfl (by decide) (by decide) ?_
              refine at_rem dX8_follows_101 (nI_ne0 (by omega) (by omega)) ?_
              rw [nI_rem (by omega) (by omega)]
              refine at_ine 109 dX8_follows_102 (by decide) (fun c5 => ?_) (fun c5 => ?_)
              · have c6 : ¬ b % v 1 = (a % v 1 + 1 + v 3) % v 1 := fun z => c5 (by rw [z])
                refine at_k (nI 0) dX8_follows_109 rfl (by decide) ?_
                exact nx _ _ false (by rw [hpk]; exact (decide_eq_false (fun z => c6 z.2.2.2)).symm)
              · have c6 := (nI_eq32 (by omega) (by omega)).mp (Classical.not_not.mp c5)
                refine at_k (nI 1) dX8_follows_105 rfl (by decide) ?_
                refine at_goto 110 dX8_follows_106 (by decide) ?_
                exact nx _ _ true (by rw [hpk]; exact (decide_eq_true ⟨hk1, c2, c4, c6⟩).symm)
    exact outer _ _
set_option maxRecDepth 100000 in
theorem c_ofKind (hn : 72 ≤ h.1) (w : wf v) (kind : Nat) (hkd : kind < 100) : sg_Kr MX8_ofKind [.ref 64, .int (nI kind)] (mv h A F v) (.int (nI (ofk v kind))) := by
  have hgi := wf_gi w.1
  show sg_A MX8_ofKind 0 [some (.ref 64), some (.int (nI kind)), none, none] [] _ _
  refine at_k (nI 0) dX8_ofKind_0 rfl (by decide) ?_
  refine at_st (i := 2) dX8_ofKind_1 rfl rfl (Nat.le_of_ble_eq_true rfl) rfl ?_
  try dsimp only [List.set_cons_succ, List.set_cons_zero]
  refine at_k (nI 0) dX8_ofKind_2 rfl (by decide) ?_
  refine at_st (i := 3) dX8_ofKind_3 rfl rfl (Nat.le_of_ble_eq_true rfl) rfl ?_
  try dsimp only [List.set_cons_succ, List.set_cons_zero]
  refine lpN (fun k => sg_A MX8_ofKind 4 [some (.ref 64), some (.int (nI kind)), some (.int (nI (cnt (fun i => decide (io v i 0 = kind)) k))), some (.int (nI k))] [] (mv h A F v) _) (v 0 * v 2) ?_ ?_
  · refine at_ld (i := 3) dX8_ofKind_4 rfl rfl rfl ?_
    refine at_ld (i := 0) dX8_ofKind_5 rfl rfl rfl ?_
    refine at_rv [] dX8_ofKind_6 mX8_inodes ⟨Nat.le_of_ble_eq_true rfl, Nat.le_of_ble_eq_true rfl⟩ lX8_167 iX8_inodes rfl rfl (mv_o hn _ _ _) (by omega) rfl (Nat.le_of_ble_eq_true rfl) (Nat.le_of_ble_eq_true rfl) ⟨rfl, rfl⟩ (c_inodes A F v hn) ?_
    refine at_ige 39 dX8_ofKind_9 (by decide) (fun c => ?_) (fun c => ?_)
    · refine at_ld (i := 2) dX8_ofKind_39 rfl rfl rfl ?_
      refine at_ret dX8_ofKind_40 rfl rfl ?_
      exact ⟨rfl, rfl⟩
    · exact absurd (nI_le (Nat.le_refl _) (by omega)) c
  · intro k hk ih
    have wk := wf_k w k (by omega)
    have nx : ∀ b : Bool, b = decide (io v k 0 = kind) → sg_A MX8_ofKind 28 [some (.ref 64), some (.int (nI kind)), some (.int (nI (cnt (fun i => decide (io v i 0 = kind)) k))), some (.int (nI k))] [.int (bI b), .int (nI (cnt (fun i => decide (io v i 0 = kind)) k))] (mv h A F v) (fun r h' => r = some (.int (nI (ofk v kind))) ∧ h' = mv h A F v) := by
      intro b hb
      subst hb
      refine at_rs [_] dX8_ofKind_28 mX8_flag ⟨Nat.le_of_ble_eq_true rfl, Nat.le_of_ble_eq_true rfl⟩ lX8_133 tX8_flag rfl (Nat.le_of_ble_eq_true rfl) (Nat.le_of_ble_eq_true rfl) ⟨rfl, rfl⟩ (c_flag _ _) ?_
      refine at_bin dX8_ofKind_31 rfl ?_
      try dsimp only
      rw [cnt_s (fun i => decide (io v i 0 = kind))]
      refine at_st (i := 2) dX8_ofKind_32 rfl rfl (Nat.le_of_ble_eq_true rfl) rfl ?_
      try dsimp only [List.set_cons_succ, List.set_cons_zero]
      refine at_iinc (nI 1) dX8_ofKind_33 rfl rfl (by decide) ?_
      try dsimp only [List.set_cons_succ, List.set_cons_zero]
      refine at_goto 4 dX8_ofKind_36 (by decide) ?_
      rw [nI_add]
      exact ih
    refine at_ld (i := 3) dX8_ofKind_4 rfl rfl rfl ?_
    refine at_ld (i := 0) dX8_ofKind_5 rfl rfl rfl ?_
    refine at_rv [] dX8_ofKind_6 mX8_inodes ⟨Nat.le_of_ble_eq_true rfl, Nat.le_of_ble_eq_true rfl⟩ lX8_167 iX8_inodes rfl rfl (mv_o hn _ _ _) (by omega) rfl (Nat.le_of_ble_eq_true rfl) (Nat.le_of_ble_eq_true rfl) ⟨rfl, rfl⟩ (c_inodes A F v hn) ?_
    refine at_ige 39 dX8_ofKind_9 (by decide) (fun c => ?_) (fun c => ?_)
    · exact absurd c (nI_ge hk (by omega))
    · refine at_ld (i := 2) dX8_ofKind_12 rfl rfl rfl ?_
      refine at_ld (i := 0) dX8_ofKind_13 rfl rfl rfl ?_
      refine at_ld (i := 3) dX8_ofKind_14 rfl rfl rfl ?_
      refine at_k (nI 0) dX8_ofKind_15 rfl (by decide) ?_
      refine at_rv [_, _] dX8_ofKind_16 mX8_of ⟨Nat.le_of_ble_eq_true rfl, Nat.le_of_ble_eq_true rfl⟩ lX8_173 iX8_of rfl rfl (mv_o hn _ _ _) (by omega) rfl (Nat.le_of_ble_eq_true rfl) (Nat.le_of_ble_eq_true rfl) ⟨rfl, rfl⟩ (c_of A F v hn k 0 (by omega)) ?_
      refine at_ld (i := 1) dX8_ofKind_19 rfl rfl rfl ?_
      refine at_ine 27 dX8_ofKind_20 (by decide) (fun c1 => ?_) (fun c1 => ?_)
      · refine at_k (nI 0) dX8_ofKind_27 rfl (by decide) ?_
        exact nx false (decide_eq_false (fun q => c1 (by rw [q]))).symm
      · have e1 := (nI_eq32 (by omega) (by omega)).mp (Classical.not_not.mp c1)
        refine at_k (nI 1) dX8_ofKind_23 rfl (by decide) ?_
        refine at_goto 28 dX8_ofKind_24 (by decide) ?_
        exact nx true (decide_eq_true e1).symm
set_option maxRecDepth 100000 in
theorem c_summed (hn : 72 ≤ h.1) (w : wf v) (what : Nat) (hw : what < 100) : sg_Kr MX8_summed [.ref 64, .int (nI what)] (mv h A F v) (.int (nI (smd v what))) := by
  have hgi := wf_gi w.1
  show sg_A MX8_summed 0 [some (.ref 64), some (.int (nI what)), none, none] [] _ _
  refine at_k (nI 0) dX8_summed_0 rfl (by decide) ?_
  refine at_st (i := 2) dX8_summed_1 rfl rfl (Nat.le_of_ble_eq_true rfl) rfl ?_
  try dsimp only [List.set_cons_succ, List.set_cons_zero]
  refine at_k (nI 0) dX8_summed_2 rfl (by decide) ?_
  refine at_st (i := 3) dX8_summed_3 rfl rfl (Nat.le_of_ble_eq_true rfl) rfl ?_
  try dsimp only [List.set_cons_succ, List.set_cons_zero]
  refine lpN (fun k => sg_A MX8_summed 4 [some (.ref 64), some (.int (nI what)), some (.int (nI (smN (sme v what) k))), some (.int (nI k))] [] (mv h A F v) _) (v 0 * v 2) ?_ ?_
  · refine at_ld (i := 3) dX8_summed_4 rfl rfl rfl ?_
    refine at_ld (i := 0) dX8_summed_5 rfl rfl rfl ?_
    refine at_rv [] dX8_summed_6 mX8_inodes ⟨Nat.le_of_ble_eq_true rfl, Nat.le_of_ble_eq_true rfl⟩ lX8_167 iX8_inodes rfl rfl (mv_o hn _ _ _) (by omega) rfl (Nat.le_of_ble_eq_true rfl) (Nat.le_of_ble_eq_true rfl) ⟨rfl, rfl⟩ (c_inodes A F v hn) ?_
    refine at_ige 67 dX8_summed_9 (by decide) (fun c => ?_) (fun c => ?_)
    · refine at_ld (i := 2) dX8_summed_67 rfl rfl rfl ?_
      refine at_ret dX8_summed_68 rfl rfl ?_
      exact ⟨rfl, rfl⟩
    · exact absurd (nI_le (Nat.le_refl _) (by omega)) c
  · intro k hk ih
    have hs := wf_s w (i := k) (by omega)
    have nx : ∀ b, b = sme v what k → sg_A MX8_summed 59 [some (.ref 64), some (.int (nI what)), some (.int (nI (smN (sme v what) k))), some (.int (nI k))] [.int (nI b), .int (nI (smN (sme v what) k))] (mv h A F v) (fun r h' => r = some (.int (nI (smd v what))) ∧ h' = mv h A F v) := by
      intro b hb
      subst hb
      refine at_bin dX8_summed_59 rfl ?_
      try dsimp only
      rw [nI_add]
      refine at_st (i := 2) dX8_summed_60 rfl rfl (Nat.le_of_ble_eq_true rfl) rfl ?_
      try dsimp only [List.set_cons_succ, List.set_cons_zero]
      refine at_iinc (nI 1) dX8_summed_61 rfl rfl (by decide) ?_
      try dsimp only [List.set_cons_succ, List.set_cons_zero]
      refine at_goto 4 dX8_summed_64 (by decide) ?_
      rw [nI_add]
      exact ih
    refine at_ld (i := 3) dX8_summed_4 rfl rfl rfl ?_
    refine at_ld (i := 0) dX8_summed_5 rfl rfl rfl ?_
    refine at_rv [] dX8_summed_6 mX8_inodes ⟨Nat.le_of_ble_eq_true rfl, Nat.le_of_ble_eq_true rfl⟩ lX8_167 iX8_inodes rfl rfl (mv_o hn _ _ _) (by omega) rfl (Nat.le_of_ble_eq_true rfl) (Nat.le_of_ble_eq_true rfl) ⟨rfl, rfl⟩ (c_inodes A F v hn) ?_
    refine at_ige 67 dX8_summed_9 (by decide) (fun c => ?_) (fun c => ?_)
    · exact absurd c (nI_ge hk (by omega))
    · refine at_ld (i := 2) dX8_summed_12 rfl rfl rfl ?_
      refine at_ld (i := 0) dX8_summed_13 rfl rfl rfl ?_
      refine at_ld (i := 3) dX8_summed_14 rfl rfl rfl ?_
      refine at_rv [_] dX8_summed_15 mX8_isThere ⟨Nat.le_of_ble_eq_true rfl, Nat.le_of_ble_eq_true rfl⟩ lX8_176 iX8_isThere rfl rfl (mv_o hn _ _ _) (by omega) rfl (Nat.le_of_ble_eq_true rfl) (Nat.le_of_ble_eq_true rfl) ⟨rfl, rfl⟩ (c_isThere A F v hn w.1 (wf_k w) (nI k)) ?_
      rw [there_nI w.1 hk]
      refine at_zne 25 dX8_summed_18 (by decide) (fun c1 => ?_) (fun c1 => ?_)
      · have c2 := of_decide_eq_true (bI_1 c1)
        refine at_ld (i := 1) dX8_summed_25 rfl rfl rfl ?_
        refine at_k (nI 10) dX8_summed_26 rfl (by decide) ?_
        refine at_ine 40 dX8_summed_28 (by decide) (fun c3 => ?_) (fun c3 => ?_)
        · have c4 : ¬ what = 10 := fun z => c3 (by rw [z])
          refine at_ld (i := 1) dX8_summed_40 rfl rfl rfl ?_
          refine at_k (nI 11) dX8_summed_41 rfl (by decide) ?_
          refine at_ine 54 dX8_summed_43 (by decide) (fun c5 => ?_) (fun c5 => ?_)
          · have c6 : ¬ what = 11 := fun z => c5 (by rw [z])
            refine at_ld (i := 0) dX8_summed_54 rfl rfl rfl ?_
            refine at_ld (i := 3) dX8_summed_55 rfl rfl rfl ?_
            refine at_rv [_] dX8_summed_56 mX8_follows ⟨Nat.le_of_ble_eq_true rfl, Nat.le_of_ble_eq_true rfl⟩ lX8_203 iX8_follows rfl rfl (mv_o hn _ _ _) (by omega) rfl (Nat.le_of_ble_eq_true rfl) (Nat.le_of_ble_eq_true rfl) ⟨rfl, rfl⟩ (c_follows A F v hn w k (by omega)) ?_
            exact nx _ (by rw [sme, if_neg c2, if_neg c4, if_neg c6])
          · have c6 := (nI_eq32 (by omega) (by decide)).mp (Classical.not_not.mp c5)
            refine at_ld (i := 0) dX8_summed_46 rfl rfl rfl ?_
            refine at_ld (i := 3) dX8_summed_47 rfl rfl rfl ?_
            refine at_rv [_] dX8_summed_48 mX8_pairs ⟨Nat.le_of_ble_eq_true rfl, Nat.le_of_ble_eq_true rfl⟩ lX8_200 iX8_pairs rfl rfl (mv_o hn _ _ _) (by omega) rfl (Nat.le_of_ble_eq_true rfl) (Nat.le_of_ble_eq_true rfl) ⟨rfl, rfl⟩ (c_pairs A F v hn w k (by omega)) ?_
            refine at_goto 59 dX8_summed_51 (by decide) ?_
            exact nx _ (by rw [sme, if_neg c2, if_neg c4, if_pos c6])
        · have c4 := (nI_eq32 (by omega) (by decide)).mp (Classical.not_not.mp c3)
          refine at_ld (i := 0) dX8_summed_31 rfl rfl rfl ?_
          refine at_ld (i := 3) dX8_summed_32 rfl rfl rfl ?_
          refine at_k (nI 3) dX8_summed_33 rfl (by decide) ?_
          refine at_rv [_, _] dX8_summed_34 mX8_of ⟨Nat.le_of_ble_eq_true rfl, Nat.le_of_ble_eq_true rfl⟩ lX8_173 iX8_of rfl rfl (mv_o hn _ _ _) (by omega) rfl (Nat.le_of_ble_eq_true rfl) (Nat.le_of_ble_eq_true rfl) ⟨rfl, rfl⟩ (c_of A F v hn k 3 (by omega)) ?_
          refine at_goto 59 dX8_summed_37 (by decide) ?_
          exact nx _ (by rw [sme, if_neg c2, if_pos c4])
      · have c2 := (bI_0 _).mp (Classical.not_not.mp c1)
        have c3 : io v k 0 = 0 := Classical.not_not.mp (of_decide_eq_false c2)
        refine at_k (nI 0) dX8_summed_21 rfl (by decide) ?_
        refine at_goto 59 dX8_summed_22 (by decide) ?_
        exact nx 0 (by rw [sme, if_pos c3])
end R6
