/-! CONSTRUCTORS: the reference's -/
theorem sg_Ah {M : sg_M} {pc : Nat} {ls : sg_L} {st : List Value} {h h2 : sg_H} {Q : Option Value → sg_H → Prop} (e : h = h2) (k : sg_A M pc ls st h2 Q) : sg_A M pc ls st h Q := e ▸ k
section I4
variable {z : Nat} {C : Nat → sg_E}
theorem zI : (fun _ : Nat => (0 : Int32)) = fun k => nI ((fun _ : Nat => (0 : Nat)) k) := by
  funext k
  exact nI_0.symm
theorem ov_8 : OV 64 z C [.inr (8, [.ref 65, .ref 66, .ref 67, .ref 68, .ref 69, .ref 70, .int 0, .int 0, .int 0, .int 0, .int 0, .int 0, .int 0, .ref 71, .int 0, .int 0]), .inl (false, 496, fun _ => 0), .inl (false, 496, fun _ => 0), .inl (false, 496, fun _ => 0), .inl (false, 992, fun _ => 0), .inl (true, 2, fun _ => 0), .inl (false, 200, fun _ => 0), .inl (false, 40, fun _ => 0)] = mv (72, z, C) (fun _ _ => 0) (fun _ => 0) (fun _ => 0) := by
  refine Prod.ext rfl (Prod.ext rfl ?_)
  funext j
  unfold mv
  rw [← zI]
  show ovr C 64 _ j = (if j = 64 then _ else if 65 ≤ j ∧ j < 72 then _ else C j)
  rcases Nat.lt_or_ge j 64 with q | q
  · unfold ovr
    rw [if_neg (by omega), if_neg (by omega), if_neg (by omega)]
  · rcases Nat.lt_or_ge j 72 with q2 | q2
    · rcases (show j = 64 ∨ j = 65 ∨ j = 66 ∨ j = 67 ∨ j = 68 ∨ j = 69 ∨ j = 70 ∨ j = 71 by omega) with rfl | rfl | rfl | rfl | rfl | rfl | rfl | rfl <;> rfl
    · unfold ovr
      rw [if_pos q, if_neg (by omega), if_neg (by omega), List.getElem?_eq_none (show 8 ≤ j - 64 by omega)]
set_option maxRecDepth 100000 in
set_option maxHeartbeats 4000000 in
theorem i_X8 : sg_Kw MX8_init [.ref 64] (OV 64 z C [.inr (8, dfX8)]) none (mv (72, z + 496 + 496 + 496 + 992 + 2 + 200 + 40, C) (fun _ _ => 0) (fun _ => 0) (an1 V00)) := by
  have hn : 72 ≤ ((72, z + 496 + 496 + 496 + 992 + 2 + 200 + 40, C) : sg_H).1 := Nat.le_refl _
  show sg_A MX8_init 0 [some (.ref 64)] [] _ _
  refine at_ld (i := 0) dX8_init_0 rfl rfl rfl ?_
  refine at_obj dX8_init_1 aX8_1 (Nat.le_of_ble_eq_true rfl) ⟨Nat.le_of_ble_eq_true rfl, Nat.le_of_ble_eq_true rfl⟩ ?_
  refine at_ld (i := 0) dX8_init_4 rfl rfl rfl ?_
  refine at_k (nI 496) dX8_init_5 rfl (by decide) ?_
  refine at_ovnewi 496 (65) dX8_init_8 (by decide) (by decide) (by decide) (by omega) rfl ?_
  try dsimp only [List.cons_append, List.nil_append, List.set_cons_zero, List.set_cons_succ]
  refine at_ovput (k := 0) dX8_init_10 fX8_7 ⟨_, _, rfl, Or.inr ⟨rfl, rfl, rfl⟩, tyX8_ok 0 (by decide), fun _ => ⟨rfl, rfl⟩⟩ (by omega) rfl trivial (Nat.le_of_ble_eq_true rfl) ?_
  try dsimp only [List.cons_append, List.nil_append, List.set_cons_zero, List.set_cons_succ]
  refine at_ld (i := 0) dX8_init_13 rfl rfl rfl ?_
  refine at_k (nI 496) dX8_init_14 rfl (by decide) ?_
  refine at_ovnewi 496 (66) dX8_init_17 (by decide) (by decide) (by decide) (by omega) rfl ?_
  try dsimp only [List.cons_append, List.nil_append, List.set_cons_zero, List.set_cons_succ]
  refine at_ovput (k := 0) dX8_init_19 fX8_13 ⟨_, _, rfl, Or.inr ⟨rfl, rfl, rfl⟩, tyX8_ok 1 (by decide), fun _ => ⟨rfl, rfl⟩⟩ (by omega) rfl trivial (Nat.le_of_ble_eq_true rfl) ?_
  try dsimp only [List.cons_append, List.nil_append, List.set_cons_zero, List.set_cons_succ]
  refine at_ld (i := 0) dX8_init_22 rfl rfl rfl ?_
  refine at_k (nI 496) dX8_init_23 rfl (by decide) ?_
  refine at_ovnewi 496 (67) dX8_init_26 (by decide) (by decide) (by decide) (by omega) rfl ?_
  try dsimp only [List.cons_append, List.nil_append, List.set_cons_zero, List.set_cons_succ]
  refine at_ovput (k := 0) dX8_init_28 fX8_16 ⟨_, _, rfl, Or.inr ⟨rfl, rfl, rfl⟩, tyX8_ok 2 (by decide), fun _ => ⟨rfl, rfl⟩⟩ (by omega) rfl trivial (Nat.le_of_ble_eq_true rfl) ?_
  try dsimp only [List.cons_append, List.nil_append, List.set_cons_zero, List.set_cons_succ]
  refine at_ld (i := 0) dX8_init_31 rfl rfl rfl ?_
  refine at_k (nI 992) dX8_init_32 rfl (by decide) ?_
  refine at_ovnewi 992 (68) dX8_init_35 (by decide) (by decide) (by decide) (by omega) rfl ?_
  try dsimp only [List.cons_append, List.nil_append, List.set_cons_zero, List.set_cons_succ]
  refine at_ovput (k := 0) dX8_init_37 fX8_19 ⟨_, _, rfl, Or.inr ⟨rfl, rfl, rfl⟩, tyX8_ok 3 (by decide), fun _ => ⟨rfl, rfl⟩⟩ (by omega) rfl trivial (Nat.le_of_ble_eq_true rfl) ?_
  try dsimp only [List.cons_append, List.nil_append, List.set_cons_zero, List.set_cons_succ]
  refine at_ld (i := 0) dX8_init_40 rfl rfl rfl ?_
  refine at_k (nI 2) dX8_init_41 rfl (by decide) ?_
  refine at_ovnewz 2 (69) dX8_init_42 (by decide) (by decide) (by decide) (by omega) rfl ?_
  try dsimp only [List.cons_append, List.nil_append, List.set_cons_zero, List.set_cons_succ]
  refine at_ovput (k := 0) dX8_init_44 fX8_22 ⟨_, _, rfl, Or.inr ⟨rfl, rfl, rfl⟩, tyX8_ok 4 (by decide), fun _ => ⟨rfl, rfl⟩⟩ (by omega) rfl trivial (Nat.le_of_ble_eq_true rfl) ?_
  try dsimp only [List.cons_append, List.nil_append, List.set_cons_zero, List.set_cons_succ]
  refine at_ld (i := 0) dX8_init_47 rfl rfl rfl ?_
  refine at_k (nI 200) dX8_init_48 rfl (by decide) ?_
  refine at_ovnewi 200 (70) dX8_init_51 (by decide) (by decide) (by decide) (by omega) rfl ?_
  try dsimp only [List.cons_append, List.nil_append, List.set_cons_zero, List.set_cons_succ]
  refine at_ovput (k := 0) dX8_init_53 fX8_26 ⟨_, _, rfl, Or.inr ⟨rfl, rfl, rfl⟩, tyX8_ok 5 (by decide), fun _ => ⟨rfl, rfl⟩⟩ (by omega) rfl trivial (Nat.le_of_ble_eq_true rfl) ?_
  try dsimp only [List.cons_append, List.nil_append, List.set_cons_zero, List.set_cons_succ]
  refine at_ld (i := 0) dX8_init_56 rfl rfl rfl ?_
  refine at_k (nI 40) dX8_init_57 rfl (by decide) ?_
  refine at_ovnewi 40 (71) dX8_init_59 (by decide) (by decide) (by decide) (by omega) rfl ?_
  try dsimp only [List.cons_append, List.nil_append, List.set_cons_zero, List.set_cons_succ]
  refine at_ovput (k := 0) dX8_init_61 fX8_29 ⟨_, _, rfl, Or.inr ⟨rfl, rfl, rfl⟩, tyX8_ok 13 (by decide), fun _ => ⟨rfl, rfl⟩⟩ (by omega) rfl trivial (Nat.le_of_ble_eq_true rfl) ?_
  try dsimp only [List.cons_append, List.nil_append, List.set_cons_zero, List.set_cons_succ]
  have e8 := ov_8 (z := z + 496 + 496 + 496 + 992 + 2 + 200 + 40) (C := C)
  show sg_A MX8_init 64 [some (.ref 64)] [] (OV 64 (z + 496 + 496 + 496 + 992 + 2 + 200 + 40) C _) _
  refine sg_Ah e8 ?_
  refine at_ld (i := 0) dX8_init_64 rfl rfl rfl ?_
  refine at_get dX8_init_65 fX8_7 (mv_o hn _ _ _) (by omega) rfl ?_
  refine at_k (nI 0) dX8_init_68 rfl (by decide) ?_
  refine at_k (nI 2) dX8_init_69 rfl (by decide) ?_
  refine at_ast 0 dX8_init_70 (mv_a hn _ _ _) (by decide) rfl (by decide) (by decide) (mv_s _ _ _ _ 0 _ 2 rfl) ?_
  refine at_ld (i := 0) dX8_init_71 rfl rfl rfl ?_
  refine at_get dX8_init_72 fX8_7 (mv_o hn _ _ _) (by omega) rfl ?_
  refine at_k (nI 1) dX8_init_75 rfl (by decide) ?_
  refine at_k (nI 4) dX8_init_76 rfl (by decide) ?_
  refine at_ast 1 dX8_init_77 (mv_a hn _ _ _) (by decide) rfl (by decide) (by decide) (mv_s _ _ _ _ 1 _ 4 rfl) ?_
  refine at_ld (i := 0) dX8_init_78 rfl rfl rfl ?_
  refine at_get dX8_init_79 fX8_7 (mv_o hn _ _ _) (by omega) rfl ?_
  refine at_k (nI 2) dX8_init_82 rfl (by decide) ?_
  refine at_k (nI 4) dX8_init_83 rfl (by decide) ?_
  refine at_ast 2 dX8_init_84 (mv_a hn _ _ _) (by decide) rfl (by decide) (by decide) (mv_s _ _ _ _ 2 _ 4 rfl) ?_
  refine at_ld (i := 0) dX8_init_85 rfl rfl rfl ?_
  refine at_get dX8_init_86 fX8_7 (mv_o hn _ _ _) (by omega) rfl ?_
  refine at_k (nI 5) dX8_init_89 rfl (by decide) ?_
  refine at_k (nI 4) dX8_init_90 rfl (by decide) ?_
  refine at_ast 5 dX8_init_91 (mv_a hn _ _ _) (by decide) rfl (by decide) (by decide) (mv_s _ _ _ _ 5 _ 4 rfl) ?_
  refine at_ld (i := 0) dX8_init_92 rfl rfl rfl ?_
  refine at_wv [] dX8_init_93 mX8_anew ⟨Nat.le_of_ble_eq_true rfl, Nat.le_of_ble_eq_true rfl⟩ lX8_32 iX8_anew rfl rfl (mv_o hn _ _ _) (by omega) rfl (Nat.le_of_ble_eq_true rfl) (Nat.le_of_ble_eq_true rfl) ⟨rfl, rfl⟩ (c_anew _ _ V00 hn (by decide)) ⟨rfl, rfl⟩ ?_
  try dsimp only [Option.toList, List.cons_append, List.nil_append]
  refine at_vret dX8_init_96 rfl ?_
  exact ⟨rfl, rfl⟩
end I4
