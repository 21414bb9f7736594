/-! CONSTRUCTORS: the class's, the reference's -/
/-- the numbers of a new object -/
def V00 : Nat → Nat := vf_upd (vf_upd (vf_upd (vf_upd (fun _ => 0) 0 2) 1 4) 2 4) 5 4
theorem V00_g : wfg V00 := by
  have z0 : V00 0 = 2 := by decide
  have z1 : V00 1 = 4 := by decide
  have z2 : V00 2 = 4 := by decide
  have z3 : V00 3 = 0 := by decide
  have z4 : V00 4 = 0 := by decide
  have z5 : V00 5 = 4 := by decide
  unfold wfg
  rw [z0, z1, z2, z3, z4, z5]
  decide
theorem V00_h {c : Nat} (hc : 496 ≤ c) : V00 c = 0 := by
  unfold V00
  rw [vu_n _ _ _ _ (by omega), vu_n _ _ _ _ (by omega), vu_n _ _ _ _ (by omega), vu_n _ _ _ _ (by omega)]
theorem Inv_0 : Inv (an1 V00) := (TI_0 V00_g (fun c hc => V00_h hc) (fun _ => 0)).1
def SRc (C : Nat → sg_E) : Prop := (∃ f, C 1001 = .inl (false, 6, f) ∧ ∀ k, k < 6 → f k = nI (lea k)) ∧ (∃ f, C 1002 = .inl (false, 6, f) ∧ ∀ k, k < 6 → f k = nI (mos k)) ∧ ∃ f, C 1003 = .inl (false, 6, f) ∧ ∀ k, k < 6 → f k = nI (atf k)
theorem SR_ov {C : Nat → sg_E} (h : SRc C) {p z : Nat} {L : List sg_E} (hp : p + L.length ≤ 1000) : SR (OV p z C L) := by
  obtain ⟨⟨f1, a1, b1⟩, ⟨f2, a2, b2⟩, f3, a3, b3⟩ := h
  exact ⟨⟨f1, ov_far a1 (by omega) (by decide), b1⟩, ⟨f2, ov_far a2 (by omega) (by decide), b2⟩, f3, ov_far a3 (by omega) (by decide), b3⟩
section I3
variable {z : Nat} {C : Nat → sg_E}
set_option maxRecDepth 100000 in
set_option maxHeartbeats 4000000 in
theorem x_init (hS : SRc C) (t : Nat → Nat) (u : Nat → Nat → Nat) : sg_K MX7_init [.ref 0] (OV 0 z C [.inr (7, dfX7)]) (fun r h' => r = none ∧ h'.1 = 64 ∧ h'.2.1 = z + 2107 ∧ CS h' (an1 V00) t 0 0 (fun _ => false) u ∧ ∀ j, 1000 ≤ j → h'.2.2 j = C j) := by
  show sg_A MX7_init 0 [some (.ref 0)] [] _ _
  refine at_ld (i := 0) dX7_init_0 rfl rfl rfl ?_
  refine at_obj dX7_init_1 aX7_1 (Nat.le_of_ble_eq_true rfl) ⟨Nat.le_of_ble_eq_true rfl, Nat.le_of_ble_eq_true rfl⟩ ?_
  refine at_ld (i := 0) dX7_init_4 rfl rfl rfl ?_
  refine at_ovnew (ci := 6) (rc := (RX6, TX6, 6)) (1) dX7_init_5 rfl cX7_7 xX6 zX6 tyX6_ok dfX6_ok rfl dfX6_cv (by omega) rfl ?_
  try dsimp only [List.cons_append, List.nil_append, List.set_cons_zero, List.set_cons_succ]
  refine at_dup dX7_init_8 rfl ?_
  refine at_ci [] dX7_init_9 mX6_init ⟨Nat.le_of_ble_eq_true rfl, Nat.le_of_ble_eq_true rfl⟩ lX7_9 nX6_init rfl rfl rfl (Nat.le_of_ble_eq_true rfl) (Nat.le_of_ble_eq_true rfl) (i_at (L := [_]) (n := 1) rfl (fun C2 _ => i_X6 1 (by decide))) ?_ ?_
  · rintro r h1 ⟨-, rfl⟩
    exact ⟨rfl, rfl⟩
  · rintro r h1 ⟨rfl, rfl⟩
    dsimp only [Option.toList, List.cons_append, List.nil_append, vcl]
    refine at_ovput (k := 0) dX7_init_12 fX7_10 ⟨_, _, rfl, Or.inr ⟨rfl, rfl, rfl⟩, tyX7_ok 0 (by decide), fun _ => ⟨rfl, rfl⟩⟩ (by omega) rfl trivial (Nat.le_of_ble_eq_true rfl) ?_
    try dsimp only [List.cons_append, List.nil_append, List.set_cons_zero, List.set_cons_succ]
    refine at_ld (i := 0) dX7_init_15 rfl rfl rfl ?_
    refine at_ovnew (ci := 0) (rc := (RX0, TX0, 5)) (14) dX7_init_16 rfl cX7_16 xX0 zX0 tyX0_ok dfX0_ok rfl dfX0_cv (by omega) rfl ?_
    try dsimp only [List.cons_append, List.nil_append, List.set_cons_zero, List.set_cons_succ]
    refine at_dup dX7_init_19 rfl ?_
    refine at_ld (i := 0) dX7_init_20 rfl rfl rfl ?_
    refine at_get dX7_init_21 fX7_10 (ov_at (k := 0) rfl) (by omega) rfl ?_
    refine at_ci [_] dX7_init_24 mX0_init ⟨Nat.le_of_ble_eq_true rfl, Nat.le_of_ble_eq_true rfl⟩ lX7_18 nX0_init rfl rfl rfl (Nat.le_of_ble_eq_true rfl) (Nat.le_of_ble_eq_true rfl) (i_at (L := [_, _, _, _, _, _, _, _, _, _, _, _, _, _]) (n := 14) rfl (fun C2 hC2 => i_X0 14 1 (by decide) (by decide) (hC2 1 _ rfl))) ?_ ?_
    · rintro r h1 ⟨-, rfl⟩
      exact ⟨rfl, rfl⟩
    · rintro r h1 ⟨rfl, rfl⟩
      dsimp only [Option.toList, List.cons_append, List.nil_append]
      refine at_ovput (k := 0) dX7_init_27 fX7_21 ⟨_, _, rfl, Or.inr ⟨rfl, rfl, rfl⟩, tyX7_ok 1 (by decide), fun _ => ⟨rfl, rfl⟩⟩ (by omega) rfl trivial (Nat.le_of_ble_eq_true rfl) ?_
      try dsimp only [List.cons_append, List.nil_append, List.set_cons_zero, List.set_cons_succ]
      refine at_ld (i := 0) dX7_init_30 rfl rfl rfl ?_
      refine at_ovnew (ci := 5) (rc := (RX5, TX5, 2)) (17) dX7_init_31 rfl cX7_25 xX5 zX5 tyX5_ok dfX5_ok rfl dfX5_cv (by omega) rfl ?_
      try dsimp only [List.cons_append, List.nil_append, List.set_cons_zero, List.set_cons_succ]
      refine at_dup dX7_init_34 rfl ?_
      refine at_ci [] dX7_init_35 mX5_init ⟨Nat.le_of_ble_eq_true rfl, Nat.le_of_ble_eq_true rfl⟩ lX7_27 nX5_init rfl rfl rfl (Nat.le_of_ble_eq_true rfl) (Nat.le_of_ble_eq_true rfl) (i_at (L := [_, _, _, _, _, _, _, _, _, _, _, _, _, _, _, _, _]) (n := 17) rfl (fun C2 _ => i_X5 17 (by decide))) ?_ ?_
      · rintro r h1 ⟨-, rfl⟩
        exact ⟨rfl, rfl⟩
      · rintro r h1 ⟨rfl, rfl⟩
        dsimp only [Option.toList, List.cons_append, List.nil_append]
        refine at_ovput (k := 0) dX7_init_38 fX7_28 ⟨_, _, rfl, Or.inr ⟨rfl, rfl, rfl⟩, tyX7_ok 2 (by decide), fun _ => ⟨rfl, rfl⟩⟩ (by omega) rfl trivial (Nat.le_of_ble_eq_true rfl) ?_
        try dsimp only [List.cons_append, List.nil_append, List.set_cons_zero, List.set_cons_succ]
        refine at_ld (i := 0) dX7_init_41 rfl rfl rfl ?_
        refine at_ovnew (ci := 4) (rc := (RX4, TX4, 9)) (19) dX7_init_42 rfl cX7_32 xX4 zX4 tyX4_ok dfX4_ok rfl dfX4_cv (by omega) rfl ?_
        try dsimp only [List.cons_append, List.nil_append, List.set_cons_zero, List.set_cons_succ]
        refine at_dup dX7_init_45 rfl ?_
        refine at_ld (i := 0) dX7_init_46 rfl rfl rfl ?_
        refine at_get dX7_init_47 fX7_28 (ov_at (k := 0) rfl) (by omega) rfl ?_
        refine at_ci [_] dX7_init_50 mX4_init ⟨Nat.le_of_ble_eq_true rfl, Nat.le_of_ble_eq_true rfl⟩ lX7_34 nX4_init rfl rfl rfl (Nat.le_of_ble_eq_true rfl) (Nat.le_of_ble_eq_true rfl) (i_at (L := [_, _, _, _, _, _, _, _, _, _, _, _, _, _, _, _, _, _, _]) (n := 19) rfl (fun C2 _ => i_X4 19 17 (by decide))) ?_ ?_
        · rintro r h1 ⟨-, rfl⟩
          exact ⟨rfl, rfl⟩
        · rintro r h1 ⟨rfl, rfl⟩
          dsimp only [Option.toList, List.cons_append, List.nil_append]
          refine at_ovput (k := 0) dX7_init_53 fX7_37 ⟨_, _, rfl, Or.inr ⟨rfl, rfl, rfl⟩, tyX7_ok 3 (by decide), fun _ => ⟨rfl, rfl⟩⟩ (by omega) rfl trivial (Nat.le_of_ble_eq_true rfl) ?_
          try dsimp only [List.cons_append, List.nil_append, List.set_cons_zero, List.set_cons_succ]
          refine at_ld (i := 0) dX7_init_56 rfl rfl rfl ?_
          refine at_ovnew (ci := 6) (rc := (RX6, TX6, 6)) (21) dX7_init_57 rfl cX7_7 xX6 zX6 tyX6_ok dfX6_ok rfl dfX6_cv (by omega) rfl ?_
          try dsimp only [List.cons_append, List.nil_append, List.set_cons_zero, List.set_cons_succ]
          refine at_dup dX7_init_60 rfl ?_
          refine at_ci [] dX7_init_61 mX6_init ⟨Nat.le_of_ble_eq_true rfl, Nat.le_of_ble_eq_true rfl⟩ lX7_9 nX6_init rfl rfl rfl (Nat.le_of_ble_eq_true rfl) (Nat.le_of_ble_eq_true rfl) (i_at (L := [_, _, _, _, _, _, _, _, _, _, _, _, _, _, _, _, _, _, _, _, _]) (n := 21) rfl (fun C2 _ => i_X6 21 (by decide))) ?_ ?_
          · rintro r h1 ⟨-, rfl⟩
            exact ⟨rfl, rfl⟩
          · rintro r h1 ⟨rfl, rfl⟩
            dsimp only [Option.toList, List.cons_append, List.nil_append, vcl]
            refine at_ovput (k := 0) dX7_init_64 fX7_41 ⟨_, _, rfl, Or.inr ⟨rfl, rfl, rfl⟩, tyX7_ok 4 (by decide), fun _ => ⟨rfl, rfl⟩⟩ (by omega) rfl trivial (Nat.le_of_ble_eq_true rfl) ?_
            try dsimp only [List.cons_append, List.nil_append, List.set_cons_zero, List.set_cons_succ]
            refine at_ld (i := 0) dX7_init_67 rfl rfl rfl ?_
            refine at_ovnew (ci := 0) (rc := (RX0, TX0, 5)) (34) dX7_init_68 rfl cX7_16 xX0 zX0 tyX0_ok dfX0_ok rfl dfX0_cv (by omega) rfl ?_
            try dsimp only [List.cons_append, List.nil_append, List.set_cons_zero, List.set_cons_succ]
            refine at_dup dX7_init_71 rfl ?_
            refine at_ld (i := 0) dX7_init_72 rfl rfl rfl ?_
            refine at_get dX7_init_73 fX7_41 (ov_at (k := 0) rfl) (by omega) rfl ?_
            refine at_ci [_] dX7_init_76 mX0_init ⟨Nat.le_of_ble_eq_true rfl, Nat.le_of_ble_eq_true rfl⟩ lX7_18 nX0_init rfl rfl rfl (Nat.le_of_ble_eq_true rfl) (Nat.le_of_ble_eq_true rfl) (i_at (L := [_, _, _, _, _, _, _, _, _, _, _, _, _, _, _, _, _, _, _, _, _, _, _, _, _, _, _, _, _, _, _, _, _, _]) (n := 34) rfl (fun C2 hC2 => i_X0 34 21 (by decide) (by decide) (hC2 21 _ rfl))) ?_ ?_
            · rintro r h1 ⟨-, rfl⟩
              exact ⟨rfl, rfl⟩
            · rintro r h1 ⟨rfl, rfl⟩
              dsimp only [Option.toList, List.cons_append, List.nil_append]
              refine at_ovput (k := 0) dX7_init_79 fX7_44 ⟨_, _, rfl, Or.inr ⟨rfl, rfl, rfl⟩, tyX7_ok 5 (by decide), fun _ => ⟨rfl, rfl⟩⟩ (by omega) rfl trivial (Nat.le_of_ble_eq_true rfl) ?_
              try dsimp only [List.cons_append, List.nil_append, List.set_cons_zero, List.set_cons_succ]
              refine at_ld (i := 0) dX7_init_82 rfl rfl rfl ?_
              refine at_k (nI 24) dX7_init_83 rfl (by decide) ?_
              refine at_ovnewi 24 (37) dX7_init_85 (by decide) (by decide) (by decide) (by omega) rfl ?_
              try dsimp only [List.cons_append, List.nil_append, List.set_cons_zero, List.set_cons_succ]
              refine at_ovput (k := 0) dX7_init_87 fX7_47 ⟨_, _, rfl, Or.inr ⟨rfl, rfl, rfl⟩, tyX7_ok 6 (by decide), fun _ => ⟨rfl, rfl⟩⟩ (by omega) rfl trivial (Nat.le_of_ble_eq_true rfl) ?_
              try dsimp only [List.cons_append, List.nil_append, List.set_cons_zero, List.set_cons_succ]
              refine at_ld (i := 0) dX7_init_90 rfl rfl rfl ?_
              refine at_ovnew (ci := 6) (rc := (RX6, TX6, 6)) (38) dX7_init_91 rfl cX7_7 xX6 zX6 tyX6_ok dfX6_ok rfl dfX6_cv (by omega) rfl ?_
              try dsimp only [List.cons_append, List.nil_append, List.set_cons_zero, List.set_cons_succ]
              refine at_dup dX7_init_94 rfl ?_
              refine at_ci [] dX7_init_95 mX6_init ⟨Nat.le_of_ble_eq_true rfl, Nat.le_of_ble_eq_true rfl⟩ lX7_9 nX6_init rfl rfl rfl (Nat.le_of_ble_eq_true rfl) (Nat.le_of_ble_eq_true rfl) (i_at (L := [_, _, _, _, _, _, _, _, _, _, _, _, _, _, _, _, _, _, _, _, _, _, _, _, _, _, _, _, _, _, _, _, _, _, _, _, _, _]) (n := 38) rfl (fun C2 _ => i_X6 38 (by decide))) ?_ ?_
              · rintro r h1 ⟨-, rfl⟩
                exact ⟨rfl, rfl⟩
              · rintro r h1 ⟨rfl, rfl⟩
                dsimp only [Option.toList, List.cons_append, List.nil_append, vcl]
                refine at_ovput (k := 0) dX7_init_98 fX7_51 ⟨_, _, rfl, Or.inr ⟨rfl, rfl, rfl⟩, tyX7_ok 9 (by decide), fun _ => ⟨rfl, rfl⟩⟩ (by omega) rfl trivial (Nat.le_of_ble_eq_true rfl) ?_
                try dsimp only [List.cons_append, List.nil_append, List.set_cons_zero, List.set_cons_succ]
                refine at_ld (i := 0) dX7_init_101 rfl rfl rfl ?_
                refine at_ovnew (ci := 6) (rc := (RX6, TX6, 6)) (51) dX7_init_102 rfl cX7_7 xX6 zX6 tyX6_ok dfX6_ok rfl dfX6_cv (by omega) rfl ?_
                try dsimp only [List.cons_append, List.nil_append, List.set_cons_zero, List.set_cons_succ]
                refine at_dup dX7_init_105 rfl ?_
                refine at_ci [] dX7_init_106 mX6_init ⟨Nat.le_of_ble_eq_true rfl, Nat.le_of_ble_eq_true rfl⟩ lX7_9 nX6_init rfl rfl rfl (Nat.le_of_ble_eq_true rfl) (Nat.le_of_ble_eq_true rfl) (i_at (L := [_, _, _, _, _, _, _, _, _, _, _, _, _, _, _, _, _, _, _, _, _, _, _, _, _, _, _, _, _, _, _, _, _, _, _, _, _, _, _, _, _, _, _, _, _, _, _, _, _, _, _]) (n := 51) rfl (fun C2 _ => i_X6 51 (by decide))) ?_ ?_
                · rintro r h1 ⟨-, rfl⟩
                  exact ⟨rfl, rfl⟩
                · rintro r h1 ⟨rfl, rfl⟩
                  dsimp only [Option.toList, List.cons_append, List.nil_append, vcl]
                  refine at_ovput (k := 0) dX7_init_109 fX7_54 ⟨_, _, rfl, Or.inr ⟨rfl, rfl, rfl⟩, tyX7_ok 10 (by decide), fun _ => ⟨rfl, rfl⟩⟩ (by omega) rfl trivial (Nat.le_of_ble_eq_true rfl) ?_
                  try dsimp only [List.cons_append, List.nil_append, List.set_cons_zero, List.set_cons_succ]
                  refine at_ld (i := 0) dX7_init_112 rfl rfl rfl ?_
                  refine at_get dX7_init_113 fX7_10 (ov_at (k := 0) rfl) (by omega) rfl ?_
                  refine at_gets (k0 := 1003) (nm := "RULES_AT_FIRST") dX7_init_116 (List.Mem.tail _ (List.Mem.tail _ (List.Mem.head _))) ?_
                  obtain ⟨f3, a3, b3⟩ := hS.2.2
                  have hf3 := ov_far (p := 0) (z := z) (L := []) a3 (by decide) (by decide)
                  have key : ∀ H : sg_H, H.1 = 64 → H.2.1 = z + 2107 → sg_at H 0 (.inr (7, sgF 0 0 false false 0)) → VX H 1 → DE H 1 14 → TP H t 0 → RX H → VX H 21 → DE H 21 34 → (∃ E, sg_at H 37 (.inl (false, 24, E))) → VX H 38 → VX H 51 → SR H → (∀ j, 1000 ≤ j → H.2.2 j = C j) → sg_A MX7_init 119 [some (.ref 0)] [.ref 1003, .ref 1] H (fun r h' => r = none ∧ h'.1 = 64 ∧ h'.2.1 = z + 2107 ∧ CS h' (an1 V00) t 0 0 (fun _ => false) u ∧ ∀ j, 1000 ≤ j → h'.2.2 j = C j) := by
                    intro H e1 e2 c1 c2 c3 c4 c5 c6 c7 c8 c9 c10 c13 cf
                    obtain ⟨E, c8⟩ := c8
                    obtain ⟨L, b, d, K, e, m, eV⟩ := c2
                    have h3 : sg_at H 1003 (.inl (false, 6, f3)) := ⟨Or.inr (by decide), by rw [cf _ (by decide)]; exact a3⟩
                    have ks := k_startAnew (g := H) (a := 1) (L := L) (b := b) (d := d) (K := K) (e := e) (m := m) (v := V00) (by omega) (by decide) V00_g 1003 (by omega) f3 h3 (fun k hk => by
                      rw [b3 k hk]
                      rcases (show k = 0 ∨ k = 1 ∨ k = 2 ∨ k = 3 ∨ k = 4 ∨ k = 5 by omega) with rfl | rfl | rfl | rfl | rfl | rfl <;> decide)
                    rw [← eV] at ks
                    have hV : sg_at H 1 (.inr (6, [.ref (1 + 1), .ref (1 + 2), .ref (1 + 4), .ref (1 + 6), .int e, .int m])) := by rw [eV]; exact vo_V (by omega)
                    refine at_cv [_] dX7_init_119 mX6_startAnew ⟨Nat.le_of_ble_eq_true rfl, Nat.le_of_ble_eq_true rfl⟩ lX7_60 iX6_startAnew rfl rfl hV (by omega) rfl (Nat.le_of_ble_eq_true rfl) (Nat.le_of_ble_eq_true rfl) (ks) ?_ ?_
                    · rintro r h' ⟨-, q⟩
                      exact ⟨(ag_VS q).1, (ag_VS q).2.1⟩
                    · rintro r h' ⟨rfl, q⟩
                      try dsimp only [Option.toList, List.cons_append, List.nil_append]
                      have hg := ag_VS q
                      refine at_vret dX7_init_122 rfl ?_
                      exact ⟨rfl, hg.1.trans e1, hg.2.1.trans e2, ⟨by rw [hg.1]; omega, ⟨0, 0, ag_at hg c1 (by omega)⟩, VV_of q, DE_ag hg c3 (fun o ho => by omega), TP_ag hg c4 ⟨by omega, by omega⟩, RX_ag hg c5 ⟨by omega, by omega⟩, VX_ag hg c6 (fun o ho => by omega), DE_ag hg c7 (fun o ho => by omega), ⟨E, ag_at hg c8 (by omega)⟩, ⟨VX_ag hg c9 (fun o ho => by omega), VX_ag hg c10 (fun o ho => by omega)⟩, fun q => (by cases q), fun q => (by cases q), SR_ag hg c13 (fun j hj => by omega)⟩, fun j hj => by rw [hg.2.2 j (by omega)]; exact cf j hj⟩
                  have vx : ∀ a (H : sg_H), (∀ o, o < 13 → H.2.2 (a + o) = vc a o) → VX H a := fun a H q => ⟨_, _, _, _, _, _, vo2_self q⟩
                  refine key _ rfl rfl (ov_at (k := 0) rfl) (vx 1 _ (c13 rfl rfl rfl rfl rfl rfl rfl rfl rfl rfl rfl rfl rfl)) ⟨ov_at (k := 14) rfl, ov_at (k := 15) rfl, ⟨_, ov_at (k := 16) rfl⟩, by decide, by decide⟩ ⟨ov_at (k := 17) rfl, ⟨_, ov_at (k := 18) rfl, fun p hp => by omega⟩, fun p hp => by omega, by decide⟩ ⟨_, 0, 0, 0, 0, 0, 0, 0, RX_self rfl rfl⟩ (vx 21 _ (c13 rfl rfl rfl rfl rfl rfl rfl rfl rfl rfl rfl rfl rfl)) ⟨ov_at (k := 34) rfl, ov_at (k := 35) rfl, ⟨_, ov_at (k := 36) rfl⟩, by decide, by decide⟩ ⟨_, ov_at (k := 37) rfl⟩ (vx 38 _ (c13 rfl rfl rfl rfl rfl rfl rfl rfl rfl rfl rfl rfl rfl)) (vx 51 _ (c13 rfl rfl rfl rfl rfl rfl rfl rfl rfl rfl rfl rfl rfl)) (SR_ov hS (Nat.le_of_ble_eq_true rfl)) (fun j hj => (ov_far rfl (Nat.le_trans (Nat.le_of_ble_eq_true rfl) hj) hj).2)
end I3
