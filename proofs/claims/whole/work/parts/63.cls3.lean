/-! THE CLASS ITSELF: deeds, the map, images, the tape -/
theorem iR_io {v v' : Nat → Nat} {K : Nat → Nat → Int32} (w : wf v) (hR : iR v K) (h : ∀ i f, io v' i f = io v i f) : iR v' K := fun i hi => iR1_e w hi (hR i hi) (fun f _ => h i f) (fun _ _ => rfl) (fun _ _ => rfl)
theorem mnd_at (v : Nat → Nat) : ∀ n k, k < n → mnd v n (8 + k) = if (own v k).isNone then 1 else 0 := by
  intro n
  induction n with
  | zero => intro k h; omega
  | succ n ih =>
    intro k h
    simp only [mnd]
    by_cases e : k = n
    · subst e; rw [vu_s]
    · rw [vu_n _ _ _ _ (by omega)]; exact ih k (by omega)
theorem fr_mnd {v : Nat → Nat} (wo : wfo v) {x : Nat} (hx : x < 128) : fr (mnd v (4 * v 0 * v 1)) x = due v x := by
  unfold due
  rw [fragI]
  by_cases q : x < 4 * (v 0 * v 1)
  · rw [decide_eq_true q, Bool.true_and]
    unfold fr
    rw [mnd_at v _ x q]
    cases (own v x).isNone <;> rfl
  · rw [decide_eq_false q, Bool.false_and]
    have := wo x (by omega) hx
    unfold fr at *
    rw [mnd_c v _ _ (Or.inr (by omega))]
    exact this
section K3
variable {g : sg_H} {v t : Nat → Nat} {n fl : Nat} {ib : Nat → Bool} {u : Nat → Nat → Nat}
/-- the object's own fields are given anew -/
theorem CS_0 (hC : CS g v t n fl ib u) (tc sd : Int32) (fl' : Nat) (ib' : Nat → Bool) (u' : Nat → Nat → Nat) (h0 : ib' 0 = true → VV g 38 (u' 0)) (h1 : ib' 1 = true → VV g 51 (u' 1)) : CS (sg_up g 0 (.inr (7, sgF tc fl' (ib' 0) (ib' 1) sd))) v t n fl' ib' u' := by
  have hg := ag_up g 0 (.inr (7, sgF tc fl' (ib' 0) (ib' 1) sd))
  obtain ⟨c0, ⟨tc1, sd1, c1⟩, c2, c3, c4, c5, c6, c7, ⟨E, c8⟩, ⟨c9, c10⟩, c11, c12, c13⟩ := hC
  exact ⟨by rw [hg.1]; exact c0, ⟨tc, sd, up_e c1 _⟩, VV_ag hg c2 (fun o ho => by omega), DE_ag hg c3 (fun o ho => by omega), TP_ag hg c4 ⟨by omega, by omega⟩, RX_ag hg c5 ⟨by omega, by omega⟩, VX_ag hg c6 (fun o ho => by omega), DE_ag hg c7 (fun o ho => by omega), ⟨E, ag_at hg c8 (by omega)⟩, ⟨VX_ag hg c9 (fun o ho => by omega), VX_ag hg c10 (fun o ho => by omega)⟩, fun q => VV_ag hg (h0 q) (fun o ho => by omega), fun q => VV_ag hg (h1 q) (fun o ho => by omega), SR_ag hg c13 (fun j hj => by omega)⟩
set_option maxRecDepth 100000 in
theorem x_make (hC : CS g v t n fl ib u) (iv : inv v) (x y z : Int32) : sg_K MX7_make [.ref 0, .int x, .int y, .int z] g (fun r h' => r = some (.int (s_make v x y z).1) ∧ CS h' (s_make v x y z).2 t n fl ib u ∧ ag in64 g h') := by
  have hC0 := hC
  obtain ⟨c0, ⟨tc, sd, h0⟩, ⟨b, d, K, eV, hb, hR⟩, hD, hT, hX, -⟩ := hC
  have kc := k_makeInode (g := g) (a := 1) (D := 14) (d := d) (by omega) (by decide) hD hb hR iv x y z
  rw [← eV] at kc
  show sg_A MX7_make 0 [some (.ref 0), some (.int x), some (.int y), some (.int z)] [] _ _
  refine at_ld (i := 0) dX7_make_0 rfl rfl rfl ?_
  refine at_get dX7_make_1 fX7_21 h0 (by omega) rfl ?_
  refine at_ld (i := 1) dX7_make_4 rfl rfl rfl ?_
  refine at_ld (i := 2) dX7_make_5 rfl rfl rfl ?_
  refine at_ld (i := 3) dX7_make_6 rfl rfl rfl ?_
  refine at_cv [_, _, _] dX7_make_7 mX0_makeInode ⟨Nat.le_of_ble_eq_true rfl, Nat.le_of_ble_eq_true rfl⟩ lX7_130 iX0_makeInode rfl rfl hD.1 (by omega) rfl (Nat.le_of_ble_eq_true rfl) (Nat.le_of_ble_eq_true rfl) (kc) ?_ ?_
  · rintro r h1 ⟨-, q⟩
    exact ⟨(ag_VS q).1, (ag_VS q).2.1⟩
  · rintro r h1 ⟨rfl, q⟩
    try dsimp only [Option.toList, List.cons_append, List.nil_append]
    refine at_ret dX7_make_10 rfl rfl ?_
    exact ⟨rfl, CS_v hC0 q, ag_v q⟩
set_option maxRecDepth 100000 in
theorem x_grow (hC : CS g v t n fl ib u) (iv : inv v) (x y : Int32) : sg_K MX7_grow [.ref 0, .int x, .int y] g (fun r h' => r = some (.int (s_grow v x y).1) ∧ CS h' (s_grow v x y).2 t n fl ib u ∧ ag in64 g h') := by
  have hC0 := hC
  obtain ⟨c0, ⟨tc, sd, h0⟩, ⟨b, d, K, eV, hb, hR⟩, hD, hT, hX, -⟩ := hC
  have kc := k_growFile (g := g) (a := 1) (D := 14) (d := d) (by omega) (by decide) hD hb hR iv x y
  rw [← eV] at kc
  show sg_A MX7_grow 0 [some (.ref 0), some (.int x), some (.int y)] [] _ _
  refine at_ld (i := 0) dX7_grow_0 rfl rfl rfl ?_
  refine at_get dX7_grow_1 fX7_21 h0 (by omega) rfl ?_
  refine at_ld (i := 1) dX7_grow_4 rfl rfl rfl ?_
  refine at_ld (i := 2) dX7_grow_5 rfl rfl rfl ?_
  refine at_cv [_, _] dX7_grow_6 mX0_growFile ⟨Nat.le_of_ble_eq_true rfl, Nat.le_of_ble_eq_true rfl⟩ lX7_141 iX0_growFile rfl rfl hD.1 (by omega) rfl (Nat.le_of_ble_eq_true rfl) (Nat.le_of_ble_eq_true rfl) (kc) ?_ ?_
  · rintro r h1 ⟨-, z, q⟩
    exact ⟨(ag_VS q).1, (ag_VS q).2.1⟩
  · rintro r h1 ⟨rfl, z, q⟩
    try dsimp only [Option.toList, List.cons_append, List.nil_append]
    refine at_ret dX7_grow_9 rfl rfl ?_
    exact ⟨rfl, CS_v (CS_16 hC0 z) q, ag_t (ag_w (ag_up g _ _) (fun j hj => by show j < 64; omega)) (ag_v q)⟩
set_option maxRecDepth 100000 in
theorem x_shrink (hC : CS g v t n fl ib u) (iv : inv v) (x y : Int32) : sg_K MX7_shrink [.ref 0, .int x, .int y] g (fun r h' => r = some (.int (s_shrink v x y).1) ∧ CS h' (s_shrink v x y).2 t n fl ib u ∧ ag in64 g h') := by
  have hC0 := hC
  obtain ⟨c0, ⟨tc, sd, h0⟩, ⟨b, d, K, eV, hb, hR⟩, hD, hT, hX, -⟩ := hC
  have kc := k_shrinkFile (g := g) (a := 1) (D := 14) (d := d) (by omega) (by decide) hD hb hR iv x y
  rw [← eV] at kc
  show sg_A MX7_shrink 0 [some (.ref 0), some (.int x), some (.int y)] [] _ _
  refine at_ld (i := 0) dX7_shrink_0 rfl rfl rfl ?_
  refine at_get dX7_shrink_1 fX7_21 h0 (by omega) rfl ?_
  refine at_ld (i := 1) dX7_shrink_4 rfl rfl rfl ?_
  refine at_ld (i := 2) dX7_shrink_5 rfl rfl rfl ?_
  refine at_cv [_, _] dX7_shrink_6 mX0_shrinkFile ⟨Nat.le_of_ble_eq_true rfl, Nat.le_of_ble_eq_true rfl⟩ lX7_243 iX0_shrinkFile rfl rfl hD.1 (by omega) rfl (Nat.le_of_ble_eq_true rfl) (Nat.le_of_ble_eq_true rfl) (kc) ?_ ?_
  · rintro r h1 ⟨-, q⟩
    exact ⟨(ag_VS q).1, (ag_VS q).2.1⟩
  · rintro r h1 ⟨rfl, q⟩
    try dsimp only [Option.toList, List.cons_append, List.nil_append]
    refine at_ret dX7_shrink_9 rfl rfl ?_
    exact ⟨rfl, CS_v hC0 q, ag_v q⟩
set_option maxRecDepth 100000 in
theorem x_remove (hC : CS g v t n fl ib u) (iv : inv v) (x : Int32) : sg_K MX7_remove [.ref 0, .int x] g (fun r h' => r = some (.int (s_remove v x).1) ∧ CS h' (s_remove v x).2 t n fl ib u ∧ ag in64 g h') := by
  have hC0 := hC
  obtain ⟨c0, ⟨tc, sd, h0⟩, ⟨b, d, K, eV, hb, hR⟩, hD, hT, hX, -⟩ := hC
  have kc := k_removeInode (g := g) (a := 1) (D := 14) (d := d) (by omega) (by decide) hD hb hR iv x
  rw [← eV] at kc
  show sg_A MX7_remove 0 [some (.ref 0), some (.int x)] [] _ _
  refine at_ld (i := 0) dX7_remove_0 rfl rfl rfl ?_
  refine at_get dX7_remove_1 fX7_21 h0 (by omega) rfl ?_
  refine at_ld (i := 1) dX7_remove_4 rfl rfl rfl ?_
  refine at_cv [_] dX7_remove_5 mX0_removeInode ⟨Nat.le_of_ble_eq_true rfl, Nat.le_of_ble_eq_true rfl⟩ lX7_246 iX0_removeInode rfl rfl hD.1 (by omega) rfl (Nat.le_of_ble_eq_true rfl) (Nat.le_of_ble_eq_true rfl) (kc) ?_ ?_
  · rintro r h1 ⟨-, q⟩
    exact ⟨(ag_VS q).1, (ag_VS q).2.1⟩
  · rintro r h1 ⟨rfl, q⟩
    try dsimp only [Option.toList, List.cons_append, List.nil_append]
    refine at_ret dX7_remove_8 rfl rfl ?_
    exact ⟨rfl, CS_v hC0 q, ag_v q⟩
set_option maxRecDepth 100000 in
theorem x_move (hC : CS g v t n fl ib u) (iv : inv v) (x y z : Int32) : sg_K MX7_move [.ref 0, .int x, .int y, .int z] g (fun r h' => r = some (.int (s_move v x y z).1) ∧ CS h' (s_move v x y z).2 t n fl ib u ∧ ag in64 g h') := by
  have hC0 := hC
  obtain ⟨c0, ⟨tc, sd, h0⟩, ⟨b, d, K, eV, hb, hR⟩, hD, hT, hX, -⟩ := hC
  have kc := k_moveInode (g := g) (a := 1) (D := 14) (d := d) (by omega) (by decide) hD hb hR iv x y z
  rw [← eV] at kc
  show sg_A MX7_move 0 [some (.ref 0), some (.int x), some (.int y), some (.int z)] [] _ _
  refine at_ld (i := 0) dX7_move_0 rfl rfl rfl ?_
  refine at_get dX7_move_1 fX7_21 h0 (by omega) rfl ?_
  refine at_ld (i := 1) dX7_move_4 rfl rfl rfl ?_
  refine at_ld (i := 2) dX7_move_5 rfl rfl rfl ?_
  refine at_ld (i := 3) dX7_move_6 rfl rfl rfl ?_
  refine at_cv [_, _, _] dX7_move_7 mX0_moveInode ⟨Nat.le_of_ble_eq_true rfl, Nat.le_of_ble_eq_true rfl⟩ lX7_249 iX0_moveInode rfl rfl hD.1 (by omega) rfl (Nat.le_of_ble_eq_true rfl) (Nat.le_of_ble_eq_true rfl) (kc) ?_ ?_
  · rintro r h1 ⟨-, q⟩
    exact ⟨(ag_VS q).1, (ag_VS q).2.1⟩
  · rintro r h1 ⟨rfl, q⟩
    try dsimp only [Option.toList, List.cons_append, List.nil_append]
    refine at_ret dX7_move_10 rfl rfl ?_
    exact ⟨rfl, CS_v hC0 q, ag_v q⟩
set_option maxRecDepth 100000 in
theorem x_gather (hC : CS g v t n fl ib u) (iv : inv v) (x : Int32) : sg_K MX7_gather [.ref 0, .int x] g (fun r h' => r = some (.int (s_gather v x).1) ∧ CS h' (s_gather v x).2 t n fl ib u ∧ ag in64 g h') := by
  have hC0 := hC
  obtain ⟨c0, ⟨tc, sd, h0⟩, ⟨b, d, K, eV, hb, hR⟩, hD, hT, hX, -⟩ := hC
  have kc := k_gatherFile (g := g) (a := 1) (D := 14) (d := d) (by omega) (by decide) hD hb hR iv x
  rw [← eV] at kc
  show sg_A MX7_gather 0 [some (.ref 0), some (.int x)] [] _ _
  refine at_ld (i := 0) dX7_gather_0 rfl rfl rfl ?_
  refine at_get dX7_gather_1 fX7_21 h0 (by omega) rfl ?_
  refine at_ld (i := 1) dX7_gather_4 rfl rfl rfl ?_
  refine at_cv [_] dX7_gather_5 mX0_gatherFile ⟨Nat.le_of_ble_eq_true rfl, Nat.le_of_ble_eq_true rfl⟩ lX7_252 iX0_gatherFile rfl rfl hD.1 (by omega) rfl (Nat.le_of_ble_eq_true rfl) (Nat.le_of_ble_eq_true rfl) (kc) ?_ ?_
  · rintro r h1 ⟨-, q⟩
    exact ⟨(ag_VS q).1, (ag_VS q).2.1⟩
  · rintro r h1 ⟨rfl, q⟩
    try dsimp only [Option.toList, List.cons_append, List.nil_append]
    refine at_ret dX7_gather_8 rfl rfl ?_
    exact ⟨rfl, CS_v hC0 q, ag_v q⟩
set_option maxRecDepth 100000 in
theorem x_flip (hC : CS g v t n fl ib u) (iv : inv v) (x : Int32) : sg_K MX7_flip [.ref 0, .int x] g (fun r h' => r = some (.int (s_flip v x).1) ∧ CS h' (s_flip v x).2 t n fl ib u ∧ ag in64 g h') := by
  have w := iv.1.1
  have hgb := wf_gb w.1
  have hge := gb_ge w.1.1.1 w.1.2.1.1
  have hC0 := hC
  obtain ⟨c0, ⟨tc, sd, h0⟩, ⟨b, d, K, eV, hb, hR⟩, hD, hT, hX, -⟩ := hC
  have hV : sg_at g 1 (.inr (6, [.ref (1 + 1), .ref (1 + 2), .ref (1 + 4), .ref (1 + 6), .int (nI (v 6)), .int (nI (v 7))])) := by rw [eV]; exact vo_V (by omega)
  have hY : sg_at g (1 + 1) (.inr (3, lay v)) := by rw [eV]; exact vo_Y (by omega)
  have hF : FM g (1 + 2) (1 + 1) v b := by rw [eV]; exact vo_F (by omega) (by decide)
  show sg_A MX7_flip 0 [some (.ref 0), some (.int x), none] [] _ _
  generalize hS : s_flip v x = S
  refine at_ld (i := 0) dX7_flip_0 rfl rfl rfl ?_
  refine at_get dX7_flip_1 fX7_10 h0 (by omega) rfl ?_
  refine at_get dX7_flip_4 fX7_173 hV (by omega) rfl ?_
  refine at_ld (i := 1) dX7_flip_7 rfl rfl rfl ?_
  refine at_rv [_] dX7_flip_8 mX3_isFragment ⟨Nat.le_of_ble_eq_true rfl, Nat.le_of_ble_eq_true rfl⟩ lX7_225 iX3_isFragment rfl rfl hY (by omega) rfl (Nat.le_of_ble_eq_true rfl) (Nat.le_of_ble_eq_true rfl) ⟨rfl, rfl⟩ (k_isFragment hY (by decide) w.1 x) ?_
  refine at_zne 16 dX7_flip_11 (by decide) (fun c => ?_) (fun c => ?_)
  · have c1 := bI_1 c
    rw [s_flip, if_pos c1] at hS
    rw [fragI] at c1
    obtain ⟨k, -, hk, rfl⟩ := inR_of (by omega) c1
    rw [nI_clamp (by omega)] at hS
    have kp := fun f => k_put hF k 1 f (by omega) (by omega)
    have ev : ∀ b', sg_up g (1 + 2 + 1) (.inl (false, 32, b')) = vo g 1 v b' d K (nI (v 6)) (nI (v 7)) := fun b' => (congrArg (fun q => sg_up q (1 + 2 + 1) (.inl (false, 32, b'))) eV).trans (vo_ub1 _)
    simp only [ev] at kp
    have fin : ∀ f : Bool, f = fr v k → VS g 1 (vf_upd v (8 + k) (if fr v k = true then 0 else 1)) (vo g 1 v (bput b k 1 (!f)) d K (nI (v 6)) (nI (v 7))) := by
      rintro f rfl
      have hio : ∀ i f, io (vf_upd v (8 + k) (if fr v k = true then 0 else 1)) i f = io v i f := fun i f => vu_n _ _ _ _ (by omega)
      refine VS_of (fun c hc => vu_n _ _ _ _ (by omega)) (by rw [vu_n _ _ _ _ (by omega)]) (by rw [vu_n _ _ _ _ (by omega)]) (mbq_e (fun y hy => ?_) (mbq_put hb (by omega) (by omega) _)) (iR_io w hR hio)
      unfold setq
      by_cases e : y = k
      · subst e
        rw [if_pos (by omega)]
        show _ = decide (vf_upd v (8 + y) _ (8 + y) = 1)
        rw [vu_s]
        cases fr v y <;> rfl
      · rw [if_neg (by omega)]
        unfold fr
        rw [vu_n _ _ _ _ (by omega)]
    refine at_ld (i := 0) dX7_flip_16 rfl rfl rfl ?_
    refine at_get dX7_flip_17 fX7_10 h0 (by omega) rfl ?_
    refine at_get dX7_flip_20 fX7_145 hV (by omega) rfl ?_
    refine at_ld (i := 1) dX7_flip_23 rfl rfl rfl ?_
    refine at_rv [_] dX7_flip_24 mX1_isFree ⟨Nat.le_of_ble_eq_true rfl, Nat.le_of_ble_eq_true rfl⟩ lX7_228 iX1_isFree rfl rfl hF.1 (by omega) rfl (Nat.le_of_ble_eq_true rfl) (Nat.le_of_ble_eq_true rfl) ⟨rfl, rfl⟩ (k_isFree hF hb k (by omega)) ?_
    refine at_st (i := 2) dX7_flip_27 rfl rfl (Nat.le_of_ble_eq_true rfl) rfl ?_
    try dsimp only [List.set_cons_succ, List.set_cons_zero]
    refine at_ld (i := 0) dX7_flip_28 rfl rfl rfl ?_
    refine at_get dX7_flip_29 fX7_10 h0 (by omega) rfl ?_
    refine at_get dX7_flip_32 fX7_145 hV (by omega) rfl ?_
    refine at_ld (i := 1) dX7_flip_35 rfl rfl rfl ?_
    refine at_k (nI 1) dX7_flip_36 rfl (by decide) ?_
    refine at_ld (i := 2) dX7_flip_37 rfl rfl rfl ?_
    cases hf : fr v k with
    | true =>
      rw [hf] at hS
      refine at_zne 45 dX7_flip_38 (by decide) (fun _ => ?_) (fun cz_ => absurd ((by decide)) cz_)
      refine at_k (nI 0) dX7_flip_45 rfl (by decide) ?_
      refine at_wv [_, _, _] dX7_flip_46 mX1_put ⟨Nat.le_of_ble_eq_true rfl, Nat.le_of_ble_eq_true rfl⟩ lX7_271 iX1_put rfl rfl hF.1 (by omega) rfl (Nat.le_of_ble_eq_true rfl) (Nat.le_of_ble_eq_true rfl) ⟨rfl, rfl⟩ (kp false) ⟨rfl, rfl⟩ ?_
      try dsimp only [Option.toList, List.cons_append, List.nil_append]
      refine at_ld (i := 2) dX7_flip_49 rfl rfl rfl ?_
      refine at_zeq 57 dX7_flip_50 (by decide) (fun cz_ => absurd cz_ ((by decide))) (fun _ => ?_)
      refine at_k (nI 1) dX7_flip_53 rfl (by decide) ?_
      refine at_goto 58 dX7_flip_54 (by decide) ?_
      refine at_ret dX7_flip_58 rfl rfl ?_
      subst hS
      have f1 := fin true hf.symm
      rw [hf] at f1
      exact ⟨rfl, CS_v hC0 f1, ag_v f1⟩
    | false =>
      rw [hf] at hS
      refine at_zne 45 dX7_flip_38 (by decide) (fun cz_ => absurd cz_ (fun q => q rfl)) (fun _ => ?_)
      refine at_k (nI 1) dX7_flip_41 rfl (by decide) ?_
      refine at_goto 46 dX7_flip_42 (by decide) ?_
      refine at_wv [_, _, _] dX7_flip_46 mX1_put ⟨Nat.le_of_ble_eq_true rfl, Nat.le_of_ble_eq_true rfl⟩ lX7_271 iX1_put rfl rfl hF.1 (by omega) rfl (Nat.le_of_ble_eq_true rfl) (Nat.le_of_ble_eq_true rfl) ⟨rfl, rfl⟩ (kp true) ⟨rfl, rfl⟩ ?_
      try dsimp only [Option.toList, List.cons_append, List.nil_append]
      refine at_ld (i := 2) dX7_flip_49 rfl rfl rfl ?_
      refine at_zeq 57 dX7_flip_50 (by decide) (fun _ => ?_) (fun cz_ => absurd (rfl) cz_)
      refine at_k (nI 0) dX7_flip_57 rfl (by decide) ?_
      refine at_ret dX7_flip_58 rfl rfl ?_
      subst hS
      have f1 := fin false hf.symm
      rw [hf] at f1
      exact ⟨rfl, CS_v hC0 f1, ag_v f1⟩
  · refine at_k (-1) dX7_flip_14 rfl (by decide) ?_
    refine at_ret dX7_flip_15 rfl rfl ?_
    rw [s_flip, if_neg (fun q => c (by rw [q]; decide))] at hS
    subst hS
    exact ⟨rfl, hC0, ag_r _ _⟩
set_option maxRecDepth 100000 in
theorem x_check (hC : CS g v t n fl ib u) (iv : inv v) (x : Int32) : sg_K MX7_check [.ref 0, .int x] g (fun r h' => r = some (.int (s_check v x)) ∧ CS h' v t n fl ib u ∧ ag in64 g h') := by
  have w := iv.1.1
  have hC0 := hC
  obtain ⟨c0, ⟨tc, sd, h0⟩, ⟨b, d, K, eV, hb, hR⟩, hD, hT, hX, -⟩ := hC
  have hV : sg_at g 1 (.inr (6, [.ref (1 + 1), .ref (1 + 2), .ref (1 + 4), .ref (1 + 6), .int (nI (v 6)), .int (nI (v 7))])) := by rw [eV]; exact vo_V (by omega)
  show sg_A MX7_check 0 [some (.ref 0), some (.int x)] [] _ _
  have bad : ¬ inR x 0 2 = true → sg_A MX7_check 9 [some (.ref 0), some (.int x)] [] g (fun r h' => r = some (.int (s_check v x)) ∧ CS h' v t n fl ib u ∧ ag in64 g h') := by
    intro q
    refine at_k (-1) dX7_check_9 rfl (by decide) ?_
    refine at_ret dX7_check_10 rfl rfl ?_
    unfold s_check
    rw [if_neg q]
    exact ⟨rfl, hC0, ag_r _ _⟩
  have kw := fun f => k_wrongs (g := g) (a := 1) (v := v) (b := b) (d := d) (K := K) (e := nI (v 6)) (m := nI (v 7)) (by omega) (by decide) hb hR w iv.1.2.2 f
  have k1 := k_firstWrong (g := g) (a := 1) (v := v) (b := b) (d := d) (K := K) (e := nI (v 6)) (m := nI (v 7)) (by omega) (by decide) hb hR w iv.1.2.2
  rw [← eV] at kw k1
  refine at_ld (i := 1) dX7_check_0 rfl rfl rfl ?_
  refine at_zlt 9 dX7_check_1 (by decide) (fun c => ?_) (fun c => ?_)
  · refine bad (fun q => ?_)
    obtain ⟨k, -, hk, rfl⟩ := inR_of (by omega) q
    exact nI_pos (by omega) c
  · obtain ⟨k, hk, rfl⟩ := nI_of c
    refine at_ld (i := 1) dX7_check_4 rfl rfl rfl ?_
    refine at_k (nI 2) dX7_check_5 rfl (by decide) ?_
    refine at_ile 11 dX7_check_6 (by decide) (fun c2 => ?_) (fun c2 => bad (fun q => ?_))
    · have hk2 := (nI_leI hk (by decide)).mp c2
      have es : s_check v (nI k) = chk v k := by
        unfold s_check
        rw [if_pos (by rw [inR_nI hk]; exact decide_eq_true ⟨by omega, hk2⟩), nI_clamp hk]
      rw [es]
      have wr := fun f => wrg_c w.1 iv.2.2.1 f
      rcases (show k = 0 ∨ k = 1 ∨ k = 2 by omega) with rfl | rfl | rfl
      · refine at_ld (i := 1) dX7_check_11 rfl rfl rfl ?_
        refine at_k (nI 2) dX7_check_12 rfl (by decide) ?_
        refine at_ine 24 dX7_check_13 (by decide) (fun _ => ?_) (fun cz_ => absurd ((by decide)) cz_)
        refine at_ld (i := 0) dX7_check_24 rfl rfl rfl ?_
        refine at_get dX7_check_25 fX7_10 h0 (by omega) rfl ?_
        refine at_ld (i := 1) dX7_check_28 rfl rfl rfl ?_
        refine at_zne 36 dX7_check_29 (by decide) (fun cz_ => absurd cz_ (fun q => q rfl)) (fun _ => ?_)
        refine at_k (nI 1) dX7_check_32 rfl (by decide) ?_
        refine at_goto 37 dX7_check_33 (by decide) ?_
        refine at_cv [_] dX7_check_37 mX6_wrongs ⟨Nat.le_of_ble_eq_true rfl, Nat.le_of_ble_eq_true rfl⟩ lX7_278 iX6_wrongs rfl rfl hV (by omega) rfl (Nat.le_of_ble_eq_true rfl) (Nat.le_of_ble_eq_true rfl) (kw true) ?_ ?_
        · rintro r h1 ⟨-, d', rfl⟩
          exact ⟨rfl, rfl⟩
        · rintro r h1 ⟨rfl, d', rfl⟩
          try dsimp only [Option.toList, List.cons_append, List.nil_append]
          refine at_ret dX7_check_40 rfl rfl ?_
          rw [wr]
          exact ⟨rfl, CS_v hC0 ⟨b, d', K, rfl, hb, hR⟩, ag_v ⟨b, d', K, rfl, hb, hR⟩⟩
      · refine at_ld (i := 1) dX7_check_11 rfl rfl rfl ?_
        refine at_k (nI 2) dX7_check_12 rfl (by decide) ?_
        refine at_ine 24 dX7_check_13 (by decide) (fun _ => ?_) (fun cz_ => absurd ((by decide)) cz_)
        refine at_ld (i := 0) dX7_check_24 rfl rfl rfl ?_
        refine at_get dX7_check_25 fX7_10 h0 (by omega) rfl ?_
        refine at_ld (i := 1) dX7_check_28 rfl rfl rfl ?_
        refine at_zne 36 dX7_check_29 (by decide) (fun _ => ?_) (fun cz_ => absurd ((by decide)) cz_)
        refine at_k (nI 0) dX7_check_36 rfl (by decide) ?_
        refine at_cv [_] dX7_check_37 mX6_wrongs ⟨Nat.le_of_ble_eq_true rfl, Nat.le_of_ble_eq_true rfl⟩ lX7_278 iX6_wrongs rfl rfl hV (by omega) rfl (Nat.le_of_ble_eq_true rfl) (Nat.le_of_ble_eq_true rfl) (kw false) ?_ ?_
        · rintro r h1 ⟨-, d', rfl⟩
          exact ⟨rfl, rfl⟩
        · rintro r h1 ⟨rfl, d', rfl⟩
          try dsimp only [Option.toList, List.cons_append, List.nil_append]
          refine at_ret dX7_check_40 rfl rfl ?_
          rw [wr]
          exact ⟨rfl, CS_v hC0 ⟨b, d', K, rfl, hb, hR⟩, ag_v ⟨b, d', K, rfl, hb, hR⟩⟩
      · refine at_ld (i := 1) dX7_check_11 rfl rfl rfl ?_
        refine at_k (nI 2) dX7_check_12 rfl (by decide) ?_
        refine at_ine 24 dX7_check_13 (by decide) (fun cz_ => absurd cz_ (fun q => q rfl)) (fun _ => ?_)
        refine at_ld (i := 0) dX7_check_16 rfl rfl rfl ?_
        refine at_get dX7_check_17 fX7_10 h0 (by omega) rfl ?_
        refine at_cv [] dX7_check_20 mX6_firstWrong ⟨Nat.le_of_ble_eq_true rfl, Nat.le_of_ble_eq_true rfl⟩ lX7_275 iX6_firstWrong rfl rfl hV (by omega) rfl (Nat.le_of_ble_eq_true rfl) (Nat.le_of_ble_eq_true rfl) (k1) ?_ ?_
        · rintro r h1 ⟨-, d', rfl⟩
          exact ⟨rfl, rfl⟩
        · rintro r h1 ⟨rfl, d', rfl⟩
          try dsimp only [Option.toList, List.cons_append, List.nil_append]
          refine at_ret dX7_check_23 rfl rfl ?_
          exact ⟨rfl, CS_v hC0 ⟨b, d', K, rfl, hb, hR⟩, ag_v ⟨b, d', K, rfl, hb, hR⟩⟩
    · rw [inR_nI hk] at q
      exact c2 (nI_le (of_decide_eq_true q).2 (by decide))
set_option maxRecDepth 100000 in
theorem x_mend (hC : CS g v t n fl ib u) (iv : inv v) : sg_K MX7_mend [.ref 0] g (fun r h' => r = some (.int (s_mend v).1) ∧ CS h' (s_mend v).2 t n fl ib u ∧ ag in64 g h') := by
  have w := iv.1.1
  have hgb := wf_gb w.1
  have hC0 := hC
  obtain ⟨c0, ⟨tc, sd, h0⟩, ⟨b, d, K, eV, hb, hR⟩, hD, hT, hX, -⟩ := hC
  have hV : sg_at g 1 (.inr (6, [.ref (1 + 1), .ref (1 + 2), .ref (1 + 4), .ref (1 + 6), .int (nI (v 6)), .int (nI (v 7))])) := by rw [eV]; exact vo_V (by omega)
  have kw := fun d f => k_wrongs (g := g) (a := 1) (v := v) (b := b) (d := d) (K := K) (e := nI (v 6)) (m := nI (v 7)) (by omega) (by decide) hb hR w iv.1.2.2 f
  have k1 := kw d true
  rw [← eV] at k1
  have hh0 : ∀ b d K e m, sg_at (vo g 1 v b d K e m) 0 (.inr (7, sgF tc fl (ib 0) (ib 1) sd)) := fun b d K e m => vo_O (by omega) h0
  have hhV : ∀ b d, sg_at (vo g 1 v b d K (nI (v 6)) (nI (v 7))) 1 (.inr (6, [.ref (1 + 1), .ref (1 + 2), .ref (1 + 4), .ref (1 + 6), .int (nI (v 6)), .int (nI (v 7))])) := fun b d => vo_V (by omega)
  show sg_A MX7_mend 0 [some (.ref 0), none] [] _ _
  refine at_ld (i := 0) dX7_mend_0 rfl rfl rfl ?_
  refine at_get dX7_mend_1 fX7_10 h0 (by omega) rfl ?_
  refine at_k (nI 1) dX7_mend_4 rfl (by decide) ?_
  refine at_cv [_] dX7_mend_5 mX6_wrongs ⟨Nat.le_of_ble_eq_true rfl, Nat.le_of_ble_eq_true rfl⟩ lX7_278 iX6_wrongs rfl rfl hV (by omega) rfl (Nat.le_of_ble_eq_true rfl) (Nat.le_of_ble_eq_true rfl) (k1) ?_ ?_
  · rintro r h1 ⟨-, d', rfl⟩
    exact ⟨rfl, rfl⟩
  · rintro r h1 ⟨rfl, d1, rfl⟩
    try dsimp only [Option.toList, List.cons_append, List.nil_append]
    refine at_ld (i := 0) dX7_mend_8 rfl rfl rfl ?_
    refine at_get dX7_mend_9 fX7_10 (hh0 _ _ _ _ _) (by omega) rfl ?_
    refine at_k (nI 0) dX7_mend_12 rfl (by decide) ?_
    refine at_cv [_] dX7_mend_13 mX6_wrongs ⟨Nat.le_of_ble_eq_true rfl, Nat.le_of_ble_eq_true rfl⟩ lX7_278 iX6_wrongs rfl rfl (hhV _ _) (by omega) rfl (Nat.le_of_ble_eq_true rfl) (Nat.le_of_ble_eq_true rfl) (kw d1 false) ?_ ?_
    · rintro r h1 ⟨-, d', rfl⟩
      exact ⟨rfl, rfl⟩
    · rintro r h1 ⟨rfl, d2, rfl⟩
      try dsimp only [Option.toList, List.cons_append, List.nil_append]
      refine at_bin dX7_mend_16 rfl ?_
      try dsimp only
      rw [nI_add, wrg_s w.1 iv.2.2.1]
      refine at_st (i := 1) dX7_mend_17 rfl rfl (Nat.le_of_ble_eq_true rfl) rfl ?_
      try dsimp only [List.set_cons_succ, List.set_cons_zero]
      refine at_ld (i := 0) dX7_mend_18 rfl rfl rfl ?_
      refine at_get dX7_mend_19 fX7_10 (hh0 _ _ _ _ _) (by omega) rfl ?_
      refine at_cv [] dX7_mend_22 mX6_mendMap ⟨Nat.le_of_ble_eq_true rfl, Nat.le_of_ble_eq_true rfl⟩ lX7_281 iX6_mendMap rfl rfl (hhV _ _) (by omega) rfl (Nat.le_of_ble_eq_true rfl) (Nat.le_of_ble_eq_true rfl) (k_mendMap (g := g) (a := 1) (v := v) (b := b) (d := d2) (K := K) (e := nI (v 6)) (m := nI (v 7)) (by omega) (by decide) hR w iv.1.2.2) ?_ ?_
      · rintro r h1 ⟨-, b', d', rfl, -⟩
        exact ⟨rfl, rfl⟩
      · rintro r h1 ⟨rfl, b', d', rfl, hb'⟩
        try dsimp only [Option.toList, List.cons_append, List.nil_append]
        refine at_ld (i := 1) dX7_mend_25 rfl rfl rfl ?_
        refine at_ret dX7_mend_26 rfl rfl ?_
        have hc := fun c (hc : c < 8) => mnd_c v (4 * v 0 * v 1) c (Or.inl hc)
        have f1 : VS g 1 (mnd v (4 * v 0 * v 1)) (vo g 1 v b' d' K (nI (v 6)) (nI (v 7))) := VS_of (fun c hc2 => hc c (by omega)) (by rw [hc 6 (by decide)]) (by rw [hc 7 (by decide)]) (mbq_e (fun x hx => (fr_mnd iv.2.2.1 hx).symm) hb') (iR_io w hR (mnd_io v _ (by rw [fragI]; omega)))
        exact ⟨rfl, CS_v hC0 f1, ag_v f1⟩
set_option maxRecDepth 100000 in
theorem x_hasImage (hC : CS g v t n fl ib u) (k : Nat) (hk : k < 2) : sg_Kr MX7_hasImage [.ref 0, .int (nI k)] g (.int (bI (ib k))) := by
  obtain ⟨c0, ⟨tc, sd, h0⟩, ⟨b, d, K, eV, hb, hR⟩, hD, hT, hX, -⟩ := hC
  show sg_A MX7_hasImage 0 [some (.ref 0), some (.int (nI k))] [] _ _
  rcases (show k = 0 ∨ k = 1 by omega) with rfl | rfl
  · refine at_ld (i := 1) dX7_hasImage_0 rfl rfl rfl ?_
    refine at_zne 11 dX7_hasImage_1 (by decide) (fun cz_ => absurd cz_ (fun q => q rfl)) (fun _ => ?_)
    refine at_ld (i := 0) dX7_hasImage_4 rfl rfl rfl ?_
    refine at_get dX7_hasImage_5 fX7_106 h0 (by omega) rfl ?_
    refine at_goto 15 dX7_hasImage_8 (by decide) ?_
    refine at_ret dX7_hasImage_15 rfl (bI_narr _) ?_
    exact ⟨rfl, rfl⟩
  · refine at_ld (i := 1) dX7_hasImage_0 rfl rfl rfl ?_
    refine at_zne 11 dX7_hasImage_1 (by decide) (fun _ => ?_) (fun cz_ => absurd ((by decide)) cz_)
    refine at_ld (i := 0) dX7_hasImage_11 rfl rfl rfl ?_
    refine at_get dX7_hasImage_12 fX7_110 h0 (by omega) rfl ?_
    refine at_ret dX7_hasImage_15 rfl (bI_narr _) ?_
    exact ⟨rfl, rfl⟩
end K3
