/-! THE REFERENCE: the calls that only tell -/
theorem c_inA (h : sg_H) (x : Int32) {la lb : Int64} (a b : Nat) (ea : la = lN a) (eb : lb = lN b) (ha : a < 2 ^ 31) (hb : b < 2 ^ 31) : sg_Kr MX8_in [.long x.toInt64, .long la, .long lb] h (.int (bI (inR x a b))) := by
  subst ea
  subst eb
  rw [← in_ab x ha hb]
  exact c_in h _ _ _
def rl15 (v : Nat → Nat) (n : Nat) : Nat := if n < 6 then v n else if n = 6 then room v else if n = 7 then fba v else if n < 10 then ofk v (n - 7) else if n < 13 then smd v n else v (n - 7)
def s_rule (v : Nat → Nat) (x : Int32) : Int32 := if inR x 0 14 = true then nI (rl15 v x.toNatClampNeg) else -1
def grp (v : Nat → Nat) (g n : Nat) : Nat := if n = 0 then frs v (4 * v 1 * g) (4 * v 1) else if n = 1 then fbs v g else if n = 2 then nts v g else if n = 3 then dcs v g else rns v g (n - 3)
def s_group (v : Nat → Nat) (g x : Int32) : Int32 := if inR g 0 (v 0 - 1) = true then (if inR x 0 6 = true then nI (grp v g.toNatClampNeg x.toNatClampNeg) else -1) else -1
def ind (v : Nat → Nat) (i n : Nat) : Int32 := if n = 0 then nI (io v i 0) else if io v i 0 = 0 then -4 else if n < 4 then nI (io v i n) else if n = 4 then nI (io v i 3 / 4) else if n = 5 then (if io v i 3 % 4 = 0 then -4 else nI (io v i 4)) else if n = 6 then nI (prs v i) else nI (flw v i)
def s_inode (v : Nat → Nat) (i x : Int32) : Int32 := if isI v i = true ∧ inR x 0 7 = true then ind v i.toNatClampNeg x.toNatClampNeg else -1
def s_block (v : Nat → Nat) (i k : Int32) : Int32 := if isI v i = true ∧ ¬ k < 0 then (if io v i.toNatClampNeg 0 ≠ 0 ∧ k.toNatClampNeg < io v i.toNatClampNeg 3 / 4 then nI (io v i.toNatClampNeg (5 + k.toNatClampNeg)) else -4) else -1
def s_fragment (v : Nat → Nat) (x w : Int32) : Int32 := if inR x 0 (4 * v 0 * v 1 - 1) = true ∧ inR w 0 1 = true then (if w = 0 then bI (fr v x.toNatClampNeg) else oI (own v x.toNatClampNeg)) else -1
def s_find (v : Nat → Nat) (d nm : Int32) : Int32 := if isDir v d = true ∧ inR nm 0 9 = true then oI (ino v d.toNatClampNeg nm.toNatClampNeg) else -1
def ents (v : Nat → Nat) (d : Nat) : Nat → Nat → Nat → Option Nat
  | 0, _, _ => none
  | m + 1, nm, l => match ino v d nm with
    | none => ents v d m (nm + 1) l
    | some i => if l = 0 then some i else ents v d m (nm + 1) (l - 1)
def s_entry (v : Nat → Nat) (d i : Int32) : Int32 := if isDir v d = true ∧ ¬ i < 0 then oI (ents v d.toNatClampNeg 10 0 i.toNatClampNeg) else -1
def s_where (v : Nat → Nat) (d k : Int32) : Int32 := if isDir v d = true ∧ inR k 1 2 = true then oI (gfr v d.toNatClampNeg k.toNatClampNeg) else -1
def chk (v : Nat → Nat) (n : Nat) : Int32 := if n = 0 then nI (cnt (fun x => fr v x && (own v x).isSome) (4 * v 0 * v 1)) else if n = 1 then nI (cnt (fun x => !fr v x && (own v x).isNone) (4 * v 0 * v 1)) else oI (srch (fun x => if fr v x = (own v x).isSome then some x else none) 0 (4 * v 0 * v 1))
def s_check (v : Nat → Nat) (x : Int32) : Int32 := if inR x 0 2 = true then chk v x.toNatClampNeg else -1
theorem inR_no {x : Int32} {a b : Nat} (h : ¬ inR x a b = true) : x.toInt < (a : Int) ∨ (b : Int) < x.toInt := by
  unfold inR at h
  rw [decide_eq_true_eq] at h
  omega
theorem ino_lt {v : Nat → Nat} {d nm i : Nat} (h : ino v d nm = some i) : i < v 0 * v 2 := by
  obtain ⟨j, h1, h2, h3⟩ := sr_ge _ _ h
  split at h3
  · cases h3; omega
  · cases h3
section R7
variable {h : sg_H} (A : Nat → Nat → Int32) (F : Nat → Int32) (v : Nat → Nat)
set_option maxRecDepth 100000 in
set_option maxHeartbeats 4000000 in
theorem c_rule (hn : 72 ≤ h.1) (w : wf v) (x : Int32) : sg_Kr MX8_rule [.ref 64, .int x] (mv h A F v) (.int (s_rule v x)) := by
  unfold s_rule
  by_cases hr : inR x 0 14 = true
  · rw [if_pos hr]
    obtain ⟨n, -, h2, rfl⟩ := inR_of (by decide) hr
    rw [nI_clamp (by omega)]
    show sg_A MX8_rule 0 [some (.ref 64), some (.int (nI n))] [] _ _
    refine at_ld (i := 1) dX8_rule_0 rfl rfl rfl ?_
    rcases (show n = 0 ∨ n = 1 ∨ n = 2 ∨ n = 3 ∨ n = 4 ∨ n = 5 ∨ n = 6 ∨ n = 7 ∨ n = 8 ∨ n = 9 ∨ n = 10 ∨ n = 11 ∨ n = 12 ∨ n = 13 ∨ n = 14 by omega) with rfl | rfl | rfl | rfl | rfl | rfl | rfl | rfl | rfl | rfl | rfl | rfl | rfl | rfl | rfl
    · refine at_tin 76 dX8_rule_1 (by decide) (by decide) rfl (by decide) ?_
      refine at_ld (i := 0) dX8_rule_76 rfl rfl rfl ?_
      refine at_get dX8_rule_77 fX8_7 (mv_o hn _ _ _) (by omega) rfl ?_
      refine at_ld (i := 1) dX8_rule_80 rfl rfl rfl ?_
      refine at_ald (0) dX8_rule_81 (mv_a hn _ _ _) rfl (by decide) (by decide) ?_
      refine at_ret dX8_rule_82 rfl rfl ?_
      exact ⟨rfl, rfl⟩
    · refine at_tin 76 dX8_rule_1 (by decide) (by decide) rfl (by decide) ?_
      refine at_ld (i := 0) dX8_rule_76 rfl rfl rfl ?_
      refine at_get dX8_rule_77 fX8_7 (mv_o hn _ _ _) (by omega) rfl ?_
      refine at_ld (i := 1) dX8_rule_80 rfl rfl rfl ?_
      refine at_ald (1) dX8_rule_81 (mv_a hn _ _ _) rfl (by decide) (by decide) ?_
      refine at_ret dX8_rule_82 rfl rfl ?_
      exact ⟨rfl, rfl⟩
    · refine at_tin 76 dX8_rule_1 (by decide) (by decide) rfl (by decide) ?_
      refine at_ld (i := 0) dX8_rule_76 rfl rfl rfl ?_
      refine at_get dX8_rule_77 fX8_7 (mv_o hn _ _ _) (by omega) rfl ?_
      refine at_ld (i := 1) dX8_rule_80 rfl rfl rfl ?_
      refine at_ald (2) dX8_rule_81 (mv_a hn _ _ _) rfl (by decide) (by decide) ?_
      refine at_ret dX8_rule_82 rfl rfl ?_
      exact ⟨rfl, rfl⟩
    · refine at_tin 76 dX8_rule_1 (by decide) (by decide) rfl (by decide) ?_
      refine at_ld (i := 0) dX8_rule_76 rfl rfl rfl ?_
      refine at_get dX8_rule_77 fX8_7 (mv_o hn _ _ _) (by omega) rfl ?_
      refine at_ld (i := 1) dX8_rule_80 rfl rfl rfl ?_
      refine at_ald (3) dX8_rule_81 (mv_a hn _ _ _) rfl (by decide) (by decide) ?_
      refine at_ret dX8_rule_82 rfl rfl ?_
      exact ⟨rfl, rfl⟩
    · refine at_tin 76 dX8_rule_1 (by decide) (by decide) rfl (by decide) ?_
      refine at_ld (i := 0) dX8_rule_76 rfl rfl rfl ?_
      refine at_get dX8_rule_77 fX8_7 (mv_o hn _ _ _) (by omega) rfl ?_
      refine at_ld (i := 1) dX8_rule_80 rfl rfl rfl ?_
      refine at_ald (4) dX8_rule_81 (mv_a hn _ _ _) rfl (by decide) (by decide) ?_
      refine at_ret dX8_rule_82 rfl rfl ?_
      exact ⟨rfl, rfl⟩
    · refine at_tin 76 dX8_rule_1 (by decide) (by decide) rfl (by decide) ?_
      refine at_ld (i := 0) dX8_rule_76 rfl rfl rfl ?_
      refine at_get dX8_rule_77 fX8_7 (mv_o hn _ _ _) (by omega) rfl ?_
      refine at_ld (i := 1) dX8_rule_80 rfl rfl rfl ?_
      refine at_ald (5) dX8_rule_81 (mv_a hn _ _ _) rfl (by decide) (by decide) ?_
      refine at_ret dX8_rule_82 rfl rfl ?_
      exact ⟨rfl, rfl⟩
    · refine at_tin 83 dX8_rule_1 (by decide) (by decide) rfl (by decide) ?_
      refine at_ld (i := 0) dX8_rule_83 rfl rfl rfl ?_
      refine at_rv [] dX8_rule_84 mX8_room ⟨Nat.le_of_ble_eq_true rfl, Nat.le_of_ble_eq_true rfl⟩ lX8_206 iX8_room rfl rfl (mv_o hn _ _ _) (by omega) rfl (Nat.le_of_ble_eq_true rfl) (Nat.le_of_ble_eq_true rfl) ⟨rfl, rfl⟩ (c_room A F v hn w.1 w.2.1) ?_
      refine at_ret dX8_rule_87 rfl rfl ?_
      exact ⟨rfl, rfl⟩
    · refine at_tin 88 dX8_rule_1 (by decide) (by decide) rfl (by decide) ?_
      refine at_ld (i := 0) dX8_rule_88 rfl rfl rfl ?_
      refine at_rv [] dX8_rule_89 mX8_allFreeBlocks ⟨Nat.le_of_ble_eq_true rfl, Nat.le_of_ble_eq_true rfl⟩ lX8_209 iX8_allFreeBlocks rfl rfl (mv_o hn _ _ _) (by omega) rfl (Nat.le_of_ble_eq_true rfl) (Nat.le_of_ble_eq_true rfl) ⟨rfl, rfl⟩ (c_allFreeBlocks A F v hn w.1 w.2.1) ?_
      refine at_ret dX8_rule_92 rfl rfl ?_
      exact ⟨rfl, rfl⟩
    · refine at_tin 93 dX8_rule_1 (by decide) (by decide) rfl (by decide) ?_
      refine at_ld (i := 0) dX8_rule_93 rfl rfl rfl ?_
      refine at_ld (i := 1) dX8_rule_94 rfl rfl rfl ?_
      refine at_k (nI 7) dX8_rule_95 rfl (by decide) ?_
      refine at_bin dX8_rule_97 rfl ?_
      try dsimp only
      rw [nI_sub (by decide)]
      refine at_rv [_] dX8_rule_98 mX8_ofKind ⟨Nat.le_of_ble_eq_true rfl, Nat.le_of_ble_eq_true rfl⟩ lX8_212 iX8_ofKind rfl rfl (mv_o hn _ _ _) (by omega) rfl (Nat.le_of_ble_eq_true rfl) (Nat.le_of_ble_eq_true rfl) ⟨rfl, rfl⟩ (c_ofKind A F v hn w (8 - 7) (by decide)) ?_
      refine at_ret dX8_rule_101 rfl rfl ?_
      exact ⟨rfl, rfl⟩
    · refine at_tin 93 dX8_rule_1 (by decide) (by decide) rfl (by decide) ?_
      refine at_ld (i := 0) dX8_rule_93 rfl rfl rfl ?_
      refine at_ld (i := 1) dX8_rule_94 rfl rfl rfl ?_
      refine at_k (nI 7) dX8_rule_95 rfl (by decide) ?_
      refine at_bin dX8_rule_97 rfl ?_
      try dsimp only
      rw [nI_sub (by decide)]
      refine at_rv [_] dX8_rule_98 mX8_ofKind ⟨Nat.le_of_ble_eq_true rfl, Nat.le_of_ble_eq_true rfl⟩ lX8_212 iX8_ofKind rfl rfl (mv_o hn _ _ _) (by omega) rfl (Nat.le_of_ble_eq_true rfl) (Nat.le_of_ble_eq_true rfl) ⟨rfl, rfl⟩ (c_ofKind A F v hn w (9 - 7) (by decide)) ?_
      refine at_ret dX8_rule_101 rfl rfl ?_
      exact ⟨rfl, rfl⟩
    · refine at_tin 102 dX8_rule_1 (by decide) (by decide) rfl (by decide) ?_
      refine at_ld (i := 0) dX8_rule_102 rfl rfl rfl ?_
      refine at_ld (i := 1) dX8_rule_103 rfl rfl rfl ?_
      refine at_rv [_] dX8_rule_104 mX8_summed ⟨Nat.le_of_ble_eq_true rfl, Nat.le_of_ble_eq_true rfl⟩ lX8_215 iX8_summed rfl rfl (mv_o hn _ _ _) (by omega) rfl (Nat.le_of_ble_eq_true rfl) (Nat.le_of_ble_eq_true rfl) ⟨rfl, rfl⟩ (c_summed A F v hn w 10 (by decide)) ?_
      refine at_ret dX8_rule_107 rfl rfl ?_
      exact ⟨rfl, rfl⟩
    · refine at_tin 102 dX8_rule_1 (by decide) (by decide) rfl (by decide) ?_
      refine at_ld (i := 0) dX8_rule_102 rfl rfl rfl ?_
      refine at_ld (i := 1) dX8_rule_103 rfl rfl rfl ?_
      refine at_rv [_] dX8_rule_104 mX8_summed ⟨Nat.le_of_ble_eq_true rfl, Nat.le_of_ble_eq_true rfl⟩ lX8_215 iX8_summed rfl rfl (mv_o hn _ _ _) (by omega) rfl (Nat.le_of_ble_eq_true rfl) (Nat.le_of_ble_eq_true rfl) ⟨rfl, rfl⟩ (c_summed A F v hn w 11 (by decide)) ?_
      refine at_ret dX8_rule_107 rfl rfl ?_
      exact ⟨rfl, rfl⟩
    · refine at_tin 102 dX8_rule_1 (by decide) (by decide) rfl (by decide) ?_
      refine at_ld (i := 0) dX8_rule_102 rfl rfl rfl ?_
      refine at_ld (i := 1) dX8_rule_103 rfl rfl rfl ?_
      refine at_rv [_] dX8_rule_104 mX8_summed ⟨Nat.le_of_ble_eq_true rfl, Nat.le_of_ble_eq_true rfl⟩ lX8_215 iX8_summed rfl rfl (mv_o hn _ _ _) (by omega) rfl (Nat.le_of_ble_eq_true rfl) (Nat.le_of_ble_eq_true rfl) ⟨rfl, rfl⟩ (c_summed A F v hn w 12 (by decide)) ?_
      refine at_ret dX8_rule_107 rfl rfl ?_
      exact ⟨rfl, rfl⟩
    · refine at_tin 108 dX8_rule_1 (by decide) (by decide) rfl (by decide) ?_
      refine at_ld (i := 0) dX8_rule_108 rfl rfl rfl ?_
      refine at_get dX8_rule_109 fX8_7 (mv_o hn _ _ _) (by omega) rfl ?_
      refine at_k (nI 6) dX8_rule_112 rfl (by decide) ?_
      refine at_ld (i := 1) dX8_rule_114 rfl rfl rfl ?_
      refine at_bin dX8_rule_115 rfl ?_
      refine at_k (nI 13) dX8_rule_116 rfl (by decide) ?_
      refine at_bin dX8_rule_118 rfl ?_
      refine at_ald (6) dX8_rule_119 (mv_a hn _ _ _) (by decide) (by decide) (by decide) ?_
      refine at_ret dX8_rule_120 rfl rfl ?_
      exact ⟨rfl, rfl⟩
    · refine at_tin 108 dX8_rule_1 (by decide) (by decide) rfl (by decide) ?_
      refine at_ld (i := 0) dX8_rule_108 rfl rfl rfl ?_
      refine at_get dX8_rule_109 fX8_7 (mv_o hn _ _ _) (by omega) rfl ?_
      refine at_k (nI 6) dX8_rule_112 rfl (by decide) ?_
      refine at_ld (i := 1) dX8_rule_114 rfl rfl rfl ?_
      refine at_bin dX8_rule_115 rfl ?_
      refine at_k (nI 13) dX8_rule_116 rfl (by decide) ?_
      refine at_bin dX8_rule_118 rfl ?_
      refine at_ald (7) dX8_rule_119 (mv_a hn _ _ _) (by decide) (by decide) (by decide) ?_
      refine at_ret dX8_rule_120 rfl rfl ?_
      exact ⟨rfl, rfl⟩
  · rw [if_neg hr]
    show sg_A MX8_rule 0 [some (.ref 64), some (.int x)] [] _ _
    refine at_ld (i := 1) dX8_rule_0 rfl rfl rfl ?_
    refine at_tout 121 dX8_rule_1 (inR_no hr) (by decide) ?_
    refine at_k (-1) dX8_rule_121 rfl (by decide) ?_
    refine at_ret dX8_rule_122 rfl rfl ?_
    exact ⟨rfl, rfl⟩
set_option maxRecDepth 100000 in
set_option maxHeartbeats 4000000 in
theorem c_group (hn : 72 ≤ h.1) (w : wf v) (g x : Int32) : sg_Kr MX8_group [.ref 64, .int g, .int x] (mv h A F v) (.int (s_group v g x)) := by
  have h4 := w.1.1
  have hb8 := w.1.2.1
  have hgb := wf_gb w.1
  show sg_A MX8_group 0 [some (.ref 64), some (.int g), some (.int x)] [] _ _
  refine at_ld (i := 1) dX8_group_0 rfl rfl rfl ?_
  refine at_i2l dX8_group_1 ?_
  refine at_lconst dX8_group_2 ?_
  refine at_ld (i := 0) dX8_group_3 rfl rfl rfl ?_
  refine at_get dX8_group_4 fX8_7 (mv_o hn _ _ _) (by omega) rfl ?_
  refine at_k (nI 0) dX8_group_7 rfl (by decide) ?_
  refine at_ald 0 dX8_group_8 (mv_a hn _ _ _) rfl (by decide) (by decide) ?_
  refine at_k (nI 1) dX8_group_9 rfl (by decide) ?_
  refine at_bin dX8_group_10 rfl ?_
  try dsimp only
  rw [nI_sub h4.1]
  refine at_i2l dX8_group_11 ?_
  refine at_rs [_, _, _] dX8_group_12 mX8_in ⟨Nat.le_of_ble_eq_true rfl, Nat.le_of_ble_eq_true rfl⟩ lX8_41 tX8_in rfl (Nat.le_of_ble_eq_true rfl) (Nat.le_of_ble_eq_true rfl) ⟨rfl, rfl⟩ (c_inA _ g 0 (v 0 - 1) rfl (nI_l (by omega)) (by decide) (by omega)) ?_
  refine at_zne 20 dX8_group_15 (by decide) (fun c => ?_) (fun c => ?_)
  · have c1 := bI_1 c
    obtain ⟨k, -, hk, rfl⟩ := inR_of (by omega) c1
    have hk4 : k < v 0 := by omega
    have hlt := gb_lt (B := v 1) hk4 (show v 1 - 1 < v 1 by omega)
    have e4 : 4 * v 1 * k = 4 * (v 1 * k) := Nat.mul_assoc _ _ _
    rw [s_group, if_pos c1, nI_clamp (by omega)]
    refine at_ld (i := 2) dX8_group_20 rfl rfl rfl ?_
    by_cases hr : inR x 0 6 = true
    · rw [if_pos hr]
      obtain ⟨n, -, h2, rfl⟩ := inR_of (by decide) hr
      rw [nI_clamp (by omega)]
      rcases (show n = 0 ∨ n = 1 ∨ n = 2 ∨ n = 3 ∨ n = 4 ∨ n = 5 ∨ n = 6 by omega) with rfl | rfl | rfl | rfl | rfl | rfl | rfl
      · refine at_tin 64 dX8_group_21 (by decide) (by decide) rfl (by decide) ?_
        refine at_ld (i := 0) dX8_group_64 rfl rfl rfl ?_
        refine at_k (nI 4) dX8_group_65 rfl (by decide) ?_
        refine at_ld (i := 0) dX8_group_66 rfl rfl rfl ?_
        refine at_get dX8_group_67 fX8_7 (mv_o hn _ _ _) (by omega) rfl ?_
        refine at_k (nI 1) dX8_group_70 rfl (by decide) ?_
        refine at_ald 1 dX8_group_71 (mv_a hn _ _ _) rfl (by decide) (by decide) ?_
        refine at_bin dX8_group_72 rfl ?_
        try dsimp only
        rw [nI_mul]
        refine at_ld (i := 1) dX8_group_73 rfl rfl rfl ?_
        refine at_bin dX8_group_74 rfl ?_
        try dsimp only
        rw [nI_mul]
        refine at_k (nI 4) dX8_group_75 rfl (by decide) ?_
        refine at_ld (i := 0) dX8_group_76 rfl rfl rfl ?_
        refine at_get dX8_group_77 fX8_7 (mv_o hn _ _ _) (by omega) rfl ?_
        refine at_k (nI 1) dX8_group_80 rfl (by decide) ?_
        refine at_ald 1 dX8_group_81 (mv_a hn _ _ _) rfl (by decide) (by decide) ?_
        refine at_bin dX8_group_82 rfl ?_
        try dsimp only
        rw [nI_mul]
        refine at_rv [_, _] dX8_group_83 mX8_freeIn ⟨Nat.le_of_ble_eq_true rfl, Nat.le_of_ble_eq_true rfl⟩ lX8_155 iX8_freeIn rfl rfl (mv_o hn _ _ _) (by omega) rfl (Nat.le_of_ble_eq_true rfl) (Nat.le_of_ble_eq_true rfl) ⟨rfl, rfl⟩ (c_freeIn A F v hn w.2.1 (4 * v 1 * k) (4 * v 1) (by omega)) ?_
        refine at_ret dX8_group_86 rfl rfl ?_
        exact ⟨rfl, rfl⟩
      · refine at_tin 87 dX8_group_21 (by decide) (by decide) rfl (by decide) ?_
        refine at_ld (i := 0) dX8_group_87 rfl rfl rfl ?_
        refine at_ld (i := 1) dX8_group_88 rfl rfl rfl ?_
        refine at_rv [_] dX8_group_89 mX8_freeBlocks ⟨Nat.le_of_ble_eq_true rfl, Nat.le_of_ble_eq_true rfl⟩ lX8_152 iX8_freeBlocks rfl rfl (mv_o hn _ _ _) (by omega) rfl (Nat.le_of_ble_eq_true rfl) (Nat.le_of_ble_eq_true rfl) ⟨rfl, rfl⟩ (c_freeBlocks A F v hn w.1 w.2.1 k hk4) ?_
        refine at_ret dX8_group_92 rfl rfl ?_
        exact ⟨rfl, rfl⟩
      · refine at_tin 93 dX8_group_21 (by decide) (by decide) rfl (by decide) ?_
        refine at_ld (i := 0) dX8_group_93 rfl rfl rfl ?_
        refine at_ld (i := 1) dX8_group_94 rfl rfl rfl ?_
        refine at_rv [_] dX8_group_95 mX8_nothings ⟨Nat.le_of_ble_eq_true rfl, Nat.le_of_ble_eq_true rfl⟩ lX8_179 iX8_nothings rfl rfl (mv_o hn _ _ _) (by omega) rfl (Nat.le_of_ble_eq_true rfl) (Nat.le_of_ble_eq_true rfl) ⟨rfl, rfl⟩ (c_nothings A F v hn w k hk4) ?_
        refine at_ret dX8_group_98 rfl rfl ?_
        exact ⟨rfl, rfl⟩
      · refine at_tin 99 dX8_group_21 (by decide) (by decide) rfl (by decide) ?_
        refine at_ld (i := 0) dX8_group_99 rfl rfl rfl ?_
        refine at_ld (i := 1) dX8_group_100 rfl rfl rfl ?_
        refine at_rv [_] dX8_group_101 mX8_directories ⟨Nat.le_of_ble_eq_true rfl, Nat.le_of_ble_eq_true rfl⟩ lX8_182 iX8_directories rfl rfl (mv_o hn _ _ _) (by omega) rfl (Nat.le_of_ble_eq_true rfl) (Nat.le_of_ble_eq_true rfl) ⟨rfl, rfl⟩ (c_directories A F v hn w k hk4) ?_
        refine at_ret dX8_group_104 rfl rfl ?_
        exact ⟨rfl, rfl⟩
      all_goals
        refine at_tin 105 dX8_group_21 (by decide) (by decide) rfl (by decide) ?_
        refine at_ld (i := 0) dX8_group_105 rfl rfl rfl ?_
        refine at_ld (i := 1) dX8_group_106 rfl rfl rfl ?_
        refine at_ld (i := 2) dX8_group_107 rfl rfl rfl ?_
        refine at_k (nI 3) dX8_group_108 rfl (by decide) ?_
        refine at_bin dX8_group_109 rfl ?_
        try dsimp only
        rw [nI_sub (by decide)]
        refine at_rv [_, _] dX8_group_110 mX8_runs ⟨Nat.le_of_ble_eq_true rfl, Nat.le_of_ble_eq_true rfl⟩ lX8_218 iX8_runs rfl rfl (mv_o hn _ _ _) (by omega) rfl (Nat.le_of_ble_eq_true rfl) (Nat.le_of_ble_eq_true rfl) ⟨rfl, rfl⟩ (c_runs A F v hn w.1 w.2.1 k _ hk4 (by decide)) ?_
        refine at_ret dX8_group_113 rfl rfl ?_
        exact ⟨rfl, rfl⟩
    · rw [if_neg hr]
      refine at_tout 114 dX8_group_21 (inR_no hr) (by decide) ?_
      refine at_k (-1) dX8_group_114 rfl (by decide) ?_
      refine at_ret dX8_group_115 rfl rfl ?_
      exact ⟨rfl, rfl⟩
  · have c1 := (bI_0 _).mp (Classical.not_not.mp c)
    refine at_k (-1) dX8_group_18 rfl (by decide) ?_
    refine at_ret dX8_group_19 rfl rfl ?_
    rw [s_group, c1]
    exact ⟨rfl, rfl⟩
set_option maxRecDepth 100000 in
set_option maxHeartbeats 4000000 in
theorem c_inode (hn : 72 ≤ h.1) (w : wf v) (i x : Int32) : sg_Kr MX8_inode [.ref 64, .int i, .int x] (mv h A F v) (.int (s_inode v i x)) := by
  have hgi := wf_gi w.1
  show sg_A MX8_inode 0 [some (.ref 64), some (.int i), some (.int x)] [] _ _
  refine at_ld (i := 0) dX8_inode_0 rfl rfl rfl ?_
  refine at_ld (i := 1) dX8_inode_1 rfl rfl rfl ?_
  refine at_rv [_] dX8_inode_2 mX8_isInode ⟨Nat.le_of_ble_eq_true rfl, Nat.le_of_ble_eq_true rfl⟩ lX8_170 iX8_isInode rfl rfl (mv_o hn _ _ _) (by omega) rfl (Nat.le_of_ble_eq_true rfl) (Nat.le_of_ble_eq_true rfl) ⟨rfl, rfl⟩ (c_isInode A F v hn w.1 i) ?_
  refine at_zeq 20 dX8_inode_5 (by decide) (fun c => ?_) (fun c => ?_)
  · have c1 := (bI_0 _).mp c
    refine at_k (-1) dX8_inode_20 rfl (by decide) ?_
    refine at_ret dX8_inode_21 rfl rfl ?_
    rw [s_inode, if_neg (fun z => by rw [c1] at z; cases z.1)]
    exact ⟨rfl, rfl⟩
  · have c1 := bI_1 c
    refine at_ld (i := 2) dX8_inode_8 rfl rfl rfl ?_
    refine at_i2l dX8_inode_9 ?_
    refine at_lconst dX8_inode_10 ?_
    refine at_ldc2 dX8_inode_11 kX8_221 ?_
    refine at_rs [_, _, _] dX8_inode_14 mX8_in ⟨Nat.le_of_ble_eq_true rfl, Nat.le_of_ble_eq_true rfl⟩ lX8_41 tX8_in rfl (Nat.le_of_ble_eq_true rfl) (Nat.le_of_ble_eq_true rfl) ⟨rfl, rfl⟩ (c_inA _ x 0 7 rfl rfl (by decide) (by decide)) ?_
    refine at_zne 22 dX8_inode_17 (by decide) (fun c2 => ?_) (fun c2 => ?_)
    · have c3 := bI_1 c2
      rw [s_inode, if_pos ⟨c1, c3⟩]
      obtain ⟨k, hk, rfl⟩ := isI_of w.1 c1
      obtain ⟨n, -, h2, rfl⟩ := inR_of (by decide) c3
      have hs := wf_s w (i := k) (by omega)
      have wk := wf_k w k (by omega)
      have ht := there_nI w.1 hk
      rw [nI_clamp (by omega), nI_clamp (by omega)]
      refine at_ld (i := 2) dX8_inode_22 rfl rfl rfl ?_
      refine at_zeq 34 dX8_inode_23 (by decide) (fun c4 => ?_) (fun c4 => ?_)
      · have c5 : n = 0 := (nI_eq32 (b := 0) (by omega) (by decide)).mp c4
        subst c5
        refine at_ld (i := 2) dX8_inode_34 rfl rfl rfl ?_
        refine at_zne 47 dX8_inode_35 (by decide) (fun c6 => ?_) (fun c6 => ?_)
        · exact absurd c4 c6
        · refine at_ld (i := 0) dX8_inode_38 rfl rfl rfl ?_
          refine at_ld (i := 1) dX8_inode_39 rfl rfl rfl ?_
          refine at_k (nI 0) dX8_inode_40 rfl (by decide) ?_
          refine at_rv [_, _] dX8_inode_41 mX8_of ⟨Nat.le_of_ble_eq_true rfl, Nat.le_of_ble_eq_true rfl⟩ lX8_173 iX8_of rfl rfl (mv_o hn _ _ _) (by omega) rfl (Nat.le_of_ble_eq_true rfl) (Nat.le_of_ble_eq_true rfl) ⟨rfl, rfl⟩ (c_of A F v hn k 0 (by omega)) ?_
          refine at_goto 49 dX8_inode_44 (by decide) ?_
          refine at_ret dX8_inode_49 rfl rfl ?_
          exact ⟨rfl, rfl⟩
      · have c5 : ¬ n = 0 := fun z => c4 (by rw [z]; rfl)
        refine at_ld (i := 0) dX8_inode_26 rfl rfl rfl ?_
        refine at_ld (i := 1) dX8_inode_27 rfl rfl rfl ?_
        refine at_rv [_] dX8_inode_28 mX8_isThere ⟨Nat.le_of_ble_eq_true rfl, Nat.le_of_ble_eq_true rfl⟩ lX8_176 iX8_isThere rfl rfl (mv_o hn _ _ _) (by omega) rfl (Nat.le_of_ble_eq_true rfl) (Nat.le_of_ble_eq_true rfl) ⟨rfl, rfl⟩ (c_isThere A F v hn w.1 (wf_k w) (nI k)) ?_
        rw [ht]
        refine at_zne 50 dX8_inode_31 (by decide) (fun c6 => ?_) (fun c6 => ?_)
        · have c7 := of_decide_eq_true (bI_1 c6)
          refine at_ld (i := 2) dX8_inode_50 rfl rfl rfl ?_
          rcases (show n = 1 ∨ n = 2 ∨ n = 3 ∨ n = 4 ∨ n = 5 ∨ n = 6 ∨ n = 7 by omega) with rfl | rfl | rfl | rfl | rfl | rfl | rfl
          · refine at_tin 88 dX8_inode_51 (by decide) (by decide) rfl (by decide) ?_
            refine at_ld (i := 0) dX8_inode_88 rfl rfl rfl ?_
            refine at_ld (i := 1) dX8_inode_89 rfl rfl rfl ?_
            refine at_ld (i := 2) dX8_inode_90 rfl rfl rfl ?_
            refine at_rv [_, _] dX8_inode_91 mX8_of ⟨Nat.le_of_ble_eq_true rfl, Nat.le_of_ble_eq_true rfl⟩ lX8_173 iX8_of rfl rfl (mv_o hn _ _ _) (by omega) rfl (Nat.le_of_ble_eq_true rfl) (Nat.le_of_ble_eq_true rfl) ⟨rfl, rfl⟩ (c_of A F v hn k 1 (by omega)) ?_
            refine at_ret dX8_inode_94 rfl rfl ?_
            exact ri (by rw [ind, if_neg (by decide), if_neg c7, if_pos (by decide)])
          · refine at_tin 88 dX8_inode_51 (by decide) (by decide) rfl (by decide) ?_
            refine at_ld (i := 0) dX8_inode_88 rfl rfl rfl ?_
            refine at_ld (i := 1) dX8_inode_89 rfl rfl rfl ?_
            refine at_ld (i := 2) dX8_inode_90 rfl rfl rfl ?_
            refine at_rv [_, _] dX8_inode_91 mX8_of ⟨Nat.le_of_ble_eq_true rfl, Nat.le_of_ble_eq_true rfl⟩ lX8_173 iX8_of rfl rfl (mv_o hn _ _ _) (by omega) rfl (Nat.le_of_ble_eq_true rfl) (Nat.le_of_ble_eq_true rfl) ⟨rfl, rfl⟩ (c_of A F v hn k 2 (by omega)) ?_
            refine at_ret dX8_inode_94 rfl rfl ?_
            exact ri (by rw [ind, if_neg (by decide), if_neg c7, if_pos (by decide)])
          · refine at_tin 88 dX8_inode_51 (by decide) (by decide) rfl (by decide) ?_
            refine at_ld (i := 0) dX8_inode_88 rfl rfl rfl ?_
            refine at_ld (i := 1) dX8_inode_89 rfl rfl rfl ?_
            refine at_ld (i := 2) dX8_inode_90 rfl rfl rfl ?_
            refine at_rv [_, _] dX8_inode_91 mX8_of ⟨Nat.le_of_ble_eq_true rfl, Nat.le_of_ble_eq_true rfl⟩ lX8_173 iX8_of rfl rfl (mv_o hn _ _ _) (by omega) rfl (Nat.le_of_ble_eq_true rfl) (Nat.le_of_ble_eq_true rfl) ⟨rfl, rfl⟩ (c_of A F v hn k 3 (by omega)) ?_
            refine at_ret dX8_inode_94 rfl rfl ?_
            exact ri (by rw [ind, if_neg (by decide), if_neg c7, if_pos (by decide)])
          · refine at_tin 95 dX8_inode_51 (by decide) (by decide) rfl (by decide) ?_
            refine at_ld (i := 0) dX8_inode_95 rfl rfl rfl ?_
            refine at_ld (i := 1) dX8_inode_96 rfl rfl rfl ?_
            refine at_rv [_] dX8_inode_97 mX8_blocks ⟨Nat.le_of_ble_eq_true rfl, Nat.le_of_ble_eq_true rfl⟩ lX8_194 iX8_blocks rfl rfl (mv_o hn _ _ _) (by omega) rfl (Nat.le_of_ble_eq_true rfl) (Nat.le_of_ble_eq_true rfl) ⟨rfl, rfl⟩ (c_blocks A F v hn k (by omega) (by omega)) ?_
            refine at_ret dX8_inode_100 rfl rfl ?_
            exact ri (by rw [ind, if_neg (by decide), if_neg c7, if_neg (by decide), if_pos rfl])
          · refine at_tin 101 dX8_inode_51 (by decide) (by decide) rfl (by decide) ?_
            refine at_ld (i := 0) dX8_inode_101 rfl rfl rfl ?_
            refine at_ld (i := 1) dX8_inode_102 rfl rfl rfl ?_
            refine at_rv [_] dX8_inode_103 mX8_tail ⟨Nat.le_of_ble_eq_true rfl, Nat.le_of_ble_eq_true rfl⟩ lX8_191 iX8_tail rfl rfl (mv_o hn _ _ _) (by omega) rfl (Nat.le_of_ble_eq_true rfl) (Nat.le_of_ble_eq_true rfl) ⟨rfl, rfl⟩ (c_tail A F v hn k (by omega) (by omega)) ?_
            refine at_zne 114 dX8_inode_106 (by decide) (fun c8 => ?_) (fun c8 => ?_)
            · have c9 : ¬ io v k 3 % 4 = 0 := fun z => c8 (by rw [z]; rfl)
              refine at_ld (i := 0) dX8_inode_114 rfl rfl rfl ?_
              refine at_ld (i := 1) dX8_inode_115 rfl rfl rfl ?_
              refine at_k (nI 4) dX8_inode_116 rfl (by decide) ?_
              refine at_rv [_, _] dX8_inode_117 mX8_of ⟨Nat.le_of_ble_eq_true rfl, Nat.le_of_ble_eq_true rfl⟩ lX8_173 iX8_of rfl rfl (mv_o hn _ _ _) (by omega) rfl (Nat.le_of_ble_eq_true rfl) (Nat.le_of_ble_eq_true rfl) ⟨rfl, rfl⟩ (c_of A F v hn k 4 (by omega)) ?_
              refine at_ret dX8_inode_120 rfl rfl ?_
              exact ri (by rw [ind, if_neg (by decide), if_neg c7, if_neg (by decide), if_neg (by decide), if_pos rfl, if_neg c9])
            · have c9 := (nI_eq32 (b := 0) (by omega) (by decide)).mp (Classical.not_not.mp c8)
              refine at_k (-4) dX8_inode_109 rfl (by decide) ?_
              refine at_goto 120 dX8_inode_111 (by decide) ?_
              refine at_ret dX8_inode_120 rfl rfl ?_
              exact ri (by rw [ind, if_neg (by decide), if_neg c7, if_neg (by decide), if_neg (by decide), if_pos rfl, if_pos c9])
          · refine at_tin 121 dX8_inode_51 (by decide) (by decide) rfl (by decide) ?_
            refine at_ld (i := 0) dX8_inode_121 rfl rfl rfl ?_
            refine at_ld (i := 1) dX8_inode_122 rfl rfl rfl ?_
            refine at_rv [_] dX8_inode_123 mX8_pairs ⟨Nat.le_of_ble_eq_true rfl, Nat.le_of_ble_eq_true rfl⟩ lX8_200 iX8_pairs rfl rfl (mv_o hn _ _ _) (by omega) rfl (Nat.le_of_ble_eq_true rfl) (Nat.le_of_ble_eq_true rfl) ⟨rfl, rfl⟩ (c_pairs A F v hn w k (by omega)) ?_
            refine at_ret dX8_inode_126 rfl rfl ?_
            exact ri (by rw [ind, if_neg (by decide), if_neg c7, if_neg (by decide), if_neg (by decide), if_neg (by decide), if_pos rfl])
          · refine at_tout 127 dX8_inode_51 (by decide) (by decide) ?_
            refine at_ld (i := 0) dX8_inode_127 rfl rfl rfl ?_
            refine at_ld (i := 1) dX8_inode_128 rfl rfl rfl ?_
            refine at_rv [_] dX8_inode_129 mX8_follows ⟨Nat.le_of_ble_eq_true rfl, Nat.le_of_ble_eq_true rfl⟩ lX8_203 iX8_follows rfl rfl (mv_o hn _ _ _) (by omega) rfl (Nat.le_of_ble_eq_true rfl) (Nat.le_of_ble_eq_true rfl) ⟨rfl, rfl⟩ (c_follows A F v hn w k (by omega)) ?_
            refine at_ret dX8_inode_132 rfl rfl ?_
            exact ri (by rw [ind, if_neg (by decide), if_neg c7, if_neg (by decide), if_neg (by decide), if_neg (by decide), if_neg (by decide)])
        · have c7 : io v k 0 = 0 := Classical.not_not.mp (of_decide_eq_false ((bI_0 _).mp (Classical.not_not.mp c6)))
          refine at_ld (i := 2) dX8_inode_34 rfl rfl rfl ?_
          refine at_zne 47 dX8_inode_35 (by decide) (fun c8 => ?_) (fun c8 => ?_)
          · refine at_k (-4) dX8_inode_47 rfl (by decide) ?_
            refine at_ret dX8_inode_49 rfl rfl ?_
            exact ri (by rw [ind, if_neg c5, if_pos c7])
          · exact absurd (Classical.not_not.mp c8) c4
    · have c3 := (bI_0 _).mp (Classical.not_not.mp c2)
      refine at_k (-1) dX8_inode_20 rfl (by decide) ?_
      refine at_ret dX8_inode_21 rfl rfl ?_
      rw [s_inode, if_neg (fun z => by rw [c3] at z; cases z.2)]
      exact ⟨rfl, rfl⟩
set_option maxRecDepth 100000 in
theorem c_block (hn : 72 ≤ h.1) (w : wf v) (i x : Int32) : sg_Kr MX8_block [.ref 64, .int i, .int x] (mv h A F v) (.int (s_block v i x)) := by
  have hgi := wf_gi w.1
  show sg_A MX8_block 0 [some (.ref 64), some (.int i), some (.int x)] [] _ _
  refine at_ld (i := 0) dX8_block_0 rfl rfl rfl ?_
  refine at_ld (i := 1) dX8_block_1 rfl rfl rfl ?_
  refine at_rv [_] dX8_block_2 mX8_isInode ⟨Nat.le_of_ble_eq_true rfl, Nat.le_of_ble_eq_true rfl⟩ lX8_170 iX8_isInode rfl rfl (mv_o hn _ _ _) (by omega) rfl (Nat.le_of_ble_eq_true rfl) (Nat.le_of_ble_eq_true rfl) ⟨rfl, rfl⟩ (c_isInode A F v hn w.1 i) ?_
  refine at_zeq 12 dX8_block_5 (by decide) (fun c => ?_) (fun c => ?_)
  · have c1 := (bI_0 _).mp c
    refine at_k (-1) dX8_block_12 rfl (by decide) ?_
    refine at_ret dX8_block_13 rfl rfl ?_
    rw [s_block, if_neg (fun z => by rw [c1] at z; cases z.1)]
    exact ⟨rfl, rfl⟩
  · have c1 := bI_1 c
    refine at_ld (i := 2) dX8_block_8 rfl rfl rfl ?_
    refine at_zge 14 dX8_block_9 (by decide) (fun c2 => ?_) (fun c2 => ?_)
    · have c3 : ¬ x < 0 := Int32.not_lt.mpr c2
      rw [s_block, if_pos ⟨c1, c3⟩]
      obtain ⟨k, hk, rfl⟩ := isI_of w.1 c1
      obtain ⟨n, hn2, rfl⟩ := nI_of c3
      have hs := wf_s w (i := k) (by omega)
      rw [nI_clamp (by omega), nI_clamp hn2]
      refine at_ld (i := 0) dX8_block_14 rfl rfl rfl ?_
      refine at_ld (i := 1) dX8_block_15 rfl rfl rfl ?_
      refine at_rv [_] dX8_block_16 mX8_isThere ⟨Nat.le_of_ble_eq_true rfl, Nat.le_of_ble_eq_true rfl⟩ lX8_176 iX8_isThere rfl rfl (mv_o hn _ _ _) (by omega) rfl (Nat.le_of_ble_eq_true rfl) (Nat.le_of_ble_eq_true rfl) ⟨rfl, rfl⟩ (c_isThere A F v hn w.1 (wf_k w) (nI k)) ?_
      rw [there_nI w.1 hk]
      refine at_zeq 42 dX8_block_19 (by decide) (fun c4 => ?_) (fun c4 => ?_)
      · have c5 := of_decide_eq_false ((bI_0 _).mp c4)
        refine at_k (-4) dX8_block_42 rfl (by decide) ?_
        refine at_ret dX8_block_44 rfl rfl ?_
        rw [if_neg (fun z => c5 z.1)]
        exact ⟨rfl, rfl⟩
      · have c5 := of_decide_eq_true (bI_1 c4)
        refine at_ld (i := 2) dX8_block_22 rfl rfl rfl ?_
        refine at_ld (i := 0) dX8_block_23 rfl rfl rfl ?_
        refine at_ld (i := 1) dX8_block_24 rfl rfl rfl ?_
        refine at_rv [_] dX8_block_25 mX8_blocks ⟨Nat.le_of_ble_eq_true rfl, Nat.le_of_ble_eq_true rfl⟩ lX8_194 iX8_blocks rfl rfl (mv_o hn _ _ _) (by omega) rfl (Nat.le_of_ble_eq_true rfl) (Nat.le_of_ble_eq_true rfl) ⟨rfl, rfl⟩ (c_blocks A F v hn k (by omega) (by omega)) ?_
        refine at_ige 42 dX8_block_28 (by decide) (fun c6 => ?_) (fun c6 => ?_)
        · have c7 := (nI_leI (by omega) (by omega)).mp c6
          refine at_k (-4) dX8_block_42 rfl (by decide) ?_
          refine at_ret dX8_block_44 rfl rfl ?_
          rw [if_neg (fun z => by omega)]
          exact ⟨rfl, rfl⟩
        · have c7 : n < io v k 3 / 4 := by
            rcases Nat.lt_or_ge n (io v k 3 / 4) with z | z
            · exact z
            · exact absurd (nI_le z (by omega)) c6
          refine at_ld (i := 0) dX8_block_31 rfl rfl rfl ?_
          refine at_ld (i := 1) dX8_block_32 rfl rfl rfl ?_
          refine at_k (nI 5) dX8_block_33 rfl (by decide) ?_
          refine at_ld (i := 2) dX8_block_34 rfl rfl rfl ?_
          refine at_bin dX8_block_35 rfl ?_
          try dsimp only
          rw [nI_add]
          refine at_rv [_, _] dX8_block_36 mX8_of ⟨Nat.le_of_ble_eq_true rfl, Nat.le_of_ble_eq_true rfl⟩ lX8_173 iX8_of rfl rfl (mv_o hn _ _ _) (by omega) rfl (Nat.le_of_ble_eq_true rfl) (Nat.le_of_ble_eq_true rfl) ⟨rfl, rfl⟩ (c_of A F v hn k (5 + n) (by omega)) ?_
          refine at_goto 44 dX8_block_39 (by decide) ?_
          refine at_ret dX8_block_44 rfl rfl ?_
          rw [if_pos ⟨c5, c7⟩]
          exact ⟨rfl, rfl⟩
    · refine at_k (-1) dX8_block_12 rfl (by decide) ?_
      refine at_ret dX8_block_13 rfl rfl ?_
      rw [s_block, if_neg (fun z => z.2 (Int32.not_le.mp c2))]
      exact ⟨rfl, rfl⟩
set_option maxRecDepth 100000 in
theorem c_fragment (hn : 72 ≤ h.1) (w : wf v) (x y : Int32) : sg_Kr MX8_fragment [.ref 64, .int x, .int y] (mv h A F v) (.int (s_fragment v x y)) := by
  have hgb := wf_gb w.1
  have hge := gb_ge w.1.1.1 w.1.2.1.1
  have hfr := fragI (v := v)
  show sg_A MX8_fragment 0 [some (.ref 64), some (.int x), some (.int y)] [] _ _
  refine at_ld (i := 1) dX8_fragment_0 rfl rfl rfl ?_
  refine at_i2l dX8_fragment_1 ?_
  refine at_lconst dX8_fragment_2 ?_
  refine at_ld (i := 0) dX8_fragment_3 rfl rfl rfl ?_
  refine at_rv [] dX8_fragment_4 mX8_fragments ⟨Nat.le_of_ble_eq_true rfl, Nat.le_of_ble_eq_true rfl⟩ lX8_35 iX8_fragments rfl rfl (mv_o hn _ _ _) (by omega) rfl (Nat.le_of_ble_eq_true rfl) (Nat.le_of_ble_eq_true rfl) ⟨rfl, rfl⟩ (c_fragments A F v hn) ?_
  refine at_k (nI 1) dX8_fragment_7 rfl (by decide) ?_
  refine at_bin dX8_fragment_8 rfl ?_
  try dsimp only
  rw [nI_sub (by omega)]
  refine at_i2l dX8_fragment_9 ?_
  refine at_rs [_, _, _] dX8_fragment_10 mX8_in ⟨Nat.le_of_ble_eq_true rfl, Nat.le_of_ble_eq_true rfl⟩ lX8_41 tX8_in rfl (Nat.le_of_ble_eq_true rfl) (Nat.le_of_ble_eq_true rfl) ⟨rfl, rfl⟩ (c_inA _ x 0 (4 * v 0 * v 1 - 1) rfl (nI_l (by omega)) (by decide) (by omega)) ?_
  refine at_zeq 26 dX8_fragment_13 (by decide) (fun c => ?_) (fun c => ?_)
  · have c1 := (bI_0 _).mp c
    refine at_k (-1) dX8_fragment_26 rfl (by decide) ?_
    refine at_ret dX8_fragment_27 rfl rfl ?_
    rw [s_fragment, if_neg (fun z => by rw [c1] at z; cases z.1)]
    exact ⟨rfl, rfl⟩
  · have c1 := bI_1 c
    refine at_ld (i := 2) dX8_fragment_16 rfl rfl rfl ?_
    refine at_i2l dX8_fragment_17 ?_
    refine at_lconst dX8_fragment_18 ?_
    refine at_lconst dX8_fragment_19 ?_
    refine at_rs [_, _, _] dX8_fragment_20 mX8_in ⟨Nat.le_of_ble_eq_true rfl, Nat.le_of_ble_eq_true rfl⟩ lX8_41 tX8_in rfl (Nat.le_of_ble_eq_true rfl) (Nat.le_of_ble_eq_true rfl) ⟨rfl, rfl⟩ (c_inA _ y 0 1 rfl rfl (by decide) (by decide)) ?_
    refine at_zne 28 dX8_fragment_23 (by decide) (fun c2 => ?_) (fun c2 => ?_)
    · have c3 := bI_1 c2
      rw [s_fragment, if_pos ⟨c1, c3⟩]
      obtain ⟨k, -, hk, rfl⟩ := inR_of (by omega) c1
      rw [nI_clamp (by omega)]
      refine at_ld (i := 2) dX8_fragment_28 rfl rfl rfl ?_
      refine at_zne 43 dX8_fragment_29 (by decide) (fun c4 => ?_) (fun c4 => ?_)
      · rw [if_neg c4]
        refine at_ld (i := 0) dX8_fragment_43 rfl rfl rfl ?_
        refine at_ld (i := 1) dX8_fragment_44 rfl rfl rfl ?_
        refine at_rv [_] dX8_fragment_45 mX8_owner ⟨Nat.le_of_ble_eq_true rfl, Nat.le_of_ble_eq_true rfl⟩ lX8_197 iX8_owner rfl rfl (mv_o hn _ _ _) (by omega) rfl (Nat.le_of_ble_eq_true rfl) (Nat.le_of_ble_eq_true rfl) ⟨rfl, rfl⟩ (c_owner A F v hn w k (by omega)) ?_
        refine at_ret dX8_fragment_48 rfl rfl ?_
        exact ⟨rfl, rfl⟩
      · rw [if_pos (Classical.not_not.mp c4)]
        refine at_ld (i := 0) dX8_fragment_32 rfl rfl rfl ?_
        refine at_ld (i := 1) dX8_fragment_33 rfl rfl rfl ?_
        refine at_rv [_] dX8_fragment_34 mX8_isFree ⟨Nat.le_of_ble_eq_true rfl, Nat.le_of_ble_eq_true rfl⟩ lX8_141 iX8_isFree rfl rfl (mv_o hn _ _ _) (by omega) rfl (Nat.le_of_ble_eq_true rfl) (Nat.le_of_ble_eq_true rfl) ⟨rfl, rfl⟩ (c_isFree A F v hn k (by omega) (w.2.1 k (by omega))) ?_
        refine at_rs [_] dX8_fragment_37 mX8_flag ⟨Nat.le_of_ble_eq_true rfl, Nat.le_of_ble_eq_true rfl⟩ lX8_133 tX8_flag rfl (Nat.le_of_ble_eq_true rfl) (Nat.le_of_ble_eq_true rfl) ⟨rfl, rfl⟩ (c_flag _ _) ?_
        refine at_goto 48 dX8_fragment_40 (by decide) ?_
        refine at_ret dX8_fragment_48 rfl rfl ?_
        exact ⟨rfl, rfl⟩
    · have c3 := (bI_0 _).mp (Classical.not_not.mp c2)
      refine at_k (-1) dX8_fragment_26 rfl (by decide) ?_
      refine at_ret dX8_fragment_27 rfl rfl ?_
      rw [s_fragment, if_neg (fun z => by rw [c3] at z; cases z.2)]
      exact ⟨rfl, rfl⟩
theorem isDir_of {v : Nat → Nat} (w : wfg v) {x : Int32} (h : isDir v x = true) : ∃ k : Nat, k < v 0 * v 2 ∧ x = nI k ∧ io v k 0 = 1 := by
  have hgi := wf_gi w
  rw [isDir, Bool.and_eq_true] at h
  obtain ⟨k, hk, rfl⟩ := isI_of w h.1
  have h2 := of_decide_eq_true h.2
  rw [nI_clamp (by omega)] at h2
  exact ⟨k, hk, rfl, h2⟩
def wfp (v : Nat → Nat) : Prop := ∀ i, i < 24 → io v i 1 < 2 ^ 32 ∧ io v i 2 < 2 ^ 32
set_option maxRecDepth 100000 in
theorem c_find (hn : 72 ≤ h.1) (w : wf v) (wp : wfp v) (d nm : Int32) : sg_Kr MX8_find [.ref 64, .int d, .int nm] (mv h A F v) (.int (s_find v d nm)) := by
  have hgi := wf_gi w.1
  show sg_A MX8_find 0 [some (.ref 64), some (.int d), some (.int nm)] [] _ _
  refine at_ld (i := 0) dX8_find_0 rfl rfl rfl ?_
  refine at_ld (i := 1) dX8_find_1 rfl rfl rfl ?_
  refine at_rv [_] dX8_find_2 mX8_isDirectory ⟨Nat.le_of_ble_eq_true rfl, Nat.le_of_ble_eq_true rfl⟩ lX8_223 iX8_isDirectory rfl rfl (mv_o hn _ _ _) (by omega) rfl (Nat.le_of_ble_eq_true rfl) (Nat.le_of_ble_eq_true rfl) ⟨rfl, rfl⟩ (c_isDirectory A F v hn w.1 (wf_k w) d) ?_
  refine at_zeq 29 dX8_find_5 (by decide) (fun c => ?_) (fun c => ?_)
  · have c1 := (bI_0 _).mp c
    refine at_k (-1) dX8_find_29 rfl (by decide) ?_
    refine at_ret dX8_find_30 rfl rfl ?_
    rw [s_find, if_neg (fun z => by rw [c1] at z; cases z.1)]
    exact ⟨rfl, rfl⟩
  · have c1 := bI_1 c
    refine at_ld (i := 2) dX8_find_8 rfl rfl rfl ?_
    refine at_i2l dX8_find_9 ?_
    refine at_lconst dX8_find_10 ?_
    refine at_ldc2 dX8_find_11 kX8_226 ?_
    refine at_rs [_, _, _] dX8_find_14 mX8_in ⟨Nat.le_of_ble_eq_true rfl, Nat.le_of_ble_eq_true rfl⟩ lX8_41 tX8_in rfl (Nat.le_of_ble_eq_true rfl) (Nat.le_of_ble_eq_true rfl) ⟨rfl, rfl⟩ (c_inA _ nm 0 9 rfl rfl (by decide) (by decide)) ?_
    refine at_zeq 29 dX8_find_17 (by decide) (fun c2 => ?_) (fun c2 => ?_)
    · have c3 := (bI_0 _).mp c2
      refine at_k (-1) dX8_find_29 rfl (by decide) ?_
      refine at_ret dX8_find_30 rfl rfl ?_
      rw [s_find, if_neg (fun z => by rw [c3] at z; cases z.2)]
      exact ⟨rfl, rfl⟩
    · have c3 := bI_1 c2
      rw [s_find, if_pos ⟨c1, c3⟩]
      obtain ⟨k, hk, rfl, -⟩ := isDir_of w.1 c1
      obtain ⟨n, -, hn2, rfl⟩ := inR_of (by decide) c3
      rw [nI_clamp (by omega), nI_clamp (by omega)]
      refine at_ld (i := 0) dX8_find_20 rfl rfl rfl ?_
      refine at_ld (i := 1) dX8_find_21 rfl rfl rfl ?_
      refine at_ld (i := 2) dX8_find_22 rfl rfl rfl ?_
      refine at_rv [_, _] dX8_find_23 mX8_inodeOf ⟨Nat.le_of_ble_eq_true rfl, Nat.le_of_ble_eq_true rfl⟩ lX8_103 iX8_inodeOf rfl rfl (mv_o hn _ _ _) (by omega) rfl (Nat.le_of_ble_eq_true rfl) (Nat.le_of_ble_eq_true rfl) ⟨rfl, rfl⟩ (c_inodeOf A F v hn w wp k n (by omega) (by omega)) ?_
      refine at_goto 30 dX8_find_26 (by decide) ?_
      refine at_ret dX8_find_30 rfl rfl ?_
      exact ⟨rfl, rfl⟩
set_option maxRecDepth 100000 in
theorem c_where (hn : 72 ≤ h.1) (w : wf v) (d kd : Int32) : sg_Kr MX8_where [.ref 64, .int d, .int kd] (mv h A F v) (.int (s_where v d kd)) := by
  have hgi := wf_gi w.1
  show sg_A MX8_where 0 [some (.ref 64), some (.int d), some (.int kd)] [] _ _
  refine at_ld (i := 0) dX8_where_0 rfl rfl rfl ?_
  refine at_ld (i := 1) dX8_where_1 rfl rfl rfl ?_
  refine at_rv [_] dX8_where_2 mX8_isDirectory ⟨Nat.le_of_ble_eq_true rfl, Nat.le_of_ble_eq_true rfl⟩ lX8_223 iX8_isDirectory rfl rfl (mv_o hn _ _ _) (by omega) rfl (Nat.le_of_ble_eq_true rfl) (Nat.le_of_ble_eq_true rfl) ⟨rfl, rfl⟩ (c_isDirectory A F v hn w.1 (wf_k w) d) ?_
  refine at_zeq 29 dX8_where_5 (by decide) (fun c => ?_) (fun c => ?_)
  · have c1 := (bI_0 _).mp c
    refine at_k (-1) dX8_where_29 rfl (by decide) ?_
    refine at_ret dX8_where_30 rfl rfl ?_
    rw [s_where, if_neg (fun z => by rw [c1] at z; cases z.1)]
    exact ⟨rfl, rfl⟩
  · have c1 := bI_1 c
    refine at_ld (i := 2) dX8_where_8 rfl rfl rfl ?_
    refine at_i2l dX8_where_9 ?_
    refine at_lconst dX8_where_10 ?_
    refine at_ldc2 dX8_where_11 kX8_228 ?_
    refine at_rs [_, _, _] dX8_where_14 mX8_in ⟨Nat.le_of_ble_eq_true rfl, Nat.le_of_ble_eq_true rfl⟩ lX8_41 tX8_in rfl (Nat.le_of_ble_eq_true rfl) (Nat.le_of_ble_eq_true rfl) ⟨rfl, rfl⟩ (c_inA _ kd 1 2 rfl rfl (by decide) (by decide)) ?_
    refine at_zeq 29 dX8_where_17 (by decide) (fun c2 => ?_) (fun c2 => ?_)
    · have c3 := (bI_0 _).mp c2
      refine at_k (-1) dX8_where_29 rfl (by decide) ?_
      refine at_ret dX8_where_30 rfl rfl ?_
      rw [s_where, if_neg (fun z => by rw [c3] at z; cases z.2)]
      exact ⟨rfl, rfl⟩
    · have c3 := bI_1 c2
      rw [s_where, if_pos ⟨c1, c3⟩]
      obtain ⟨k, hk, rfl, -⟩ := isDir_of w.1 c1
      obtain ⟨n, -, hn2, rfl⟩ := inR_of (by decide) c3
      rw [nI_clamp (by omega), nI_clamp (by omega)]
      refine at_ld (i := 0) dX8_where_20 rfl rfl rfl ?_
      refine at_ld (i := 1) dX8_where_21 rfl rfl rfl ?_
      refine at_ld (i := 2) dX8_where_22 rfl rfl rfl ?_
      refine at_rv [_, _] dX8_where_23 mX8_groupFor ⟨Nat.le_of_ble_eq_true rfl, Nat.le_of_ble_eq_true rfl⟩ lX8_230 iX8_groupFor rfl rfl (mv_o hn _ _ _) (by omega) rfl (Nat.le_of_ble_eq_true rfl) (Nat.le_of_ble_eq_true rfl) ⟨rfl, rfl⟩ (c_groupFor A F v hn w k n hk (by omega)) ?_
      refine at_goto 30 dX8_where_26 (by decide) ?_
      refine at_ret dX8_where_30 rfl rfl ?_
      exact ⟨rfl, rfl⟩
set_option maxRecDepth 100000 in
theorem c_entry (hn : 72 ≤ h.1) (w : wf v) (wp : wfp v) (d i : Int32) : sg_Kr MX8_entry [.ref 64, .int d, .int i] (mv h A F v) (.int (s_entry v d i)) := by
  have hgi := wf_gi w.1
  show sg_A MX8_entry 0 [some (.ref 64), some (.int d), some (.int i), none, none] [] _ _
  refine at_ld (i := 0) dX8_entry_0 rfl rfl rfl ?_
  refine at_ld (i := 1) dX8_entry_1 rfl rfl rfl ?_
  refine at_rv [_] dX8_entry_2 mX8_isDirectory ⟨Nat.le_of_ble_eq_true rfl, Nat.le_of_ble_eq_true rfl⟩ lX8_223 iX8_isDirectory rfl rfl (mv_o hn _ _ _) (by omega) rfl (Nat.le_of_ble_eq_true rfl) (Nat.le_of_ble_eq_true rfl) ⟨rfl, rfl⟩ (c_isDirectory A F v hn w.1 (wf_k w) d) ?_
  refine at_zeq 12 dX8_entry_5 (by decide) (fun c => ?_) (fun c => ?_)
  · have c1 := (bI_0 _).mp c
    refine at_k (-1) dX8_entry_12 rfl (by decide) ?_
    refine at_ret dX8_entry_13 rfl rfl ?_
    rw [s_entry, if_neg (fun z => by rw [c1] at z; cases z.1)]
    exact ⟨rfl, rfl⟩
  · have c1 := bI_1 c
    refine at_ld (i := 2) dX8_entry_8 rfl rfl rfl ?_
    refine at_zge 14 dX8_entry_9 (by decide) (fun c2 => ?_) (fun c2 => ?_)
    · have c3 : ¬ i < 0 := Int32.not_lt.mpr c2
      rw [s_entry, if_pos ⟨c1, c3⟩]
      obtain ⟨k, hk, rfl, -⟩ := isDir_of w.1 c1
      obtain ⟨n, hn2, rfl⟩ := nI_of c3
      rw [nI_clamp (by omega), nI_clamp hn2]
      refine at_ld (i := 2) dX8_entry_14 rfl rfl rfl ?_
      refine at_st (i := 3) dX8_entry_15 rfl rfl (Nat.le_of_ble_eq_true rfl) rfl ?_
      try dsimp only [List.set_cons_succ, List.set_cons_zero]
      refine at_k (nI 0) dX8_entry_16 rfl (by decide) ?_
      refine at_st (i := 4) dX8_entry_17 rfl rfl (Nat.le_of_ble_eq_true rfl) rfl ?_
      try dsimp only [List.set_cons_succ, List.set_cons_zero]
      have loop : ∀ m nm l, nm + m = 10 → l < 2 ^ 31 → sg_A MX8_entry 19 [some (.ref 64), some (.int (nI k)), some (.int (nI n)), some (.int (nI l)), some (.int (nI nm))] [] (mv h A F v) (fun r h' => r = some (.int (oI (ents v k m nm l))) ∧ h' = mv h A F v) := by
        intro m
        induction m with
        | zero =>
          intro nm l e hl
          refine at_ld (i := 4) dX8_entry_19 rfl rfl rfl ?_
          refine at_k (nI 9) dX8_entry_21 rfl (by decide) ?_
          refine at_igt 59 dX8_entry_23 (by decide) (fun c4 => ?_) (fun c4 => ?_)
          · refine at_k (-4) dX8_entry_59 rfl (by decide) ?_
            refine at_ret dX8_entry_61 rfl rfl ?_
            exact ⟨rfl, rfl⟩
          · exact absurd (nI_lt (by omega) (by omega)) c4
        | succ m ih =>
          intro nm l e hl
          refine at_ld (i := 4) dX8_entry_19 rfl rfl rfl ?_
          refine at_k (nI 9) dX8_entry_21 rfl (by decide) ?_
          refine at_igt 59 dX8_entry_23 (by decide) (fun c4 => ?_) (fun c4 => ?_)
          · exact absurd c4 (nI_nlt (by omega) (by omega))
          · refine at_ld (i := 0) dX8_entry_26 rfl rfl rfl ?_
            refine at_ld (i := 1) dX8_entry_27 rfl rfl rfl ?_
            refine at_ld (i := 4) dX8_entry_28 rfl rfl rfl ?_
            refine at_rv [_, _] dX8_entry_30 mX8_inodeOf ⟨Nat.le_of_ble_eq_true rfl, Nat.le_of_ble_eq_true rfl⟩ lX8_103 iX8_inodeOf rfl rfl (mv_o hn _ _ _) (by omega) rfl (Nat.le_of_ble_eq_true rfl) (Nat.le_of_ble_eq_true rfl) ⟨rfl, rfl⟩ (c_inodeOf A F v hn w wp k nm (by omega) (by omega)) ?_
            refine at_k (-4) dX8_entry_33 rfl (by decide) ?_
            rw [ents]
            cases q : ino v k nm with
            | none =>
              refine at_ieq 53 dX8_entry_35 (by decide) (fun c5 => ?_) (fun c5 => ?_)
              · refine at_iinc (nI 1) dX8_entry_53 rfl rfl (by decide) ?_
                try dsimp only [List.set_cons_succ, List.set_cons_zero]
                refine at_goto 19 dX8_entry_56 (by decide) ?_
                rw [nI_add]
                exact ih (nm + 1) l (by omega) hl
              · exact absurd rfl c5
            | some j =>
              have hj := ino_lt q
              refine at_ieq 53 dX8_entry_35 (by decide) (fun c5 => ?_) (fun c5 => ?_)
              · exact absurd c5 (oI_n (by omega))
              · refine at_ld (i := 3) dX8_entry_38 rfl rfl rfl ?_
                refine at_zne 50 dX8_entry_39 (by decide) (fun c6 => ?_) (fun c6 => ?_)
                · have c7 : ¬ l = 0 := fun z => c6 (by rw [z]; rfl)
                  dsimp only
                  rw [if_neg c7]
                  refine at_iinc (-1) dX8_entry_50 rfl rfl (by decide) ?_
                  try dsimp only [List.set_cons_succ, List.set_cons_zero]
                  have el : nI l + (-1) = nI (l - 1) := by
                    obtain ⟨l', rfl⟩ : ∃ l', l = l' + 1 := ⟨l - 1, by omega⟩
                    rw [nI_succ, Nat.add_sub_cancel]
                    rw [Int32.add_assoc]
                    show nI l' + 0 = nI l'
                    exact Int32.add_zero _
                  rw [el]
                  refine at_iinc (nI 1) dX8_entry_53 rfl rfl (by decide) ?_
                  try dsimp only [List.set_cons_succ, List.set_cons_zero]
                  refine at_goto 19 dX8_entry_56 (by decide) ?_
                  rw [nI_add]
                  exact ih (nm + 1) (l - 1) (by omega) (by omega)
                · have c7 := (nI_eq32 (b := 0) (by omega) (by decide)).mp (Classical.not_not.mp c6)
                  dsimp only
                  rw [if_pos c7]
                  refine at_ld (i := 0) dX8_entry_42 rfl rfl rfl ?_
                  refine at_ld (i := 1) dX8_entry_43 rfl rfl rfl ?_
                  refine at_ld (i := 4) dX8_entry_44 rfl rfl rfl ?_
                  refine at_rv [_, _] dX8_entry_46 mX8_inodeOf ⟨Nat.le_of_ble_eq_true rfl, Nat.le_of_ble_eq_true rfl⟩ lX8_103 iX8_inodeOf rfl rfl (mv_o hn _ _ _) (by omega) rfl (Nat.le_of_ble_eq_true rfl) (Nat.le_of_ble_eq_true rfl) ⟨rfl, rfl⟩ (c_inodeOf A F v hn w wp k nm (by omega) (by omega)) ?_
                  refine at_ret dX8_entry_49 rfl rfl ?_
                  rw [q]
                  exact ⟨rfl, rfl⟩
      exact loop 10 0 n (by omega) hn2
    · refine at_k (-1) dX8_entry_12 rfl (by decide) ?_
      refine at_ret dX8_entry_13 rfl rfl ?_
      rw [s_entry, if_neg (fun z => z.2 (Int32.not_le.mp c2))]
      exact ⟨rfl, rfl⟩
set_option maxRecDepth 100000 in
theorem c_fault : sg_Kr MX8_fault [.ref 64] (mv h A F v) (.int (F 11)) ∨ ¬ 72 ≤ h.1 := by
  by_cases hn : 72 ≤ h.1
  · left
    show sg_A MX8_fault 0 [some (.ref 64)] [] _ _
    refine at_ld (i := 0) dX8_fault_0 rfl rfl rfl ?_
    refine at_get dX8_fault_1 fX8_49 (mv_o hn _ _ _) (by omega) rfl ?_
    refine at_ret dX8_fault_4 rfl rfl ?_
    exact ⟨rfl, rfl⟩
  · right
    exact hn
set_option maxRecDepth 100000 in
set_option maxHeartbeats 4000000 in
theorem c_check (hn : 72 ≤ h.1) (w : wf v) (x : Int32) : sg_Kr MX8_check [.ref 64, .int x] (mv h A F v) (.int (s_check v x)) := by
  have hgi := wf_gi w.1
  have hgb := wf_gb w.1
  have hfr := fragI (v := v)
  show sg_A MX8_check 0 [some (.ref 64), some (.int x), none, none, none] [] _ _
  refine at_ld (i := 1) dX8_check_0 rfl rfl rfl ?_
  refine at_i2l dX8_check_1 ?_
  refine at_lconst dX8_check_2 ?_
  refine at_ldc2 dX8_check_3 kX8_228 ?_
  refine at_rs [_, _, _] dX8_check_6 mX8_in ⟨Nat.le_of_ble_eq_true rfl, Nat.le_of_ble_eq_true rfl⟩ lX8_41 tX8_in rfl (Nat.le_of_ble_eq_true rfl) (Nat.le_of_ble_eq_true rfl) ⟨rfl, rfl⟩ (c_inA _ x 0 2 rfl rfl (by decide) (by decide)) ?_
  refine at_zne 14 dX8_check_9 (by decide) (fun c => ?_) (fun c => ?_)
  · have c1 := bI_1 c
    rw [s_check, if_pos c1]
    obtain ⟨n, -, hn2, rfl⟩ := inR_of (by decide) c1
    rw [nI_clamp (by omega)]
    refine at_k (nI 0) dX8_check_14 rfl (by decide) ?_
    refine at_st (i := 2) dX8_check_15 rfl rfl (Nat.le_of_ble_eq_true rfl) rfl ?_
    try dsimp only [List.set_cons_succ, List.set_cons_zero]
    refine at_k (nI 0) dX8_check_16 rfl (by decide) ?_
    refine at_st (i := 3) dX8_check_17 rfl rfl (Nat.le_of_ble_eq_true rfl) rfl ?_
    try dsimp only [List.set_cons_succ, List.set_cons_zero]
    obtain ⟨p, hp⟩ : ∃ p : Nat → Bool, p = (fun x => if n = 0 then fr v x && (own v x).isSome else !fr v x && (own v x).isNone) := ⟨_, rfl⟩
    have outer : ∀ x4 : Option Value, sg_A MX8_check 18 [some (.ref 64), some (.int (nI n)), some (.int (nI 0)), some (.int (nI 0)), x4] [] (mv h A F v) (fun r h' => r = some (.int (if n = 2 then oI (srch (fun x => if fr v x = (own v x).isSome then some x else none) 0 (4 * v 0 * v 1 - 0)) else nI (cnt p (4 * v 0 * v 1)))) ∧ h' = mv h A F v) := by
      refine lpN (fun k => ∀ x4 : Option Value, sg_A MX8_check 18 [some (.ref 64), some (.int (nI n)), some (.int (nI (cnt p k))), some (.int (nI k)), x4] [] (mv h A F v) (fun r h' => r = some (.int (if n = 2 then oI (srch (fun x => if fr v x = (own v x).isSome then some x else none) k (4 * v 0 * v 1 - k)) else nI (cnt p (4 * v 0 * v 1)))) ∧ h' = mv h A F v)) (4 * v 0 * v 1) ?_ ?_
      · intro x4
        refine at_ld (i := 3) dX8_check_18 rfl rfl rfl ?_
        refine at_ld (i := 0) dX8_check_19 rfl rfl rfl ?_
        refine at_rv [] dX8_check_20 mX8_fragments ⟨Nat.le_of_ble_eq_true rfl, Nat.le_of_ble_eq_true rfl⟩ lX8_35 iX8_fragments rfl rfl (mv_o hn _ _ _) (by omega) rfl (Nat.le_of_ble_eq_true rfl) (Nat.le_of_ble_eq_true rfl) ⟨rfl, rfl⟩ (c_fragments A F v hn) ?_
        refine at_ige 115 dX8_check_23 (by decide) (fun c2 => ?_) (fun c2 => ?_)
        · refine at_ld (i := 1) dX8_check_115 rfl rfl rfl ?_
          refine at_k (nI 2) dX8_check_116 rfl (by decide) ?_
          refine at_ine 125 dX8_check_117 (by decide) (fun c3 => ?_) (fun c3 => ?_)
          · have c4 : ¬ n = 2 := fun z => c3 (by rw [z])
            refine at_ld (i := 2) dX8_check_125 rfl rfl rfl ?_
            refine at_ret dX8_check_126 rfl rfl ?_
            rw [if_neg c4]
            exact ⟨rfl, rfl⟩
          · have c4 := (nI_eq32 (by omega) (by decide)).mp (Classical.not_not.mp c3)
            refine at_k (-4) dX8_check_120 rfl (by decide) ?_
            refine at_goto 126 dX8_check_122 (by decide) ?_
            refine at_ret dX8_check_126 rfl rfl ?_
            rw [if_pos c4, sr_0]
            exact ⟨rfl, rfl⟩
        · exact absurd (nI_le (Nat.le_refl _) (by omega)) c2
      · intro k hk ih x4
        have hpk : p k = if n = 0 then fr v k && (own v k).isSome else !fr v k && (own v k).isNone := by rw [hp]
        refine at_ld (i := 3) dX8_check_18 rfl rfl rfl ?_
        refine at_ld (i := 0) dX8_check_19 rfl rfl rfl ?_
        refine at_rv [] dX8_check_20 mX8_fragments ⟨Nat.le_of_ble_eq_true rfl, Nat.le_of_ble_eq_true rfl⟩ lX8_35 iX8_fragments rfl rfl (mv_o hn _ _ _) (by omega) rfl (Nat.le_of_ble_eq_true rfl) (Nat.le_of_ble_eq_true rfl) ⟨rfl, rfl⟩ (c_fragments A F v hn) ?_
        refine at_ige 115 dX8_check_23 (by decide) (fun c2 => ?_) (fun c2 => ?_)
        · exact absurd c2 (nI_ge hk (by omega))
        · have nx : (n = 2 → ¬ fr v k = (own v k).isSome) → ∀ y4, ∀ b : Bool, b = p k → sg_A MX8_check 104 [some (.ref 64), some (.int (nI n)), some (.int (nI (cnt p k))), some (.int (nI k)), y4] [.int (bI b), .int (nI (cnt p k))] (mv h A F v) (fun r h' => r = some (.int (if n = 2 then oI (srch (fun x => if fr v x = (own v x).isSome then some x else none) k (4 * v 0 * v 1 - k)) else nI (cnt p (4 * v 0 * v 1)))) ∧ h' = mv h A F v) := by
            intro hz y4 b hb
            subst hb
            have e : (if n = 2 then oI (srch (fun x => if fr v x = (own v x).isSome then some x else none) k (4 * v 0 * v 1 - k)) else nI (cnt p (4 * v 0 * v 1))) = (if n = 2 then oI (srch (fun x => if fr v x = (own v x).isSome then some x else none) (k + 1) (4 * v 0 * v 1 - (k + 1))) else nI (cnt p (4 * v 0 * v 1))) := by
              by_cases q : n = 2
              · rw [if_pos q, if_pos q, sr_n hk (if_neg (hz q))]
              · rw [if_neg q, if_neg q]
            rw [e]
            refine at_rs [_] dX8_check_104 mX8_flag ⟨Nat.le_of_ble_eq_true rfl, Nat.le_of_ble_eq_true rfl⟩ lX8_133 tX8_flag rfl (Nat.le_of_ble_eq_true rfl) (Nat.le_of_ble_eq_true rfl) ⟨rfl, rfl⟩ (c_flag _ _) ?_
            refine at_bin dX8_check_107 rfl ?_
            try dsimp only
            rw [cnt_s p]
            refine at_st (i := 2) dX8_check_108 rfl rfl (Nat.le_of_ble_eq_true rfl) rfl ?_
            try dsimp only [List.set_cons_succ, List.set_cons_zero]
            refine at_iinc (nI 1) dX8_check_109 rfl rfl (by decide) ?_
            try dsimp only [List.set_cons_succ, List.set_cons_zero]
            refine at_goto 18 dX8_check_112 (by decide) ?_
            rw [nI_add]
            exact ih _
          have g60 : (n = 2 → ¬ fr v k = (own v k).isSome) → sg_A MX8_check 60 [some (.ref 64), some (.int (nI n)), some (.int (nI (cnt p k))), some (.int (nI k)), some (.int (bI (own v k).isSome))] [] (mv h A F v) (fun r h' => r = some (.int (if n = 2 then oI (srch (fun x => if fr v x = (own v x).isSome then some x else none) k (4 * v 0 * v 1 - k)) else nI (cnt p (4 * v 0 * v 1)))) ∧ h' = mv h A F v) := by
            intro hz
            refine at_ld (i := 2) dX8_check_60 rfl rfl rfl ?_
            refine at_ld (i := 1) dX8_check_61 rfl rfl rfl ?_
            refine at_zne 86 dX8_check_62 (by decide) (fun c3 => ?_) (fun c3 => ?_)
            · have c4 : ¬ n = 0 := fun z => c3 (by rw [z]; rfl)
              refine at_ld (i := 0) dX8_check_86 rfl rfl rfl ?_
              refine at_ld (i := 3) dX8_check_87 rfl rfl rfl ?_
              refine at_rv [_] dX8_check_88 mX8_isFree ⟨Nat.le_of_ble_eq_true rfl, Nat.le_of_ble_eq_true rfl⟩ lX8_141 iX8_isFree rfl rfl (mv_o hn _ _ _) (by omega) rfl (Nat.le_of_ble_eq_true rfl) (Nat.le_of_ble_eq_true rfl) ⟨rfl, rfl⟩ (c_isFree A F v hn k (by omega) (w.2.1 k (by omega))) ?_
              refine at_zne 103 dX8_check_91 (by decide) (fun c5 => ?_) (fun c5 => ?_)
              · have c6 := bI_1 c5
                refine at_k (nI 0) dX8_check_103 rfl (by decide) ?_
                exact nx hz _ false (by rw [hpk, if_neg c4, c6]; rfl)
              · have c6 := (bI_0 _).mp (Classical.not_not.mp c5)
                refine at_ld (i := 4) dX8_check_94 rfl rfl rfl ?_
                refine at_zne 103 dX8_check_96 (by decide) (fun c7 => ?_) (fun c7 => ?_)
                · have c8 := bI_1 c7
                  refine at_k (nI 0) dX8_check_103 rfl (by decide) ?_
                  exact nx hz _ false (by rw [hpk, if_neg c4]; cases q : own v k <;> rw [q] at c8 <;> simp_all)
                · have c8 := (bI_0 _).mp (Classical.not_not.mp c7)
                  refine at_k (nI 1) dX8_check_99 rfl (by decide) ?_
                  refine at_goto 104 dX8_check_100 (by decide) ?_
                  exact nx hz _ true (by rw [hpk, if_neg c4, c6]; cases q : own v k <;> rw [q] at c8 <;> simp_all)
            · have c4 : n = 0 := (nI_eq32 (b := 0) (by omega) (by decide)).mp (Classical.not_not.mp c3)
              refine at_ld (i := 0) dX8_check_65 rfl rfl rfl ?_
              refine at_ld (i := 3) dX8_check_66 rfl rfl rfl ?_
              refine at_rv [_] dX8_check_67 mX8_isFree ⟨Nat.le_of_ble_eq_true rfl, Nat.le_of_ble_eq_true rfl⟩ lX8_141 iX8_isFree rfl rfl (mv_o hn _ _ _) (by omega) rfl (Nat.le_of_ble_eq_true rfl) (Nat.le_of_ble_eq_true rfl) ⟨rfl, rfl⟩ (c_isFree A F v hn k (by omega) (w.2.1 k (by omega))) ?_
              refine at_zeq 82 dX8_check_70 (by decide) (fun c5 => ?_) (fun c5 => ?_)
              · have c6 := (bI_0 _).mp c5
                refine at_k (nI 0) dX8_check_82 rfl (by decide) ?_
                refine at_goto 104 dX8_check_83 (by decide) ?_
                exact nx hz _ false (by rw [hpk, if_pos c4, c6]; rfl)
              · have c6 := bI_1 c5
                refine at_ld (i := 4) dX8_check_73 rfl rfl rfl ?_
                refine at_zeq 82 dX8_check_75 (by decide) (fun c7 => ?_) (fun c7 => ?_)
                · have c8 := (bI_0 _).mp c7
                  refine at_k (nI 0) dX8_check_82 rfl (by decide) ?_
                  refine at_goto 104 dX8_check_83 (by decide) ?_
                  exact nx hz _ false (by rw [hpk, if_pos c4, c6, c8]; rfl)
                · have c8 := bI_1 c7
                  refine at_k (nI 1) dX8_check_78 rfl (by decide) ?_
                  refine at_goto 104 dX8_check_79 (by decide) ?_
                  exact nx hz _ true (by rw [hpk, if_pos c4, c6, c8]; rfl)
          have g41 : sg_A MX8_check 41 [some (.ref 64), some (.int (nI n)), some (.int (nI (cnt p k))), some (.int (nI k)), x4] [.int (bI (own v k).isSome)] (mv h A F v) (fun r h' => r = some (.int (if n = 2 then oI (srch (fun x => if fr v x = (own v x).isSome then some x else none) k (4 * v 0 * v 1 - k)) else nI (cnt p (4 * v 0 * v 1)))) ∧ h' = mv h A F v) := by
            refine at_st (i := 4) dX8_check_41 rfl rfl (Nat.le_of_ble_eq_true rfl) rfl ?_
            try dsimp only [List.set_cons_succ, List.set_cons_zero]
            refine at_ld (i := 1) dX8_check_43 rfl rfl rfl ?_
            refine at_k (nI 2) dX8_check_44 rfl (by decide) ?_
            refine at_ine 60 dX8_check_45 (by decide) (fun c3 => ?_) (fun c3 => ?_)
            · exact g60 (fun z => absurd (by rw [z]) c3)
            · have c4 := (nI_eq32 (by omega) (by decide)).mp (Classical.not_not.mp c3)
              refine at_ld (i := 0) dX8_check_48 rfl rfl rfl ?_
              refine at_ld (i := 3) dX8_check_49 rfl rfl rfl ?_
              refine at_rv [_] dX8_check_50 mX8_isFree ⟨Nat.le_of_ble_eq_true rfl, Nat.le_of_ble_eq_true rfl⟩ lX8_141 iX8_isFree rfl rfl (mv_o hn _ _ _) (by omega) rfl (Nat.le_of_ble_eq_true rfl) (Nat.le_of_ble_eq_true rfl) ⟨rfl, rfl⟩ (c_isFree A F v hn k (by omega) (w.2.1 k (by omega))) ?_
              refine at_ld (i := 4) dX8_check_53 rfl rfl rfl ?_
              refine at_ine 60 dX8_check_55 (by decide) (fun c5 => ?_) (fun c5 => ?_)
              · exact g60 (fun _ z => c5 (by rw [z]))
              · have c6 : fr v k = (own v k).isSome := by
                  have c5' := Classical.not_not.mp c5
                  revert c5'
                  cases fr v k <;> cases (own v k).isSome <;> intro c5' <;> first | rfl | exact absurd c5' (by decide)
                refine at_ld (i := 3) dX8_check_58 rfl rfl rfl ?_
                refine at_ret dX8_check_59 rfl rfl ?_
                rw [if_pos c4, sr_s hk (if_pos c6)]
                exact ⟨rfl, rfl⟩
          refine at_ld (i := 0) dX8_check_26 rfl rfl rfl ?_
          refine at_ld (i := 3) dX8_check_27 rfl rfl rfl ?_
          refine at_rv [_] dX8_check_28 mX8_owner ⟨Nat.le_of_ble_eq_true rfl, Nat.le_of_ble_eq_true rfl⟩ lX8_197 iX8_owner rfl rfl (mv_o hn _ _ _) (by omega) rfl (Nat.le_of_ble_eq_true rfl) (Nat.le_of_ble_eq_true rfl) ⟨rfl, rfl⟩ (c_owner A F v hn w k (by omega)) ?_
          refine at_k (-4) dX8_check_31 rfl (by decide) ?_
          cases q : own v k with
          | none =>
            rw [q] at g41
            refine at_ieq 40 dX8_check_33 (by decide) (fun c3 => ?_) (fun c3 => ?_)
            · refine at_k (nI 0) dX8_check_40 rfl (by decide) ?_
              exact g41
            · exact absurd rfl c3
          | some i =>
            have hi := own_lt q
            rw [q] at g41
            refine at_ieq 40 dX8_check_33 (by decide) (fun c3 => ?_) (fun c3 => ?_)
            · exact absurd c3 (oI_n (by omega))
            · refine at_k (nI 1) dX8_check_36 rfl (by decide) ?_
              refine at_goto 41 dX8_check_37 (by decide) ?_
              exact g41
    have e : chk v n = (if n = 2 then oI (srch (fun x => if fr v x = (own v x).isSome then some x else none) 0 (4 * v 0 * v 1 - 0)) else nI (cnt p (4 * v 0 * v 1))) := by
      rcases (show n = 0 ∨ n = 1 ∨ n = 2 by omega) with rfl | rfl | rfl
      · rw [chk, if_pos rfl, if_neg (by decide), hp]; rfl
      · rw [chk, if_neg (by decide), if_pos rfl, if_neg (by decide), hp]; rfl
      · rw [chk, if_neg (by decide), if_neg (by decide), if_pos rfl]; rfl
    rw [e]
    exact outer _
  · have c1 := (bI_0 _).mp (Classical.not_not.mp c)
    refine at_k (-1) dX8_check_12 rfl (by decide) ?_
    refine at_ret dX8_check_13 rfl rfl ?_
    rw [s_check, c1]
    exact ⟨rfl, rfl⟩
end R7
