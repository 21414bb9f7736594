/-! CONSTRUCTORS -/
def dfX0 : List Value := [.null, .null, .null, .null, .null]
theorem dfX0_ok : ∀ j, j < 5 → defaultValue (tyX0 j) = vp_V dfX0 j := by
  intro j hj
  rcases (show j = 0 ∨ j = 1 ∨ j = 2 ∨ j = 3 ∨ j = 4 by omega) with rfl | rfl | rfl | rfl | rfl <;> rfl
theorem dfX0_cv : ∀ v ∈ dfX0, ∀ ad, sg_cv ad v = v := by
  intro v hv ad
  simp only [dfX0, List.mem_cons, List.not_mem_nil, or_false] at hv
  rcases hv with rfl | rfl | rfl | rfl | rfl <;> rfl
def dfX1 : List Value := [.null, .null]
theorem dfX1_ok : ∀ j, j < 2 → defaultValue (tyX1 j) = vp_V dfX1 j := by
  intro j hj
  rcases (show j = 0 ∨ j = 1 by omega) with rfl | rfl <;> rfl
theorem dfX1_cv : ∀ v ∈ dfX1, ∀ ad, sg_cv ad v = v := by
  intro v hv ad
  simp only [dfX1, List.mem_cons, List.not_mem_nil, or_false] at hv
  rcases hv with rfl | rfl <;> rfl
def dfX2 : List Value := [.null, .null, .null, .null, .null, .null, .null]
theorem dfX2_ok : ∀ j, j < 7 → defaultValue (tyX2 j) = vp_V dfX2 j := by
  intro j hj
  rcases (show j = 0 ∨ j = 1 ∨ j = 2 ∨ j = 3 ∨ j = 4 ∨ j = 5 ∨ j = 6 by omega) with rfl | rfl | rfl | rfl | rfl | rfl | rfl <;> rfl
theorem dfX2_cv : ∀ v ∈ dfX2, ∀ ad, sg_cv ad v = v := by
  intro v hv ad
  simp only [dfX2, List.mem_cons, List.not_mem_nil, or_false] at hv
  rcases hv with rfl | rfl | rfl | rfl | rfl | rfl | rfl <;> rfl
def dfX3 : List Value := [.int 0, .int 0, .int 0, .int 0, .int 0, .int 0]
theorem dfX3_ok : ∀ j, j < 6 → defaultValue (tyX3 j) = vp_V dfX3 j := by
  intro j hj
  rcases (show j = 0 ∨ j = 1 ∨ j = 2 ∨ j = 3 ∨ j = 4 ∨ j = 5 by omega) with rfl | rfl | rfl | rfl | rfl | rfl <;> rfl
theorem dfX3_cv : ∀ v ∈ dfX3, ∀ ad, sg_cv ad v = v := by
  intro v hv ad
  simp only [dfX3, List.mem_cons, List.not_mem_nil, or_false] at hv
  rcases hv with rfl | rfl | rfl | rfl | rfl | rfl <;> rfl
def dfX4 : List Value := [.null, .null, .int 0, .int 0, .int 0, .int 0, .int 0, .int 0, .int 0]
theorem dfX4_ok : ∀ j, j < 9 → defaultValue (tyX4 j) = vp_V dfX4 j := by
  intro j hj
  rcases (show j = 0 ∨ j = 1 ∨ j = 2 ∨ j = 3 ∨ j = 4 ∨ j = 5 ∨ j = 6 ∨ j = 7 ∨ j = 8 by omega) with rfl | rfl | rfl | rfl | rfl | rfl | rfl | rfl | rfl <;> rfl
theorem dfX4_cv : ∀ v ∈ dfX4, ∀ ad, sg_cv ad v = v := by
  intro v hv ad
  simp only [dfX4, List.mem_cons, List.not_mem_nil, or_false] at hv
  rcases hv with rfl | rfl | rfl | rfl | rfl | rfl | rfl | rfl | rfl <;> rfl
def dfX5 : List Value := [.null, .int 0]
theorem dfX5_ok : ∀ j, j < 2 → defaultValue (tyX5 j) = vp_V dfX5 j := by
  intro j hj
  rcases (show j = 0 ∨ j = 1 by omega) with rfl | rfl <;> rfl
theorem dfX5_cv : ∀ v ∈ dfX5, ∀ ad, sg_cv ad v = v := by
  intro v hv ad
  simp only [dfX5, List.mem_cons, List.not_mem_nil, or_false] at hv
  rcases hv with rfl | rfl <;> rfl
def dfX6 : List Value := [.null, .null, .null, .null, .int 0, .int 0]
theorem dfX6_ok : ∀ j, j < 6 → defaultValue (tyX6 j) = vp_V dfX6 j := by
  intro j hj
  rcases (show j = 0 ∨ j = 1 ∨ j = 2 ∨ j = 3 ∨ j = 4 ∨ j = 5 by omega) with rfl | rfl | rfl | rfl | rfl | rfl <;> rfl
theorem dfX6_cv : ∀ v ∈ dfX6, ∀ ad, sg_cv ad v = v := by
  intro v hv ad
  simp only [dfX6, List.mem_cons, List.not_mem_nil, or_false] at hv
  rcases hv with rfl | rfl | rfl | rfl | rfl | rfl <;> rfl
def dfX7 : List Value := [.null, .null, .null, .null, .null, .null, .null, .int 0, .int 0, .null, .null, .int 0, .int 0, .int 0]
theorem dfX7_ok : ∀ j, j < 14 → defaultValue (tyX7 j) = vp_V dfX7 j := by
  intro j hj
  rcases (show j = 0 ∨ j = 1 ∨ j = 2 ∨ j = 3 ∨ j = 4 ∨ j = 5 ∨ j = 6 ∨ j = 7 ∨ j = 8 ∨ j = 9 ∨ j = 10 ∨ j = 11 ∨ j = 12 ∨ j = 13 by omega) with rfl | rfl | rfl | rfl | rfl | rfl | rfl | rfl | rfl | rfl | rfl | rfl | rfl | rfl <;> rfl
theorem dfX7_cv : ∀ v ∈ dfX7, ∀ ad, sg_cv ad v = v := by
  intro v hv ad
  simp only [dfX7, List.mem_cons, List.not_mem_nil, or_false] at hv
  rcases hv with rfl | rfl | rfl | rfl | rfl | rfl | rfl | rfl | rfl | rfl | rfl | rfl | rfl | rfl <;> rfl
def dfX8 : List Value := [.null, .null, .null, .null, .null, .null, .int 0, .int 0, .int 0, .int 0, .int 0, .int 0, .int 0, .null, .int 0, .int 0]
theorem dfX8_ok : ∀ j, j < 16 → defaultValue (tyX8 j) = vp_V dfX8 j := by
  intro j hj
  rcases (show j = 0 ∨ j = 1 ∨ j = 2 ∨ j = 3 ∨ j = 4 ∨ j = 5 ∨ j = 6 ∨ j = 7 ∨ j = 8 ∨ j = 9 ∨ j = 10 ∨ j = 11 ∨ j = 12 ∨ j = 13 ∨ j = 14 ∨ j = 15 by omega) with rfl | rfl | rfl | rfl | rfl | rfl | rfl | rfl | rfl | rfl | rfl | rfl | rfl | rfl | rfl | rfl <;> rfl
theorem dfX8_cv : ∀ v ∈ dfX8, ∀ ad, sg_cv ad v = v := by
  intro v hv ad
  simp only [dfX8, List.mem_cons, List.not_mem_nil, or_false] at hv
  rcases hv with rfl | rfl | rfl | rfl | rfl | rfl | rfl | rfl | rfl | rfl | rfl | rfl | rfl | rfl | rfl | rfl <;> rfl
/-- cells in a row from p on -/
def ovr (C : Nat → sg_E) (p : Nat) (L : List sg_E) (j : Nat) : sg_E := if p ≤ j then (match L[j - p]? with | some e => e | none => C j) else C j
def OV (p z : Nat) (C : Nat → sg_E) (L : List sg_E) : sg_H := (p + L.length, z, ovr C p L)
section I1
variable {p z : Nat} {C : Nat → sg_E} {L M : List sg_E}
theorem ov_at {k : Nat} {e : sg_E} (h : L[k]? = some e) : sg_at (OV p z C L) (p + k) e := by
  have := (List.getElem?_eq_some_iff.mp h).1
  refine ⟨Or.inl (show p + k < p + L.length by omega), ?_⟩
  show ovr C p L (p + k) = e
  unfold ovr
  rw [if_pos (by omega), show p + k - p = k by omega, h]
theorem ov_old {j : Nat} {e : sg_E} (h : C j = e) (hj : j < p) : sg_at (OV p z C L) j e := by
  refine ⟨Or.inl (show j < p + L.length by omega), ?_⟩
  show ovr C p L j = e
  unfold ovr
  rw [if_neg (by omega)]
  exact h
theorem ov_far {j : Nat} {e : sg_E} (h : C j = e) (hj : p + L.length ≤ j) (h1 : 1000 ≤ j) : sg_at (OV p z C L) j e := by
  refine ⟨Or.inr h1, ?_⟩
  show ovr C p L j = e
  unfold ovr
  rw [if_pos (by omega), List.getElem?_eq_none (by omega)]
  exact h
theorem ov_up {k : Nat} (e : sg_E) (hk : k < L.length) : sg_up (OV p z C L) (p + k) e = OV p z C (L.set k e) := by
  refine Prod.ext (by show p + L.length = p + (L.set k e).length; rw [List.length_set]) (Prod.ext rfl ?_)
  funext j
  show (if j = p + k then e else ovr C p L j) = ovr C p (L.set k e) j
  unfold ovr
  by_cases q : j = p + k
  · subst q
    rw [if_pos rfl, if_pos (by omega), show p + k - p = k by omega, List.getElem?_set_self hk]
  · rw [if_neg q]
    by_cases q2 : p ≤ j
    · rw [if_pos q2, if_pos q2, List.getElem?_set_ne (by omega)]
    · rw [if_neg q2, if_neg q2]
theorem ov_mk (N : Nat) (e : sg_E) : sg_mk (OV p z C L) N e = OV p (z + N) C (L ++ [e]) := by
  refine Prod.ext (by show p + L.length + 1 = p + (L ++ [e]).length; rw [List.length_append]; rfl) (Prod.ext rfl ?_)
  funext j
  show (if j = p + L.length then e else ovr C p L j) = ovr C p (L ++ [e]) j
  unfold ovr
  by_cases q : j = p + L.length
  · subst q
    rw [if_pos rfl, if_pos (by omega), show p + L.length - p = L.length by omega, List.getElem?_append_right (Nat.le_refl _), Nat.sub_self]
    rfl
  · rw [if_neg q]
    by_cases q2 : p ≤ j
    · rw [if_pos q2, if_pos q2]
      by_cases q3 : j - p < L.length
      · rw [List.getElem?_append_left q3]
      · rw [List.getElem?_eq_none (by omega), List.getElem?_eq_none (by rw [List.length_append]; show L.length + 1 ≤ _; omega)]
    · rw [if_neg q2, if_neg q2]
theorem ov_cat : OV (p + L.length) z (ovr C p L) M = OV p z C (L ++ M) := by
  refine Prod.ext (by show p + L.length + M.length = p + (L ++ M).length; rw [List.length_append]; omega) (Prod.ext rfl ?_)
  funext j
  show ovr (ovr C p L) (p + L.length) M j = ovr C p (L ++ M) j
  unfold ovr
  by_cases q : p + L.length ≤ j
  · rw [if_pos q, if_pos (by omega), if_pos (by omega), List.getElem?_append_right (by omega), show j - (p + L.length) = j - p - L.length by omega]
    cases M[j - p - L.length]? with
    | some e => rfl
    | none => dsimp only; rw [List.getElem?_eq_none (by omega)]
  · rw [if_neg q]
    by_cases q2 : p ≤ j
    · rw [if_pos q2, if_pos q2, List.getElem?_append_left (by omega)]
    · rw [if_neg q2, if_neg q2]
theorem i_at {Mt : sg_M} {vs : List Value} {n z' : Nat} {M1 M2 : List sg_E} (hL : L.length = n) (K : ∀ C', (∀ k e, L[k]? = some e → C' (p + k) = e) → sg_Kw Mt vs (OV (p + n) z C' M1) none (OV (p + n) z' C' M2)) : sg_Kw Mt vs (OV p z C (L ++ M1)) none (OV p z' C (L ++ M2)) := by
  subst hL
  have := K (ovr C p L) (fun k e h => by unfold ovr; rw [if_pos (by omega), show p + k - p = k by omega, h])
  rw [ov_cat, ov_cat] at this
  exact this
variable {Mt : sg_M} {pc : Nat} {ls : sg_L} {st : List Value} {Q : Option Value → sg_H → Prop}
theorem at_ovnew {ix ci : Nat} {rc : vw_C} {ty : Nat → FieldType} {fs : List Value} (q : Nat) (hd : decode Mt.2.1 pc = .ok (.new ix, 3)) (hr : vwCl[ci]? = some rc) (w1 : Cond.classLink Mt.1.cls ix rc.1 ∈ sg_ws) (w2 : Cond.instantiable rc.1 rc.2.2 ∈ sg_ws) (w3 : Cond.initialized rc.1 ∈ sg_ws) (hty : ∀ k, k < rc.2.2 → parseFieldDescriptor (rc.2.1 k).2.2.1 = some (ty k)) (hfs : ∀ j, j < rc.2.2 → defaultValue (ty j) = vp_V fs j) (hl : fs.length = rc.2.2) (hcv : ∀ v ∈ fs, ∀ ad, sg_cv ad v = v) (hlt : q < 1000) (hq : p + L.length = q) (k : sg_A Mt (pc + 3) ls (.ref q :: st) (OV p (z + rc.2.2) C (L ++ [.inr (ci, fs)])) Q) : sg_A Mt pc ls st (OV p z C L) Q := by
  subst hq
  exact at_new hd hr w1 w2 w3 hty hfs hl hcv hlt (ov_mk _ _) k
theorem at_ovnewi {n : Int32} (N q : Nat) (hd : decode Mt.2.1 pc = .ok (.newarray .int, 2)) (h0 : ¬ n < 0) (hN : n.toNatClampNeg = N) (hb : N ≤ 100000) (hlt : q < 1000) (hq : p + L.length = q) (k : sg_A Mt (pc + 2) ls (.ref q :: st) (OV p (z + N) C (L ++ [.inl (false, N, fun _ => 0)])) Q) : sg_A Mt pc ls (.int n :: st) (OV p z C L) Q := by
  subst hq
  exact at_newi N hd h0 hN hb hlt (ov_mk _ _) k
theorem at_ovnewz {n : Int32} (N q : Nat) (hd : decode Mt.2.1 pc = .ok (.newarray .boolean, 2)) (h0 : ¬ n < 0) (hN : n.toNatClampNeg = N) (hb : N ≤ 100000) (hlt : q < 1000) (hq : p + L.length = q) (k : sg_A Mt (pc + 2) ls (.ref q :: st) (OV p (z + N) C (L ++ [.inl (true, N, fun _ => 0)])) Q) : sg_A Mt pc ls (.int n :: st) (OV p z C L) Q := by
  subst hq
  exact at_newz N hd h0 hN hb hlt (ov_mk _ _) k
theorem at_ovput {ix ci j k : Nat} {fs : List Value} {v : Value} (hd : decode Mt.2.1 pc = .ok (.putfield ix, 3)) (hf : sg_fok Mt.1.cls ix ci j) (hw : sg_wok Mt ci j v) (hk : p + k < 1000) (hL : L[k]? = some (.inr (ci, fs))) (_ : True) (hj : j < fs.length) (kk : sg_A Mt (pc + 3) ls st (OV p z C (L.set k (.inr (ci, fs.set j v)))) Q) : sg_A Mt pc ls (v :: .ref (p + k) :: st) (OV p z C L) Q :=
  at_put hd hf hw (ov_at hL) hk hj (ov_up _ (List.getElem?_eq_some_iff.mp hL).1) kk
end I1
section I2
variable {z : Nat} {C : Nat → sg_E}
theorem i_X3 (h : sg_H) (k : Nat) : sg_Kw MX3_init [.ref k] h none h := by
  show sg_A MX3_init 0 [some (.ref k)] [] _ _
  refine at_ld (i := 0) dX3_init_0 rfl rfl rfl ?_
  refine at_obj dX3_init_1 aX3_3 (Nat.le_of_ble_eq_true rfl) ⟨Nat.le_of_ble_eq_true rfl, Nat.le_of_ble_eq_true rfl⟩ ?_
  refine at_vret dX3_init_4 rfl ?_
  exact ⟨rfl, rfl⟩
set_option maxRecDepth 100000 in
theorem i_X1 (m l : Nat) (hm : m < 900) : sg_Kw MX1_init [.ref m, .ref l] (OV m z C [.inr (1, dfX1)]) none (OV m (z + 32) C [.inr (1, [.ref l, .ref (m + 1)]), .inl (false, 32, fun _ => 0)]) := by
  show sg_A MX1_init 0 [some (.ref m), some (.ref l)] [] _ _
  refine at_ld (i := 0) dX1_init_0 rfl rfl rfl ?_
  refine at_obj dX1_init_1 aX1_3 (Nat.le_of_ble_eq_true rfl) ⟨Nat.le_of_ble_eq_true rfl, Nat.le_of_ble_eq_true rfl⟩ ?_
  refine at_ld (i := 0) dX1_init_4 rfl rfl rfl ?_
  refine at_k (nI 32) dX1_init_5 rfl (by decide) ?_
  refine at_ovnewi 32 (m + 1) dX1_init_7 (by decide) (by decide) (by decide) (by omega) rfl ?_
  try dsimp only [List.cons_append, List.nil_append, List.set_cons_zero, List.set_cons_succ]
  refine at_ovput (k := 0) dX1_init_9 fX1_9 ⟨_, _, rfl, Or.inr ⟨rfl, rfl, rfl⟩, tyX1_ok 1 (by decide), fun _ => ⟨rfl, rfl⟩⟩ (by omega) rfl trivial (Nat.le_of_ble_eq_true rfl) ?_
  try dsimp only [List.cons_append, List.nil_append, List.set_cons_zero, List.set_cons_succ]
  refine at_ld (i := 0) dX1_init_12 rfl rfl rfl ?_
  refine at_ld (i := 1) dX1_init_13 rfl rfl rfl ?_
  refine at_ovput (k := 0) dX1_init_14 fX1_15 ⟨_, _, rfl, Or.inr ⟨rfl, rfl, rfl⟩, tyX1_ok 0 (by decide), fun _ => ⟨rfl, rfl⟩⟩ (by omega) rfl trivial (Nat.le_of_ble_eq_true rfl) ?_
  try dsimp only [List.cons_append, List.nil_append, List.set_cons_zero, List.set_cons_succ]
  refine at_vret dX1_init_17 rfl ?_
  exact ⟨rfl, rfl⟩
set_option maxRecDepth 100000 in
theorem i_X2 (p l : Nat) (hp : p < 900) : sg_Kw MX2_init [.ref p, .ref l] (OV p z C [.inr (2, dfX2)]) none (OV p (z + 24 + 24 + 24 + 24 + 24 + 240) C [.inr (2, [.ref l, .ref (p + 1), .ref (p + 2), .ref (p + 3), .ref (p + 4), .ref (p + 5), .ref (p + 6)]), .inl (false, 24, fun _ => 0), .inl (false, 24, fun _ => 0), .inl (false, 24, fun _ => 0), .inl (false, 24, fun _ => 0), .inl (false, 24, fun _ => 0), .inl (false, 240, fun _ => 0)]) := by
  show sg_A MX2_init 0 [some (.ref p), some (.ref l)] [] _ _
  refine at_ld (i := 0) dX2_init_0 rfl rfl rfl ?_
  refine at_obj dX2_init_1 aX2_3 (Nat.le_of_ble_eq_true rfl) ⟨Nat.le_of_ble_eq_true rfl, Nat.le_of_ble_eq_true rfl⟩ ?_
  refine at_ld (i := 0) dX2_init_4 rfl rfl rfl ?_
  refine at_k (nI 24) dX2_init_5 rfl (by decide) ?_
  refine at_ovnewi 24 (p + 1) dX2_init_7 (by decide) (by decide) (by decide) (by omega) rfl ?_
  try dsimp only [List.cons_append, List.nil_append, List.set_cons_zero, List.set_cons_succ]
  refine at_ovput (k := 0) dX2_init_9 fX2_9 ⟨_, _, rfl, Or.inr ⟨rfl, rfl, rfl⟩, tyX2_ok 1 (by decide), fun _ => ⟨rfl, rfl⟩⟩ (by omega) rfl trivial (Nat.le_of_ble_eq_true rfl) ?_
  try dsimp only [List.cons_append, List.nil_append, List.set_cons_zero, List.set_cons_succ]
  refine at_ld (i := 0) dX2_init_12 rfl rfl rfl ?_
  refine at_k (nI 24) dX2_init_13 rfl (by decide) ?_
  refine at_ovnewi 24 (p + 2) dX2_init_15 (by decide) (by decide) (by decide) (by omega) rfl ?_
  try dsimp only [List.cons_append, List.nil_append, List.set_cons_zero, List.set_cons_succ]
  refine at_ovput (k := 0) dX2_init_17 fX2_15 ⟨_, _, rfl, Or.inr ⟨rfl, rfl, rfl⟩, tyX2_ok 2 (by decide), fun _ => ⟨rfl, rfl⟩⟩ (by omega) rfl trivial (Nat.le_of_ble_eq_true rfl) ?_
  try dsimp only [List.cons_append, List.nil_append, List.set_cons_zero, List.set_cons_succ]
  refine at_ld (i := 0) dX2_init_20 rfl rfl rfl ?_
  refine at_k (nI 24) dX2_init_21 rfl (by decide) ?_
  refine at_ovnewi 24 (p + 3) dX2_init_23 (by decide) (by decide) (by decide) (by omega) rfl ?_
  try dsimp only [List.cons_append, List.nil_append, List.set_cons_zero, List.set_cons_succ]
  refine at_ovput (k := 0) dX2_init_25 fX2_18 ⟨_, _, rfl, Or.inr ⟨rfl, rfl, rfl⟩, tyX2_ok 3 (by decide), fun _ => ⟨rfl, rfl⟩⟩ (by omega) rfl trivial (Nat.le_of_ble_eq_true rfl) ?_
  try dsimp only [List.cons_append, List.nil_append, List.set_cons_zero, List.set_cons_succ]
  refine at_ld (i := 0) dX2_init_28 rfl rfl rfl ?_
  refine at_k (nI 24) dX2_init_29 rfl (by decide) ?_
  refine at_ovnewi 24 (p + 4) dX2_init_31 (by decide) (by decide) (by decide) (by omega) rfl ?_
  try dsimp only [List.cons_append, List.nil_append, List.set_cons_zero, List.set_cons_succ]
  refine at_ovput (k := 0) dX2_init_33 fX2_21 ⟨_, _, rfl, Or.inr ⟨rfl, rfl, rfl⟩, tyX2_ok 4 (by decide), fun _ => ⟨rfl, rfl⟩⟩ (by omega) rfl trivial (Nat.le_of_ble_eq_true rfl) ?_
  try dsimp only [List.cons_append, List.nil_append, List.set_cons_zero, List.set_cons_succ]
  refine at_ld (i := 0) dX2_init_36 rfl rfl rfl ?_
  refine at_k (nI 24) dX2_init_37 rfl (by decide) ?_
  refine at_ovnewi 24 (p + 5) dX2_init_39 (by decide) (by decide) (by decide) (by omega) rfl ?_
  try dsimp only [List.cons_append, List.nil_append, List.set_cons_zero, List.set_cons_succ]
  refine at_ovput (k := 0) dX2_init_41 fX2_24 ⟨_, _, rfl, Or.inr ⟨rfl, rfl, rfl⟩, tyX2_ok 5 (by decide), fun _ => ⟨rfl, rfl⟩⟩ (by omega) rfl trivial (Nat.le_of_ble_eq_true rfl) ?_
  try dsimp only [List.cons_append, List.nil_append, List.set_cons_zero, List.set_cons_succ]
  refine at_ld (i := 0) dX2_init_44 rfl rfl rfl ?_
  refine at_k (nI 240) dX2_init_45 rfl (by decide) ?_
  refine at_ovnewi 240 (p + 6) dX2_init_48 (by decide) (by decide) (by decide) (by omega) rfl ?_
  try dsimp only [List.cons_append, List.nil_append, List.set_cons_zero, List.set_cons_succ]
  refine at_ovput (k := 0) dX2_init_50 fX2_27 ⟨_, _, rfl, Or.inr ⟨rfl, rfl, rfl⟩, tyX2_ok 6 (by decide), fun _ => ⟨rfl, rfl⟩⟩ (by omega) rfl trivial (Nat.le_of_ble_eq_true rfl) ?_
  try dsimp only [List.cons_append, List.nil_append, List.set_cons_zero, List.set_cons_succ]
  refine at_ld (i := 0) dX2_init_53 rfl rfl rfl ?_
  refine at_ld (i := 1) dX2_init_54 rfl rfl rfl ?_
  refine at_ovput (k := 0) dX2_init_55 fX2_30 ⟨_, _, rfl, Or.inr ⟨rfl, rfl, rfl⟩, tyX2_ok 0 (by decide), fun _ => ⟨rfl, rfl⟩⟩ (by omega) rfl trivial (Nat.le_of_ble_eq_true rfl) ?_
  try dsimp only [List.cons_append, List.nil_append, List.set_cons_zero, List.set_cons_succ]
  refine at_vret dX2_init_58 rfl ?_
  exact ⟨rfl, rfl⟩
set_option maxRecDepth 100000 in
theorem i_X4 (m l : Nat) (hm : m < 900) : sg_Kw MX4_init [.ref m, .ref l] (OV m z C [.inr (4, dfX4)]) none (OV m (z + 6) C [.inr (4, [.ref l, .ref (m + 1), .int 0, .int 0, .int 0, .int 0, .int 0, .int 0, .int 0]), .inl (false, 6, fun _ => 0)]) := by
  show sg_A MX4_init 0 [some (.ref m), some (.ref l)] [] _ _
  refine at_ld (i := 0) dX4_init_0 rfl rfl rfl ?_
  refine at_obj dX4_init_1 aX4_3 (Nat.le_of_ble_eq_true rfl) ⟨Nat.le_of_ble_eq_true rfl, Nat.le_of_ble_eq_true rfl⟩ ?_
  refine at_ld (i := 0) dX4_init_4 rfl rfl rfl ?_
  refine at_k (nI 6) dX4_init_5 rfl (by decide) ?_
  refine at_ovnewi 6 (m + 1) dX4_init_7 (by decide) (by decide) (by decide) (by omega) rfl ?_
  try dsimp only [List.cons_append, List.nil_append, List.set_cons_zero, List.set_cons_succ]
  refine at_ovput (k := 0) dX4_init_9 fX4_9 ⟨_, _, rfl, Or.inr ⟨rfl, rfl, rfl⟩, tyX4_ok 1 (by decide), fun _ => ⟨rfl, rfl⟩⟩ (by omega) rfl trivial (Nat.le_of_ble_eq_true rfl) ?_
  try dsimp only [List.cons_append, List.nil_append, List.set_cons_zero, List.set_cons_succ]
  refine at_ld (i := 0) dX4_init_12 rfl rfl rfl ?_
  refine at_ld (i := 1) dX4_init_13 rfl rfl rfl ?_
  refine at_ovput (k := 0) dX4_init_14 fX4_15 ⟨_, _, rfl, Or.inr ⟨rfl, rfl, rfl⟩, tyX4_ok 0 (by decide), fun _ => ⟨rfl, rfl⟩⟩ (by omega) rfl trivial (Nat.le_of_ble_eq_true rfl) ?_
  try dsimp only [List.cons_append, List.nil_append, List.set_cons_zero, List.set_cons_succ]
  refine at_vret dX4_init_17 rfl ?_
  exact ⟨rfl, rfl⟩
set_option maxRecDepth 100000 in
theorem i_X5 (m : Nat) (hm : m < 900) : sg_Kw MX5_init [.ref m] (OV m z C [.inr (5, dfX5)]) none (OV m (z + 200) C [.inr (5, [.ref (m + 1), .int 0]), .inl (false, 200, fun _ => 0)]) := by
  show sg_A MX5_init 0 [some (.ref m)] [] _ _
  refine at_ld (i := 0) dX5_init_0 rfl rfl rfl ?_
  refine at_obj dX5_init_1 aX5_3 (Nat.le_of_ble_eq_true rfl) ⟨Nat.le_of_ble_eq_true rfl, Nat.le_of_ble_eq_true rfl⟩ ?_
  refine at_ld (i := 0) dX5_init_4 rfl rfl rfl ?_
  refine at_k (nI 200) dX5_init_5 rfl (by decide) ?_
  refine at_ovnewi 200 (m + 1) dX5_init_8 (by decide) (by decide) (by decide) (by omega) rfl ?_
  try dsimp only [List.cons_append, List.nil_append, List.set_cons_zero, List.set_cons_succ]
  refine at_ovput (k := 0) dX5_init_10 fX5_9 ⟨_, _, rfl, Or.inr ⟨rfl, rfl, rfl⟩, tyX5_ok 0 (by decide), fun _ => ⟨rfl, rfl⟩⟩ (by omega) rfl trivial (Nat.le_of_ble_eq_true rfl) ?_
  try dsimp only [List.cons_append, List.nil_append, List.set_cons_zero, List.set_cons_succ]
  refine at_vret dX5_init_13 rfl ?_
  exact ⟨rfl, rfl⟩
/-- a new volume's cells -/
def vc (a o : Nat) : sg_E := voC a (fun _ => 0) (fun _ => 0) (fun _ => 0) (fun _ _ => 0) 0 0 o
def vcl (a : Nat) : List sg_E := [vc a 0, vc a 1, vc a 2, vc a 3, vc a 4, vc a 5, vc a 6, vc a 7, vc a 8, vc a 9, vc a 10, vc a 11, vc a 12]
set_option maxRecDepth 100000 in
theorem i_X6 (a : Nat) (ha : a < 800) : sg_Kw MX6_init [.ref a] (OV a z C [.inr (6, dfX6)]) none (OV a (z + 6 + 2 + 32 + 2 + 32 + 7 + 24 + 24 + 24 + 24 + 24 + 240) C (vcl a)) := by
  show sg_A MX6_init 0 [some (.ref a)] [] _ _
  refine at_ld (i := 0) dX6_init_0 rfl rfl rfl ?_
  refine at_obj dX6_init_1 aX6_3 (Nat.le_of_ble_eq_true rfl) ⟨Nat.le_of_ble_eq_true rfl, Nat.le_of_ble_eq_true rfl⟩ ?_
  refine at_ld (i := 0) dX6_init_4 rfl rfl rfl ?_
  refine at_ovnew (ci := 3) (rc := (RX3, TX3, 6)) (a + 1) dX6_init_5 rfl cX6_9 xX3 zX3 tyX3_ok dfX3_ok rfl dfX3_cv (by omega) rfl ?_
  try dsimp only [List.cons_append, List.nil_append, List.set_cons_zero, List.set_cons_succ]
  refine at_dup dX6_init_8 rfl ?_
  refine at_ci [] dX6_init_9 mX3_init ⟨Nat.le_of_ble_eq_true rfl, Nat.le_of_ble_eq_true rfl⟩ lX6_11 nX3_init rfl rfl rfl (Nat.le_of_ble_eq_true rfl) (Nat.le_of_ble_eq_true rfl) (i_X3 _ (a + 1)) ?_ ?_
  · rintro r h1 ⟨-, rfl⟩
    exact ⟨rfl, rfl⟩
  · rintro r h1 ⟨rfl, rfl⟩
    try dsimp only [Option.toList, List.cons_append, List.nil_append]
    refine at_ovput (k := 0) dX6_init_12 fX6_12 ⟨_, _, rfl, Or.inr ⟨rfl, rfl, rfl⟩, tyX6_ok 0 (by decide), fun _ => ⟨rfl, rfl⟩⟩ (by omega) rfl trivial (Nat.le_of_ble_eq_true rfl) ?_
    try dsimp only [List.cons_append, List.nil_append, List.set_cons_zero, List.set_cons_succ]
    refine at_ld (i := 0) dX6_init_15 rfl rfl rfl ?_
    refine at_ovnew (ci := 1) (rc := (RX1, TX1, 2)) (a + 2) dX6_init_16 rfl cX6_18 xX1 zX1 tyX1_ok dfX1_ok rfl dfX1_cv (by omega) rfl ?_
    try dsimp only [List.cons_append, List.nil_append, List.set_cons_zero, List.set_cons_succ]
    refine at_dup dX6_init_19 rfl ?_
    refine at_ld (i := 0) dX6_init_20 rfl rfl rfl ?_
    refine at_get dX6_init_21 fX6_12 (ov_at (k := 0) rfl) (by omega) rfl ?_
    refine at_ci [_] dX6_init_24 mX1_init ⟨Nat.le_of_ble_eq_true rfl, Nat.le_of_ble_eq_true rfl⟩ lX6_20 nX1_init rfl rfl rfl (Nat.le_of_ble_eq_true rfl) (Nat.le_of_ble_eq_true rfl) (i_at (L := [_, _]) (n := 2) rfl (fun C2 _ => i_X1 (a + 2) (a + 1) (by omega))) ?_ ?_
    · rintro r h1 ⟨-, rfl⟩
      exact ⟨rfl, rfl⟩
    · rintro r h1 ⟨rfl, rfl⟩
      dsimp only [Option.toList, List.cons_append, List.nil_append]
      refine at_ovput (k := 0) dX6_init_27 fX6_23 ⟨_, _, rfl, Or.inr ⟨rfl, rfl, rfl⟩, tyX6_ok 1 (by decide), fun _ => ⟨rfl, rfl⟩⟩ (by omega) rfl trivial (Nat.le_of_ble_eq_true rfl) ?_
      try dsimp only [List.cons_append, List.nil_append, List.set_cons_zero, List.set_cons_succ]
      refine at_ld (i := 0) dX6_init_30 rfl rfl rfl ?_
      refine at_ovnew (ci := 1) (rc := (RX1, TX1, 2)) (a + 4) dX6_init_31 rfl cX6_18 xX1 zX1 tyX1_ok dfX1_ok rfl dfX1_cv (by omega) rfl ?_
      try dsimp only [List.cons_append, List.nil_append, List.set_cons_zero, List.set_cons_succ]
      refine at_dup dX6_init_34 rfl ?_
      refine at_ld (i := 0) dX6_init_35 rfl rfl rfl ?_
      refine at_get dX6_init_36 fX6_12 (ov_at (k := 0) rfl) (by omega) rfl ?_
      refine at_ci [_] dX6_init_39 mX1_init ⟨Nat.le_of_ble_eq_true rfl, Nat.le_of_ble_eq_true rfl⟩ lX6_20 nX1_init rfl rfl rfl (Nat.le_of_ble_eq_true rfl) (Nat.le_of_ble_eq_true rfl) (i_at (L := [_, _, _, _]) (n := 4) rfl (fun C2 _ => i_X1 (a + 4) (a + 1) (by omega))) ?_ ?_
      · rintro r h1 ⟨-, rfl⟩
        exact ⟨rfl, rfl⟩
      · rintro r h1 ⟨rfl, rfl⟩
        dsimp only [Option.toList, List.cons_append, List.nil_append]
        refine at_ovput (k := 0) dX6_init_42 fX6_27 ⟨_, _, rfl, Or.inr ⟨rfl, rfl, rfl⟩, tyX6_ok 2 (by decide), fun _ => ⟨rfl, rfl⟩⟩ (by omega) rfl trivial (Nat.le_of_ble_eq_true rfl) ?_
        try dsimp only [List.cons_append, List.nil_append, List.set_cons_zero, List.set_cons_succ]
        refine at_ld (i := 0) dX6_init_45 rfl rfl rfl ?_
        refine at_ovnew (ci := 2) (rc := (RX2, TX2, 7)) (a + 6) dX6_init_46 rfl cX6_30 xX2 zX2 tyX2_ok dfX2_ok rfl dfX2_cv (by omega) rfl ?_
        try dsimp only [List.cons_append, List.nil_append, List.set_cons_zero, List.set_cons_succ]
        refine at_dup dX6_init_49 rfl ?_
        refine at_ld (i := 0) dX6_init_50 rfl rfl rfl ?_
        refine at_get dX6_init_51 fX6_12 (ov_at (k := 0) rfl) (by omega) rfl ?_
        refine at_ci [_] dX6_init_54 mX2_init ⟨Nat.le_of_ble_eq_true rfl, Nat.le_of_ble_eq_true rfl⟩ lX6_32 nX2_init rfl rfl rfl (Nat.le_of_ble_eq_true rfl) (Nat.le_of_ble_eq_true rfl) (i_at (L := [_, _, _, _, _, _]) (n := 6) rfl (fun C2 _ => i_X2 (a + 6) (a + 1) (by omega))) ?_ ?_
        · rintro r h1 ⟨-, rfl⟩
          exact ⟨rfl, rfl⟩
        · rintro r h1 ⟨rfl, rfl⟩
          dsimp only [Option.toList, List.cons_append, List.nil_append]
          refine at_ovput (k := 0) dX6_init_57 fX6_33 ⟨_, _, rfl, Or.inr ⟨rfl, rfl, rfl⟩, tyX6_ok 3 (by decide), fun _ => ⟨rfl, rfl⟩⟩ (by omega) rfl trivial (Nat.le_of_ble_eq_true rfl) ?_
          try dsimp only [List.cons_append, List.nil_append, List.set_cons_zero, List.set_cons_succ]
          refine at_vret dX6_init_60 rfl ?_
          exact ⟨rfl, rfl⟩
set_option maxRecDepth 100000 in
theorem i_X0 (D a : Nat) (hD : D < 800) (haD : a < D) {e m : Value} (hC : C a = .inr (6, [.ref (a + 1), .ref (a + 2), .ref (a + 4), .ref (a + 6), e, m])) : sg_Kw MX0_init [.ref D, .ref a] (OV D z C [.inr (0, dfX0)]) none (OV D (z + 2 + 32) C [.inr (0, [.ref a, .ref (a + 1), .ref (a + 2), .ref (a + 6), .ref (D + 1)]), .inr (1, [.ref (a + 1), .ref (D + 1 + 1)]), .inl (false, 32, fun _ => 0)]) := by
  show sg_A MX0_init 0 [some (.ref D), some (.ref a)] [] _ _
  refine at_ld (i := 0) dX0_init_0 rfl rfl rfl ?_
  refine at_obj dX0_init_1 aX0_3 (Nat.le_of_ble_eq_true rfl) ⟨Nat.le_of_ble_eq_true rfl, Nat.le_of_ble_eq_true rfl⟩ ?_
  refine at_ld (i := 0) dX0_init_4 rfl rfl rfl ?_
  refine at_ld (i := 1) dX0_init_5 rfl rfl rfl ?_
  refine at_ovput (k := 0) dX0_init_6 fX0_9 ⟨_, _, rfl, Or.inr ⟨rfl, rfl, rfl⟩, tyX0_ok 0 (by decide), fun _ => ⟨rfl, rfl⟩⟩ (by omega) rfl trivial (Nat.le_of_ble_eq_true rfl) ?_
  try dsimp only [List.cons_append, List.nil_append, List.set_cons_zero, List.set_cons_succ]
  refine at_ld (i := 0) dX0_init_9 rfl rfl rfl ?_
  refine at_ld (i := 1) dX0_init_10 rfl rfl rfl ?_
  refine at_get dX0_init_11 fX0_15 (ov_old hC haD) (by omega) rfl ?_
  refine at_ovput (k := 0) dX0_init_14 fX0_21 ⟨_, _, rfl, Or.inr ⟨rfl, rfl, rfl⟩, tyX0_ok 1 (by decide), fun _ => ⟨rfl, rfl⟩⟩ (by omega) rfl trivial (Nat.le_of_ble_eq_true rfl) ?_
  try dsimp only [List.cons_append, List.nil_append, List.set_cons_zero, List.set_cons_succ]
  refine at_ld (i := 0) dX0_init_17 rfl rfl rfl ?_
  refine at_ld (i := 1) dX0_init_18 rfl rfl rfl ?_
  refine at_get dX0_init_19 fX0_22 (ov_old hC haD) (by omega) rfl ?_
  refine at_ovput (k := 0) dX0_init_22 fX0_26 ⟨_, _, rfl, Or.inr ⟨rfl, rfl, rfl⟩, tyX0_ok 2 (by decide), fun _ => ⟨rfl, rfl⟩⟩ (by omega) rfl trivial (Nat.le_of_ble_eq_true rfl) ?_
  try dsimp only [List.cons_append, List.nil_append, List.set_cons_zero, List.set_cons_succ]
  refine at_ld (i := 0) dX0_init_25 rfl rfl rfl ?_
  refine at_ld (i := 1) dX0_init_26 rfl rfl rfl ?_
  refine at_get dX0_init_27 fX0_27 (ov_old hC haD) (by omega) rfl ?_
  refine at_ovput (k := 0) dX0_init_30 fX0_31 ⟨_, _, rfl, Or.inr ⟨rfl, rfl, rfl⟩, tyX0_ok 3 (by decide), fun _ => ⟨rfl, rfl⟩⟩ (by omega) rfl trivial (Nat.le_of_ble_eq_true rfl) ?_
  try dsimp only [List.cons_append, List.nil_append, List.set_cons_zero, List.set_cons_succ]
  refine at_ld (i := 0) dX0_init_33 rfl rfl rfl ?_
  refine at_ovnew (ci := 1) (rc := (RX1, TX1, 2)) (D + 1) dX0_init_34 rfl cX0_32 xX1 zX1 tyX1_ok dfX1_ok rfl dfX1_cv (by omega) rfl ?_
  try dsimp only [List.cons_append, List.nil_append, List.set_cons_zero, List.set_cons_succ]
  refine at_dup dX0_init_37 rfl ?_
  refine at_ld (i := 1) dX0_init_38 rfl rfl rfl ?_
  refine at_get dX0_init_39 fX0_15 (ov_old hC haD) (by omega) rfl ?_
  refine at_ci [_] dX0_init_42 mX1_init ⟨Nat.le_of_ble_eq_true rfl, Nat.le_of_ble_eq_true rfl⟩ lX0_34 nX1_init rfl rfl rfl (Nat.le_of_ble_eq_true rfl) (Nat.le_of_ble_eq_true rfl) (i_at (L := [_]) (n := 1) rfl (fun C2 _ => i_X1 (D + 1) (a + 1) (by omega))) ?_ ?_
  · rintro r h1 ⟨-, rfl⟩
    exact ⟨rfl, rfl⟩
  · rintro r h1 ⟨rfl, rfl⟩
    dsimp only [Option.toList, List.cons_append, List.nil_append]
    refine at_ovput (k := 0) dX0_init_45 fX0_37 ⟨_, _, rfl, Or.inr ⟨rfl, rfl, rfl⟩, tyX0_ok 4 (by decide), fun _ => ⟨rfl, rfl⟩⟩ (by omega) rfl trivial (Nat.le_of_ble_eq_true rfl) ?_
    try dsimp only [List.cons_append, List.nil_append, List.set_cons_zero, List.set_cons_succ]
    refine at_vret dX0_init_48 rfl ?_
    exact ⟨rfl, rfl⟩
end I2
