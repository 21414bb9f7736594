/-! SOUNDNESS of the deep semantics for the kit's W: every rule of sg_C holds of sg_S. -/
def sg_ad (base : Nat) (ext : Nat → Nat) (k : Nat) : Nat := if k < 1000 then base + k else ext k
def sg_cE (cI cZ : ClassId) (ad : Nat → Nat) : sg_E → va_E
  | .inl (z, n, f) => .inl (if z then cZ else cI, n, .inl f)
  | .inr (c, fs) => .inr (c, fs.map (sg_cv ad))
/-- the heap holds the places -/
def sg_hm (base : Nat) (ext : Nat → Nat) (D : va_G) (cI cZ : ClassId) (ro : Nat → Option (Nat × (Nat → Int32))) (h : sg_H) (H : Heap) : Prop :=
  H.size = base + h.1 ∧ h.1 ≤ 1000 ∧ (∀ k, k < h.1 → va_at D vwCl (base + k, sg_cE cI cZ (sg_ad base ext) (h.2.2 k)) H) ∧ ∀ k, 1000 ≤ k → ∀ n f, h.2.2 k = .inl (false, n, f) → ro k = some (n, f)
/-- the String constants and what their methods read -/
def sg_jx (base : Nat) (ext : Nat → Nat) (U : State) : Prop :=
  (∃ adV : Nat → Nat, vk_S 3 [6, 3, 4] [sg_tx 1010, sg_tx 1011, sg_tx 1012] (fun i => ext (1010 + i)) adV (fun q => base ≤ q) U U.heap) ∧ va_Z "java/lang/String" "COMPACT_STRINGS" "Z" (.int 1) (fun q => base ≤ q) U U.heap ∧ va_Zq "jdk/internal/util/Preconditions" "SIOOBE_FORMATTER" "Ljava/util/function/BiFunction;" (fun q => base ≤ q) U U.heap ∧ ∀ t ∈ sg_scl, ∃ tx, vk_R t.1 t.2.1 tx (ext t.2.2) U
/-- what a method's start gives beside its words -/
def sg_ctx (base : Nat) (ext : Nat → Nat) (D : va_G) (cI cZ : ClassId) (ro : Nat → Option (Nat × (Nat → Int32))) (U : State) : Prop :=
  va_K D vwCl [(cI, .int), (cZ, .boolean)] U ∧ (∀ w ∈ sg_nws, va_Nw w U) ∧ (∀ k n f, ro k = some (n, f) → va_X (ext k) n f U U.heap ∧ ext k < base) ∧ base ≤ U.heap.size ∧ (∀ t ∈ sg_stl, va_Z RX7 t.2.2.1 "[I" (.ref (ext t.2.2.2)) (fun q => base ≤ q) U U.heap) ∧ sg_jx base ext U
def sg_fx (M : sg_M) (p : Program) (R : Room) (s : State) (m : MethodId) (args : Array Value) (meth : Method) (c : Code) : Prop :=
  p.tables.exec = Jvm.exec ∧ c.code = M.2.1 ∧ c.maxLocals = M.2.2.1 ∧ s.vm.findClass M.1.cls = some m.cls ∧ (∀ w ∈ sg_ws, w.before args s = true) ∧ meth.name = M.1.name ∧ M.2.2.2.2.frames ≤ R.frames ∧ M.2.2.2.2.locals ≤ R.locals
def sg_lm (ad : Nat → Nat) (lsC : Array Slot) (n : Nat) (ls : sg_L) : Prop := lsC.size = n ∧ lv_wf lsC ∧ ls.length = n ∧ ∀ (i : Nat) (v : Value), ls[i]? = some (some v) → lsC[i]? = some (.val (sg_cv ad v))
def sg_rt (M : sg_M) (pc : Nat) (r : Option Value) : Prop := (∃ (v : Int32) (ty : FieldType), r = some (.int v) ∧ decode M.2.1 pc = .ok (.ireturn, 1) ∧ M.2.2.2.1 = some ty ∧ narrow ty (.int v) = .int v) ∨ (r = none ∧ decode M.2.1 pc = .ok (.return_, 1) ∧ M.2.2.2.1 = none)
def sg_S (l : Launch) : sg_P := fun M pc ls st h out =>
  (h.1 ≤ out.2.1 ∧ h.2.1 ≤ out.2.2.1) ∧
  ∀ (base : Nat) (ext : Nat → Nat) (D : va_G) (cI cZ : ClassId) (ro : Nat → Option (Nat × (Nat → Int32))) (p : Program) (e : Env) (R : Room) (s : State) (m : MethodId) (args : Array Value) (below : List Frame) (meth : Method) (c : Code) (H : Heap) (locs : List Loc) (lsC : Array Slot) (n0 z0 : Nat) (Q : State → Prop),
    sg_fx M p R s m args meth c → sg_ctx base ext D cI cZ ro s → sg_hm base ext D cI cZ ro h H → va_S (fun q => base ≤ q) s.heap H locs → sg_lm (sg_ad base ext) lsC M.2.2.1 ls → (n0 ≤ h.1 ∧ z0 ≤ h.2.1 ∧ out.2.1 ≤ n0 + R.cells ∧ out.2.2.1 ≤ z0 + R.slots) →
    (∀ (pc' : Nat) (H' : Heap) (locs' : List Loc) (lsC' : Array Slot), sg_hm base ext D cI cZ ro out.2 H' → va_S (fun q => base ≤ q) s.heap H' locs' → sg_rt M pc' out.1 → W p l e R s m args below meth c H' locs' (out.2.1 - n0) (out.2.2.1 - z0) Q (F0 m pc' lsC' ((out.1.map (sg_cv (sg_ad base ext))).toList))) →
    W p l e R s m args below meth c H locs (h.1 - n0) (h.2.1 - z0) Q (F0 m pc lsC (st.map (sg_cv (sg_ad base ext))))
/-- a store into the locals -/
theorem sg_lm_set {ad : Nat → Nat} {lsC : Array Slot} {n : Nat} {ls : sg_L} (h : sg_lm ad lsC n ls) {i : Nat} {v : Value} (hi : i < ls.length) (hf : sg_fr ls i = true) (hc : (sg_cv ad v).category = 1) :
    ∃ lsC', storeLocals lsC i (sg_cv ad v) = some lsC' ∧ sg_lm ad lsC' n (ls.set i (some v)) := by
  obtain ⟨h1, h2, h3, h4⟩ := h
  have hb : lv_has lsC n ((List.range n).filterMap (fun j => match ls[j]? with | some (some w) => some (j, sg_cv ad w) | _ => none)) := by
    refine ⟨h1, h2, fun q hq => ?_⟩
    obtain ⟨j, -, hj⟩ := List.mem_filterMap.mp hq
    cases hx : ls[j]? with
    | none => rw [hx] at hj; cases hj
    | some o =>
      cases o with
      | none => rw [hx] at hj; cases hj
      | some w =>
        rw [hx] at hj
        cases hj
        exact h4 j w hx
  obtain ⟨lsC', e1, e2, e3, e4⟩ := lv_store1 (v := sg_cv ad v) hb (show i < n by omega) hc
  refine ⟨lsC', e1, e2, e3, by simp [h3], fun j w hj => ?_⟩
  by_cases hji : j = i
  · subst hji
    rw [List.getElem?_set_self hi] at hj
    cases hj
    exact e4 (j, sg_cv ad v) (List.mem_cons_self)
  · rw [List.getElem?_set_ne (fun q => hji q.symm)] at hj
    refine e4 (j, sg_cv ad w) (List.mem_cons_of_mem _ (List.mem_filter.mpr ⟨List.mem_filterMap.mpr ⟨j, List.mem_range.mpr ?_, by rw [hj]⟩, ?_⟩))
    · have := (List.getElem?_eq_some_iff.mp hj).1
      omega
    · simp only [Bool.and_eq_true, Bool.not_eq_true', beq_eq_false_iff_ne, ne_eq, Bool.and_eq_false_iff]
      refine ⟨hji, ?_⟩
      by_cases hq : j + 1 = i
      · right
        subst hq
        simp only [sg_fr, hj] at hf
        cases w <;> simp [sg_cv, Value.category] at hf ⊢
      · left
        exact hq
theorem sg_s01 (l : Launch) : sg_q01 (sg_S l) := by
  intro M pc ls st h out ins len i kd v hd hx hv hk ⟨hm, ih⟩
  refine ⟨hm, ?_⟩
  intro base ext D cI cZ ro p e R s m args below meth c H locs lsC n0 z0 Q hf hc hh hs hl hn kk
  have hg := hl.2.2.2 i v hv
  have W1 := ih base ext D cI cZ ro p e R s m args below meth c H locs lsC n0 z0 Q hf hc hh hs hl hn kk
  cases ins <;> simp only [sg_lx, Option.some.injEq, Prod.mk.injEq, reduceCtorEq] at hx
  all_goals (obtain ⟨rfl, rfl, rfl⟩ := hx)
  all_goals (cases v <;> simp only [sg_kd, reduceCtorEq, Bool.false_eq_true, beq_iff_eq, Nat.reduceEqDiff, Nat.reduceBEq] at hk)
  · exact lv_aload hf.1 hf.2.1 hd hg W1
  · exact lv_aload_n hf.1 hf.2.1 hd rfl hg W1
  · exact lv_iload hf.1 hf.2.1 hd hg W1
  · exact lv_iload_n hf.1 hf.2.1 hd rfl hg W1
  · exact lv_lload hf.1 hf.2.1 hd hg W1
  · exact lv_lload_n hf.1 hf.2.1 hd rfl hg W1
theorem sg_s02 (l : Launch) : sg_q02 (sg_S l) := by
  intro M pc ls st h out ins len i kd v hd hx hk hi hfr ⟨hm, ih⟩
  refine ⟨hm, ?_⟩
  intro base ext D cI cZ ro p e R s m args below meth c H locs lsC n0 z0 Q hf hc hh hs hl hn kk
  obtain ⟨lsC', e1, hl'⟩ := sg_lm_set (v := v) hl hi hfr (by cases v <;> first | rfl | (cases ins <;> simp only [sg_sx, Option.some.injEq, Prod.mk.injEq, reduceCtorEq] at hx <;> (obtain ⟨rfl, rfl, rfl⟩ := hx) <;> simp [sg_kd] at hk))
  have W1 := ih base ext D cI cZ ro p e R s m args below meth c H locs lsC' n0 z0 Q hf hc hh hs hl' hn kk
  intro T hT X
  obtain ⟨t, a, b⟩ := W1 T hT X
  refine ⟨t, ?_, b⟩
  cases ins <;> simp only [sg_sx, Option.some.injEq, Prod.mk.injEq, reduceCtorEq] at hx
  all_goals (obtain ⟨rfl, rfl, rfl⟩ := hx)
  all_goals (cases v <;> simp only [sg_kd, reduceCtorEq, Bool.false_eq_true, beq_iff_eq, Nat.reduceEqDiff, Nat.reduceBEq] at hk)
  all_goals (simp only [List.map_cons, sg_cv] at e1 ⊢; jvm_step X.here [X.here.top, hf.1, hf.2.1, hd, e1]; first | exact a | exact ⟨rfl, a⟩)
theorem sg_s03 (l : Launch) : sg_q03 (sg_S l) := by
  intro M pc ls st h out ins len v hd hx ⟨hm, ih⟩
  refine ⟨hm, ?_⟩
  intro base ext D cI cZ ro p e R s m args below meth c H locs lsC n0 z0 Q hf hc hh hs hl hn kk
  have W1 := ih base ext D cI cZ ro p e R s m args below meth c H locs lsC n0 z0 Q hf hc hh hs hl hn kk
  cases ins <;> simp only [sg_kx, Option.some.injEq, Prod.mk.injEq, reduceCtorEq] at hx
  all_goals (obtain ⟨hv, rfl⟩ := hx)
  · exact lv_bipush hf.1 hf.2.1 hd hv W1
  · exact lv_iconst hf.1 hf.2.1 hd hv W1
  · exact lv_sipush hf.1 hf.2.1 hd hv W1
theorem sg_s04 (l : Launch) : sg_q04 (sg_S l) := by
  intro M pc ls st h out n hd ⟨hm, ih⟩
  refine ⟨hm, ?_⟩
  intro base ext D cI cZ ro p e R s m args below meth c H locs lsC n0 z0 Q hf hc hh hs hl hn kk
  exact lv_lconst hf.1 hf.2.1 hd rfl (ih base ext D cI cZ ro p e R s m args below meth c H locs lsC n0 z0 Q hf hc hh hs hl hn kk)
theorem sg_s05 (l : Launch) : sg_q05 (sg_S l) := by
  intro M pc ls st h out ix v hd hw ⟨hm, ih⟩
  refine ⟨hm, ?_⟩
  intro base ext D cI cZ ro p e R s m args below meth c H locs lsC n0 z0 Q hf hc hh hs hl hn kk
  exact lv_ldc hf.1 hf.2.1 hf.2.2.2.1 (hf.2.2.2.2.1 _ hw) hd (ih base ext D cI cZ ro p e R s m args below meth c H locs lsC n0 z0 Q hf hc hh hs hl hn kk)
theorem sg_s06 (l : Launch) : sg_q06 (sg_S l) := by
  intro M pc ls st h out ix v hd hw ⟨hm, ih⟩
  refine ⟨hm, ?_⟩
  intro base ext D cI cZ ro p e R s m args below meth c H locs lsC n0 z0 Q hf hc hh hs hl hn kk
  exact lv_ldcw hf.1 hf.2.1 hf.2.2.2.1 (hf.2.2.2.2.1 _ hw) hd (ih base ext D cI cZ ro p e R s m args below meth c H locs lsC n0 z0 Q hf hc hh hs hl hn kk)
theorem sg_s07 (l : Launch) : sg_q07 (sg_S l) := by
  intro M pc ls st h out ix v hd hw ⟨hm, ih⟩
  refine ⟨hm, ?_⟩
  intro base ext D cI cZ ro p e R s m args below meth c H locs lsC n0 z0 Q hf hc hh hs hl hn kk
  exact lv_ldc2 hf.1 hf.2.1 hf.2.2.2.1 (hf.2.2.2.2.1 _ hw) hd (ih base ext D cI cZ ro p e R s m args below meth c H locs lsC n0 z0 Q hf hc hh hs hl hn kk)
theorem sg_s08 (l : Launch) : sg_q08 (sg_S l) := by
  intro M pc ls st h out ix k hd hw ⟨hm, ih⟩
  refine ⟨hm, ?_⟩
  intro base ext D cI cZ ro p e R s m args below meth c H locs lsC n0 z0 Q hf hc hh hs hl hn kk
  have W1 := ih base ext D cI cZ ro p e R s m args below meth c H locs lsC n0 z0 Q hf hc hh hs hl hn kk
  obtain ⟨tx, hR⟩ := hc.2.2.2.2.2.2.2.2 _ hw
  have hk : ¬ k < 1000 := by
    simp only [sg_scl, List.mem_cons, List.not_mem_nil, Prod.mk.injEq, or_false] at hw
    omega
  simp only [List.map_cons, sg_cv, sg_ad, if_neg hk] at W1
  exact va_ldcS hf.1 hf.2.1 hf.2.2.2.1 hR hd W1
theorem sg_s09 (l : Launch) : sg_q09 (sg_S l) := by
  intro M pc ls st h out ins f x y hd hx ⟨hm, ih⟩
  refine ⟨hm, ?_⟩
  intro base ext D cI cZ ro p e R s m args below meth c H locs lsC n0 z0 Q hf hc hh hs hl hn kk
  have W1 := ih base ext D cI cZ ro p e R s m args below meth c H locs lsC n0 z0 Q hf hc hh hs hl hn kk
  cases ins <;> simp only [sg_bx, Option.some.injEq, reduceCtorEq] at hx
  all_goals (subst hx)
  · exact lv_iadd hf.1 hf.2.1 hd W1
  · exact lv_iand hf.1 hf.2.1 hd W1
  · exact lv_imul hf.1 hf.2.1 hd W1
  · exact lv_ior hf.1 hf.2.1 hd W1
  · exact lv_ishl hf.1 hf.2.1 hd W1
  · exact lv_ishr hf.1 hf.2.1 hd W1
  · exact lv_isub hf.1 hf.2.1 hd W1
  · exact lv_iushr hf.1 hf.2.1 hd rfl W1
  · exact lv_ixor hf.1 hf.2.1 hd W1
theorem sg_s10 (l : Launch) : sg_q10 (sg_S l) := by
  intro M pc ls st h out x y hd hy ⟨hm, ih⟩
  refine ⟨hm, ?_⟩
  intro base ext D cI cZ ro p e R s m args below meth c H locs lsC n0 z0 Q hf hc hh hs hl hn kk
  exact lv_idiv hf.1 hf.2.1 hd hy (ih base ext D cI cZ ro p e R s m args below meth c H locs lsC n0 z0 Q hf hc hh hs hl hn kk)
theorem sg_s11 (l : Launch) : sg_q11 (sg_S l) := by
  intro M pc ls st h out x y hd hy ⟨hm, ih⟩
  refine ⟨hm, ?_⟩
  intro base ext D cI cZ ro p e R s m args below meth c H locs lsC n0 z0 Q hf hc hh hs hl hn kk
  exact lv_irem hf.1 hf.2.1 hd hy (ih base ext D cI cZ ro p e R s m args below meth c H locs lsC n0 z0 Q hf hc hh hs hl hn kk)
theorem sg_s12 (l : Launch) : sg_q12 (sg_S l) := by
  intro M pc ls st h out x hd ⟨hm, ih⟩
  refine ⟨hm, ?_⟩
  intro base ext D cI cZ ro p e R s m args below meth c H locs lsC n0 z0 Q hf hc hh hs hl hn kk
  exact lv_i2l hf.1 hf.2.1 hd rfl (ih base ext D cI cZ ro p e R s m args below meth c H locs lsC n0 z0 Q hf hc hh hs hl hn kk)
theorem sg_s13 (l : Launch) : sg_q13 (sg_S l) := by
  intro M pc ls st h out x y hd ⟨hm, ih⟩
  refine ⟨hm, ?_⟩
  intro base ext D cI cZ ro p e R s m args below meth c H locs lsC n0 z0 Q hf hc hh hs hl hn kk
  exact W.lcmp hf.1 hf.2.1 hd (ih base ext D cI cZ ro p e R s m args below meth c H locs lsC n0 z0 Q hf hc hh hs hl hn kk)
theorem sg_s14 (l : Launch) : sg_q14 (sg_S l) := by
  intro M pc ls st h out i n x hd hx hfr ⟨hm, ih⟩
  refine ⟨hm, ?_⟩
  intro base ext D cI cZ ro p e R s m args below meth c H locs lsC n0 z0 Q hf hc hh hs hl hn kk
  have hg := hl.2.2.2 i _ hx
  obtain ⟨lsC', e1, hl'⟩ := sg_lm_set (v := .int (x + Int32.ofInt n)) hl (List.getElem?_eq_some_iff.mp hx).1 hfr rfl
  have W1 := ih base ext D cI cZ ro p e R s m args below meth c H locs lsC' n0 z0 Q hf hc hh hs hl' hn kk
  intro T hT X
  obtain ⟨t, a, b⟩ := W1 T hT X
  refine ⟨t, ?_, b⟩
  simp only [sg_cv] at e1 hg
  jvm_step X.here [X.here.top, hf.1, hf.2.1, hd, hg, e1]
  exact a
theorem sg_s15 (l : Launch) : sg_q15 (sg_S l) := by
  intro M pc ls st h out v hd hv ⟨hm, ih⟩
  refine ⟨hm, ?_⟩
  intro base ext D cI cZ ro p e R s m args below meth c H locs lsC n0 z0 Q hf hc hh hs hl hn kk
  exact lv_dup hf.1 hf.2.1 hd (by cases v <;> exact hv) (ih base ext D cI cZ ro p e R s m args below meth c H locs lsC n0 z0 Q hf hc hh hs hl hn kk)
theorem sg_s16 (l : Launch) : sg_q16 (sg_S l) := by
  intro M pc ls st h out v w hd hv hw ⟨hm, ih⟩
  refine ⟨hm, ?_⟩
  intro base ext D cI cZ ro p e R s m args below meth c H locs lsC n0 z0 Q hf hc hh hs hl hn kk
  exact lv_dup2_11 hf.1 hf.2.1 hd (by cases v <;> exact hv) (by cases w <;> exact hw) (ih base ext D cI cZ ro p e R s m args below meth c H locs lsC n0 z0 Q hf hc hh hs hl hn kk)
theorem sg_s17 (l : Launch) : sg_q17 (sg_S l) := by
  intro M pc ls st h out off tgt hd ht ⟨hm, ih⟩
  refine ⟨hm, ?_⟩
  intro base ext D cI cZ ro p e R s m args below meth c H locs lsC n0 z0 Q hf hc hh hs hl hn kk
  exact lv_goto hf.1 hf.2.1 hd ht (ih base ext D cI cZ ro p e R s m args below meth c H locs lsC n0 z0 Q hf hc hh hs hl hn kk)
theorem sg_s18 (l : Launch) : sg_q18 (sg_S l) := by
  intro M pc ls st h out cd off tgt x y hd ht hcd ⟨hm, ih⟩
  refine ⟨hm, ?_⟩
  intro base ext D cI cZ ro p e R s m args below meth c H locs lsC n0 z0 Q hf hc hh hs hl hn kk
  have W1 := ih base ext D cI cZ ro p e R s m args below meth c H locs lsC n0 z0 Q hf hc hh hs hl hn kk
  cases cd <;> simp only [sg_cd, decide_eq_true_eq] at hcd
  · exact lv_icmp_eq hf.1 hf.2.1 hd ht (fun _ => W1) (fun q => absurd hcd q)
  · exact lv_icmp_ne hf.1 hf.2.1 hd ht (fun _ => W1) (fun q => absurd q hcd)
  · exact lv_icmp_lt hf.1 hf.2.1 hd ht (fun _ => W1) (fun q => absurd hcd q)
  · exact lv_icmp_ge hf.1 hf.2.1 hd ht (fun _ => W1) (fun q => absurd hcd q)
  · exact lv_icmp_gt hf.1 hf.2.1 hd ht (fun _ => W1) (fun q => absurd hcd q)
  · exact lv_icmp_le hf.1 hf.2.1 hd ht (fun _ => W1) (fun q => absurd hcd q)
theorem sg_s19 (l : Launch) : sg_q19 (sg_S l) := by
  intro M pc ls st h out cd off tgt x y hd ht hcd ⟨hm, ih⟩
  refine ⟨hm, ?_⟩
  intro base ext D cI cZ ro p e R s m args below meth c H locs lsC n0 z0 Q hf hc hh hs hl hn kk
  have W1 := ih base ext D cI cZ ro p e R s m args below meth c H locs lsC n0 z0 Q hf hc hh hs hl hn kk
  cases cd <;> simp only [sg_cd, decide_eq_false_iff_not] at hcd
  · exact lv_icmp_eq hf.1 hf.2.1 hd ht (fun q => absurd q hcd) (fun _ => W1)
  · exact lv_icmp_ne hf.1 hf.2.1 hd ht (fun q => absurd q hcd) (fun _ => W1)
  · exact lv_icmp_lt hf.1 hf.2.1 hd ht (fun q => absurd q hcd) (fun _ => W1)
  · exact lv_icmp_ge hf.1 hf.2.1 hd ht (fun q => absurd q hcd) (fun _ => W1)
  · exact lv_icmp_gt hf.1 hf.2.1 hd ht (fun q => absurd q hcd) (fun _ => W1)
  · exact lv_icmp_le hf.1 hf.2.1 hd ht (fun q => absurd q hcd) (fun _ => W1)
theorem sg_s20 (l : Launch) : sg_q20 (sg_S l) := by
  intro M pc ls st h out cd off tgt x hd ht hcd ⟨hm, ih⟩
  refine ⟨hm, ?_⟩
  intro base ext D cI cZ ro p e R s m args below meth c H locs lsC n0 z0 Q hf hc hh hs hl hn kk
  have W1 := ih base ext D cI cZ ro p e R s m args below meth c H locs lsC n0 z0 Q hf hc hh hs hl hn kk
  cases cd <;> simp only [sg_cd, decide_eq_true_eq] at hcd
  · exact lv_if_eq hf.1 hf.2.1 hd ht (fun _ => W1) (fun q => absurd hcd q)
  · exact lv_if_ne hf.1 hf.2.1 hd ht (fun _ => W1) (fun q => absurd q hcd)
  · exact lv_if_lt hf.1 hf.2.1 hd ht (fun _ => W1) (fun q => absurd hcd q)
  · exact lv_if_ge hf.1 hf.2.1 hd ht (fun _ => W1) (fun q => absurd hcd q)
  · exact lv_if_gt hf.1 hf.2.1 hd ht (fun _ => W1) (fun q => absurd hcd q)
  · exact lv_if_le hf.1 hf.2.1 hd ht (fun _ => W1) (fun q => absurd hcd q)
theorem sg_s21 (l : Launch) : sg_q21 (sg_S l) := by
  intro M pc ls st h out cd off tgt x hd ht hcd ⟨hm, ih⟩
  refine ⟨hm, ?_⟩
  intro base ext D cI cZ ro p e R s m args below meth c H locs lsC n0 z0 Q hf hc hh hs hl hn kk
  have W1 := ih base ext D cI cZ ro p e R s m args below meth c H locs lsC n0 z0 Q hf hc hh hs hl hn kk
  cases cd <;> simp only [sg_cd, decide_eq_false_iff_not] at hcd
  · exact lv_if_eq hf.1 hf.2.1 hd ht (fun q => absurd q hcd) (fun _ => W1)
  · exact lv_if_ne hf.1 hf.2.1 hd ht (fun q => absurd q hcd) (fun _ => W1)
  · exact lv_if_lt hf.1 hf.2.1 hd ht (fun q => absurd q hcd) (fun _ => W1)
  · exact lv_if_ge hf.1 hf.2.1 hd ht (fun q => absurd q hcd) (fun _ => W1)
  · exact lv_if_gt hf.1 hf.2.1 hd ht (fun q => absurd q hcd) (fun _ => W1)
  · exact lv_if_le hf.1 hf.2.1 hd ht (fun q => absurd q hcd) (fun _ => W1)
theorem sg_s22 (l : Launch) : sg_q22 (sg_S l) := by
  intro M pc ls st h out off k hd ⟨hm, ih⟩
  refine ⟨hm, ?_⟩
  intro base ext D cI cZ ro p e R s m args below meth c H locs lsC n0 z0 Q hf hc hh hs hl hn kk
  exact lv_ifnull hf.1 hf.2.1 hd (ih base ext D cI cZ ro p e R s m args below meth c H locs lsC n0 z0 Q hf hc hh hs hl hn kk)
theorem sg_s23 (l : Launch) : sg_q23 (sg_S l) := by
  intro M pc ls st h out dflt lo hi offs len x off tgt hd h1 h2 ho ht ⟨hm, ih⟩
  refine ⟨hm, ?_⟩
  intro base ext D cI cZ ro p e R s m args below meth c H locs lsC n0 z0 Q hf hc hh hs hl hn kk
  exact lv_tableIn hf.1 hf.2.1 hd h1 h2 ho ht (ih base ext D cI cZ ro p e R s m args below meth c H locs lsC n0 z0 Q hf hc hh hs hl hn kk)
theorem sg_s24 (l : Launch) : sg_q24 (sg_S l) := by
  intro M pc ls st h out dflt lo hi offs len x tgt hd h1 ht ⟨hm, ih⟩
  refine ⟨hm, ?_⟩
  intro base ext D cI cZ ro p e R s m args below meth c H locs lsC n0 z0 Q hf hc hh hs hl hn kk
  exact lv_tableOut hf.1 hf.2.1 hd h1 ht (ih base ext D cI cZ ro p e R s m args below meth c H locs lsC n0 z0 Q hf hc hh hs hl hn kk)
theorem sg_s25 (l : Launch) : sg_q25 (sg_S l) := by
  intro M pc ls st h out dflt ps len x off tgt hd hp ho ht ⟨hm, ih⟩
  refine ⟨hm, ?_⟩
  intro base ext D cI cZ ro p e R s m args below meth c H locs lsC n0 z0 Q hf hc hh hs hl hn kk
  exact lv_lookup hf.1 hf.2.1 hd hp ho ht (ih base ext D cI cZ ro p e R s m args below meth c H locs lsC n0 z0 Q hf hc hh hs hl hn kk)
theorem sg_s44 (l : Launch) : sg_q44 (sg_S l) := by
  intro M pc ls h v ty hd hr hv
  refine ⟨⟨Nat.le_refl _, Nat.le_refl _⟩, ?_⟩
  intro base ext D cI cZ ro p e R s m args below meth c H locs lsC n0 z0 Q hf hc hh hs hl hn kk
  exact kk pc H locs lsC hh hs (Or.inl ⟨v, ty, rfl, hd, hr, hv⟩)
theorem sg_s45 (l : Launch) : sg_q45 (sg_S l) := by
  intro M pc ls h hd hr
  refine ⟨⟨Nat.le_refl _, Nat.le_refl _⟩, ?_⟩
  intro base ext D cI cZ ro p e R s m args below meth c H locs lsC n0 z0 Q hf hc hh hs hl hn kk
  exact kk pc H locs lsC hh hs (Or.inr ⟨rfl, hd, hr⟩)
