/-! STRING CONSTANTS: length and charAt, walked -/
def js_Q (r : Option Value) : Array Value → State → Outcome → State → Prop := fun _ st oc t => oc = .returned r ∧ t.heap = st.heap
def js_K (l : Launch) (M : sg_M) (vs : List Value) (B : State → Prop) (r : Option Value) : Prop := Met l M.1 (sg_w M) M.2.2.2.2 (va_Pc vs B) (js_Q r) 0 0 (fun _ => False)
def js_ok (B : State → Prop) : Prop := ∀ U U' : State, U'.heap = U.heap → U.vm.Alike U'.vm → B U → B U'
theorem js_blind {vs : List Value} {B : State → Prop} (h : js_ok B) : FrameBlind (va_Pc vs B) := by
  intro a U g mk ⟨q0, q1⟩
  exact ⟨q0, h U _ rfl (Vm.Alike.refl U.vm) q1⟩
section JS
variable {p : Program} {l : Launch} {e : Env} {R : Room} {s : State} {m : MethodId} {args : Array Value} {below : List Frame} {meth : Method} {c : Code} {H : Heap} {locs : List Loc} {cells slots : Nat} {Q : State → Prop}
variable {pc : Nat} {ls : Array Slot} {rest st0 : List Value} {a : Array Value} {r : Option Value} {M' : sg_M} {As : List Value} {B : State → Prop} {cc : ByteArray} {own : String} {ix : Nat}
theorem js_call (hr : va_Run p l e R s m args below meth c H locs cells slots 0 0 (F0 m pc ls st0) rest (js_Q r a) (fun _ => False))
    (kk : W p l e R s m args below meth c H locs cells slots Q (F0 m (pc + 3) ls (r.toList ++ rest))) : W p l e R s m args below meth c H locs cells slots Q (F0 m pc ls st0) := by
  intro T hT X
  obtain ⟨v, st₀, t, T', L, h0, X', hL, e1, e2, ⟨hv, hh⟩, st⟩ := hr T hT X
  cases hv
  obtain ⟨t2, a1, b1⟩ := kk T' (by rw [e1, hh, h0]) (Stand.forget X' (fun q h => (hL q h).elim))
  exact ⟨t2, st t2 a1, b1⟩
theorem js_callS (S : CallFix p m c cc ls.size s args sg_ws own) (hM : js_K l M' As B r) (hz : M'.2.2.2.2.cells = 0 ∧ M'.2.2.2.2.slots = 0) (hmo : sg_mok M' As.length) (hR : M'.2.2.2.2.frames + 1 ≤ R.frames ∧ 8 + (M'.2.2.1 + 11) + M'.2.2.2.2.locals ≤ R.locals) (hw : Cond.methodLink own ix M'.1 ∈ sg_ws) (hst : Cond.static M'.1 ∈ sg_ws) (hok : js_ok B) (hB : ∀ U : State, U.heap = H → s.WarmedH U.vm → B U) (hcat : (rest.map fun v => v.category).sum ≤ 8) (hn : cells ≤ R.cells ∧ slots ≤ R.slots) (hs0 : st0 = As.reverse ++ rest) (hd : decode cc pc = .ok (.invokestatic ix, 3))
    (kk : W p l e R s m args below meth c H locs cells slots Q (F0 m (pc + 3) ls (r.toList ++ rest))) : W p l e R s m args below meth c H locs cells slots Q (F0 m pc ls st0) := by
  have hts := S.2.2.2.2
  exact js_call (va_runS (bytes := M'.2.1) (maxL := M'.2.2.1) (ret := M'.2.2.2.1) (Ts := sg_ws) S hM ⟨callB_of As.length hts (sg_good hmo.1) rfl hz.1 hz.2 (hts _ hmo.2.1) (hts _ hw) hmo.2.2.1 hR, hts _ hst⟩ ⟨js_blind hok, fun U hU hW => ⟨rfl, hB U hU hW⟩⟩ rfl rfl rfl hs0 (lv_room hcat) hd hn) kk
theorem js_callV {q : Nat} (S : CallFix p m c cc ls.size s args sg_ws own) (hM : js_K l M' (.ref q :: As) B r) (hz : M'.2.2.2.2.cells = 0 ∧ M'.2.2.2.2.slots = 0) (hmo : sg_mok M' As.length) (hio : sg_iok M') (hR : M'.2.2.2.2.frames + 1 ≤ R.frames ∧ 8 + (M'.2.2.1 + 11) + M'.2.2.2.2.locals ≤ R.locals) (hw : Cond.methodLink own ix M'.1 ∈ sg_ws) (hrecv : ∃ cellB : Cell, H[q]? = some cellB ∧ cellB.vm.isStatics = false ∧ s.vm.findClass M'.1.cls = some cellB.cls) (hok : js_ok B) (hB : ∀ U : State, U.heap = H → s.WarmedH U.vm → B U) (hcat : (rest.map fun v => v.category).sum ≤ 8) (hn : cells ≤ R.cells ∧ slots ≤ R.slots) (hs0 : st0 = As.reverse ++ .ref q :: rest) (hd : decode cc pc = .ok (.invokevirtual ix, 3))
    (kk : W p l e R s m args below meth c H locs cells slots Q (F0 m (pc + 3) ls (r.toList ++ rest))) : W p l e R s m args below meth c H locs cells slots Q (F0 m pc ls st0) := by
  have hts := S.2.2.2.2
  exact js_call (va_runV (C := M'.1.cls) (bytes := M'.2.1) (maxL := M'.2.2.1) (ret := M'.2.2.2.1) (Ts := sg_ws) S hM ⟨callB_of As.length hts (sg_good hmo.1) rfl hz.1 hz.2 (hts _ hmo.2.1) (hts _ hw) hmo.2.2.1 hR, hts _ hio.1, hts _ hio.2⟩ ⟨js_blind hok, hrecv, fun U hU hW => ⟨rfl, hB U hU hW⟩⟩ rfl rfl rfl hs0 (lv_room hcat) hd hn) kk
end JS
abbrev js_e (M : sg_M) (vs : List Value) : Array Slot := (lg_sl vs ++ List.replicate (M.2.2.1 - (lg_sl vs).length) Slot.unset).toArray
theorem js_of {l : Launch} {M : sg_M} {vs : List Value} {B : State → Prop} {r : Option Value} (hpl : plainName M.1.cls = true)
    (walk : ∀ (p : Program) (e : Env) (s : State) (m : MethodId) (below : List Frame) (meth : Method) (c : Code) (Q : State → Prop), CallFix p m c M.2.1 M.2.2.1 s vs.toArray sg_ws M.1.cls → B s → (∀ (pc' : Nat) (ls' : Array Slot), sg_rt M pc' r → W p l e M.2.2.2.2 s m vs.toArray below meth c s.heap [] 0 0 Q (F0 m pc' ls' r.toList)) → W p l e M.2.2.2.2 s m vs.toArray below meth c s.heap [] 0 0 Q (F0 m 0 (js_e M vs) [])) : js_K l M vs B r := by
  refine Met.ofW (cc := M.2.1) (maxL := M.2.2.1) (ret := M.2.2.2.1) hpl rfl ?_
  intro p e s m args below meth c s₁ B' hml hv
  obtain ⟨rfl, hb⟩ := hv
  have hts := atoms_spec (ws := sg_w M) B'.pre
  have hown : s.vm.findClass M.1.cls = some m.cls := findClass_of_methodNamed B'.named
  rw [lg_entry_eq]
  refine walk p e s m below meth c _ ⟨B'.exec, B'.bytes, hml, hown, fun w hw => hts w (List.mem_cons_of_mem _ hw)⟩ hb ?_
  intro pc' ls' hrt
  rcases hrt with ⟨v, ty, rfl, hd, hty, hna⟩ | ⟨rfl, hd, hty⟩
  · exact W.zret (v := v) B'.exec B'.bytes (by rw [B'.returns, hty]) hna (fun t ht hW => ⟨rfl, ht⟩) (fun _ h => by cases h) hd
  · exact W.vret B'.exec B'.bytes (by rw [B'.returns, hty]) (fun t ht hW => ⟨rfl, ht⟩) (fun _ h => by cases h) hd
abbrev MJcoder : sg_M := (yJ0_coder_7d493, cJ0_coder_7d493, 1, some .byte, { frames := 0, cells := 0, slots := 0, locals := 0 })
abbrev MJlatin : sg_M := (yJ0_isLatin1_aae02, cJ0_isLatin1_aae02, 1, some .boolean, { frames := 0, cells := 0, slots := 0, locals := 0 })
abbrev MJlength : sg_M := (yJ0_length_8abf5, cJ0_length_8abf5, 1, some .int, { frames := 1, cells := 0, slots := 0, locals := 20 })
abbrev MJcheck3 : sg_M := (yJ3_checkIndex_8e157, cJ3_checkIndex_8e157, 3, some .int, { frames := 0, cells := 0, slots := 0, locals := 0 })
abbrev MJcheck : sg_M := (yJ0_checkIndex_df160, cJ0_checkIndex_df160, 2, none, { frames := 1, cells := 0, slots := 0, locals := 22 })
abbrev MJat1 : sg_M := (yJ1_charAt_3b067, cJ1_charAt_3b067, 2, some .char, { frames := 2, cells := 0, slots := 0, locals := 43 })
abbrev MJat : sg_M := (yJ0_charAt_5068e, cJ0_charAt_5068e, 2, some .char, { frames := 3, cells := 0, slots := 0, locals := 64 })
/-- the string at q: its row of n bytes -/
def js_S (A : Nat → Prop) (q v n : Nat) (f : Nat → Value) (U : State) : Prop := va_O "java/lang/String" q A U U.heap ∧ va_OF "java/lang/String" "coder" "B" (.int 0) q A U U.heap ∧ va_OF "java/lang/String" "value" "[B" (.ref v) q A U U.heap ∧ va_T .byte v n f A U U.heap
def js_Z (A : Nat → Prop) (U : State) : Prop := va_Z "java/lang/String" "COMPACT_STRINGS" "Z" (.int 1) A U U.heap
def js_F (A : Nat → Prop) (U : State) : Prop := va_Zq "jdk/internal/util/Preconditions" "SIOOBE_FORMATTER" "Ljava/util/function/BiFunction;" A U U.heap
def js_B (A : Nat → Prop) (q n : Nat) (f : Nat → Value) (U : State) : Prop := (∃ v, js_S A q v n f U) ∧ js_Z A U ∧ js_F A U
theorem js_okS {A : Nat → Prop} {q v n : Nat} {f : Nat → Value} : js_ok (js_S A q v n f) := by
  intro U U' hh hv h
  unfold js_S at h ⊢
  rw [hh]
  exact ⟨va_O.moved hv h.1, va_OF.moved hv h.2.1, va_OF.moved hv h.2.2.1, va_T.moved hv h.2.2.2⟩
theorem js_okZ {A : Nat → Prop} : js_ok (js_Z A) := by
  intro U U' hh hv h
  unfold js_Z at h ⊢
  rw [hh]
  exact va_Z.moved hv h
theorem js_okF {A : Nat → Prop} : js_ok (js_F A) := by
  intro U U' hh hv h
  unfold js_F at h ⊢
  rw [hh]
  exact va_Zq.moved hv h
theorem js_okB {A : Nat → Prop} {q n : Nat} {f : Nat → Value} : js_ok (js_B A q n f) := by
  intro U U' hh hv ⟨⟨v, h⟩, h2, h3⟩
  exact ⟨⟨v, js_okS U U' hh hv h⟩, js_okZ U U' hh hv h2, js_okF U U' hh hv h3⟩
theorem wJ1 : Cond.fieldLink RJ0 38 "java/lang/String" "COMPACT_STRINGS" "Z" ∈ sg_ws := by decide +kernel
theorem wJ2 : Cond.fieldLink RJ0 9 "java/lang/String" "value" "[B" ∈ sg_ws := by decide +kernel
theorem wJ3 : Cond.fieldLink RJ0 15 "java/lang/String" "coder" "B" ∈ sg_ws := by decide +kernel
theorem wJ4 : Cond.fieldLink RJ0 1053 "jdk/internal/util/Preconditions" "SIOOBE_FORMATTER" "Ljava/util/function/BiFunction;" ∈ sg_ws := by decide +kernel
theorem wJ5 : Cond.methodLink RJ0 335 yJ0_coder_7d493 ∈ sg_ws := by decide +kernel
theorem wJ6 : Cond.methodLink RJ0 492 yJ0_isLatin1_aae02 ∈ sg_ws := by decide +kernel
theorem wJ7 : Cond.methodLink RJ0 495 yJ1_charAt_3b067 ∈ sg_ws := by decide +kernel
theorem wJ8 : Cond.methodLink RJ1 9 yJ0_checkIndex_df160 ∈ sg_ws := by decide +kernel
theorem wJ9 : Cond.methodLink RJ0 1059 yJ3_checkIndex_8e157 ∈ sg_ws := by decide +kernel
theorem wJs1 : Cond.static yJ1_charAt_3b067 ∈ sg_ws := by decide +kernel
theorem wJs2 : Cond.static yJ0_checkIndex_df160 ∈ sg_ws := by decide +kernel
theorem wJs3 : Cond.static yJ3_checkIndex_8e157 ∈ sg_ws := by decide +kernel
theorem mJcoder : sg_mok MJcoder 0 := ⟨by decide +kernel, by decide +kernel, by decide +kernel, by decide +kernel⟩
theorem mJlatin : sg_mok MJlatin 0 := ⟨by decide +kernel, by decide +kernel, by decide +kernel, by decide +kernel⟩
theorem mJlength : sg_mok MJlength 0 := ⟨by decide +kernel, by decide +kernel, by decide +kernel, by decide +kernel⟩
theorem mJcheck3 : sg_mok MJcheck3 3 := ⟨by decide +kernel, by decide +kernel, by decide +kernel, by decide +kernel⟩
theorem mJcheck : sg_mok MJcheck 2 := ⟨by decide +kernel, by decide +kernel, by decide +kernel, by decide +kernel⟩
theorem mJat1 : sg_mok MJat1 2 := ⟨by decide +kernel, by decide +kernel, by decide +kernel, by decide +kernel⟩
theorem mJat : sg_mok MJat 1 := ⟨by decide +kernel, by decide +kernel, by decide +kernel, by decide +kernel⟩
theorem iJcoder : sg_iok MJcoder := ⟨by decide +kernel, by decide +kernel⟩
theorem iJlatin : sg_iok MJlatin := ⟨by decide +kernel, by decide +kernel⟩
theorem iJlength : sg_iok MJlength := ⟨by decide +kernel, by decide +kernel⟩
theorem iJat : sg_iok MJat := ⟨by decide +kernel, by decide +kernel⟩
section JW
variable {l : Launch} {A : Nat → Prop} {q v n : Nat} {f : Nat → Value}
theorem js_recv {U : State} (h : js_S A q v n f U) : ∃ cellB : Cell, U.heap[q]? = some cellB ∧ cellB.vm.isStatics = false ∧ U.vm.findClass "java/lang/String" = some cellB.cls := by
  obtain ⟨cell, h1, h2, h3, -⟩ := h.1
  exact ⟨cell, h1, h2, h3⟩
theorem js_coder : js_K l MJcoder [.ref q] (js_B A q n f) (some (.int 0)) := by
  refine js_of (by decide +kernel) ?_
  rintro p e s m below meth c Q ⟨hx, hb, hml, ho, hts⟩ ⟨⟨v, hS⟩, hZ, hF⟩ kk
  refine va_gets hx hb hZ va_S.rf ho (hts _ wJ1) (fun _ h => h) dJ0_coder_7d493_0 ?_
  refine lv_if_eq (tgt := 13) hx hb dJ0_coder_7d493_3 (by decide) (fun z => absurd z (by decide)) (fun _ => ?_)
  refine lv_aload_n hx hb dJ0_coder_7d493_6 rfl (x := q) rfl ?_
  refine vk_getf hx hb hS.2.1 va_S.rf ho (hts _ wJ3) (fun _ h => h) dJ0_coder_7d493_7 ?_
  refine lv_goto (tgt := 14) hx hb dJ0_coder_7d493_10 (by decide) ?_
  exact kk 14 _ (Or.inl ⟨0, .byte, rfl, dJ0_coder_7d493_14, rfl, by decide⟩)
theorem js_latin : js_K l MJlatin [.ref q] (js_B A q n f) (some (.int 1)) := by
  refine js_of (by decide +kernel) ?_
  rintro p e s m below meth c Q ⟨hx, hb, hml, ho, hts⟩ ⟨⟨v, hS⟩, hZ, hF⟩ kk
  refine va_gets hx hb hZ va_S.rf ho (hts _ wJ1) (fun _ h => h) dJ0_isLatin1_aae02_0 ?_
  refine lv_if_eq (tgt := 17) hx hb dJ0_isLatin1_aae02_3 (by decide) (fun z => absurd z (by decide)) (fun _ => ?_)
  refine lv_aload_n hx hb dJ0_isLatin1_aae02_6 rfl (x := q) rfl ?_
  refine vk_getf hx hb hS.2.1 va_S.rf ho (hts _ wJ3) (fun _ h => h) dJ0_isLatin1_aae02_7 ?_
  refine lv_if_ne (tgt := 17) hx hb dJ0_isLatin1_aae02_10 (by decide) (fun z => absurd rfl z) (fun _ => ?_)
  refine lv_iconst hx hb dJ0_isLatin1_aae02_13 rfl ?_
  refine lv_goto (tgt := 18) hx hb dJ0_isLatin1_aae02_14 (by decide) ?_
  exact kk 18 _ (Or.inl ⟨1, .boolean, rfl, dJ0_isLatin1_aae02_18, rfl, by decide⟩)
theorem js_length (hsh : nI n >>> ((0 : Int32) &&& 31) = nI n) : js_K l MJlength [.ref q] (js_B A q n f) (some (.int (nI n))) := by
  refine js_of (by decide +kernel) ?_
  rintro p e s m below meth c Q ⟨hx, hb, hml, ho, hts⟩ hB kk
  obtain ⟨⟨v, hS⟩, hZ, hF⟩ := hB
  refine lv_aload_n hx hb dJ0_length_8abf5_0 rfl (x := q) rfl ?_
  refine vk_getf hx hb hS.2.2.1 va_S.rf ho (hts _ wJ2) (fun _ h => h) dJ0_length_8abf5_1 ?_
  refine va_tlen hx hb hS.2.2.2 va_S.rf (v := nI n) rfl dJ0_length_8abf5_4 ?_
  refine lv_aload_n hx hb dJ0_length_8abf5_5 rfl (x := q) rfl ?_
  refine js_callV (As := []) (rest := [.int (nI n)]) ⟨hx, hb, hml, ho, hts⟩ (js_coder (n := n) (f := f) (A := A)) ⟨rfl, rfl⟩ mJcoder iJcoder ⟨by decide, by decide⟩ wJ5 (js_recv hS) js_okB (fun U hU hW => js_okB s U hU hW.alike ⟨⟨v, hS⟩, hZ, hF⟩) (Nat.le_of_ble_eq_true rfl) ⟨by decide, by decide⟩ rfl dJ0_length_8abf5_6 ?_
  refine lv_ishr (x := nI n) (y := 0) hx hb dJ0_length_8abf5_9 ?_
  rw [hsh]
  exact kk 10 _ (Or.inl ⟨nI n, .int, rfl, dJ0_length_8abf5_10, rfl, rfl⟩)
theorem js_check3 {j : Nat} (hj : j < n) (hn : n < 2 ^ 31) (w : Value) (hw : w = .null ∨ ∃ t, w = .ref t) : js_K l MJcheck3 [.int (nI j), .int (nI n), w] (fun _ => True) (some (.int (nI j))) := by
  refine js_of (by decide +kernel) ?_
  rintro p e s m below meth c Q ⟨hx, hb, hml, ho, hts⟩ - kk
  have e0 : (js_e MJcheck3 [.int (nI j), .int (nI n), w])[0]? = some (.val (.int (nI j))) := rfl
  have e1 : (js_e MJcheck3 [.int (nI j), .int (nI n), w])[1]? = some (.val (.int (nI n))) := rfl
  refine lv_iload_n hx hb dJ3_checkIndex_8e157_0 rfl e0 ?_
  refine lv_if_lt (tgt := 9) hx hb dJ3_checkIndex_8e157_1 (by decide) (fun z => absurd z (nI_pos (by omega))) (fun _ => ?_)
  refine lv_iload_n hx hb dJ3_checkIndex_8e157_4 rfl e0 ?_
  refine lv_iload_n hx hb dJ3_checkIndex_8e157_5 rfl e1 ?_
  refine lv_icmp_lt (tgt := 16) hx hb dJ3_checkIndex_8e157_6 (by decide) (fun _ => ?_) (fun z => absurd (nI_lt hj (by omega)) z)
  refine lv_iload_n hx hb dJ3_checkIndex_8e157_16 rfl e0 ?_
  exact kk 17 _ (Or.inl ⟨nI j, .int, rfl, dJ3_checkIndex_8e157_17, rfl, rfl⟩)
theorem js_check {j : Nat} (hj : j < n) (hn : n < 2 ^ 31) : js_K l MJcheck [.int (nI j), .int (nI n)] (js_F A) none := by
  refine js_of (by decide +kernel) ?_
  rintro p e s m below meth c Q ⟨hx, hb, hml, ho, hts⟩ hF kk
  refine lv_iload_n hx hb dJ0_checkIndex_df160_0 rfl (x := nI j) rfl ?_
  refine lv_iload_n hx hb dJ0_checkIndex_df160_1 rfl (x := nI n) rfl ?_
  have go : ∀ w : Value, (w = .null ∨ ∃ t, w = .ref t) → W p l e MJcheck.2.2.2.2 s m [Value.int (nI j), Value.int (nI n)].toArray below meth c s.heap [] 0 0 Q (F0 m 5 (js_e MJcheck [.int (nI j), .int (nI n)]) [w, .int (nI n), .int (nI j)]) := by
    intro w hw
    refine js_callS (As := [.int (nI j), .int (nI n), w]) (rest := []) ⟨hx, hb, hml, ho, hts⟩ (js_check3 hj hn w hw) ⟨rfl, rfl⟩ mJcheck3 ⟨by decide, by decide⟩ wJ9 wJs3 (fun _ _ _ _ _ => trivial) (fun _ _ _ => trivial) (by decide) ⟨by decide, by decide⟩ rfl dJ0_checkIndex_df160_5 ?_
    refine lv_pop (va := .int (nI j)) hx hb dJ0_checkIndex_df160_8 rfl ?_
    exact kk 9 _ (Or.inr ⟨rfl, dJ0_checkIndex_df160_9, rfl⟩)
  rcases hF with hF | ⟨t, hF⟩
  · refine va_gets hx hb hF va_S.rf ho (hts _ wJ4) (fun _ h => h) dJ0_checkIndex_df160_2 ?_
    exact go .null (Or.inl rfl)
  · refine va_gets hx hb hF va_S.rf ho (hts _ wJ4) (fun _ h => h) dJ0_checkIndex_df160_2 ?_
    exact go (.ref t) (Or.inr ⟨t, rfl⟩)
theorem js_at1 {j : Nat} {b x : Int32} (hj : j < n) (hn : n < 2 ^ 31) (hf : f j = .int b) (hx0 : ((b &&& 255).toUInt32 % 65536).toInt32 = x) (hna : narrow .char (.int x) = .int x) : js_K l MJat1 [.ref v, .int (nI j)] (fun U => va_T .byte v n f A U U.heap ∧ js_F A U) (some (.int x)) := by
  refine js_of (by decide +kernel) ?_
  rintro p e s m below meth c Q ⟨hx, hb, hml, ho, hts⟩ ⟨hT, hF⟩ kk
  refine lv_iload_n hx hb dJ1_charAt_3b067_0 rfl (x := nI j) rfl ?_
  refine lv_aload_n hx hb dJ1_charAt_3b067_1 rfl (x := v) rfl ?_
  refine va_tlen hx hb hT va_S.rf (v := nI n) rfl dJ1_charAt_3b067_2 ?_
  refine js_callS (As := [.int (nI j), .int (nI n)]) (rest := []) ⟨hx, hb, hml, ho, hts⟩ (js_check (A := A) hj hn) ⟨rfl, rfl⟩ mJcheck ⟨by decide, by decide⟩ wJ8 wJs2 js_okF (fun U hU hW => js_okF s U hU hW.alike hF) (by decide) ⟨by decide, by decide⟩ rfl dJ1_charAt_3b067_3 ?_
  refine lv_aload_n hx hb dJ1_charAt_3b067_6 rfl (x := v) rfl ?_
  refine lv_iload_n hx hb dJ1_charAt_3b067_7 rfl (x := nI j) rfl ?_
  refine va_tb hx hb hT va_S.rf (vp_in_nI hj (by omega)) (v := .int b) (by rw [nI_clamp (by omega)]; exact hf) dJ1_charAt_3b067_8 ?_
  refine lv_sipush hx hb dJ1_charAt_3b067_9 (v := 255) (by decide) ?_
  refine lv_iand hx hb dJ1_charAt_3b067_12 ?_
  refine lv_i2c hx hb dJ1_charAt_3b067_13 hx0 ?_
  exact kk 14 _ (Or.inl ⟨x, .char, rfl, dJ1_charAt_3b067_14, rfl, hna⟩)
theorem js_at {j : Nat} {b x : Int32} (hj : j < n) (hn : n < 2 ^ 31) (hf : f j = .int b) (hx0 : ((b &&& 255).toUInt32 % 65536).toInt32 = x) (hna : narrow .char (.int x) = .int x) : js_K l MJat [.ref q, .int (nI j)] (js_B A q n f) (some (.int x)) := by
  refine js_of (by decide +kernel) ?_
  rintro p e s m below meth c Q ⟨hx, hb, hml, ho, hts⟩ hB kk
  obtain ⟨⟨v, hS⟩, hZ, hF⟩ := hB
  refine lv_aload_n hx hb dJ0_charAt_5068e_0 rfl (x := q) rfl ?_
  refine js_callV (As := []) (rest := []) ⟨hx, hb, hml, ho, hts⟩ (js_latin (n := n) (f := f) (A := A)) ⟨rfl, rfl⟩ mJlatin iJlatin ⟨by decide, by decide⟩ wJ6 (js_recv hS) js_okB (fun U hU hW => js_okB s U hU hW.alike ⟨⟨v, hS⟩, hZ, hF⟩) (by decide) ⟨by decide, by decide⟩ rfl dJ0_charAt_5068e_1 ?_
  refine lv_if_eq (x := 1) (tgt := 16) hx hb dJ0_charAt_5068e_4 (by decide) (fun z => absurd z (by decide)) (fun _ => ?_)
  refine lv_aload_n hx hb dJ0_charAt_5068e_7 rfl (x := q) rfl ?_
  refine vk_getf hx hb hS.2.2.1 va_S.rf ho (hts _ wJ2) (fun _ h => h) dJ0_charAt_5068e_8 ?_
  refine lv_iload_n hx hb dJ0_charAt_5068e_11 rfl (x := nI j) rfl ?_
  refine js_callS (As := [.ref v, .int (nI j)]) (rest := []) ⟨hx, hb, hml, ho, hts⟩ (js_at1 (A := A) hj hn hf hx0 hna) ⟨rfl, rfl⟩ mJat1 ⟨by decide, by decide⟩ wJ7 wJs1 (fun U U' hh hv h => ⟨by rw [hh]; exact va_T.moved hv h.1, js_okF U U' hh hv h.2⟩) (fun U hU hW => ⟨by rw [hU]; exact va_T.moved hW.alike hS.2.2.2, js_okF s U hU hW.alike hF⟩) (by decide) ⟨by decide, by decide⟩ rfl dJ0_charAt_5068e_12 ?_
  exact kk 15 _ (Or.inl ⟨x, .char, rfl, dJ0_charAt_5068e_15, rfl, hna⟩)
end JW
theorem sg_jB {base : Nat} {ext : Nat → Nat} {D : va_G} {cI cZ : ClassId} {ro : Nat → Option (Nat × (Nat → Int32))} {U : State} (hc : sg_ctx base ext D cI cZ ro U) {k : Nat} (hk : k = 1010 ∨ k = 1011 ∨ k = 1012) : js_B (fun q => base ≤ q) (ext k) (sg_tx k).length (fun j => .int ((sg_tx k).getD j 0)) U := by
  obtain ⟨-, -, -, -, -, ⟨adV, h6⟩, h7, h8, -⟩ := hc
  rcases hk with rfl | rfl | rfl
  · exact ⟨⟨adV 0, h6.1 0 (by decide)⟩, h7, h8⟩
  · exact ⟨⟨adV 1, h6.1 1 (by decide)⟩, h7, h8⟩
  · exact ⟨⟨adV 2, h6.1 2 (by decide)⟩, h7, h8⟩
theorem sg_jr {base : Nat} {ext : Nat → Nat} {D : va_G} {cI cZ : ClassId} {ro : Nat → Option (Nat × (Nat → Int32))} {s : State} {H : Heap} {locs : List Loc} (hc : sg_ctx base ext D cI cZ ro s) (hs : va_S (fun q => base ≤ q) s.heap H locs) {k : Nat} (hk : k = 1010 ∨ k = 1011 ∨ k = 1012) : ∃ cellB : Cell, H[ext k]? = some cellB ∧ cellB.vm.isStatics = false ∧ s.vm.findClass "java/lang/String" = some cellB.cls := by
  obtain ⟨-, -, -, -, -, ⟨adV, h6⟩, h7, h8, -⟩ := hc
  rcases hk with rfl | rfl | rfl
  · exact vk_recv (i := 0) h6 (by decide) hs
  · exact vk_recv (i := 1) h6 (by decide) hs
  · exact vk_recv (i := 2) h6 (by decide) hs
theorem sg_adx {base : Nat} {ext : Nat → Nat} {k : Nat} (hk : k = 1010 ∨ k = 1011 ∨ k = 1012) : sg_ad base ext k = ext k := if_neg (by omega)
theorem sg_t42 (l : Launch) : sg_q42 (sg_S l) := by
  intro M pc ls st h out ix k hd hw hk hcat hro ⟨hm, ih⟩
  refine ⟨hm, ?_⟩
  intro base ext D cI cZ ro p e R s m args below meth c H locs lsC n0 z0 Q hf hc hh hs hl hn kk
  have W1 := ih base ext D cI cZ ro p e R s m args below meth c H locs lsC n0 z0 Q hf hc hh hs hl hn kk
  have b1 := hm.1
  have b2 := hm.2
  have hsh : nI (sg_tx k).length >>> ((0 : Int32) &&& 31) = nI (sg_tx k).length := by
    rcases hk with rfl | rfl | rfl <;> decide
  refine js_callV (As := []) (M' := MJlength) (rest := st.map (sg_cv (sg_ad base ext))) ⟨hf.1, hf.2.1, hf.2.2.1.trans hl.1.symm, hf.2.2.2.1, hf.2.2.2.2.1⟩ (js_length (A := fun q => base ≤ q) (q := ext k) (n := (sg_tx k).length) (f := fun j => .int ((sg_tx k).getD j 0)) hsh) ⟨rfl, rfl⟩ mJlength iJlength ⟨Nat.le_trans (by decide) (Nat.le_trans hro.1 hf.2.2.2.2.2.2.1), Nat.le_trans (by decide) (Nat.le_trans hro.2 hf.2.2.2.2.2.2.2)⟩ hw (sg_jr hc hs hk) js_okB (fun U hU hW => sg_jB (sg_ctx_call hc hs hU hW) hk) (by rw [sg_catS]; exact hcat) ⟨by omega, by omega⟩ ?_ hd W1
  show Value.ref (sg_ad base ext k) :: _ = _
  rw [sg_adx hk]
  rfl
theorem sg_t43 (l : Launch) : sg_q43 (sg_S l) := by
  intro M pc ls st h out ix k j hd hw hk hj hcat hro ⟨hm, ih⟩
  refine ⟨hm, ?_⟩
  intro base ext D cI cZ ro p e R s m args below meth c H locs lsC n0 z0 Q hf hc hh hs hl hn kk
  have W1 := ih base ext D cI cZ ro p e R s m args below meth c H locs lsC n0 z0 Q hf hc hh hs hl hn kk
  have b1 := hm.1
  have b2 := hm.2
  have hn6 : (sg_tx k).length < 2 ^ 31 := by
    rcases hk with rfl | rfl | rfl <;> decide
  have hall : ∀ j, j < (sg_tx k).length → ((((sg_tx k).getD j 0 &&& 255).toUInt32 % 65536).toInt32 = (sg_tx k).getD j 0 ∧ narrow .char (.int ((sg_tx k).getD j 0)) = .int ((sg_tx k).getD j 0)) := by
    rcases hk with rfl | rfl | rfl <;> decide +kernel
  refine js_callV (As := [.int (nI j)]) (M' := MJat) (rest := st.map (sg_cv (sg_ad base ext))) ⟨hf.1, hf.2.1, hf.2.2.1.trans hl.1.symm, hf.2.2.2.1, hf.2.2.2.2.1⟩ (js_at (A := fun q => base ≤ q) (q := ext k) (n := (sg_tx k).length) (f := fun j => .int ((sg_tx k).getD j 0)) hj hn6 rfl (hall j hj).1 (hall j hj).2) ⟨rfl, rfl⟩ mJat iJat ⟨Nat.le_trans (by decide) (Nat.le_trans hro.1 hf.2.2.2.2.2.2.1), Nat.le_trans (by decide) (Nat.le_trans hro.2 hf.2.2.2.2.2.2.2)⟩ hw (sg_jr hc hs hk) js_okB (fun U hU hW => sg_jB (sg_ctx_call hc hs hU hW) hk) (by rw [sg_catS]; exact hcat) ⟨by omega, by omega⟩ ?_ hd W1
  show Value.int (nI j) :: Value.ref (sg_ad base ext k) :: _ = _
  rw [sg_adx hk]
  rfl
theorem sg_sound2 (l : Launch) : sg_C (sg_S l) :=
  ⟨⟨sg_s01 l, sg_s02 l, sg_s03 l, sg_s04 l, sg_s05 l, sg_s06 l, sg_s07 l, sg_s08 l, sg_s09 l, sg_s10 l, sg_s11 l, sg_s12 l, sg_s13 l, sg_s14 l, sg_s15 l, sg_s16 l⟩, ⟨sg_s17 l, sg_s18 l, sg_s19 l, sg_s20 l, sg_s21 l, sg_s22 l, sg_s23 l, sg_s24 l, sg_s25 l⟩, ⟨sg_s26 l, sg_s27 l, sg_s28 l, sg_s29 l, sg_s30 l, sg_s31 l, sg_s32 l, sg_s33 l, sg_s34 l, sg_s35 l, sg_s36 l⟩, ⟨sg_s37 l, sg_s38 l, sg_s39 l, sg_s40 l, sg_s41 l, sg_t42 l, sg_t43 l, sg_s44 l, sg_s45 l⟩⟩
