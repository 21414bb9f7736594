/-! THE CLAIM OUT OF ONE WALK OF THE LAW'S BODY. Your part is whole_start (and what it stands on); all else here is the same for every law, but numbers. -/
def R_law : String := "SpreadGroupsLaw"
def lw_P (b : Addr) (xs : List Int32) (args : Array Value) (s : State) : Prop := args = #[.ref b] ∧ s.IntsAt b xs ∧ xs.length ≤ 2048 ∧ (Jvm.Cond.and given_1 narrow_1).before args s = true
def lw_Q (_ : Array Value) (s : State) (o : Outcome) (t : State) : Prop := o = .returned (some (.int 1)) ∧ Framed s o t [] 72 4859
def lw_Z (below : List Frame) (a : Array Value) (s : State) : State → Prop := fun t => ∃ o, t.status = .running ∧ Ended t below o ∧ lw_Q a s o t
/-- the law's own end, with 1 on the stack, nothing written that was there before, its room as the claim has it -/
theorem lw_ret {p : Program} {l : Launch} {e : Env} {s : State} {m : MethodId} {below : List Frame} {meth : Method} {c : Code} {b : Nat} (hx : p.tables.exec = Jvm.exec) (hb : c.code = code) (hr : meth.sig.returnType = ret) (hlocks : meth.locks = false) {pc : Nat} {H : Heap} {ls : Array Slot} (hdg : decode code pc = .ok (.ireturn, 1)) : W p l e room_1 s m #[Value.ref b] below meth c H [] 72 4859 (lw_Z below #[Value.ref b] s) (F0 m pc ls [.int 1]) := by
  intro T hT X
  obtain ⟨fs, hret, hrun, hended, hW, hframe⟩ := X.leave (v := some (.int 1)) (hlocks := hlocks) (fun h => by rw [hr] at h; cases h)
  have hmeth' : T.vm.method? m = some meth := X.method'
  refine ⟨T.setFrames fs, ?_, .returned (some (.int 1)), hrun, hended, rfl, ⟨_, rfl⟩, hW, hframe⟩
  jvm_step X.here [X.here.top, hx, hb, hdg, hmeth', hr, ret, narrow_b1]
  (try refine ⟨rfl, ?_⟩); (try refine ⟨rfl, ?_⟩)
  first | (intro acts; rw [hret _ acts rfl rfl rfl]) | rw [hret _ _ rfl rfl rfl]
  exact Steps.refl _
/-- what holds at the law's entry: the machine, the code, the tables' words (any of lw_tbl by 'hts w (by decide +kernel)'), the script of L ints xs at the cell b, what the Statement gives of the start (any of its parts by flat_of_before) -/
def lw_At (p : Program) (s : State) (m : MethodId) (meth : Method) (c : Code) (b L : Nat) (xs : Nat → Int32) : Prop :=
  p.tables.exec = Jvm.exec ∧ c.code = code ∧ meth.sig.returnType = ret ∧ c.maxLocals = 4 ∧ s.vm.findClass R_law = some m.cls ∧ (∀ w ∈ lw_tbl, w.before #[Value.ref b] s = true) ∧ va_X b L xs s s.heap ∧ b < s.heap.size ∧ meth.locks = false ∧ (Jvm.Cond.and given_1 narrow_1).before #[Value.ref b] s = true
/-- a row of six ints that nobody writes -/
theorem st_X {args : Array Value} {s : State} {tm : Term} {f : Nat → Int32} {A : Nat → Prop} (harr : (Cond.arrayOf tm .int).before args s = true) (hlen : (Term.length tm).eval args s none [] s = some (.int (Int32.ofNat 6))) (hel : ∀ j : Nat, j < 6 → (Term.elem tm (.int (Int32.ofNat j))).eval args s none [] s = some (.int (f j))) (hA : ∀ a : Nat, a < s.heap.size → ¬ A a) : ∃ t : Nat, tm.eval args s none [] s = some (.ref t) ∧ va_X t 6 f s s.heap ∧ t < s.heap.size := by
  obtain ⟨t, ht, cell, h1, h2, h3, h4, h5, h6, -⟩ := va_Tof (f := fun j => .int (f j)) (A := A) (N := 6) (by decide) harr hlen hel hA
  obtain ⟨t', cell', ht', harr', -⟩ := Term.length_spec hlen
  cases ht.symm.trans ht'
  obtain ⟨hc', -, -, -⟩ := State.arrayAt?_spec harr'
  cases h1.symm.trans hc'
  have hsz : cell.slots.size < 2 ^ 31 := by
    simp only [Term.eval, ht, harr', Option.bind_eq_bind, Option.bind_some] at hlen
    by_cases hlt : cell.slots.size < 2147483648
    · exact hlt
    · simp [hlt] at hlen
  exact ⟨t, ht, ⟨cell, h1, h2, h3, (nI_eq (a := cell.slots.size) (b := 6) hsz (by decide)).mp h5, h6⟩, (Array.getElem?_eq_some_iff.mp h1).1⟩
def st_e (b t1 t2 t3 : Nat) (ad : Nat → Nat) (k : Nat) : Nat := if k = 1020 then b else if k = 1001 then t1 else if k = 1002 then t2 else if k = 1003 then t3 else ad (k - 1010)
def st_r (L : Nat) (xs : Nat → Int32) (k : Nat) : Option (Nat × (Nat → Int32)) := if k = 1020 then some (L, xs) else if k = 1001 then some (6, fun j => nI (lea j)) else if k = 1002 then some (6, fun j => nI (mos j)) else if k = 1003 then some (6, fun j => nI (atf j)) else none
def st_C (L : Nat) (xs : Nat → Int32) (k : Nat) : sg_E := match st_r L xs k with
  | some (n, f) => .inl (false, n, f)
  | none => .inr (0, [])
theorem st_C_r {L : Nat} {xs : Nat → Int32} {k n : Nat} {f : Nat → Int32} (h : st_C L xs k = .inl (false, n, f)) : st_r L xs k = some (n, f) := by
  unfold st_C at h
  cases hr : st_r L xs k with
  | none => rw [hr] at h; cases h
  | some q => rw [hr] at h; cases h; rfl
theorem st_S (L : Nat) (xs : Nat → Int32) : SRc (st_C L xs) := ⟨⟨_, rfl, fun _ _ => rfl⟩, ⟨_, rfl, fun _ _ => rfl⟩, _, rfl, fun _ _ => rfl⟩
def st_tm (i : Nat) : Term := .string RX4 ([37, 60, 65].getD i 0)
theorem st_sl : ∀ t ∈ sg_stl, (Cond.laysStatic RX7 t.2.2.1 "[I") ∈ lw_tbl := by decide +kernel
theorem st_si : Cond.initialized RX7 ∈ sg_ws := by decide +kernel
theorem st_j1 : Cond.laysStatic "java/lang/String" "COMPACT_STRINGS" "Z" ∈ lw_tbl := by decide +kernel
theorem st_j2 : Cond.initialized "java/lang/String" ∈ sg_ws := by decide +kernel
theorem st_j3 : Cond.laysStatic "jdk/internal/util/Preconditions" "SIOOBE_FORMATTER" "Ljava/util/function/BiFunction;" ∈ lw_tbl := by decide +kernel
theorem st_j4 : Cond.initialized "jdk/internal/util/Preconditions" ∈ sg_ws := by decide +kernel
theorem st_k1 : Cond.stringRef RX4 37 "volume" ∈ lw_tbl := by decide +kernel
theorem st_k2 : Cond.stringRef RX4 60 "dir" ∈ lw_tbl := by decide +kernel
theorem st_k3 : Cond.stringRef RX4 65 "file" ∈ lw_tbl := by decide +kernel
theorem st_K {s : State} {args : Array Value} (hws : ∀ w ∈ sg_ws, w.before args s = true) : ∃ (D : va_G) (cI cZ : ClassId), va_K D vwCl [(cI, .int), (cZ, .boolean)] s := by
  obtain ⟨c0, i0, k0⟩ := u_known (C := RX0) (T := TX0) (N := 5) (n := 5) hws sg_uin0 (hws _ xX0)
  obtain ⟨c1, i1, k1⟩ := u_known (C := RX1) (T := TX1) (N := 2) (n := 2) hws sg_uin1 (hws _ xX1)
  obtain ⟨c2, i2, k2⟩ := u_known (C := RX2) (T := TX2) (N := 7) (n := 7) hws sg_uin2 (hws _ xX2)
  obtain ⟨c3, i3, k3⟩ := u_known (C := RX3) (T := TX3) (N := 6) (n := 6) hws sg_uin3 (hws _ xX3)
  obtain ⟨c4, i4, k4⟩ := u_known (C := RX4) (T := TX4) (N := 9) (n := 9) hws sg_uin4 (hws _ xX4)
  obtain ⟨c5, i5, k5⟩ := u_known (C := RX5) (T := TX5) (N := 2) (n := 2) hws sg_uin5 (hws _ xX5)
  obtain ⟨c6, i6, k6⟩ := u_known (C := RX6) (T := TX6) (N := 6) (n := 6) hws sg_uin6 (hws _ xX6)
  obtain ⟨c7, i7, k7⟩ := u_known (C := RX7) (T := TX7) (N := 14) (n := 14) hws sg_uin7 (hws _ xX7)
  obtain ⟨c8, i8, k8⟩ := u_known (C := RX8) (T := TX8) (N := 16) (n := 16) hws sg_uin8 (hws _ xX8)
  obtain ⟨cI, kI, mI, f1, f2, f3⟩ := Cond.arrayClass_spec (hws _ sg_wI)
  obtain ⟨cZ, kZ, mZ, g1, g2, g3⟩ := Cond.arrayClass_spec (hws _ sg_wZ)
  refine ⟨(fun k => [c0, c1, c2, c3, c4, c5, c6, c7, c8].getD k c0, fun k => [i0, i1, i2, i3, i4, i5, i6, i7, i8].getD k i0), cI, cZ, ?_, ?_⟩
  · intro k q hq
    match k, hq with
    | 0, hq => cases hq; exact k0
    | 1, hq => cases hq; exact k1
    | 2, hq => cases hq; exact k2
    | 3, hq => cases hq; exact k3
    | 4, hq => cases hq; exact k4
    | 5, hq => cases hq; exact k5
    | 6, hq => cases hq; exact k6
    | 7, hq => cases hq; exact k7
    | 8, hq => cases hq; exact k8
    | k + 9, hq => simp at hq
  · intro k q hq
    match k, hq with
    | 0, hq => cases hq; exact ⟨fun n z => ⟨fun k h => (by cases h), kI, f2, mI, f3⟩, f1⟩
    | 1, hq => cases hq; exact ⟨fun n z => ⟨fun k h => (by cases h), kZ, g2, mZ, g3⟩, g1⟩
    | k + 2, hq => simp at hq
set_option maxRecDepth 100000 in
set_option maxHeartbeats 4000000 in
theorem st_X3 {s : State} {args : Array Value} (hgv : (Jvm.Cond.and given_1 narrow_1).before args s = true) : (∃ t, (Term.static RX7 "LEAST_RULES" "[I").eval args s none [] s = some (.ref t) ∧ va_X t 6 (fun j => nI (lea j)) s s.heap ∧ t < s.heap.size) ∧ (∃ t, (Term.static RX7 "MOST_RULES" "[I").eval args s none [] s = some (.ref t) ∧ va_X t 6 (fun j => nI (mos j)) s s.heap ∧ t < s.heap.size) ∧ ∃ t, (Term.static RX7 "RULES_AT_FIRST" "[I").eval args s none [] s = some (.ref t) ∧ va_X t 6 (fun j => nI (atf j)) s s.heap ∧ t < s.heap.size := by
  have hs := flat_of_before _ hgv
  refine ⟨st_X (A := fun _ => False) (hs _ (by decide +kernel)) (va_eqt (hs _ (by decide +kernel))) ?_ (fun _ _ h => h), st_X (A := fun _ => False) (hs _ (by decide +kernel)) (va_eqt (hs _ (by decide +kernel))) ?_ (fun _ _ h => h), st_X (A := fun _ => False) (hs _ (by decide +kernel)) (va_eqt (hs _ (by decide +kernel))) ?_ (fun _ _ h => h)⟩
  · intro j hj
    rcases (show j = 0 ∨ j = 1 ∨ j = 2 ∨ j = 3 ∨ j = 4 ∨ j = 5 by omega) with rfl | rfl | rfl | rfl | rfl | rfl <;> exact va_eqt (hs _ (by decide +kernel))
  · intro j hj
    rcases (show j = 0 ∨ j = 1 ∨ j = 2 ∨ j = 3 ∨ j = 4 ∨ j = 5 by omega) with rfl | rfl | rfl | rfl | rfl | rfl <;> exact va_eqt (hs _ (by decide +kernel))
  · intro j hj
    rcases (show j = 0 ∨ j = 1 ∨ j = 2 ∨ j = 3 ∨ j = 4 ∨ j = 5 by omega) with rfl | rfl | rfl | rfl | rfl | rfl <;> exact va_eqt (hs _ (by decide +kernel))
set_option maxRecDepth 100000 in
set_option maxHeartbeats 4000000 in
theorem st_J {s : State} {args : Array Value} (hgv : (Jvm.Cond.and given_1 narrow_1).before args s = true) {A : Nat → Prop} (hA : ∀ a : Nat, a < s.heap.size → ¬ A a) : ∃ adK adV : Nat → Nat, vk_S 3 [6, 3, 4] [sg_tx 1010, sg_tx 1011, sg_tx 1012] adK adV A s s.heap ∧ ∀ i : Nat, i < 3 → (st_tm i).eval args s none [] s = some (.ref (adK i)) := by
  have hs := flat_of_before _ hgv
  have t3 : ∀ {P : Nat → Prop}, P 0 → P 1 → P 2 → ∀ i, i < 3 → P i := by
    intro P h0 h1 h2 i hi
    rcases (show i = 0 ∨ i = 1 ∨ i = 2 by omega) with rfl | rfl | rfl
    · exact h0
    · exact h1
    · exact h2
  refine vk_Sof (tm := st_tm) (t3 (by decide) (by decide) (by decide)) (t3 (hs _ (by decide +kernel)) (hs _ (by decide +kernel)) (hs _ (by decide +kernel))) (t3 (hs _ (by decide +kernel)) (hs _ (by decide +kernel)) (hs _ (by decide +kernel))) (t3 (hs _ (by decide +kernel)) (hs _ (by decide +kernel)) (hs _ (by decide +kernel))) (t3 (hs _ (by decide +kernel)) (hs _ (by decide +kernel)) (hs _ (by decide +kernel))) (t3 ?_ ?_ ?_) ?_ hA
  · intro j hj
    have hj : j < 6 := hj
    rcases (show j = 0 ∨ j = 1 ∨ j = 2 ∨ j = 3 ∨ j = 4 ∨ j = 5 by omega) with rfl | rfl | rfl | rfl | rfl | rfl <;> exact hs _ (by decide +kernel)
  · intro j hj
    have hj : j < 3 := hj
    rcases (show j = 0 ∨ j = 1 ∨ j = 2 by omega) with rfl | rfl | rfl <;> exact hs _ (by decide +kernel)
  · intro j hj
    have hj : j < 4 := hj
    rcases (show j = 0 ∨ j = 1 ∨ j = 2 ∨ j = 3 by omega) with rfl | rfl | rfl | rfl <;> exact hs _ (by decide +kernel)
  · intro i j hi hj hij
    rcases (show i = 0 ∧ j = 1 ∨ i = 0 ∧ j = 2 ∨ i = 1 ∧ j = 2 ∨ i = 1 ∧ j = 0 ∨ i = 2 ∧ j = 0 ∨ i = 2 ∧ j = 1 by omega) with ⟨rfl, rfl⟩ | ⟨rfl, rfl⟩ | ⟨rfl, rfl⟩ | ⟨rfl, rfl⟩ | ⟨rfl, rfl⟩ | ⟨rfl, rfl⟩
    · exact Or.inl (hs _ (by decide +kernel))
    · exact Or.inl (hs _ (by decide +kernel))
    · exact Or.inl (hs _ (by decide +kernel))
    · exact Or.inr (hs _ (by decide +kernel))
    · exact Or.inr (hs _ (by decide +kernel))
    · exact Or.inr (hs _ (by decide +kernel))
/-- THE LAW, from its entry -/
theorem whole_start {p : Program} {e : Env} {s : State} {m : MethodId} {below : List Frame} {meth : Method} {c : Code} (l : Launch) (hnm : meth.name = x.name) {b L : Nat} {xs : Nat → Int32} (hL : L ≤ 2048) (C0 : lw_At p s m meth c b L xs) : W p l e room_1 s m #[Value.ref b] below meth c s.heap [] 0 0 (lw_Z below #[Value.ref b] s) (entryFrame m ([Value.ref b] : List Value).toArray 4) := by
  obtain ⟨hx, hb, hr, hml, hown, hts, hX, hbl, hlocks, hgv⟩ := C0
  have hs := flat_of_before _ hgv
  have hws : ∀ w ∈ sg_ws, w.before #[Value.ref b] s = true := fun w hw => hts w (List.mem_filter.mp hw).1
  obtain ⟨D, cI, cZ, hK⟩ := st_K hws
  obtain ⟨⟨t1, e1, x1, l1⟩, ⟨t2, e2, x2, l2⟩, t3, e3, x3, l3⟩ := st_X3 hgv
  have hA : ∀ a : Nat, a < s.heap.size → ¬ (fun q : Nat => s.heap.size ≤ q) a := fun a h1 h2 => by
    have : s.heap.size ≤ a := h2
    omega
  obtain ⟨adK, adV, hJ, hJe⟩ := st_J (A := fun q : Nat => s.heap.size ≤ q) hgv hA
  have hx10 : ∀ i, i < 3 → st_e b t1 t2 t3 adK (1010 + i) = adK i := by
    intro i hi
    unfold st_e
    rw [if_neg (by omega), if_neg (by omega), if_neg (by omega), if_neg (by omega), show 1010 + i - 1010 = i by omega]
  have hJ' : vk_S 3 [6, 3, 4] [sg_tx 1010, sg_tx 1011, sg_tx 1012] (fun i => st_e b t1 t2 t3 adK (1010 + i)) adV (fun q : Nat => s.heap.size ≤ q) s s.heap := by
    refine ⟨fun i hi => ?_, fun i j hi hj q => ?_⟩
    · dsimp only
      rw [hx10 i hi]
      exact hJ.1 i hi
    · dsimp only at q
      rw [hx10 i hi, hx10 j hj] at q
      exact hJ.2 i j hi hj q
  have hctx : sg_ctx s.heap.size (st_e b t1 t2 t3 adK) D cI cZ (st_r L xs) s := by
    refine ⟨hK, fun w hw => va_Nw.of (sg_nwt hw) (hts w (List.mem_filter.mp hw).1), ?_, Nat.le_refl _, ?_, ⟨adV, hJ'⟩, va_Zof (hts _ st_j1) (hws _ st_j2) (va_eqt (hs _ (by decide +kernel))) hA, va_Zqof (hts _ st_j3) (hws _ st_j4) (hs _ (by decide +kernel)) hA, ?_⟩
    · intro k n f hk
      unfold st_r at hk
      by_cases q1 : k = 1020
      · subst q1
        cases hk
        exact ⟨hX, hbl⟩
      · rw [if_neg q1] at hk
        by_cases q2 : k = 1001
        · subst q2
          cases hk
          exact ⟨x1, l1⟩
        · rw [if_neg q2] at hk
          by_cases q3 : k = 1002
          · subst q3
            cases hk
            exact ⟨x2, l2⟩
          · rw [if_neg q3] at hk
            by_cases q4 : k = 1003
            · subst q4
              cases hk
              exact ⟨x3, l3⟩
            · rw [if_neg q4] at hk
              cases hk
    · intro t ht
      have w := st_sl t ht
      simp only [sg_stl, List.mem_cons, List.not_mem_nil, or_false] at ht
      rcases ht with rfl | rfl | rfl
      · exact va_Zof (hts _ w) (hws _ st_si) e1 hA
      · exact va_Zof (hts _ w) (hws _ st_si) e2 hA
      · exact va_Zof (hts _ w) (hws _ st_si) e3 hA
    · intro t ht
      simp only [sg_scl, List.mem_cons, List.not_mem_nil, or_false] at ht
      rcases ht with rfl | rfl | rfl
      · exact ⟨_, vk_R.of (hts _ st_k1) (hJe 0 (by decide))⟩
      · exact ⟨_, vk_R.of (hts _ st_k2) (hJe 1 (by decide))⟩
      · exact ⟨_, vk_R.of (hts _ st_k3) (hJe 2 (by decide))⟩
  obtain ⟨r, h', hR, rfl, q1, q2⟩ := law_run (st_S L xs) (show st_C L xs 1020 = .inl (false, L, xs) from rfl) hL
  have hSS := hR (sg_S l) (sg_sound2 l)
  rw [lg_entry_eq]
  have W0 := hSS.2 s.heap.size (st_e b t1 t2 t3 adK) D cI cZ (st_r L xs) p e room_1 s m #[Value.ref b] below meth c s.heap [] _ 0 0 (lw_Z below #[Value.ref b] s) ⟨hx, hb, hml, hown, hws, hnm, by decide, by decide⟩ hctx ⟨rfl, Nat.zero_le _, fun k hk => absurd hk (Nat.not_lt_zero k), fun k _ n f h => st_C_r h⟩ va_S.rf (sg_lm_en (sg_ad s.heap.size (st_e b t1 t2 t3 adK)) ML_law [.ref 1020] (by decide)) ⟨Nat.le_refl _, Nat.le_refl _, by rw [q1]; decide, by rw [q2]; decide⟩ ?_
  · exact W0
  · intro pc' H' locs' lsC' hh' hs' hrt
    rw [q1, q2]
    rcases hrt with ⟨v, ty, hv, hd, -, -⟩ | ⟨hv, -, -⟩
    · exact va_forget hs'.2.2 (lw_ret hx hb hr hlocks hd)
    · cases hv
