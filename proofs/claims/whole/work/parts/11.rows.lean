/-! ROWS of the deep semantics, for walking -/
section SGW
variable {M : sg_M} {pc : Nat} {ls : sg_L} {st : List Value} {h : sg_H} {Q : Option Value → sg_H → Prop}
theorem at_ld {ins : Instr} {len i kd : Nat} {v : Value} (hd : decode M.2.1 pc = .ok (ins, len)) (hx : sg_lx ins = some (i, kd, len)) (hv : ls[i]? = some (some v)) (hk : sg_kd kd v = true) (k : sg_A M (pc + len) ls (v :: st) h Q) : sg_A M pc ls st h Q :=
  let ⟨r, h', hr, hq⟩ := k; ⟨r, h', fun P hP => hP.1.1 _ _ _ _ _ _ _ _ _ _ _ hd hx hv hk (hr P hP), hq⟩
theorem at_st {ins : Instr} {len i kd : Nat} {v : Value} (hd : decode M.2.1 pc = .ok (ins, len)) (hx : sg_sx ins = some (i, kd, len)) (hk : sg_kd kd v = true) (hi : i < ls.length) (hf : sg_fr ls i = true) (k : sg_A M (pc + len) (ls.set i (some v)) st h Q) : sg_A M pc ls (v :: st) h Q :=
  let ⟨r, h', hr, hq⟩ := k; ⟨r, h', fun P hP => hP.1.2.1 _ _ _ _ _ _ _ _ _ _ _ hd hx hk hi hf (hr P hP), hq⟩
/-- a constant, by the number that we write for it -/
theorem at_k {ins : Instr} {len : Nat} {v : Int32} (w : Int32) (hd : decode M.2.1 pc = .ok (ins, len)) (hx : sg_kx ins = some (v, len)) (hw : v = w) (k : sg_A M (pc + len) ls (.int w :: st) h Q) : sg_A M pc ls st h Q := by
  subst hw
  obtain ⟨r, h', hr, hq⟩ := k
  exact ⟨r, h', fun P hP => hP.1.2.2.1 _ _ _ _ _ _ _ _ _ hd hx (hr P hP), hq⟩
theorem at_lconst {n : Fin 2} (hd : decode M.2.1 pc = .ok (.lconst n, 1)) (k : sg_A M (pc + 1) ls (.long (Int64.ofNat n.val) :: st) h Q) : sg_A M pc ls st h Q :=
  let ⟨r, h', hr, hq⟩ := k; ⟨r, h', fun P hP => hP.1.2.2.2.1 _ _ _ _ _ _ _ hd (hr P hP), hq⟩
theorem at_ldc {ix : Nat} {v : Int32} (hd : decode M.2.1 pc = .ok (.ldc ix, 2)) (hw : Cond.constant M.1.cls ix v ∈ sg_ws) (k : sg_A M (pc + 2) ls (.int v :: st) h Q) : sg_A M pc ls st h Q :=
  let ⟨r, h', hr, hq⟩ := k; ⟨r, h', fun P hP => hP.1.2.2.2.2.1 _ _ _ _ _ _ _ _ hd hw (hr P hP), hq⟩
theorem at_ldcw {ix : Nat} {v : Int32} (hd : decode M.2.1 pc = .ok (.ldc_w ix, 3)) (hw : Cond.constant M.1.cls ix v ∈ sg_ws) (k : sg_A M (pc + 3) ls (.int v :: st) h Q) : sg_A M pc ls st h Q :=
  let ⟨r, h', hr, hq⟩ := k; ⟨r, h', fun P hP => hP.1.2.2.2.2.2.1 _ _ _ _ _ _ _ _ hd hw (hr P hP), hq⟩
theorem at_ldc2 {ix : Nat} {v : Int64} (hd : decode M.2.1 pc = .ok (.ldc2_w ix, 3)) (hw : Cond.constantLong M.1.cls ix v ∈ sg_ws) (k : sg_A M (pc + 3) ls (.long v :: st) h Q) : sg_A M pc ls st h Q :=
  let ⟨r, h', hr, hq⟩ := k; ⟨r, h', fun P hP => hP.1.2.2.2.2.2.2.1 _ _ _ _ _ _ _ _ hd hw (hr P hP), hq⟩
theorem at_ldcS {ix k0 : Nat} (hd : decode M.2.1 pc = .ok (.ldc ix, 2)) (hw : (M.1.cls, ix, k0) ∈ sg_scl) (k : sg_A M (pc + 2) ls (.ref k0 :: st) h Q) : sg_A M pc ls st h Q :=
  let ⟨r, h', hr, hq⟩ := k; ⟨r, h', fun P hP => hP.1.2.2.2.2.2.2.2.1 _ _ _ _ _ _ _ _ hd hw (hr P hP), hq⟩
theorem at_bin {ins : Instr} {f : Int32 → Int32 → Int32} {x y : Int32} (hd : decode M.2.1 pc = .ok (ins, 1)) (hx : sg_bx ins = some f) (k : sg_A M (pc + 1) ls (.int (f x y) :: st) h Q) : sg_A M pc ls (.int y :: .int x :: st) h Q :=
  let ⟨r, h', hr, hq⟩ := k; ⟨r, h', fun P hP => hP.1.2.2.2.2.2.2.2.2.1 _ _ _ _ _ _ _ _ _ _ hd hx (hr P hP), hq⟩
theorem at_div {x y : Int32} (hd : decode M.2.1 pc = .ok (.idiv, 1)) (hy : ¬ y = 0) (k : sg_A M (pc + 1) ls (.int (x / y) :: st) h Q) : sg_A M pc ls (.int y :: .int x :: st) h Q :=
  let ⟨r, h', hr, hq⟩ := k; ⟨r, h', fun P hP => hP.1.2.2.2.2.2.2.2.2.2.1 _ _ _ _ _ _ _ _ hd hy (hr P hP), hq⟩
theorem at_rem {x y : Int32} (hd : decode M.2.1 pc = .ok (.irem, 1)) (hy : ¬ y = 0) (k : sg_A M (pc + 1) ls (.int (x - x / y * y) :: st) h Q) : sg_A M pc ls (.int y :: .int x :: st) h Q :=
  let ⟨r, h', hr, hq⟩ := k; ⟨r, h', fun P hP => hP.1.2.2.2.2.2.2.2.2.2.2.1 _ _ _ _ _ _ _ _ hd hy (hr P hP), hq⟩
theorem at_i2l {x : Int32} (hd : decode M.2.1 pc = .ok (.i2l, 1)) (k : sg_A M (pc + 1) ls (.long x.toInt64 :: st) h Q) : sg_A M pc ls (.int x :: st) h Q :=
  let ⟨r, h', hr, hq⟩ := k; ⟨r, h', fun P hP => hP.1.2.2.2.2.2.2.2.2.2.2.2.1 _ _ _ _ _ _ _ hd (hr P hP), hq⟩
theorem at_lcmp {x y : Int64} (hd : decode M.2.1 pc = .ok (.lcmp, 1)) (k : sg_A M (pc + 1) ls (.int (lg_cmp x y) :: st) h Q) : sg_A M pc ls (.long y :: .long x :: st) h Q :=
  let ⟨r, h', hr, hq⟩ := k; ⟨r, h', fun P hP => hP.1.2.2.2.2.2.2.2.2.2.2.2.2.1 _ _ _ _ _ _ _ _ hd (hr P hP), hq⟩
theorem at_iinc {i : Nat} {n : Int} {x : Int32} (w : Int32) (hd : decode M.2.1 pc = .ok (.iinc i n, 3)) (hx : ls[i]? = some (some (.int x))) (hf : sg_fr ls i = true) (hw : Int32.ofInt n = w) (k : sg_A M (pc + 3) (ls.set i (some (.int (x + w)))) st h Q) : sg_A M pc ls st h Q := by
  subst hw
  obtain ⟨r, h', hr, hq⟩ := k
  exact ⟨r, h', fun P hP => hP.1.2.2.2.2.2.2.2.2.2.2.2.2.2.1 _ _ _ _ _ _ _ _ _ hd hx hf (hr P hP), hq⟩
theorem at_dup {v : Value} (hd : decode M.2.1 pc = .ok (.dup, 1)) (hv : v.category = 1) (k : sg_A M (pc + 1) ls (v :: v :: st) h Q) : sg_A M pc ls (v :: st) h Q :=
  let ⟨r, h', hr, hq⟩ := k; ⟨r, h', fun P hP => hP.1.2.2.2.2.2.2.2.2.2.2.2.2.2.2.1 _ _ _ _ _ _ _ hd hv (hr P hP), hq⟩
theorem at_dup2 {v w : Value} (hd : decode M.2.1 pc = .ok (.dup2, 1)) (hv : v.category = 1) (hw : w.category = 1) (k : sg_A M (pc + 1) ls (v :: w :: v :: w :: st) h Q) : sg_A M pc ls (v :: w :: st) h Q :=
  let ⟨r, h', hr, hq⟩ := k; ⟨r, h', fun P hP => hP.1.2.2.2.2.2.2.2.2.2.2.2.2.2.2.2 _ _ _ _ _ _ _ _ hd hv hw (hr P hP), hq⟩
theorem at_goto {off : Int} (tgt : Nat) (hd : decode M.2.1 pc = .ok (.goto off, 3)) (ht : (pc : Int) + off = (tgt : Int)) (k : sg_A M tgt ls st h Q) : sg_A M pc ls st h Q :=
  let ⟨r, h', hr, hq⟩ := k; ⟨r, h', fun P hP => hP.2.1.1 _ _ _ _ _ _ _ _ hd ht (hr P hP), hq⟩
theorem at_ic {cd : Jvm.ClassFile.Cond} {off : Int} (tgt : Nat) {x y : Int32} (hd : decode M.2.1 pc = .ok (.if_icmp cd off, 3)) (ht : (pc : Int) + off = (tgt : Int)) (kt : sg_cd cd x y = true → sg_A M tgt ls st h Q) (kf : sg_cd cd x y = false → sg_A M (pc + 3) ls st h Q) : sg_A M pc ls (.int y :: .int x :: st) h Q := by
  cases hc : sg_cd cd x y with
  | true =>
    obtain ⟨r, h', hr, hq⟩ := kt hc
    exact ⟨r, h', fun P hP => hP.2.1.2.1 _ _ _ _ _ _ _ _ _ _ _ hd ht hc (hr P hP), hq⟩
  | false =>
    obtain ⟨r, h', hr, hq⟩ := kf hc
    exact ⟨r, h', fun P hP => hP.2.1.2.2.1 _ _ _ _ _ _ _ _ _ _ _ hd ht hc (hr P hP), hq⟩
theorem at_if {cd : Jvm.ClassFile.Cond} {off : Int} (tgt : Nat) {x : Int32} (hd : decode M.2.1 pc = .ok (.ifCond cd off, 3)) (ht : (pc : Int) + off = (tgt : Int)) (kt : sg_cd cd x 0 = true → sg_A M tgt ls st h Q) (kf : sg_cd cd x 0 = false → sg_A M (pc + 3) ls st h Q) : sg_A M pc ls (.int x :: st) h Q := by
  cases hc : sg_cd cd x 0 with
  | true =>
    obtain ⟨r, h', hr, hq⟩ := kt hc
    exact ⟨r, h', fun P hP => hP.2.1.2.2.2.1 _ _ _ _ _ _ _ _ _ _ hd ht hc (hr P hP), hq⟩
  | false =>
    obtain ⟨r, h', hr, hq⟩ := kf hc
    exact ⟨r, h', fun P hP => hP.2.1.2.2.2.2.1 _ _ _ _ _ _ _ _ _ _ hd ht hc (hr P hP), hq⟩
theorem at_ieq {off : Int} (tgt : Nat) {x y : Int32} (hd : decode M.2.1 pc = .ok (.if_icmp .eq off, 3)) (ht : (pc : Int) + off = (tgt : Int)) (kt : x = y → sg_A M tgt ls st h Q) (kf : ¬ (x = y) → sg_A M (pc + 3) ls st h Q) : sg_A M pc ls (.int y :: .int x :: st) h Q :=
  at_ic tgt hd ht (fun q => kt (of_decide_eq_true q)) (fun q => kf (of_decide_eq_false q))
theorem at_zeq {off : Int} (tgt : Nat) {x : Int32} (hd : decode M.2.1 pc = .ok (.ifCond .eq off, 3)) (ht : (pc : Int) + off = (tgt : Int)) (kt : x = 0 → sg_A M tgt ls st h Q) (kf : ¬ (x = 0) → sg_A M (pc + 3) ls st h Q) : sg_A M pc ls (.int x :: st) h Q :=
  at_if tgt hd ht (fun q => kt (of_decide_eq_true q)) (fun q => kf (of_decide_eq_false q))
theorem at_ine {off : Int} (tgt : Nat) {x y : Int32} (hd : decode M.2.1 pc = .ok (.if_icmp .ne off, 3)) (ht : (pc : Int) + off = (tgt : Int)) (kt : ¬ x = y → sg_A M tgt ls st h Q) (kf : ¬ (¬ x = y) → sg_A M (pc + 3) ls st h Q) : sg_A M pc ls (.int y :: .int x :: st) h Q :=
  at_ic tgt hd ht (fun q => kt (of_decide_eq_true q)) (fun q => kf (of_decide_eq_false q))
theorem at_zne {off : Int} (tgt : Nat) {x : Int32} (hd : decode M.2.1 pc = .ok (.ifCond .ne off, 3)) (ht : (pc : Int) + off = (tgt : Int)) (kt : ¬ x = 0 → sg_A M tgt ls st h Q) (kf : ¬ (¬ x = 0) → sg_A M (pc + 3) ls st h Q) : sg_A M pc ls (.int x :: st) h Q :=
  at_if tgt hd ht (fun q => kt (of_decide_eq_true q)) (fun q => kf (of_decide_eq_false q))
theorem at_ilt {off : Int} (tgt : Nat) {x y : Int32} (hd : decode M.2.1 pc = .ok (.if_icmp .lt off, 3)) (ht : (pc : Int) + off = (tgt : Int)) (kt : x < y → sg_A M tgt ls st h Q) (kf : ¬ (x < y) → sg_A M (pc + 3) ls st h Q) : sg_A M pc ls (.int y :: .int x :: st) h Q :=
  at_ic tgt hd ht (fun q => kt (of_decide_eq_true q)) (fun q => kf (of_decide_eq_false q))
theorem at_zlt {off : Int} (tgt : Nat) {x : Int32} (hd : decode M.2.1 pc = .ok (.ifCond .lt off, 3)) (ht : (pc : Int) + off = (tgt : Int)) (kt : x < 0 → sg_A M tgt ls st h Q) (kf : ¬ (x < 0) → sg_A M (pc + 3) ls st h Q) : sg_A M pc ls (.int x :: st) h Q :=
  at_if tgt hd ht (fun q => kt (of_decide_eq_true q)) (fun q => kf (of_decide_eq_false q))
theorem at_ige {off : Int} (tgt : Nat) {x y : Int32} (hd : decode M.2.1 pc = .ok (.if_icmp .ge off, 3)) (ht : (pc : Int) + off = (tgt : Int)) (kt : y ≤ x → sg_A M tgt ls st h Q) (kf : ¬ (y ≤ x) → sg_A M (pc + 3) ls st h Q) : sg_A M pc ls (.int y :: .int x :: st) h Q :=
  at_ic tgt hd ht (fun q => kt (of_decide_eq_true q)) (fun q => kf (of_decide_eq_false q))
theorem at_zge {off : Int} (tgt : Nat) {x : Int32} (hd : decode M.2.1 pc = .ok (.ifCond .ge off, 3)) (ht : (pc : Int) + off = (tgt : Int)) (kt : 0 ≤ x → sg_A M tgt ls st h Q) (kf : ¬ (0 ≤ x) → sg_A M (pc + 3) ls st h Q) : sg_A M pc ls (.int x :: st) h Q :=
  at_if tgt hd ht (fun q => kt (of_decide_eq_true q)) (fun q => kf (of_decide_eq_false q))
theorem at_igt {off : Int} (tgt : Nat) {x y : Int32} (hd : decode M.2.1 pc = .ok (.if_icmp .gt off, 3)) (ht : (pc : Int) + off = (tgt : Int)) (kt : y < x → sg_A M tgt ls st h Q) (kf : ¬ (y < x) → sg_A M (pc + 3) ls st h Q) : sg_A M pc ls (.int y :: .int x :: st) h Q :=
  at_ic tgt hd ht (fun q => kt (of_decide_eq_true q)) (fun q => kf (of_decide_eq_false q))
theorem at_zgt {off : Int} (tgt : Nat) {x : Int32} (hd : decode M.2.1 pc = .ok (.ifCond .gt off, 3)) (ht : (pc : Int) + off = (tgt : Int)) (kt : 0 < x → sg_A M tgt ls st h Q) (kf : ¬ (0 < x) → sg_A M (pc + 3) ls st h Q) : sg_A M pc ls (.int x :: st) h Q :=
  at_if tgt hd ht (fun q => kt (of_decide_eq_true q)) (fun q => kf (of_decide_eq_false q))
theorem at_ile {off : Int} (tgt : Nat) {x y : Int32} (hd : decode M.2.1 pc = .ok (.if_icmp .le off, 3)) (ht : (pc : Int) + off = (tgt : Int)) (kt : x ≤ y → sg_A M tgt ls st h Q) (kf : ¬ (x ≤ y) → sg_A M (pc + 3) ls st h Q) : sg_A M pc ls (.int y :: .int x :: st) h Q :=
  at_ic tgt hd ht (fun q => kt (of_decide_eq_true q)) (fun q => kf (of_decide_eq_false q))
theorem at_zle {off : Int} (tgt : Nat) {x : Int32} (hd : decode M.2.1 pc = .ok (.ifCond .le off, 3)) (ht : (pc : Int) + off = (tgt : Int)) (kt : x ≤ 0 → sg_A M tgt ls st h Q) (kf : ¬ (x ≤ 0) → sg_A M (pc + 3) ls st h Q) : sg_A M pc ls (.int x :: st) h Q :=
  at_if tgt hd ht (fun q => kt (of_decide_eq_true q)) (fun q => kf (of_decide_eq_false q))
theorem at_ifnull {off : Int} {k0 : Nat} (hd : decode M.2.1 pc = .ok (.ifnull off, 3)) (k : sg_A M (pc + 3) ls st h Q) : sg_A M pc ls (.ref k0 :: st) h Q :=
  let ⟨r, h', hr, hq⟩ := k; ⟨r, h', fun P hP => hP.2.1.2.2.2.2.2.1 _ _ _ _ _ _ _ _ hd (hr P hP), hq⟩
theorem at_tin {dflt lo hi : Int} {offs : Array Int} {len : Nat} {x : Int32} {off : Int} (tgt : Nat) (hd : decode M.2.1 pc = .ok (.tableswitch dflt lo hi offs, len)) (h1 : ¬ x.toInt < lo) (h2 : ¬ hi < x.toInt) (ho : offs[(x.toInt - lo).toNat]? = some off) (ht : (pc : Int) + off = (tgt : Int)) (k : sg_A M tgt ls st h Q) : sg_A M pc ls (.int x :: st) h Q :=
  let ⟨r, h', hr, hq⟩ := k; ⟨r, h', fun P hP => hP.2.1.2.2.2.2.2.2.1 _ _ _ _ _ _ _ _ _ _ _ _ _ _ hd h1 h2 ho ht (hr P hP), hq⟩
theorem at_tout {dflt lo hi : Int} {offs : Array Int} {len : Nat} {x : Int32} (tgt : Nat) (hd : decode M.2.1 pc = .ok (.tableswitch dflt lo hi offs, len)) (h1 : x.toInt < lo ∨ hi < x.toInt) (ht : (pc : Int) + dflt = (tgt : Int)) (k : sg_A M tgt ls st h Q) : sg_A M pc ls (.int x :: st) h Q :=
  let ⟨r, h', hr, hq⟩ := k; ⟨r, h', fun P hP => hP.2.1.2.2.2.2.2.2.2.1 _ _ _ _ _ _ _ _ _ _ _ _ _ hd h1 ht (hr P hP), hq⟩
theorem at_look {dflt : Int} {ps : Array (Int × Int)} {len : Nat} {x : Int32} {off : Int} (tgt : Nat) (hd : decode M.2.1 pc = .ok (.lookupswitch dflt ps, len)) (hp : (ps.toList.zip (ps.toList.drop 1)).all (fun (a, next) => a.1 < next.1) = true) (ho : Op.lookupswitch.offset ps.toList dflt x.toInt = off) (ht : (pc : Int) + off = (tgt : Int)) (k : sg_A M tgt ls st h Q) : sg_A M pc ls (.int x :: st) h Q :=
  let ⟨r, h', hr, hq⟩ := k; ⟨r, h', fun P hP => hP.2.1.2.2.2.2.2.2.2.2 _ _ _ _ _ _ _ _ _ _ _ _ hd hp ho ht (hr P hP), hq⟩
theorem at_get {ix ci j k0 : Nat} {fs : List Value} {v : Value} (hd : decode M.2.1 pc = .ok (.getfield ix, 3)) (hf : sg_fok M.1.cls ix ci j) (ha : sg_at h k0 (.inr (ci, fs))) (hk : k0 < 1000) (hv : fs[j]? = some v) (k : sg_A M (pc + 3) ls (v :: st) h Q) : sg_A M pc ls (.ref k0 :: st) h Q :=
  let ⟨r, h', hr, hq⟩ := k; ⟨r, h', fun P hP => hP.2.2.1.1 _ _ _ _ _ _ _ _ _ _ _ _ hd hf hk ha hv (hr P hP), hq⟩
theorem at_put {ix ci j k0 : Nat} {fs : List Value} {v : Value} {h1 : sg_H} (hd : decode M.2.1 pc = .ok (.putfield ix, 3)) (hf : sg_fok M.1.cls ix ci j) (hw : sg_wok M ci j v) (ha : sg_at h k0 (.inr (ci, fs))) (hk : k0 < 1000) (hj : j < fs.length) (he : sg_up h k0 (.inr (ci, fs.set j v)) = h1) (k : sg_A M (pc + 3) ls st h1 Q) : sg_A M pc ls (v :: .ref k0 :: st) h Q := by
  subst he
  obtain ⟨r, h', hr, hq⟩ := k
  exact ⟨r, h', fun P hP => hP.2.2.1.2.1 _ _ _ _ _ _ _ _ _ _ _ _ hd hf hw hk ha hj (hr P hP), hq⟩
theorem at_ald {k0 n : Nat} {f : Nat → Int32} {i : Int32} (j : Nat) (hd : decode M.2.1 pc = .ok (.iaload, 1)) (ha : sg_at h k0 (.inl (false, n, f))) (hi : i = nI j) (hj : j < n) (hn : n ≤ 2000000) (k : sg_A M (pc + 1) ls (.int (f j) :: st) h Q) : sg_A M pc ls (.int i :: .ref k0 :: st) h Q := by
  subst hi
  obtain ⟨r, h', hr, hq⟩ := k
  have e : (nI j).toNatClampNeg = j := by rw [nI, Int32.toNatClampNeg_ofNat_of_lt (by omega)]
  exact ⟨r, h', fun P hP => hP.2.2.1.2.2.1 _ _ _ _ _ _ _ _ _ _ hd ha (vp_in_nI hj (by omega)) (by rw [e]; exact hr P hP), hq⟩
theorem at_bald {k0 n : Nat} {f : Nat → Int32} {i : Int32} (j : Nat) (hd : decode M.2.1 pc = .ok (.baload, 1)) (ha : sg_at h k0 (.inl (true, n, f))) (hk : k0 < 1000) (hi : i = nI j) (hj : j < n) (hn : n ≤ 2000000) (k : sg_A M (pc + 1) ls (.int (f j) :: st) h Q) : sg_A M pc ls (.int i :: .ref k0 :: st) h Q := by
  subst hi
  obtain ⟨r, h', hr, hq⟩ := k
  have e : (nI j).toNatClampNeg = j := by rw [nI, Int32.toNatClampNeg_ofNat_of_lt (by omega)]
  exact ⟨r, h', fun P hP => hP.2.2.1.2.2.2.1 _ _ _ _ _ _ _ _ _ _ hd hk ha (vp_in_nI hj (by omega)) (by rw [e]; exact hr P hP), hq⟩
theorem at_ast {k0 n : Nat} {f : Nat → Int32} {i x : Int32} {h1 : sg_H} (j : Nat) (hd : decode M.2.1 pc = .ok (.iastore, 1)) (ha : sg_at h k0 (.inl (false, n, f))) (hk : k0 < 1000) (hi : i = nI j) (hj : j < n) (hn : n ≤ 2000000) (he : sg_up h k0 (.inl (false, n, upd f j x)) = h1) (k : sg_A M (pc + 1) ls st h1 Q) : sg_A M pc ls (.int x :: .int i :: .ref k0 :: st) h Q := by
  subst hi
  subst he
  obtain ⟨r, h', hr, hq⟩ := k
  have e : (nI j).toNatClampNeg = j := by rw [nI, Int32.toNatClampNeg_ofNat_of_lt (by omega)]
  exact ⟨r, h', fun P hP => hP.2.2.1.2.2.2.2.1 _ _ _ _ _ _ _ _ _ _ _ hd hk ha (vp_in_nI hj (by omega)) (by rw [e]; exact hr P hP), hq⟩
theorem at_bast {k0 n : Nat} {f : Nat → Int32} {i x : Int32} {h1 : sg_H} (j : Nat) (hd : decode M.2.1 pc = .ok (.bastore, 1)) (ha : sg_at h k0 (.inl (true, n, f))) (hk : k0 < 1000) (hi : i = nI j) (hj : j < n) (hn : n ≤ 2000000) (hx : vp_nar .boolean x = x) (he : sg_up h k0 (.inl (true, n, upd f j x)) = h1) (k : sg_A M (pc + 1) ls st h1 Q) : sg_A M pc ls (.int x :: .int i :: .ref k0 :: st) h Q := by
  subst hi
  subst he
  obtain ⟨r, h', hr, hq⟩ := k
  have e : (nI j).toNatClampNeg = j := by rw [nI, Int32.toNatClampNeg_ofNat_of_lt (by omega)]
  exact ⟨r, h', fun P hP => hP.2.2.1.2.2.2.2.2.1 _ _ _ _ _ _ _ _ _ _ _ hd hk ha (vp_in_nI hj (by omega)) (by rw [e, hx]; exact hr P hP), hq⟩
theorem at_alen {k0 n : Nat} {f : Nat → Int32} (hd : decode M.2.1 pc = .ok (.arraylength, 1)) (ha : sg_at h k0 (.inl (false, n, f))) (k : sg_A M (pc + 1) ls (.int (nI n) :: st) h Q) : sg_A M pc ls (.ref k0 :: st) h Q :=
  let ⟨r, h', hr, hq⟩ := k; ⟨r, h', fun P hP => hP.2.2.1.2.2.2.2.2.2.1 _ _ _ _ _ _ _ _ _ hd ha (hr P hP), hq⟩
theorem at_new {ix ci : Nat} {rc : vw_C} {ty : Nat → FieldType} {fs : List Value} {h1 : sg_H} (hd : decode M.2.1 pc = .ok (.new ix, 3)) (hr : vwCl[ci]? = some rc) (w1 : Cond.classLink M.1.cls ix rc.1 ∈ sg_ws) (w2 : Cond.instantiable rc.1 rc.2.2 ∈ sg_ws) (w3 : Cond.initialized rc.1 ∈ sg_ws) (hty : ∀ k, k < rc.2.2 → parseFieldDescriptor (rc.2.1 k).2.2.1 = some (ty k)) (hfs : ∀ j, j < rc.2.2 → defaultValue (ty j) = vp_V fs j) (hl : fs.length = rc.2.2) (hcv : ∀ v ∈ fs, ∀ ad, sg_cv ad v = v) (hlt : h.1 < 1000) (he : sg_mk h rc.2.2 (.inr (ci, fs)) = h1) (k : sg_A M (pc + 3) ls (.ref h.1 :: st) h1 Q) : sg_A M pc ls st h Q := by
  subst he
  obtain ⟨r, h', hr', hq⟩ := k
  exact ⟨r, h', fun P hP => hP.2.2.1.2.2.2.2.2.2.2.1 _ _ _ _ _ _ _ _ _ _ _ hd hr w1 w2 w3 hty hfs hl hcv hlt (hr' P hP), hq⟩
theorem at_newi {n : Int32} (N : Nat) {h1 : sg_H} (hd : decode M.2.1 pc = .ok (.newarray .int, 2)) (h0 : ¬ n < 0) (hN : n.toNatClampNeg = N) (hb : N ≤ 100000) (hlt : h.1 < 1000) (he : sg_mk h N (.inl (false, N, fun _ => 0)) = h1) (k : sg_A M (pc + 2) ls (.ref h.1 :: st) h1 Q) : sg_A M pc ls (.int n :: st) h Q := by
  subst he
  obtain ⟨r, h', hr', hq⟩ := k
  exact ⟨r, h', fun P hP => hP.2.2.1.2.2.2.2.2.2.2.2.1 _ _ _ _ _ _ _ _ hd h0 hN hb hlt (hr' P hP), hq⟩
theorem at_newz {n : Int32} (N : Nat) {h1 : sg_H} (hd : decode M.2.1 pc = .ok (.newarray .boolean, 2)) (h0 : ¬ n < 0) (hN : n.toNatClampNeg = N) (hb : N ≤ 100000) (hlt : h.1 < 1000) (he : sg_mk h N (.inl (true, N, fun _ => 0)) = h1) (k : sg_A M (pc + 2) ls (.ref h.1 :: st) h1 Q) : sg_A M pc ls (.int n :: st) h Q := by
  subst he
  obtain ⟨r, h', hr', hq⟩ := k
  exact ⟨r, h', fun P hP => hP.2.2.1.2.2.2.2.2.2.2.2.2.1 _ _ _ _ _ _ _ _ hd h0 hN hb hlt (hr' P hP), hq⟩
theorem at_gets {ix k0 : Nat} {nm : String} (hd : decode M.2.1 pc = .ok (.getstatic ix, 3)) (hw : (M.1.cls, ix, nm, k0) ∈ sg_stl) (k : sg_A M (pc + 3) ls (.ref k0 :: st) h Q) : sg_A M pc ls st h Q :=
  let ⟨r, h', hr, hq⟩ := k; ⟨r, h', fun P hP => hP.2.2.1.2.2.2.2.2.2.2.2.2.2 _ _ _ _ _ _ _ _ _ hd hw (hr P hP), hq⟩
theorem at_obj {ix k0 : Nat} (hd : decode M.2.1 pc = .ok (.invokespecial ix, 3)) (hw : Cond.methodLink M.1.cls ix objectInit ∈ sg_ws) (hc : (st.map fun v => v.category).sum ≤ 8) (hr0 : 1 ≤ M.2.2.2.2.frames ∧ 20 ≤ M.2.2.2.2.locals) (k : sg_A M (pc + 3) ls st h Q) : sg_A M pc ls (.ref k0 :: st) h Q :=
  let ⟨r, h', hr, hq⟩ := k; ⟨r, h', fun P hP => hP.2.2.2.1 _ _ _ _ _ _ _ _ hd hw hc hr0 (hr P hP), hq⟩
/-- a call of a method of an object: what comes back is r, h1 -/
theorem at_cv {M' : sg_M} {ix ci k0 : Nat} {fs : List Value} {rc : vw_C} {stk : List Value} (As : List Value) {Q' : Option Value → sg_H → Prop} (hd : decode M.2.1 pc = .ok (.invokevirtual ix, 3)) (hm : sg_mok M' As.length) (hr : sg_rok M M') (hl : sg_lok M.1.cls ix M') (hi : sg_iok M') (hcl : vwCl[ci]? = some rc) (hcn : rc.1 = M'.1.cls) (ha : sg_at h k0 (.inr (ci, fs))) (hk : k0 < 1000) (hs : stk = As.reverse ++ .ref k0 :: st) (hc : (st.map fun v => v.category).sum ≤ 8) (hen : (sg_en (.ref k0 :: As)).length ≤ M'.2.2.1)
    (K : sg_K M' (.ref k0 :: As) h Q') (hcell : ∀ r h1, Q' r h1 → h1.1 = h.1 + M'.2.2.2.2.cells ∧ h1.2.1 = h.2.1 + M'.2.2.2.2.slots) (k : ∀ r h1, Q' r h1 → sg_A M (pc + 3) ls (r.toList ++ st) h1 Q) : sg_A M pc ls stk h Q := by
  subst hs
  obtain ⟨r, h1, hr1, hq1⟩ := K
  obtain ⟨g1, g2⟩ := hcell r h1 hq1
  obtain ⟨r2, h2, hr2, hq2⟩ := k r h1 hq1
  exact ⟨r2, h2, fun P hP => hP.2.2.2.2.1 _ _ _ _ _ _ _ _ _ _ _ _ _ _ _ hd hm hr hl hi hcl hcn hk ha hc hen (hr1 P hP) g1 g2 (hr2 P hP), hq2⟩
theorem at_cs {M' : sg_M} {ix : Nat} {stk : List Value} (As : List Value) {Q' : Option Value → sg_H → Prop} (hd : decode M.2.1 pc = .ok (.invokestatic ix, 3)) (hm : sg_mok M' As.length) (hr : sg_rok M M') (hl : sg_lok M.1.cls ix M') (hi : Cond.static M'.1 ∈ sg_ws) (hs : stk = As.reverse ++ st) (hc : (st.map fun v => v.category).sum ≤ 8) (hen : (sg_en As).length ≤ M'.2.2.1)
    (K : sg_K M' As h Q') (hcell : ∀ r h1, Q' r h1 → h1.1 = h.1 + M'.2.2.2.2.cells ∧ h1.2.1 = h.2.1 + M'.2.2.2.2.slots) (k : ∀ r h1, Q' r h1 → sg_A M (pc + 3) ls (r.toList ++ st) h1 Q) : sg_A M pc ls stk h Q := by
  subst hs
  obtain ⟨r, h1, hr1, hq1⟩ := K
  obtain ⟨g1, g2⟩ := hcell r h1 hq1
  obtain ⟨r2, h2, hr2, hq2⟩ := k r h1 hq1
  exact ⟨r2, h2, fun P hP => hP.2.2.2.2.2.1 _ _ _ _ _ _ _ _ _ _ _ hd hm hr hl hi hc hen (hr1 P hP) g1 g2 (hr2 P hP), hq2⟩
theorem at_ci {M' : sg_M} {ix k0 : Nat} {stk : List Value} (As : List Value) {Q' : Option Value → sg_H → Prop} (hd : decode M.2.1 pc = .ok (.invokespecial ix, 3)) (hm : sg_mok M' As.length) (hr : sg_rok M M') (hl : sg_lok M.1.cls ix M') (hi : Cond.instanceMethod M'.1 ∈ sg_ws) (hn : M'.1.name = "<init>") (hret : M'.2.2.2.1 = none) (hs : stk = As.reverse ++ .ref k0 :: st) (hc : (st.map fun v => v.category).sum ≤ 8) (hen : (sg_en (.ref k0 :: As)).length ≤ M'.2.2.1)
    (K : sg_K M' (.ref k0 :: As) h Q') (hcell : ∀ r h1, Q' r h1 → h1.1 = h.1 + M'.2.2.2.2.cells ∧ h1.2.1 = h.2.1 + M'.2.2.2.2.slots) (k : ∀ r h1, Q' r h1 → sg_A M (pc + 3) ls (r.toList ++ st) h1 Q) : sg_A M pc ls stk h Q := by
  subst hs
  obtain ⟨r, h1, hr1, hq1⟩ := K
  obtain ⟨g1, g2⟩ := hcell r h1 hq1
  obtain ⟨r2, h2, hr2, hq2⟩ := k r h1 hq1
  exact ⟨r2, h2, fun P hP => hP.2.2.2.2.2.2.1 _ _ _ _ _ _ _ _ _ _ _ _ hd hm hr hl hi hn hret hc hen (hr1 P hP) g1 g2 (hr2 P hP), hq2⟩
theorem at_copy {ix k0 k2 n n2 : Nat} {f g : Nat → Int32} {c : Int32} (j : Nat) {h1 : sg_H} (hd : decode M.2.1 pc = .ok (.invokestatic ix, 3)) (hw : Cond.methodLink M.1.cls ix arraycopyName ∈ sg_ws) (ha : sg_at h k0 (.inl (false, n, f))) (ha2 : sg_at h k2 (.inl (false, n2, g))) (hk : k0 < 1000) (hk2 : k2 < 1000) (hcj : c = nI j) (hj : j ≤ n) (hj2 : j ≤ n2) (hn : n ≤ 2000000) (hro : 1 ≤ M.2.2.2.2.frames ∧ 8 + (nativeFrameWords "java/lang/System" "arraycopy" 5 + 11) ≤ M.2.2.2.2.locals) (hc : (st.map fun v => v.category).sum ≤ 8) (he : sg_up h k2 (.inl (false, n2, va_cpy f g 0 0 j)) = h1) (k : sg_A M (pc + 3) ls st h1 Q) : sg_A M pc ls (.int c :: .int 0 :: .ref k2 :: .int 0 :: .ref k0 :: st) h Q := by
  subst hcj
  subst he
  obtain ⟨r, h', hr', hq⟩ := k
  have e : (nI j).toNatClampNeg = j := by rw [nI, Int32.toNatClampNeg_ofNat_of_lt (by omega)]
  have h0 : ¬ nI j < 0 := nI_pos (by omega)
  exact ⟨r, h', fun P hP => hP.2.2.2.2.2.2.2.1 _ _ _ _ _ _ _ _ _ _ _ _ _ _ hd hw hk hk2 ha ha2 h0 (by rw [e]; exact hj) (by rw [e]; exact hj2) hro hc (by rw [e]; exact hr' P hP), hq⟩
theorem at_slen {ix k0 : Nat} (hd : decode M.2.1 pc = .ok (.invokevirtual ix, 3)) (hw : Cond.methodLink M.1.cls ix yJ0_length_8abf5 ∈ sg_ws) (hk : k0 = 1010 ∨ k0 = 1011 ∨ k0 = 1012) (hc : (st.map fun v => v.category).sum ≤ 8) (hro : 4 ≤ M.2.2.2.2.frames ∧ 100 ≤ M.2.2.2.2.locals) (k : sg_A M (pc + 3) ls (.int (nI (sg_tx k0).length) :: st) h Q) : sg_A M pc ls (.ref k0 :: st) h Q :=
  let ⟨r, h', hr, hq⟩ := k; ⟨r, h', fun P hP => hP.2.2.2.2.2.2.2.2.1 _ _ _ _ _ _ _ _ hd hw hk hc hro (hr P hP), hq⟩
theorem at_schr {ix k0 : Nat} (j : Nat) {i : Int32} (hd : decode M.2.1 pc = .ok (.invokevirtual ix, 3)) (hw : Cond.methodLink M.1.cls ix yJ0_charAt_5068e ∈ sg_ws) (hk : k0 = 1010 ∨ k0 = 1011 ∨ k0 = 1012) (hi : i = nI j) (hj : j < (sg_tx k0).length) (hc : (st.map fun v => v.category).sum ≤ 8) (hro : 4 ≤ M.2.2.2.2.frames ∧ 100 ≤ M.2.2.2.2.locals) (k : sg_A M (pc + 3) ls (.int ((sg_tx k0).getD j 0) :: st) h Q) : sg_A M pc ls (.int i :: .ref k0 :: st) h Q := by
  subst hi
  obtain ⟨r, h', hr, hq⟩ := k
  exact ⟨r, h', fun P hP => hP.2.2.2.2.2.2.2.2.2.1 _ _ _ _ _ _ _ _ _ hd hw hk hj hc hro (hr P hP), hq⟩
theorem at_ret {v : Int32} {ty : FieldType} (hd : decode M.2.1 pc = .ok (.ireturn, 1)) (ht : M.2.2.2.1 = some ty) (hv : narrow ty (.int v) = .int v) (hq : Q (some (.int v)) h) : sg_A M pc ls [.int v] h Q := ⟨_, _, fun P hP => hP.2.2.2.2.2.2.2.2.2.2.1 _ _ _ _ _ _ hd ht hv, hq⟩
theorem at_vret (hd : decode M.2.1 pc = .ok (.return_, 1)) (ht : M.2.2.2.1 = none) (hq : Q none h) : sg_A M pc ls [] h Q := ⟨_, _, fun P hP => hP.2.2.2.2.2.2.2.2.2.2.2 _ _ _ _ hd ht, hq⟩
/-- a method that only reads, and answers v -/
def sg_Kr (M : sg_M) (vs : List Value) (h : sg_H) (v : Value) : Prop := sg_K M vs h (fun r h' => r = some v ∧ h' = h)
/-- a method that answers r and leaves h1 -/
def sg_Kw (M : sg_M) (vs : List Value) (h : sg_H) (r : Option Value) (h1 : sg_H) : Prop := sg_K M vs h (fun r' h' => r' = r ∧ h' = h1)
theorem at_rv {M' : sg_M} {ix ci k0 : Nat} {fs : List Value} {rc : vw_C} {stk : List Value} {v : Value} (As : List Value) (hd : decode M.2.1 pc = .ok (.invokevirtual ix, 3)) (hm : sg_mok M' As.length) (hr : sg_rok M M') (hl : sg_lok M.1.cls ix M') (hi : sg_iok M') (hcl : vwCl[ci]? = some rc) (hcn : rc.1 = M'.1.cls) (ha : sg_at h k0 (.inr (ci, fs))) (hk : k0 < 1000) (hs : stk = As.reverse ++ .ref k0 :: st) (hc : (st.map fun v => v.category).sum ≤ 8) (hen : (sg_en (.ref k0 :: As)).length ≤ M'.2.2.1) (h00 : M'.2.2.2.2.cells = 0 ∧ M'.2.2.2.2.slots = 0)
    (K : sg_Kr M' (.ref k0 :: As) h v) (k : sg_A M (pc + 3) ls (v :: st) h Q) : sg_A M pc ls stk h Q :=
  at_cv As hd hm hr hl hi hcl hcn ha hk hs hc hen K (fun r h1 q => by rw [q.2, h00.1, h00.2]; exact ⟨rfl, rfl⟩) (fun r h1 q => by rw [q.1, q.2]; exact k)
theorem at_rs {M' : sg_M} {ix : Nat} {stk : List Value} {v : Value} (As : List Value) (hd : decode M.2.1 pc = .ok (.invokestatic ix, 3)) (hm : sg_mok M' As.length) (hr : sg_rok M M') (hl : sg_lok M.1.cls ix M') (hi : Cond.static M'.1 ∈ sg_ws) (hs : stk = As.reverse ++ st) (hc : (st.map fun v => v.category).sum ≤ 8) (hen : (sg_en As).length ≤ M'.2.2.1) (h00 : M'.2.2.2.2.cells = 0 ∧ M'.2.2.2.2.slots = 0)
    (K : sg_Kr M' As h v) (k : sg_A M (pc + 3) ls (v :: st) h Q) : sg_A M pc ls stk h Q :=
  at_cs As hd hm hr hl hi hs hc hen K (fun r h1 q => by rw [q.2, h00.1, h00.2]; exact ⟨rfl, rfl⟩) (fun r h1 q => by rw [q.1, q.2]; exact k)
theorem at_wv {M' : sg_M} {ix ci k0 : Nat} {fs : List Value} {rc : vw_C} {stk : List Value} {r : Option Value} {h1 : sg_H} (As : List Value) (hd : decode M.2.1 pc = .ok (.invokevirtual ix, 3)) (hm : sg_mok M' As.length) (hr : sg_rok M M') (hl : sg_lok M.1.cls ix M') (hi : sg_iok M') (hcl : vwCl[ci]? = some rc) (hcn : rc.1 = M'.1.cls) (ha : sg_at h k0 (.inr (ci, fs))) (hk : k0 < 1000) (hs : stk = As.reverse ++ .ref k0 :: st) (hc : (st.map fun v => v.category).sum ≤ 8) (hen : (sg_en (.ref k0 :: As)).length ≤ M'.2.2.1) (h00 : M'.2.2.2.2.cells = 0 ∧ M'.2.2.2.2.slots = 0)
    (K : sg_Kw M' (.ref k0 :: As) h r h1) (hz : h1.1 = h.1 ∧ h1.2.1 = h.2.1) (k : sg_A M (pc + 3) ls (r.toList ++ st) h1 Q) : sg_A M pc ls stk h Q :=
  at_cv As hd hm hr hl hi hcl hcn ha hk hs hc hen K (fun r h1 q => by rw [q.2, h00.1, h00.2]; exact hz) (fun r h1 q => by rw [q.1, q.2]; exact k)
theorem at_ws {M' : sg_M} {ix : Nat} {stk : List Value} {r : Option Value} {h1 : sg_H} (As : List Value) (hd : decode M.2.1 pc = .ok (.invokestatic ix, 3)) (hm : sg_mok M' As.length) (hr : sg_rok M M') (hl : sg_lok M.1.cls ix M') (hi : Cond.static M'.1 ∈ sg_ws) (hs : stk = As.reverse ++ st) (hc : (st.map fun v => v.category).sum ≤ 8) (hen : (sg_en As).length ≤ M'.2.2.1) (h00 : M'.2.2.2.2.cells = 0 ∧ M'.2.2.2.2.slots = 0)
    (K : sg_Kw M' As h r h1) (hz : h1.1 = h.1 ∧ h1.2.1 = h.2.1) (k : sg_A M (pc + 3) ls (r.toList ++ st) h1 Q) : sg_A M pc ls stk h Q :=
  at_cs As hd hm hr hl hi hs hc hen K (fun r h1 q => by rw [q.2, h00.1, h00.2]; exact hz) (fun r h1 q => by rw [q.1, q.2]; exact k)
end SGW
