/-! THE DEEP SEMANTICS: a small machine over places; sg_R is the least relation closed under its rules (sg_C); the rules are shown sound for the kit's W in the next part. -/
abbrev sg_E : Type := (Bool × Nat × (Nat → Int32)) ⊕ (Nat × List Value)
abbrev sg_H : Type := Nat × Nat × (Nat → sg_E)
abbrev sg_M : Type := MethodName × ByteArray × Nat × Option FieldType × Room
abbrev sg_L : Type := List (Option Value)
abbrev sg_O : Type := Option Value × sg_H
abbrev sg_P : Type := sg_M → Nat → sg_L → List Value → sg_H → sg_O → Prop
def sg_up (h : sg_H) (k : Nat) (e : sg_E) : sg_H := (h.1, h.2.1, fun j => if j = k then e else h.2.2 j)
def sg_mk (h : sg_H) (z : Nat) (e : sg_E) : sg_H := (h.1 + 1, h.2.1 + z, fun j => if j = h.1 then e else h.2.2 j)
/-- what stands at a place: one of ours (below h.1), or a thing that nobody writes (from 1000 on) -/
def sg_at (h : sg_H) (k : Nat) (e : sg_E) : Prop := (k < h.1 ∨ 1000 ≤ k) ∧ h.2.2 k = e
def sg_cv (ad : Nat → Nat) : Value → Value
  | .ref k => .ref (ad k)
  | v => v
def sg_lx : Instr → Option (Nat × Nat × Nat)
  | .iload_n k => some (k.val, 0, 1)
  | .iload i => some (i, 0, 2)
  | .lload_n k => some (k.val, 1, 1)
  | .lload i => some (i, 1, 2)
  | .aload_n k => some (k.val, 2, 1)
  | .aload i => some (i, 2, 2)
  | _ => none
def sg_kd (n : Nat) (v : Value) : Bool := match v with
  | .int _ => n == 0
  | .long _ => n == 1
  | .ref _ => n == 2
  | _ => false
def sg_sx : Instr → Option (Nat × Nat × Nat)
  | .istore_n k => some (k.val, 0, 1)
  | .istore i => some (i, 0, 2)
  | .astore_n k => some (k.val, 2, 1)
  | .astore i => some (i, 2, 2)
  | _ => none
/-- no long stands just ahead of place i -/
def sg_fr (ls : sg_L) (i : Nat) : Bool := match i with
  | 0 => true
  | j + 1 => match ls[j]? with
    | some (some (.long _)) => false
    | some (some (.double _)) => false
    | _ => true
def sg_kx : Instr → Option (Int32 × Nat)
  | .iconst n => some (Int32.ofInt n, 1)
  | .bipush n => some ((Int8.ofInt n).toInt32, 2)
  | .sipush n => some ((Int16.ofInt n).toInt32, 3)
  | _ => none
def sg_bx : Instr → Option (Int32 → Int32 → Int32)
  | .iadd => some (fun x y => x + y)
  | .isub => some (fun x y => x - y)
  | .imul => some (fun x y => x * y)
  | .iand => some (fun x y => x &&& y)
  | .ior => some (fun x y => x ||| y)
  | .ixor => some (fun x y => x ^^^ y)
  | .ishl => some (fun x y => x <<< (y &&& 31))
  | .ishr => some (fun x y => x >>> (y &&& 31))
  | .iushr => some (fun x y => (x.toUInt32 >>> (y.toUInt32 &&& Int32.toUInt32 31)).toInt32)
  | _ => none
def sg_cd (c : Jvm.ClassFile.Cond) (x y : Int32) : Bool := match c with
  | .eq => decide (x = y)
  | .ne => decide (¬ x = y)
  | .lt => decide (x < y)
  | .ge => decide (y ≤ x)
  | .gt => decide (y < x)
  | .le => decide (x ≤ y)
/-- entry locals -/
def sg_en (vs : List Value) : sg_L := vs.flatMap fun v => if v.category = 2 then [some v, none] else [some v]
def sg_ent (M : sg_M) (vs : List Value) : sg_L := sg_en vs ++ List.replicate (M.2.2.1 - (sg_en vs).length) none
/-- the words of every method: all payable ones of the tables -/
def sg_ws : List Jvm.Cond := lw_tbl.filter goodWord
def sg_w (M : sg_M) : List Jvm.Cond := Cond.code M.1 M.2.1 M.2.2.1 M.2.2.2.1 :: sg_ws
/-- words that are no payable ones: private members of a nest mate -/
def sg_nws : List Jvm.Cond := lw_tbl.filter (fun w => match w with
  | .fieldLinkNest _ _ _ _ _ _ => true
  | .methodLinkNest _ _ _ _ => true
  | _ => false)
/-- field j of class ci is what pool row ix of class own names -/
def sg_fok (own : String) (ix ci j : Nat) : Prop := ∃ r : vw_C, vwCl[ci]? = some r ∧ j < r.2.2 ∧ (Cond.fieldLink own ix (r.2.1 j).1 (r.2.1 j).2.1 (r.2.1 j).2.2.1 ∈ sg_ws ∨ ∃ host, Cond.fieldLinkNest own ix (r.2.1 j).1 (r.2.1 j).2.1 (r.2.1 j).2.2.1 host ∈ sg_nws)
/-- field j of class ci may be given v by a method M -/
def sg_wok (M : sg_M) (ci j : Nat) (v : Value) : Prop := ∃ (r : vw_C) (ty : FieldType), vwCl[ci]? = some r ∧ ((r.2.1 j).2.2.2 = false ∨ ((r.2.1 j).2.2.2 = true ∧ M.1.name = "<init>" ∧ (r.2.1 j).1 = M.1.cls)) ∧ parseFieldDescriptor (r.2.1 j).2.2.1 = some ty ∧ ∀ ad, narrow ty (sg_cv ad v) = sg_cv ad v ∧ fits ty (sg_cv ad v) = true
/-- M' has n parameters and may be called: what holds of all its calls -/
def sg_mok (M' : sg_M) (n : Nat) : Prop := Cond.code M'.1 M'.2.1 M'.2.2.1 M'.2.2.2.1 ∈ sg_ws ∧ Cond.initialized M'.1.cls ∈ sg_ws ∧ (M'.1.cls ≠ "java/lang/invoke/MethodHandle" ∧ M'.1.cls ≠ "java/lang/invoke/VarHandle" ∧ (parseMethodDescriptor M'.1.desc).map (fun d => d.parameters.length) = some n) ∧ plainName M'.1.cls = true
def sg_iok (M' : sg_M) : Prop := Cond.instanceMethod M'.1 ∈ sg_ws ∧ Cond.selects M'.1.cls M'.1 M'.1 ∈ sg_ws
/-- M has room for M' -/
def sg_rok (M M' : sg_M) : Prop := M'.2.2.2.2.frames + 1 ≤ M.2.2.2.2.frames ∧ 8 + (M'.2.2.1 + 11) + M'.2.2.2.2.locals ≤ M.2.2.2.2.locals
/-- the pool row itself: an ordinary link, or one to a nest mate's private method -/
def sg_lok (own : String) (ix : Nat) (M' : sg_M) : Prop := Cond.methodLink own ix M'.1 ∈ sg_ws ∨ ∃ host, Cond.methodLinkNest own ix M'.1 host ∈ sg_nws
def sg_tx : Nat → List Int32
  | 1010 => [118, 111, 108, 117, 109, 101]
  | 1011 => [100, 105, 114]
  | 1012 => [102, 105, 108, 101]
  | _ => []
/-- string constants: class, pool row, place -/
def sg_scl : List (String × Nat × Nat) := [(RX4, 37, 1010), (RX4, 60, 1011), (RX4, 65, 1012)]
/-- static rows of ints: class, pool row, name of the class that has it, name, place -/
def sg_stl : List (String × Nat × String × Nat) := [(RX4, 43, "LEAST_RULES", 1001), (RX4, 46, "MOST_RULES", 1002), (RX7, 57, "RULES_AT_FIRST", 1003)]
section SGR
variable (P : sg_P)
def sg_q01 : Prop := ∀ (M : sg_M) (pc : Nat) (ls : sg_L) (st : List Value) (h : sg_H) (out : sg_O) (ins : Instr) (len i kd : Nat) (v : Value), decode M.2.1 pc = .ok (ins, len) → sg_lx ins = some (i, kd, len) → ls[i]? = some (some v) → sg_kd kd v = true → P M (pc + len) ls (v :: st) h out → P M pc ls st h out
def sg_q02 : Prop := ∀ (M : sg_M) (pc : Nat) (ls : sg_L) (st : List Value) (h : sg_H) (out : sg_O) (ins : Instr) (len i kd : Nat) (v : Value), decode M.2.1 pc = .ok (ins, len) → sg_sx ins = some (i, kd, len) → sg_kd kd v = true → i < ls.length → sg_fr ls i = true → P M (pc + len) (ls.set i (some v)) st h out → P M pc ls (v :: st) h out
def sg_q03 : Prop := ∀ (M : sg_M) (pc : Nat) (ls : sg_L) (st : List Value) (h : sg_H) (out : sg_O) (ins : Instr) (len : Nat) (v : Int32), decode M.2.1 pc = .ok (ins, len) → sg_kx ins = some (v, len) → P M (pc + len) ls (.int v :: st) h out → P M pc ls st h out
def sg_q04 : Prop := ∀ (M : sg_M) (pc : Nat) (ls : sg_L) (st : List Value) (h : sg_H) (out : sg_O) (n : Fin 2), decode M.2.1 pc = .ok (.lconst n, 1) → P M (pc + 1) ls (.long (Int64.ofNat n.val) :: st) h out → P M pc ls st h out
def sg_q05 : Prop := ∀ (M : sg_M) (pc : Nat) (ls : sg_L) (st : List Value) (h : sg_H) (out : sg_O) (ix : Nat) (v : Int32), decode M.2.1 pc = .ok (.ldc ix, 2) → Cond.constant M.1.cls ix v ∈ sg_ws → P M (pc + 2) ls (.int v :: st) h out → P M pc ls st h out
def sg_q06 : Prop := ∀ (M : sg_M) (pc : Nat) (ls : sg_L) (st : List Value) (h : sg_H) (out : sg_O) (ix : Nat) (v : Int32), decode M.2.1 pc = .ok (.ldc_w ix, 3) → Cond.constant M.1.cls ix v ∈ sg_ws → P M (pc + 3) ls (.int v :: st) h out → P M pc ls st h out
def sg_q07 : Prop := ∀ (M : sg_M) (pc : Nat) (ls : sg_L) (st : List Value) (h : sg_H) (out : sg_O) (ix : Nat) (v : Int64), decode M.2.1 pc = .ok (.ldc2_w ix, 3) → Cond.constantLong M.1.cls ix v ∈ sg_ws → P M (pc + 3) ls (.long v :: st) h out → P M pc ls st h out
def sg_q08 : Prop := ∀ (M : sg_M) (pc : Nat) (ls : sg_L) (st : List Value) (h : sg_H) (out : sg_O) (ix k : Nat), decode M.2.1 pc = .ok (.ldc ix, 2) → (M.1.cls, ix, k) ∈ sg_scl → P M (pc + 2) ls (.ref k :: st) h out → P M pc ls st h out
def sg_q09 : Prop := ∀ (M : sg_M) (pc : Nat) (ls : sg_L) (st : List Value) (h : sg_H) (out : sg_O) (ins : Instr) (f : Int32 → Int32 → Int32) (x y : Int32), decode M.2.1 pc = .ok (ins, 1) → sg_bx ins = some f → P M (pc + 1) ls (.int (f x y) :: st) h out → P M pc ls (.int y :: .int x :: st) h out
def sg_q10 : Prop := ∀ (M : sg_M) (pc : Nat) (ls : sg_L) (st : List Value) (h : sg_H) (out : sg_O) (x y : Int32), decode M.2.1 pc = .ok (.idiv, 1) → ¬ y = 0 → P M (pc + 1) ls (.int (x / y) :: st) h out → P M pc ls (.int y :: .int x :: st) h out
def sg_q11 : Prop := ∀ (M : sg_M) (pc : Nat) (ls : sg_L) (st : List Value) (h : sg_H) (out : sg_O) (x y : Int32), decode M.2.1 pc = .ok (.irem, 1) → ¬ y = 0 → P M (pc + 1) ls (.int (x - x / y * y) :: st) h out → P M pc ls (.int y :: .int x :: st) h out
def sg_q12 : Prop := ∀ (M : sg_M) (pc : Nat) (ls : sg_L) (st : List Value) (h : sg_H) (out : sg_O) (x : Int32), decode M.2.1 pc = .ok (.i2l, 1) → P M (pc + 1) ls (.long x.toInt64 :: st) h out → P M pc ls (.int x :: st) h out
def sg_q13 : Prop := ∀ (M : sg_M) (pc : Nat) (ls : sg_L) (st : List Value) (h : sg_H) (out : sg_O) (x y : Int64), decode M.2.1 pc = .ok (.lcmp, 1) → P M (pc + 1) ls (.int (lg_cmp x y) :: st) h out → P M pc ls (.long y :: .long x :: st) h out
def sg_q14 : Prop := ∀ (M : sg_M) (pc : Nat) (ls : sg_L) (st : List Value) (h : sg_H) (out : sg_O) (i : Nat) (n : Int) (x : Int32), decode M.2.1 pc = .ok (.iinc i n, 3) → ls[i]? = some (some (.int x)) → sg_fr ls i = true → P M (pc + 3) (ls.set i (some (.int (x + Int32.ofInt n)))) st h out → P M pc ls st h out
def sg_q15 : Prop := ∀ (M : sg_M) (pc : Nat) (ls : sg_L) (st : List Value) (h : sg_H) (out : sg_O) (v : Value), decode M.2.1 pc = .ok (.dup, 1) → v.category = 1 → P M (pc + 1) ls (v :: v :: st) h out → P M pc ls (v :: st) h out
def sg_q16 : Prop := ∀ (M : sg_M) (pc : Nat) (ls : sg_L) (st : List Value) (h : sg_H) (out : sg_O) (v w : Value), decode M.2.1 pc = .ok (.dup2, 1) → v.category = 1 → w.category = 1 → P M (pc + 1) ls (v :: w :: v :: w :: st) h out → P M pc ls (v :: w :: st) h out
def sg_q17 : Prop := ∀ (M : sg_M) (pc : Nat) (ls : sg_L) (st : List Value) (h : sg_H) (out : sg_O) (off : Int) (tgt : Nat), decode M.2.1 pc = .ok (.goto off, 3) → (pc : Int) + off = (tgt : Int) → P M tgt ls st h out → P M pc ls st h out
def sg_q18 : Prop := ∀ (M : sg_M) (pc : Nat) (ls : sg_L) (st : List Value) (h : sg_H) (out : sg_O) (cd : Jvm.ClassFile.Cond) (off : Int) (tgt : Nat) (x y : Int32), decode M.2.1 pc = .ok (.if_icmp cd off, 3) → (pc : Int) + off = (tgt : Int) → sg_cd cd x y = true → P M tgt ls st h out → P M pc ls (.int y :: .int x :: st) h out
def sg_q19 : Prop := ∀ (M : sg_M) (pc : Nat) (ls : sg_L) (st : List Value) (h : sg_H) (out : sg_O) (cd : Jvm.ClassFile.Cond) (off : Int) (tgt : Nat) (x y : Int32), decode M.2.1 pc = .ok (.if_icmp cd off, 3) → (pc : Int) + off = (tgt : Int) → sg_cd cd x y = false → P M (pc + 3) ls st h out → P M pc ls (.int y :: .int x :: st) h out
def sg_q20 : Prop := ∀ (M : sg_M) (pc : Nat) (ls : sg_L) (st : List Value) (h : sg_H) (out : sg_O) (cd : Jvm.ClassFile.Cond) (off : Int) (tgt : Nat) (x : Int32), decode M.2.1 pc = .ok (.ifCond cd off, 3) → (pc : Int) + off = (tgt : Int) → sg_cd cd x 0 = true → P M tgt ls st h out → P M pc ls (.int x :: st) h out
def sg_q21 : Prop := ∀ (M : sg_M) (pc : Nat) (ls : sg_L) (st : List Value) (h : sg_H) (out : sg_O) (cd : Jvm.ClassFile.Cond) (off : Int) (tgt : Nat) (x : Int32), decode M.2.1 pc = .ok (.ifCond cd off, 3) → (pc : Int) + off = (tgt : Int) → sg_cd cd x 0 = false → P M (pc + 3) ls st h out → P M pc ls (.int x :: st) h out
def sg_q22 : Prop := ∀ (M : sg_M) (pc : Nat) (ls : sg_L) (st : List Value) (h : sg_H) (out : sg_O) (off : Int) (k : Nat), decode M.2.1 pc = .ok (.ifnull off, 3) → P M (pc + 3) ls st h out → P M pc ls (.ref k :: st) h out
def sg_q23 : Prop := ∀ (M : sg_M) (pc : Nat) (ls : sg_L) (st : List Value) (h : sg_H) (out : sg_O) (dflt lo hi : Int) (offs : Array Int) (len : Nat) (x : Int32) (off : Int) (tgt : Nat), decode M.2.1 pc = .ok (.tableswitch dflt lo hi offs, len) → ¬ x.toInt < lo → ¬ hi < x.toInt → offs[(x.toInt - lo).toNat]? = some off → (pc : Int) + off = (tgt : Int) → P M tgt ls st h out → P M pc ls (.int x :: st) h out
def sg_q24 : Prop := ∀ (M : sg_M) (pc : Nat) (ls : sg_L) (st : List Value) (h : sg_H) (out : sg_O) (dflt lo hi : Int) (offs : Array Int) (len : Nat) (x : Int32) (tgt : Nat), decode M.2.1 pc = .ok (.tableswitch dflt lo hi offs, len) → (x.toInt < lo ∨ hi < x.toInt) → (pc : Int) + dflt = (tgt : Int) → P M tgt ls st h out → P M pc ls (.int x :: st) h out
def sg_q25 : Prop := ∀ (M : sg_M) (pc : Nat) (ls : sg_L) (st : List Value) (h : sg_H) (out : sg_O) (dflt : Int) (ps : Array (Int × Int)) (len : Nat) (x : Int32) (off : Int) (tgt : Nat), decode M.2.1 pc = .ok (.lookupswitch dflt ps, len) → (ps.toList.zip (ps.toList.drop 1)).all (fun (a, next) => a.1 < next.1) = true → Op.lookupswitch.offset ps.toList dflt x.toInt = off → (pc : Int) + off = (tgt : Int) → P M tgt ls st h out → P M pc ls (.int x :: st) h out
def sg_q26 : Prop := ∀ (M : sg_M) (pc : Nat) (ls : sg_L) (st : List Value) (h : sg_H) (out : sg_O) (ix ci j k : Nat) (fs : List Value) (v : Value), decode M.2.1 pc = .ok (.getfield ix, 3) → sg_fok M.1.cls ix ci j → k < 1000 → sg_at h k (.inr (ci, fs)) → fs[j]? = some v → P M (pc + 3) ls (v :: st) h out → P M pc ls (.ref k :: st) h out
def sg_q27 : Prop := ∀ (M : sg_M) (pc : Nat) (ls : sg_L) (st : List Value) (h : sg_H) (out : sg_O) (ix ci j k : Nat) (fs : List Value) (v : Value), decode M.2.1 pc = .ok (.putfield ix, 3) → sg_fok M.1.cls ix ci j → sg_wok M ci j v → k < 1000 → sg_at h k (.inr (ci, fs)) → j < fs.length → P M (pc + 3) ls st (sg_up h k (.inr (ci, fs.set j v))) out → P M pc ls (v :: .ref k :: st) h out
def sg_q28 : Prop := ∀ (M : sg_M) (pc : Nat) (ls : sg_L) (st : List Value) (h : sg_H) (out : sg_O) (k n : Nat) (f : Nat → Int32) (i : Int32), decode M.2.1 pc = .ok (.iaload, 1) → sg_at h k (.inl (false, n, f)) → vp_in i n → P M (pc + 1) ls (.int (f i.toNatClampNeg) :: st) h out → P M pc ls (.int i :: .ref k :: st) h out
def sg_q29 : Prop := ∀ (M : sg_M) (pc : Nat) (ls : sg_L) (st : List Value) (h : sg_H) (out : sg_O) (k n : Nat) (f : Nat → Int32) (i : Int32), decode M.2.1 pc = .ok (.baload, 1) → k < 1000 → sg_at h k (.inl (true, n, f)) → vp_in i n → P M (pc + 1) ls (.int (f i.toNatClampNeg) :: st) h out → P M pc ls (.int i :: .ref k :: st) h out
def sg_q30 : Prop := ∀ (M : sg_M) (pc : Nat) (ls : sg_L) (st : List Value) (h : sg_H) (out : sg_O) (k n : Nat) (f : Nat → Int32) (i x : Int32), decode M.2.1 pc = .ok (.iastore, 1) → k < 1000 → sg_at h k (.inl (false, n, f)) → vp_in i n → P M (pc + 1) ls st (sg_up h k (.inl (false, n, upd f i.toNatClampNeg x))) out → P M pc ls (.int x :: .int i :: .ref k :: st) h out
def sg_q31 : Prop := ∀ (M : sg_M) (pc : Nat) (ls : sg_L) (st : List Value) (h : sg_H) (out : sg_O) (k n : Nat) (f : Nat → Int32) (i x : Int32), decode M.2.1 pc = .ok (.bastore, 1) → k < 1000 → sg_at h k (.inl (true, n, f)) → vp_in i n → P M (pc + 1) ls st (sg_up h k (.inl (true, n, upd f i.toNatClampNeg (vp_nar .boolean x)))) out → P M pc ls (.int x :: .int i :: .ref k :: st) h out
def sg_q32 : Prop := ∀ (M : sg_M) (pc : Nat) (ls : sg_L) (st : List Value) (h : sg_H) (out : sg_O) (k n : Nat) (f : Nat → Int32), decode M.2.1 pc = .ok (.arraylength, 1) → sg_at h k (.inl (false, n, f)) → P M (pc + 1) ls (.int (Int32.ofNat n) :: st) h out → P M pc ls (.ref k :: st) h out
def sg_q33 : Prop := ∀ (M : sg_M) (pc : Nat) (ls : sg_L) (st : List Value) (h : sg_H) (out : sg_O) (ix ci : Nat) (r : vw_C) (ty : Nat → FieldType) (fs : List Value), decode M.2.1 pc = .ok (.new ix, 3) → vwCl[ci]? = some r → Cond.classLink M.1.cls ix r.1 ∈ sg_ws → Cond.instantiable r.1 r.2.2 ∈ sg_ws → Cond.initialized r.1 ∈ sg_ws → (∀ k, k < r.2.2 → parseFieldDescriptor (r.2.1 k).2.2.1 = some (ty k)) → (∀ j, j < r.2.2 → defaultValue (ty j) = vp_V fs j) → fs.length = r.2.2 → (∀ v ∈ fs, ∀ ad, sg_cv ad v = v) → h.1 < 1000 → P M (pc + 3) ls (.ref h.1 :: st) (sg_mk h r.2.2 (.inr (ci, fs))) out → P M pc ls st h out
def sg_q34 : Prop := ∀ (M : sg_M) (pc : Nat) (ls : sg_L) (st : List Value) (h : sg_H) (out : sg_O) (n : Int32) (N : Nat), decode M.2.1 pc = .ok (.newarray .int, 2) → ¬ n < 0 → n.toNatClampNeg = N → N ≤ 100000 → h.1 < 1000 → P M (pc + 2) ls (.ref h.1 :: st) (sg_mk h N (.inl (false, N, fun _ => 0))) out → P M pc ls (.int n :: st) h out
def sg_q35 : Prop := ∀ (M : sg_M) (pc : Nat) (ls : sg_L) (st : List Value) (h : sg_H) (out : sg_O) (n : Int32) (N : Nat), decode M.2.1 pc = .ok (.newarray .boolean, 2) → ¬ n < 0 → n.toNatClampNeg = N → N ≤ 100000 → h.1 < 1000 → P M (pc + 2) ls (.ref h.1 :: st) (sg_mk h N (.inl (true, N, fun _ => 0))) out → P M pc ls (.int n :: st) h out
def sg_q36 : Prop := ∀ (M : sg_M) (pc : Nat) (ls : sg_L) (st : List Value) (h : sg_H) (out : sg_O) (ix k : Nat) (nm : String), decode M.2.1 pc = .ok (.getstatic ix, 3) → (M.1.cls, ix, nm, k) ∈ sg_stl → P M (pc + 3) ls (.ref k :: st) h out → P M pc ls st h out
def sg_q37 : Prop := ∀ (M : sg_M) (pc : Nat) (ls : sg_L) (st : List Value) (h : sg_H) (out : sg_O) (ix k : Nat), decode M.2.1 pc = .ok (.invokespecial ix, 3) → Cond.methodLink M.1.cls ix objectInit ∈ sg_ws → (st.map fun v => v.category).sum ≤ 8 → (1 ≤ M.2.2.2.2.frames ∧ 20 ≤ M.2.2.2.2.locals) → P M (pc + 3) ls st h out → P M pc ls (.ref k :: st) h out
def sg_q38 : Prop := ∀ (M M' : sg_M) (pc : Nat) (ls : sg_L) (st : List Value) (h h1 : sg_H) (out : sg_O) (ix ci k : Nat) (fs : List Value) (rc : vw_C) (As : List Value) (r : Option Value), decode M.2.1 pc = .ok (.invokevirtual ix, 3) → sg_mok M' As.length → sg_rok M M' → sg_lok M.1.cls ix M' → sg_iok M' → vwCl[ci]? = some rc → rc.1 = M'.1.cls → k < 1000 → sg_at h k (.inr (ci, fs)) → (st.map fun v => v.category).sum ≤ 8 → (sg_en (.ref k :: As)).length ≤ M'.2.2.1 → P M' 0 (sg_ent M' (.ref k :: As)) [] h (r, h1) → h1.1 = h.1 + M'.2.2.2.2.cells → h1.2.1 = h.2.1 + M'.2.2.2.2.slots → P M (pc + 3) ls (r.toList ++ st) h1 out → P M pc ls (As.reverse ++ .ref k :: st) h out
def sg_q39 : Prop := ∀ (M M' : sg_M) (pc : Nat) (ls : sg_L) (st : List Value) (h h1 : sg_H) (out : sg_O) (ix : Nat) (As : List Value) (r : Option Value), decode M.2.1 pc = .ok (.invokestatic ix, 3) → sg_mok M' As.length → sg_rok M M' → sg_lok M.1.cls ix M' → Cond.static M'.1 ∈ sg_ws → (st.map fun v => v.category).sum ≤ 8 → (sg_en As).length ≤ M'.2.2.1 → P M' 0 (sg_ent M' As) [] h (r, h1) → h1.1 = h.1 + M'.2.2.2.2.cells → h1.2.1 = h.2.1 + M'.2.2.2.2.slots → P M (pc + 3) ls (r.toList ++ st) h1 out → P M pc ls (As.reverse ++ st) h out
def sg_q40 : Prop := ∀ (M M' : sg_M) (pc : Nat) (ls : sg_L) (st : List Value) (h h1 : sg_H) (out : sg_O) (ix k : Nat) (As : List Value) (r : Option Value), decode M.2.1 pc = .ok (.invokespecial ix, 3) → sg_mok M' As.length → sg_rok M M' → sg_lok M.1.cls ix M' → Cond.instanceMethod M'.1 ∈ sg_ws → M'.1.name = "<init>" → M'.2.2.2.1 = none → (st.map fun v => v.category).sum ≤ 8 → (sg_en (.ref k :: As)).length ≤ M'.2.2.1 → P M' 0 (sg_ent M' (.ref k :: As)) [] h (r, h1) → h1.1 = h.1 + M'.2.2.2.2.cells → h1.2.1 = h.2.1 + M'.2.2.2.2.slots → P M (pc + 3) ls (r.toList ++ st) h1 out → P M pc ls (As.reverse ++ .ref k :: st) h out
def sg_q41 : Prop := ∀ (M : sg_M) (pc : Nat) (ls : sg_L) (st : List Value) (h : sg_H) (out : sg_O) (ix k k2 n n2 : Nat) (f g : Nat → Int32) (c : Int32), decode M.2.1 pc = .ok (.invokestatic ix, 3) → Cond.methodLink M.1.cls ix arraycopyName ∈ sg_ws → k < 1000 → k2 < 1000 → sg_at h k (.inl (false, n, f)) → sg_at h k2 (.inl (false, n2, g)) → ¬ c < 0 → c.toNatClampNeg ≤ n → c.toNatClampNeg ≤ n2 → (1 ≤ M.2.2.2.2.frames ∧ 8 + (nativeFrameWords "java/lang/System" "arraycopy" 5 + 11) ≤ M.2.2.2.2.locals) → (st.map fun v => v.category).sum ≤ 8 → P M (pc + 3) ls st (sg_up h k2 (.inl (false, n2, va_cpy f g 0 0 c.toNatClampNeg))) out → P M pc ls (.int c :: .int 0 :: .ref k2 :: .int 0 :: .ref k :: st) h out
def sg_q42 : Prop := ∀ (M : sg_M) (pc : Nat) (ls : sg_L) (st : List Value) (h : sg_H) (out : sg_O) (ix k : Nat), decode M.2.1 pc = .ok (.invokevirtual ix, 3) → Cond.methodLink M.1.cls ix yJ0_length_8abf5 ∈ sg_ws → (k = 1010 ∨ k = 1011 ∨ k = 1012) → (st.map fun v => v.category).sum ≤ 8 → (4 ≤ M.2.2.2.2.frames ∧ 100 ≤ M.2.2.2.2.locals) → P M (pc + 3) ls (.int (nI (sg_tx k).length) :: st) h out → P M pc ls (.ref k :: st) h out
def sg_q43 : Prop := ∀ (M : sg_M) (pc : Nat) (ls : sg_L) (st : List Value) (h : sg_H) (out : sg_O) (ix k j : Nat), decode M.2.1 pc = .ok (.invokevirtual ix, 3) → Cond.methodLink M.1.cls ix yJ0_charAt_5068e ∈ sg_ws → (k = 1010 ∨ k = 1011 ∨ k = 1012) → j < (sg_tx k).length → (st.map fun v => v.category).sum ≤ 8 → (4 ≤ M.2.2.2.2.frames ∧ 100 ≤ M.2.2.2.2.locals) → P M (pc + 3) ls (.int ((sg_tx k).getD j 0) :: st) h out → P M pc ls (.int (nI j) :: .ref k :: st) h out
def sg_q44 : Prop := ∀ (M : sg_M) (pc : Nat) (ls : sg_L) (h : sg_H) (v : Int32) (ty : FieldType), decode M.2.1 pc = .ok (.ireturn, 1) → M.2.2.2.1 = some ty → narrow ty (.int v) = .int v → P M pc ls [.int v] h (some (.int v), h)
def sg_q45 : Prop := ∀ (M : sg_M) (pc : Nat) (ls : sg_L) (h : sg_H), decode M.2.1 pc = .ok (.return_, 1) → M.2.2.2.1 = none → P M pc ls [] h (none, h)
def sg_cA : Prop := sg_q01 P ∧ sg_q02 P ∧ sg_q03 P ∧ sg_q04 P ∧ sg_q05 P ∧ sg_q06 P ∧ sg_q07 P ∧ sg_q08 P ∧ sg_q09 P ∧ sg_q10 P ∧ sg_q11 P ∧ sg_q12 P ∧ sg_q13 P ∧ sg_q14 P ∧ sg_q15 P ∧ sg_q16 P
def sg_cB : Prop := sg_q17 P ∧ sg_q18 P ∧ sg_q19 P ∧ sg_q20 P ∧ sg_q21 P ∧ sg_q22 P ∧ sg_q23 P ∧ sg_q24 P ∧ sg_q25 P
def sg_cC : Prop := sg_q26 P ∧ sg_q27 P ∧ sg_q28 P ∧ sg_q29 P ∧ sg_q30 P ∧ sg_q31 P ∧ sg_q32 P ∧ sg_q33 P ∧ sg_q34 P ∧ sg_q35 P ∧ sg_q36 P
def sg_cD : Prop := sg_q37 P ∧ sg_q38 P ∧ sg_q39 P ∧ sg_q40 P ∧ sg_q41 P ∧ sg_q42 P ∧ sg_q43 P ∧ sg_q44 P ∧ sg_q45 P
def sg_C : Prop := sg_cA P ∧ sg_cB P ∧ sg_cC P ∧ sg_cD P
end SGR
/-- the machine comes from here to its method's return, with this answer and this heap -/
def sg_R (M : sg_M) (pc : Nat) (ls : sg_L) (st : List Value) (h : sg_H) (out : sg_O) : Prop := ∀ P : sg_P, sg_C P → P M pc ls st h out
/-- .. and the answer and the heap are such -/
def sg_A (M : sg_M) (pc : Nat) (ls : sg_L) (st : List Value) (h : sg_H) (Q : Option Value → sg_H → Prop) : Prop := ∃ (r : Option Value) (h' : sg_H), sg_R M pc ls st h (r, h') ∧ Q r h'
/-- a method's contract -/
def sg_K (M : sg_M) (vs : List Value) (h : sg_H) (Q : Option Value → sg_H → Prop) : Prop := sg_A M 0 (sg_ent M vs) [] h Q
