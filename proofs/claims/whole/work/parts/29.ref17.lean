/-! THE REFERENCE: the text, by tokens -/
/-- the fields that reading uses: 7 pos, 8 begun, 9 sort, 10 figure, 11 fault, 12 wrongAt, 14 dirMany -/
def tkF (F : Nat → Int32) (e b s g f wr dm : Nat) : Nat → Int32 := fun k => if k = 7 then nI e else if k = 8 then nI b else if k = 9 then nI s else if k = 10 then nI g else if k = 11 then nI f else if k = 12 then nI wr else if k = 14 then nI dm else F k
def mt (h : sg_H) (A : Nat → Nat → Int32) (F : Nat → Int32) (v : Nat → Nat) (e b s g f wr dm : Nat) : sg_H := mv h A (tkF F e b s g f wr dm) v
def mt_f (F : Nat → Int32) (e b s g f wr dm : Nat) : List Value := [.ref 65, .ref 66, .ref 67, .ref 68, .ref 69, .ref 70, .int (F 6), .int (nI e), .int (nI b), .int (nI s), .int (nI g), .int (nI f), .int (nI wr), .ref 71, .int (nI dm), .int (F 15)]
theorem mt_o {h : sg_H} (hn : 72 ≤ h.1) (A : Nat → Nat → Int32) (F : Nat → Int32) (v : Nat → Nat) (e b s g f wr dm : Nat) : sg_at (mt h A F v e b s g f wr dm) 64 (.inr (8, mt_f F e b s g f wr dm)) := mv_o hn _ _ _
theorem mt_a5 {h : sg_H} (hn : 72 ≤ h.1) (A : Nat → Nat → Int32) (F : Nat → Int32) (v : Nat → Nat) (e b s g f wr dm : Nat) : sg_at (mt h A F v e b s g f wr dm) 70 (.inl (false, 200, A 5)) := by
  have := mh_a5 hn (vf_upd A 0 (fun k => nI (v k))) (tkF F e b s g f wr dm)
  rw [vu_n _ _ _ _ (by decide)] at this
  exact this
theorem mt_a6 {h : sg_H} (hn : 72 ≤ h.1) (A : Nat → Nat → Int32) (F : Nat → Int32) (v : Nat → Nat) (e b s g f wr dm : Nat) : sg_at (mt h A F v e b s g f wr dm) 71 (.inl (false, 40, A 6)) := by
  have := mh_a6 hn (vf_upd A 0 (fun k => nI (v k))) (tkF F e b s g f wr dm)
  rw [vu_n _ _ _ _ (by decide)] at this
  exact this
theorem mt_s6 (h : sg_H) (A : Nat → Nat → Int32) (F : Nat → Int32) (v : Nat → Nat) (e b s g f wr dm : Nat) (x : Nat → Int32) : sg_up (mt h A F v e b s g f wr dm) 71 (.inl (false, 40, x)) = mt h (vf_upd A 6 x) F v e b s g f wr dm := by
  rw [mt, mv, mh_s6, vu_comm _ (by decide)]
  rfl
theorem mt_u7 (h : sg_H) (A : Nat → Nat → Int32) (F : Nat → Int32) (v : Nat → Nat) (e b s g f wr dm : Nat) (x : Int32) (y : Nat) (hx : x = nI y) : sg_up (mt h A F v e b s g f wr dm) 64 (.inr (8, (mt_f F e b s g f wr dm).set 7 (.int x))) = mt h A F v y b s g f wr dm := by
  subst hx
  exact mh_uo h _ _ _ _ (by simp [mt_f, mh_f, tkF])
theorem mt_u8 (h : sg_H) (A : Nat → Nat → Int32) (F : Nat → Int32) (v : Nat → Nat) (e b s g f wr dm : Nat) (x : Int32) (y : Nat) (hx : x = nI y) : sg_up (mt h A F v e b s g f wr dm) 64 (.inr (8, (mt_f F e b s g f wr dm).set 8 (.int x))) = mt h A F v e y s g f wr dm := by
  subst hx
  exact mh_uo h _ _ _ _ (by simp [mt_f, mh_f, tkF])
theorem mt_u9 (h : sg_H) (A : Nat → Nat → Int32) (F : Nat → Int32) (v : Nat → Nat) (e b s g f wr dm : Nat) (x : Int32) (y : Nat) (hx : x = nI y) : sg_up (mt h A F v e b s g f wr dm) 64 (.inr (8, (mt_f F e b s g f wr dm).set 9 (.int x))) = mt h A F v e b y g f wr dm := by
  subst hx
  exact mh_uo h _ _ _ _ (by simp [mt_f, mh_f, tkF])
theorem mt_u10 (h : sg_H) (A : Nat → Nat → Int32) (F : Nat → Int32) (v : Nat → Nat) (e b s g f wr dm : Nat) (x : Int32) (y : Nat) (hx : x = nI y) : sg_up (mt h A F v e b s g f wr dm) 64 (.inr (8, (mt_f F e b s g f wr dm).set 10 (.int x))) = mt h A F v e b s y f wr dm := by
  subst hx
  exact mh_uo h _ _ _ _ (by simp [mt_f, mh_f, tkF])
theorem mt_u11 (h : sg_H) (A : Nat → Nat → Int32) (F : Nat → Int32) (v : Nat → Nat) (e b s g f wr dm : Nat) (x : Int32) (y : Nat) (hx : x = nI y) : sg_up (mt h A F v e b s g f wr dm) 64 (.inr (8, (mt_f F e b s g f wr dm).set 11 (.int x))) = mt h A F v e b s g y wr dm := by
  subst hx
  exact mh_uo h _ _ _ _ (by simp [mt_f, mh_f, tkF])
theorem mt_u12 (h : sg_H) (A : Nat → Nat → Int32) (F : Nat → Int32) (v : Nat → Nat) (e b s g f wr dm : Nat) (x : Int32) (y : Nat) (hx : x = nI y) : sg_up (mt h A F v e b s g f wr dm) 64 (.inr (8, (mt_f F e b s g f wr dm).set 12 (.int x))) = mt h A F v e b s g f y dm := by
  subst hx
  exact mh_uo h _ _ _ _ (by simp [mt_f, mh_f, tkF])
theorem mt_u14 (h : sg_H) (A : Nat → Nat → Int32) (F : Nat → Int32) (v : Nat → Nat) (e b s g f wr dm : Nat) (x : Int32) (y : Nat) (hx : x = nI y) : sg_up (mt h A F v e b s g f wr dm) 64 (.inr (8, (mt_f F e b s g f wr dm).set 14 (.int x))) = mt h A F v e b s g f wr y := by
  subst hx
  exact mh_uo h _ _ _ _ (by simp [mt_f, mh_f, tkF])
/-- the tape -/
def tpo (A : Nat → Nat → Int32) (F : Nat → Int32) (t : Nat → Nat) (n : Nat) : Prop := n ≤ 200 ∧ F 6 = nI n ∧ ∀ p, p < n → A 5 p = nI (t p) ∧ t p ≤ 127
def byt (t : Nat → Nat) (n p : Nat) : Int32 := if p < n then nI (t p) else -1
def ltr (t : Nat → Nat) (n p : Nat) : Bool := decide (p < n ∧ 97 ≤ t p ∧ t p ≤ 122)
def fgr (t : Nat → Nat) (n p : Nat) : Bool := decide (p < n ∧ 48 ≤ t p ∧ t p ≤ 57)
def blk (t : Nat → Nat) (n p : Nat) : Bool := decide (p < n ∧ t p = 32)
def skw (q : Nat → Bool) : Nat → Nat → Nat
  | 0, p => p
  | f + 1, p => if q p = true then skw q f (p + 1) else p
def fv (t : Nat → Nat) (b : Nat) : Nat → Nat
  | 0 => 0
  | m + 1 => if m < 2 then 10 * fv t b m + (t (b + m) - 48) else fv t b m
def tB (t : Nat → Nat) (n p : Nat) : Nat := skw (blk t n) 201 p
def tS (t : Nat → Nat) (n p : Nat) : Nat := if n ≤ tB t n p then 0 else if ltr t n (tB t n p) = true then 1 else if fgr t n (tB t n p) = true then 2 else 3
def tE (t : Nat → Nat) (n p : Nat) : Nat := if n ≤ tB t n p then tB t n p else if ltr t n (tB t n p) = true then skw (ltr t n) 201 (tB t n p) else if fgr t n (tB t n p) = true then skw (fgr t n) 201 (tB t n p) else tB t n p + 1
def tV (t : Nat → Nat) (n p : Nat) : Nat := fv t (tB t n p) (tE t n p - tB t n p)
def tX (t : Nat → Nat) (n p : Nat) : Bool := decide ((tS t n p = 2 ∧ 2 < tE t n p - tB t n p) ∨ (tS t n p = 3 ∧ t (tB t n p) ≠ 59))
theorem skw_ge (q : Nat → Bool) : ∀ f p, p ≤ skw q f p := by
  intro f
  induction f with
  | zero => intro p; exact Nat.le_refl p
  | succ f ih =>
    intro p
    simp only [skw]
    split
    · have := ih (p + 1); omega
    · exact Nat.le_refl p
theorem skw_le {q : Nat → Bool} {n : Nat} (hq : ∀ p, q p = true → p < n) : ∀ f p, p ≤ n → skw q f p ≤ n := by
  intro f
  induction f with
  | zero => intro p hp; exact hp
  | succ f ih =>
    intro p hp
    simp only [skw]
    split
    · next c => exact ih (p + 1) (hq p c)
    · exact hp
theorem tB_le {t : Nat → Nat} {n p : Nat} (hp : p ≤ n) : tB t n p ≤ n := skw_le (fun p h => (of_decide_eq_true h).1) _ _ hp
theorem tB_ge (t : Nat → Nat) (n p : Nat) : p ≤ tB t n p := skw_ge _ _ _
theorem tE_le {t : Nat → Nat} {n p : Nat} (hp : p ≤ n) : tE t n p ≤ n := by
  have := tB_le (t := t) hp
  unfold tE
  split
  · omega
  · split
    · exact skw_le (fun p h => (of_decide_eq_true h).1) _ _ this
    · split
      · exact skw_le (fun p h => (of_decide_eq_true h).1) _ _ this
      · omega
theorem fv_lt {t : Nat → Nat} {b : Nat} (m : Nat) (h : ∀ j, j < m → t (b + j) ≤ 57) : fv t b m ≤ 99 ∧ (m = 0 → fv t b m = 0) ∧ (m = 1 → fv t b m ≤ 9) := by
  induction m with
  | zero => exact ⟨by simp [fv], fun _ => rfl, fun e => by omega⟩
  | succ m ih =>
    obtain ⟨h1, h2, h3⟩ := ih (fun j hj => h j (by omega))
    have h4 := h m (by omega)
    simp only [fv]
    refine ⟨?_, fun e => by omega, fun e => ?_⟩
    · split
      · next c =>
        rcases (show m = 0 ∨ m = 1 by omega) with e | e
        · have := h2 e; omega
        · have := h3 e; omega
      · exact h1
    · have e0 : m = 0 := by omega
      rw [if_pos (by omega), h2 e0]
      omega
section R17
variable {h : sg_H} (A : Nat → Nat → Int32) (F : Nat → Int32) (v : Nat → Nat) (t : Nat → Nat) (n : Nat)
set_option maxRecDepth 100000 in
theorem c_byteAt (hn : 72 ≤ h.1) (ht : tpo A F t n) (e b s g f wr dm : Nat) (p : Nat) (hp : p < 2000) : sg_Kr MX8_byteAt [.ref 64, .int (nI p)] (mt h A F v e b s g f wr dm) (.int (byt t n p)) := by
  obtain ⟨h1, h2, h3⟩ := ht
  show sg_A MX8_byteAt 0 [some (.ref 64), some (.int (nI p))] [] _ _
  refine at_ld (i := 1) dX8_byteAt_0 rfl rfl rfl ?_
  refine at_ld (i := 0) dX8_byteAt_1 rfl rfl rfl ?_
  refine at_get dX8_byteAt_2 fX8_45 (mt_o hn _ _ _ _ _ _ _ _ _ _) (by omega) rfl ?_
  rw [h2]
  refine at_ige 17 dX8_byteAt_5 (by decide) (fun c => ?_) (fun c => ?_)
  · have c1 := (nI_leI (by omega) (by omega)).mp c
    refine at_k (-1) dX8_byteAt_17 rfl (by decide) ?_
    refine at_ret dX8_byteAt_18 rfl rfl ?_
    rw [byt, if_neg (by omega)]
    exact ⟨rfl, rfl⟩
  · have c1 : p < n := by
      rcases Nat.lt_or_ge p n with z | z
      · exact z
      · exact absurd (nI_le z (by omega)) c
    refine at_ld (i := 0) dX8_byteAt_8 rfl rfl rfl ?_
    refine at_get dX8_byteAt_9 fX8_26 (mt_o hn _ _ _ _ _ _ _ _ _ _) (by omega) rfl ?_
    refine at_ld (i := 1) dX8_byteAt_12 rfl rfl rfl ?_
    refine at_ald (p) dX8_byteAt_13 (mt_a5 hn _ _ _ _ _ _ _ _ _ _) rfl (by omega) (by decide) ?_
    refine at_goto 18 dX8_byteAt_14 (by decide) ?_
    refine at_ret dX8_byteAt_18 rfl rfl ?_
    rw [byt, if_pos c1, (h3 p c1).1]
    exact ⟨rfl, rfl⟩
theorem byt_in {t : Nat → Nat} {n p : Nat} (ht : ∀ p, p < n → t p ≤ 127) (a c : Nat) (hc : c ≤ 127) : inR (byt t n p) a c = decide (p < n ∧ a ≤ t p ∧ t p ≤ c) := by
  unfold byt
  by_cases q : p < n
  · have := ht p q
    rw [if_pos q, inR_nI (by omega)]
    congr 1
    exact propext ⟨fun z => ⟨q, z.1, z.2⟩, fun z => ⟨z.2.1, z.2.2⟩⟩
  · rw [if_neg q, decide_eq_false (fun z => q z.1)]
    unfold inR
    refine decide_eq_false (fun z => ?_)
    have e : (-1 : Int32).toInt = -1 := by decide
    rw [e] at z
    omega
set_option maxRecDepth 100000 in
theorem c_requires (hn : 72 ≤ h.1) (e b s g f wr dm : Nat) (hf : f < 100) (good : Bool) (code : Nat) : sg_Kw MX8_requires [.ref 64, .int (bI good), .int (nI code)] (mt h A F v e b s g f wr dm) none (if good = false ∧ f = 0 then mt h A F v e b s g code b dm else mt h A F v e b s g f wr dm) := by
  show sg_A MX8_requires 0 [some (.ref 64), some (.int (bI good)), some (.int (nI code))] [] _ _
  refine at_ld (i := 1) dX8_requires_0 rfl rfl rfl ?_
  refine at_zne 24 dX8_requires_1 (by decide) (fun c => ?_) (fun c => ?_)
  · have c1 := bI_1 c
    rw [if_neg (fun z => by rw [c1] at z; cases z.1)]
    refine at_vret dX8_requires_24 rfl ?_
    exact ⟨rfl, rfl⟩
  · have c1 := (bI_0 _).mp (Classical.not_not.mp c)
    refine at_ld (i := 0) dX8_requires_4 rfl rfl rfl ?_
    refine at_get dX8_requires_5 fX8_49 (mt_o hn _ _ _ _ _ _ _ _ _ _) (by omega) rfl ?_
    refine at_zne 24 dX8_requires_8 (by decide) (fun c2 => ?_) (fun c2 => ?_)
    · have c3 : ¬ f = 0 := fun z => c2 (by rw [z]; rfl)
      rw [if_neg (fun z => c3 z.2)]
      refine at_vret dX8_requires_24 rfl ?_
      exact ⟨rfl, rfl⟩
    · have c3 := (nI_eq32 (b := 0) (by omega) (by decide)).mp (Classical.not_not.mp c2)
      rw [if_pos ⟨c1, c3⟩]
      refine at_ld (i := 0) dX8_requires_11 rfl rfl rfl ?_
      refine at_ld (i := 2) dX8_requires_12 rfl rfl rfl ?_
      refine at_put dX8_requires_13 fX8_49 ⟨_, _, rfl, Or.inl rfl, tyX8_ok 11 (by decide), fun _ => ⟨rfl, rfl⟩⟩ (mt_o hn _ _ _ _ _ _ _ _ _ _) (by omega) (Nat.le_of_ble_eq_true rfl) (mt_u11 h A F v e b s g f wr dm _ code rfl) ?_
      refine at_ld (i := 0) dX8_requires_16 rfl rfl rfl ?_
      refine at_ld (i := 0) dX8_requires_17 rfl rfl rfl ?_
      refine at_get dX8_requires_18 fX8_52 (mt_o hn _ _ _ _ _ _ _ _ _ _) (by omega) rfl ?_
      refine at_put dX8_requires_21 fX8_55 ⟨_, _, rfl, Or.inl rfl, tyX8_ok 12 (by decide), fun _ => ⟨rfl, rfl⟩⟩ (mt_o hn _ _ _ _ _ _ _ _ _ _) (by omega) (Nat.le_of_ble_eq_true rfl) (mt_u12 h A F v e b s g code wr dm _ b rfl) ?_
      refine at_vret dX8_requires_24 rfl ?_
      exact ⟨rfl, rfl⟩
/-- what reading leaves, where there is no fault yet -/
def rdG (t : Nat → Nat) (n p g : Nat) : Nat := if tS t n p = 2 then tV t n p else g
set_option maxRecDepth 100000 in
set_option maxHeartbeats 4000000 in
theorem c_reads0 (hn : 72 ≤ h.1) (ht : tpo A F t n) (p b0 s0 g0 wr0 dm : Nat) (hp : p ≤ n) : sg_Kw MX8_reads [.ref 64] (mt h A F v p b0 s0 g0 0 wr0 dm) none (mt h A F v (tE t n p) (tB t n p) (tS t n p) (rdG t n p g0) (if tX t n p = true then 1 else 0) (if tX t n p = true then tB t n p else wr0) dm) := by
  have h200 := ht.1
  have h127 : ∀ p, p < n → t p ≤ 127 := fun p hp => (ht.2.2 p hp).2
  have hB := tB_le (t := t) hp
  show sg_A MX8_reads 0 [some (.ref 64), none] [] _ _
  refine at_ld (i := 0) dX8_reads_0 rfl rfl rfl ?_
  refine at_get dX8_reads_1 fX8_49 (mt_o hn _ _ _ _ _ _ _ _ _ _) (by omega) rfl ?_
  refine at_zle 8 dX8_reads_4 (by decide) (fun c0 => ?_) (fun c0 => ?_)
  · -- blanks
    have L1 : ∀ f q, n < q + f → q ≤ n → (sg_A MX8_reads 34 [some (.ref 64), none] [] (mt h A F v (skw (blk t n) f q) b0 s0 g0 0 wr0 dm) (fun r' h' => r' = none ∧ h' = mt h A F v (tE t n p) (tB t n p) (tS t n p) (rdG t n p g0) (if tX t n p = true then 1 else 0) (if tX t n p = true then tB t n p else wr0) dm)) → sg_A MX8_reads 8 [some (.ref 64), none] [] (mt h A F v q b0 s0 g0 0 wr0 dm) (fun r' h' => r' = none ∧ h' = mt h A F v (tE t n p) (tB t n p) (tS t n p) (rdG t n p g0) (if tX t n p = true then 1 else 0) (if tX t n p = true then tB t n p else wr0) dm) := by
      intro f
      induction f with
      | zero => intro q h1 h2; omega
      | succ f ih =>
        intro q h1 h2 cont
        refine at_ld (i := 0) dX8_reads_8 rfl rfl rfl ?_
        refine at_ld (i := 0) dX8_reads_9 rfl rfl rfl ?_
        refine at_get dX8_reads_10 fX8_61 (mt_o hn _ _ _ _ _ _ _ _ _ _) (by omega) rfl ?_
        refine at_rv [_] dX8_reads_13 mX8_byteAt ⟨Nat.le_of_ble_eq_true rfl, Nat.le_of_ble_eq_true rfl⟩ lX8_64 iX8_byteAt rfl rfl (mt_o hn _ _ _ _ _ _ _ _ _ _) (by omega) rfl (Nat.le_of_ble_eq_true rfl) (Nat.le_of_ble_eq_true rfl) ⟨rfl, rfl⟩ (c_byteAt A F v t n hn ht _ _ _ _ _ _ _ q (by omega)) ?_
        refine at_k (nI 32) dX8_reads_16 rfl (by decide) ?_
        refine at_ine 34 dX8_reads_18 (by decide) (fun c1 => ?_) (fun c1 => ?_)
        · have c2 : ¬ blk t n q = true := by
            intro z
            have z2 := of_decide_eq_true z
            apply c1
            rw [byt, if_pos z2.1, z2.2]
          rw [skw, if_neg c2] at cont
          exact cont
        · have c1' := Classical.not_not.mp c1
          have hqn : q < n := by
            rcases Nat.lt_or_ge q n with z | z
            · exact z
            · rw [byt, if_neg (by omega)] at c1'; exact absurd c1' (by decide)
          have h7 := h127 q hqn
          have c2 : blk t n q = true := by
            rw [byt, if_pos hqn] at c1'
            exact decide_eq_true ⟨hqn, (nI_eq32 (by omega) (by decide)).mp c1'⟩
          rw [skw, if_pos c2] at cont
          refine at_ld (i := 0) dX8_reads_21 rfl rfl rfl ?_
          refine at_dup dX8_reads_22 rfl ?_
          refine at_get dX8_reads_23 fX8_61 (mt_o hn _ _ _ _ _ _ _ _ _ _) (by omega) rfl ?_
          refine at_k (nI 1) dX8_reads_26 rfl (by decide) ?_
          refine at_bin dX8_reads_27 rfl ?_
          refine at_put dX8_reads_28 fX8_61 ⟨_, _, rfl, Or.inl rfl, tyX8_ok 7 (by decide), fun _ => ⟨rfl, rfl⟩⟩ (mt_o hn _ _ _ _ _ _ _ _ _ _) (by omega) (Nat.le_of_ble_eq_true rfl) (mt_u7 h A F v q b0 s0 g0 0 wr0 dm _ (q + 1) (nI_add q 1)) ?_
          refine at_goto 8 dX8_reads_31 (by decide) ?_
          exact ih (q + 1) (by omega) (by omega) cont
    refine L1 201 p (by omega) hp ?_
    rw [show skw (blk t n) 201 p = tB t n p from rfl]
    have hS : tS t n p = (if n ≤ tB t n p then 0 else if ltr t n (tB t n p) = true then 1 else if fgr t n (tB t n p) = true then 2 else 3) := rfl
    have hE : tE t n p = (if n ≤ tB t n p then tB t n p else if ltr t n (tB t n p) = true then skw (ltr t n) 201 (tB t n p) else if fgr t n (tB t n p) = true then skw (fgr t n) 201 (tB t n p) else tB t n p + 1) := rfl
    have hX : tX t n p = decide ((tS t n p = 2 ∧ 2 < tE t n p - tB t n p) ∨ (tS t n p = 3 ∧ t (tB t n p) ≠ 59)) := rfl
    have hG : rdG t n p g0 = (if tS t n p = 2 then fv t (tB t n p) (tE t n p - tB t n p) else g0) := rfl
    generalize tB t n p = b at hB hS hE hX hG
    generalize tS t n p = S at hS hX hG
    generalize tE t n p = E at hE hX hG
    generalize tX t n p = X at hX
    generalize rdG t n p g0 = G at hG
    refine at_ld (i := 0) dX8_reads_34 rfl rfl rfl ?_
    refine at_ld (i := 0) dX8_reads_35 rfl rfl rfl ?_
    refine at_get dX8_reads_36 fX8_61 (mt_o hn _ _ _ _ _ _ _ _ _ _) (by omega) rfl ?_
    refine at_put dX8_reads_39 fX8_52 ⟨_, _, rfl, Or.inl rfl, tyX8_ok 8 (by decide), fun _ => ⟨rfl, rfl⟩⟩ (mt_o hn _ _ _ _ _ _ _ _ _ _) (by omega) (Nat.le_of_ble_eq_true rfl) (mt_u8 h A F v b b0 s0 g0 0 wr0 dm _ b rfl) ?_
    refine at_ld (i := 0) dX8_reads_42 rfl rfl rfl ?_
    refine at_ld (i := 0) dX8_reads_43 rfl rfl rfl ?_
    refine at_get dX8_reads_44 fX8_61 (mt_o hn _ _ _ _ _ _ _ _ _ _) (by omega) rfl ?_
    refine at_rv [_] dX8_reads_47 mX8_byteAt ⟨Nat.le_of_ble_eq_true rfl, Nat.le_of_ble_eq_true rfl⟩ lX8_64 iX8_byteAt rfl rfl (mt_o hn _ _ _ _ _ _ _ _ _ _) (by omega) rfl (Nat.le_of_ble_eq_true rfl) (Nat.le_of_ble_eq_true rfl) ⟨rfl, rfl⟩ (c_byteAt A F v t n hn ht _ _ _ _ _ _ _ b (by omega)) ?_
    refine at_st (i := 1) dX8_reads_50 rfl rfl (Nat.le_of_ble_eq_true rfl) rfl ?_
    try dsimp only [List.set_cons_succ, List.set_cons_zero]
    refine at_ld (i := 1) dX8_reads_51 rfl rfl rfl ?_
    by_cases hend : n ≤ b
    · rw [if_pos hend] at hS hE
      subst hS
      have hX' : X = false := by rw [hX]; exact decide_eq_false (fun z => by omega)
      rw [if_neg (by omega)] at hG
      subst hG
      rw [hX', if_neg (by decide), if_neg (by decide), hE]
      have eb : byt t n b = -1 := by rw [byt, if_neg (by omega)]
      rw [eb]
      refine at_zge 63 dX8_reads_52 (by decide) (fun c2 => ?_) (fun c2 => ?_)
      · exact absurd c2 (by decide)
      · refine at_ld (i := 0) dX8_reads_55 rfl rfl rfl ?_
        refine at_k (nI 0) dX8_reads_56 rfl (by decide) ?_
        refine at_put dX8_reads_57 fX8_58 ⟨_, _, rfl, Or.inl rfl, tyX8_ok 9 (by decide), fun _ => ⟨rfl, rfl⟩⟩ (mt_o hn _ _ _ _ _ _ _ _ _ _) (by omega) (Nat.le_of_ble_eq_true rfl) (mt_u9 h A F v b b s0 _ 0 wr0 dm _ 0 rfl) ?_
        refine at_goto 274 dX8_reads_60 (by decide) ?_
        refine at_vret dX8_reads_274 rfl ?_
        exact ⟨rfl, rfl⟩
    · rw [if_neg hend] at hS hE
      have hbn : b < n := by omega
      have h7 := h127 b hbn
      have eb : byt t n b = nI (t b) := by rw [byt, if_pos hbn]
      refine at_zge 63 dX8_reads_52 (by decide) (fun c2 => ?_) (fun c2 => ?_)
      · refine at_ld (i := 1) dX8_reads_63 rfl rfl rfl ?_
        refine at_i2l dX8_reads_64 ?_
        refine at_ldc2 dX8_reads_65 kX8_72 ?_
        refine at_ldc2 dX8_reads_68 kX8_74 ?_
        refine at_rs [_, _, _] dX8_reads_71 mX8_in ⟨Nat.le_of_ble_eq_true rfl, Nat.le_of_ble_eq_true rfl⟩ lX8_41 tX8_in rfl (Nat.le_of_ble_eq_true rfl) (Nat.le_of_ble_eq_true rfl) ⟨rfl, rfl⟩ (c_inA _ (byt t n b) 97 122 rfl rfl (by decide) (by decide)) ?_
        rw [byt_in h127 97 122 (by decide)]
        refine at_zeq 116 dX8_reads_74 (by decide) (fun c3 => ?_) (fun c3 => ?_)
        · have c4 : ¬ ltr t n b = true := by rw [ltr, (bI_0 _).mp c3]; decide
          rw [if_neg c4] at hS hE
          refine at_ld (i := 1) dX8_reads_116 rfl rfl rfl ?_
          refine at_i2l dX8_reads_117 ?_
          refine at_ldc2 dX8_reads_118 kX8_76 ?_
          refine at_ldc2 dX8_reads_121 kX8_78 ?_
          refine at_rs [_, _, _] dX8_reads_124 mX8_in ⟨Nat.le_of_ble_eq_true rfl, Nat.le_of_ble_eq_true rfl⟩ lX8_41 tX8_in rfl (Nat.le_of_ble_eq_true rfl) (Nat.le_of_ble_eq_true rfl) ⟨rfl, rfl⟩ (c_inA _ (byt t n b) 48 57 rfl rfl (by decide) (by decide)) ?_
          rw [byt_in h127 48 57 (by decide)]
          refine at_zeq 243 dX8_reads_127 (by decide) (fun c5 => ?_) (fun c5 => ?_)
          · have c6 : ¬ fgr t n b = true := by rw [fgr, (bI_0 _).mp c5]; decide
            rw [if_neg c6] at hS hE
            subst hS
            subst hE
            rw [if_neg (by decide)] at hG
            subst hG
            have fin : ∀ q : Bool, q = decide (t b = 59) → sg_A MX8_reads 260 [some (.ref 64), some (.int (byt t n b))] [.int (bI q), .ref 64] (mt h A F v b b 3 G 0 wr0 dm) (fun r' h' => r' = none ∧ h' = mt h A F v (b + 1) b 3 G (if X = true then 1 else 0) (if X = true then b else wr0) dm) := by
              intro q hq
              refine at_k (nI 1) dX8_reads_260 rfl (by decide) ?_
              refine at_wv [_, _] dX8_reads_261 mX8_requires ⟨Nat.le_of_ble_eq_true rfl, Nat.le_of_ble_eq_true rfl⟩ lX8_83 iX8_requires rfl rfl (mt_o hn _ _ _ _ _ _ _ _ _ _) (by omega) rfl (Nat.le_of_ble_eq_true rfl) (Nat.le_of_ble_eq_true rfl) ⟨rfl, rfl⟩ (c_requires A F v hn b b 3 G 0 wr0 dm (by decide) q 1) (by split <;> exact ⟨rfl, rfl⟩) ?_
              try dsimp only [Option.toList, List.cons_append, List.nil_append]
              by_cases z : t b = 59
              · have hX' : X = false := by rw [hX]; exact decide_eq_false (fun y => by omega)
                rw [decide_eq_true z] at hq
                rw [hq, hX', if_neg (fun y => by cases y.1), if_neg (by decide), if_neg (by decide)]
                refine at_ld (i := 0) dX8_reads_264 rfl rfl rfl ?_
                refine at_dup dX8_reads_265 rfl ?_
                refine at_get dX8_reads_266 fX8_61 (mt_o hn _ _ _ _ _ _ _ _ _ _) (by omega) rfl ?_
                refine at_k (nI 1) dX8_reads_269 rfl (by decide) ?_
                refine at_bin dX8_reads_270 rfl ?_
                refine at_put dX8_reads_271 fX8_61 ⟨_, _, rfl, Or.inl rfl, tyX8_ok 7 (by decide), fun _ => ⟨rfl, rfl⟩⟩ (mt_o hn _ _ _ _ _ _ _ _ _ _) (by omega) (Nat.le_of_ble_eq_true rfl) (mt_u7 h A F v b b 3 G 0 wr0 dm _ (b + 1) (nI_add b 1)) ?_
                refine at_vret dX8_reads_274 rfl ?_
                exact ⟨rfl, rfl⟩
              · have hX' : X = true := by rw [hX]; exact decide_eq_true (Or.inr ⟨rfl, z⟩)
                rw [decide_eq_false z] at hq
                rw [hq, hX', if_pos ⟨rfl, rfl⟩, if_pos rfl, if_pos rfl]
                refine at_ld (i := 0) dX8_reads_264 rfl rfl rfl ?_
                refine at_dup dX8_reads_265 rfl ?_
                refine at_get dX8_reads_266 fX8_61 (mt_o hn _ _ _ _ _ _ _ _ _ _) (by omega) rfl ?_
                refine at_k (nI 1) dX8_reads_269 rfl (by decide) ?_
                refine at_bin dX8_reads_270 rfl ?_
                refine at_put dX8_reads_271 fX8_61 ⟨_, _, rfl, Or.inl rfl, tyX8_ok 7 (by decide), fun _ => ⟨rfl, rfl⟩⟩ (mt_o hn _ _ _ _ _ _ _ _ _ _) (by omega) (Nat.le_of_ble_eq_true rfl) (mt_u7 h A F v b b 3 G 1 b dm _ (b + 1) (nI_add b 1)) ?_
                refine at_vret dX8_reads_274 rfl ?_
                exact ⟨rfl, rfl⟩
            refine at_ld (i := 0) dX8_reads_243 rfl rfl rfl ?_
            refine at_k (nI 3) dX8_reads_244 rfl (by decide) ?_
            refine at_put dX8_reads_245 fX8_58 ⟨_, _, rfl, Or.inl rfl, tyX8_ok 9 (by decide), fun _ => ⟨rfl, rfl⟩⟩ (mt_o hn _ _ _ _ _ _ _ _ _ _) (by omega) (Nat.le_of_ble_eq_true rfl) (mt_u9 h A F v b b s0 G 0 wr0 dm _ 3 rfl) ?_
            refine at_ld (i := 0) dX8_reads_248 rfl rfl rfl ?_
            refine at_ld (i := 1) dX8_reads_249 rfl rfl rfl ?_
            refine at_k (nI 59) dX8_reads_250 rfl (by decide) ?_
            refine at_ine 259 dX8_reads_252 (by decide) (fun c7 => ?_) (fun c7 => ?_)
            · have c8 : ¬ t b = 59 := fun z => c7 (by rw [eb, z])
              refine at_k (nI 0) dX8_reads_259 rfl (by decide) ?_
              exact fin false (decide_eq_false c8).symm
            · have c8 : t b = 59 := by
                have := Classical.not_not.mp c7
                rw [eb] at this
                exact (nI_eq32 (by omega) (by decide)).mp this
              refine at_k (nI 1) dX8_reads_255 rfl (by decide) ?_
              refine at_goto 260 dX8_reads_256 (by decide) ?_
              exact fin true (decide_eq_true c8).symm
          · have c6 : fgr t n b = true := bI_1 c5
            rw [if_pos c6] at hS hE
            subst hS
            rw [if_pos rfl] at hG
            refine at_ld (i := 0) dX8_reads_130 rfl rfl rfl ?_
            refine at_k (nI 2) dX8_reads_131 rfl (by decide) ?_
            refine at_put dX8_reads_132 fX8_58 ⟨_, _, rfl, Or.inl rfl, tyX8_ok 9 (by decide), fun _ => ⟨rfl, rfl⟩⟩ (mt_o hn _ _ _ _ _ _ _ _ _ _) (by omega) (Nat.le_of_ble_eq_true rfl) (mt_u9 h A F v b b s0 g0 0 wr0 dm _ 2 rfl) ?_
            refine at_ld (i := 0) dX8_reads_135 rfl rfl rfl ?_
            refine at_k (nI 0) dX8_reads_136 rfl (by decide) ?_
            refine at_put dX8_reads_137 fX8_80 ⟨_, _, rfl, Or.inl rfl, tyX8_ok 10 (by decide), fun _ => ⟨rfl, rfl⟩⟩ (mt_o hn _ _ _ _ _ _ _ _ _ _) (by omega) (Nat.le_of_ble_eq_true rfl) (mt_u10 h A F v b b 2 g0 0 wr0 dm _ 0 rfl) ?_
            have fin : sg_A MX8_reads 217 [some (.ref 64), some (.int (byt t n b))] [] (mt h A F v E b 2 (fv t b (E - b)) 0 wr0 dm) (fun r' h' => r' = none ∧ h' = mt h A F v E b 2 G (if X = true then 1 else 0) (if X = true then b else wr0) dm) := by
              rw [← hG]
              have hEb : b ≤ E := by rw [hE]; exact skw_ge _ _ _
              have hEn : E ≤ n := by rw [hE]; exact skw_le (fun p h => (of_decide_eq_true h).1) _ _ hB
              refine at_ld (i := 0) dX8_reads_217 rfl rfl rfl ?_
              refine at_ld (i := 0) dX8_reads_218 rfl rfl rfl ?_
              refine at_get dX8_reads_219 fX8_61 (mt_o hn _ _ _ _ _ _ _ _ _ _) (by omega) rfl ?_
              refine at_ld (i := 0) dX8_reads_222 rfl rfl rfl ?_
              refine at_get dX8_reads_223 fX8_52 (mt_o hn _ _ _ _ _ _ _ _ _ _) (by omega) rfl ?_
              refine at_bin dX8_reads_226 rfl ?_
              try dsimp only
              rw [nI_sub hEb]
              refine at_k (nI 2) dX8_reads_227 rfl (by decide) ?_
              refine at_igt 235 dX8_reads_228 (by decide) (fun c7 => ?_) (fun c7 => ?_)
              · have c8 := (nI_ltI (by omega) (by omega)).mp c7
                have hX' : X = true := by rw [hX]; exact decide_eq_true (Or.inl ⟨rfl, c8⟩)
                refine at_k (nI 0) dX8_reads_235 rfl (by decide) ?_
                refine at_k (nI 1) dX8_reads_236 rfl (by decide) ?_
                refine at_wv [_, _] dX8_reads_237 mX8_requires ⟨Nat.le_of_ble_eq_true rfl, Nat.le_of_ble_eq_true rfl⟩ lX8_83 iX8_requires rfl rfl (mt_o hn _ _ _ _ _ _ _ _ _ _) (by omega) rfl (Nat.le_of_ble_eq_true rfl) (Nat.le_of_ble_eq_true rfl) ⟨rfl, rfl⟩ (c_requires A F v hn E b 2 G 0 wr0 dm (by decide) false 1) ⟨rfl, rfl⟩ ?_
                try dsimp only [Option.toList, List.cons_append, List.nil_append]
                rw [if_pos ⟨rfl, rfl⟩, hX', if_pos rfl, if_pos rfl]
                refine at_goto 274 dX8_reads_240 (by decide) ?_
                refine at_vret dX8_reads_274 rfl ?_
                exact ⟨rfl, rfl⟩
              · have c8 : ¬ 2 < E - b := fun z => c7 (nI_lt z (by omega))
                have hX' : X = false := by rw [hX]; exact decide_eq_false (fun y => by omega)
                refine at_k (nI 1) dX8_reads_231 rfl (by decide) ?_
                refine at_goto 236 dX8_reads_232 (by decide) ?_
                refine at_k (nI 1) dX8_reads_236 rfl (by decide) ?_
                refine at_wv [_, _] dX8_reads_237 mX8_requires ⟨Nat.le_of_ble_eq_true rfl, Nat.le_of_ble_eq_true rfl⟩ lX8_83 iX8_requires rfl rfl (mt_o hn _ _ _ _ _ _ _ _ _ _) (by omega) rfl (Nat.le_of_ble_eq_true rfl) (Nat.le_of_ble_eq_true rfl) ⟨rfl, rfl⟩ (c_requires A F v hn E b 2 G 0 wr0 dm (by decide) true 1) ⟨rfl, rfl⟩ ?_
                try dsimp only [Option.toList, List.cons_append, List.nil_append]
                rw [if_neg (fun y => by cases y.1), hX', if_neg (by decide), if_neg (by decide)]
                refine at_goto 274 dX8_reads_240 (by decide) ?_
                refine at_vret dX8_reads_274 rfl ?_
                exact ⟨rfl, rfl⟩
            have L3 : ∀ f q, n < q + f → q ≤ n → b ≤ q → (∀ j, b ≤ j → j < q → fgr t n j = true) → skw (fgr t n) f q = E → sg_A MX8_reads 140 [some (.ref 64), some (.int (byt t n b))] [] (mt h A F v q b 2 (fv t b (q - b)) 0 wr0 dm) (fun r' h' => r' = none ∧ h' = mt h A F v E b 2 G (if X = true then 1 else 0) (if X = true then b else wr0) dm) := by
              intro f
              induction f with
              | zero => intro q h1 h2; omega
              | succ f ih =>
                intro q h1 h2 h3 h4 h5
                refine at_ld (i := 0) dX8_reads_140 rfl rfl rfl ?_
                refine at_ld (i := 0) dX8_reads_141 rfl rfl rfl ?_
                refine at_get dX8_reads_142 fX8_61 (mt_o hn _ _ _ _ _ _ _ _ _ _) (by omega) rfl ?_
                refine at_rv [_] dX8_reads_145 mX8_byteAt ⟨Nat.le_of_ble_eq_true rfl, Nat.le_of_ble_eq_true rfl⟩ lX8_64 iX8_byteAt rfl rfl (mt_o hn _ _ _ _ _ _ _ _ _ _) (by omega) rfl (Nat.le_of_ble_eq_true rfl) (Nat.le_of_ble_eq_true rfl) ⟨rfl, rfl⟩ (c_byteAt A F v t n hn ht _ _ _ _ _ _ _ q (by omega)) ?_
                refine at_i2l dX8_reads_148 ?_
                refine at_ldc2 dX8_reads_149 kX8_76 ?_
                refine at_ldc2 dX8_reads_152 kX8_78 ?_
                refine at_rs [_, _, _] dX8_reads_155 mX8_in ⟨Nat.le_of_ble_eq_true rfl, Nat.le_of_ble_eq_true rfl⟩ lX8_41 tX8_in rfl (Nat.le_of_ble_eq_true rfl) (Nat.le_of_ble_eq_true rfl) ⟨rfl, rfl⟩ (c_inA _ (byt t n q) 48 57 rfl rfl (by decide) (by decide)) ?_
                rw [byt_in h127 48 57 (by decide)]
                refine at_zeq 217 dX8_reads_158 (by decide) (fun c7 => ?_) (fun c7 => ?_)
                · have c8 : ¬ fgr t n q = true := by rw [fgr, (bI_0 _).mp c7]; decide
                  rw [skw, if_neg c8] at h5
                  subst h5
                  exact fin
                · have c8 : fgr t n q = true := bI_1 c7
                  have c9 := of_decide_eq_true c8
                  have hfv := (fv_lt (t := t) (b := b) (q - b) (fun j hj => by
                    have := of_decide_eq_true (h4 (b + j) (by omega) (by omega))
                    omega)).1
                  rw [skw, if_pos c8] at h5
                  have hfs : fv t b (q + 1 - b) = if q - b < 2 then 10 * fv t b (q - b) + (t q - 48) else fv t b (q - b) := by
                    rw [show q + 1 - b = (q - b) + 1 by omega, fv, show b + (q - b) = q by omega]
                  have nx : ∀ y, y = fv t b (q + 1 - b) → sg_A MX8_reads 201 [some (.ref 64), some (.int (byt t n b))] [.int (nI y), .ref 64] (mt h A F v q b 2 (fv t b (q - b)) 0 wr0 dm) (fun r' h' => r' = none ∧ h' = mt h A F v E b 2 G (if X = true then 1 else 0) (if X = true then b else wr0) dm) := by
                    intro y hy
                    refine at_put dX8_reads_201 fX8_80 ⟨_, _, rfl, Or.inl rfl, tyX8_ok 10 (by decide), fun _ => ⟨rfl, rfl⟩⟩ (mt_o hn _ _ _ _ _ _ _ _ _ _) (by omega) (Nat.le_of_ble_eq_true rfl) (mt_u10 h A F v q b 2 _ 0 wr0 dm _ y rfl) ?_
                    refine at_ld (i := 0) dX8_reads_204 rfl rfl rfl ?_
                    refine at_dup dX8_reads_205 rfl ?_
                    refine at_get dX8_reads_206 fX8_61 (mt_o hn _ _ _ _ _ _ _ _ _ _) (by omega) rfl ?_
                    refine at_k (nI 1) dX8_reads_209 rfl (by decide) ?_
                    refine at_bin dX8_reads_210 rfl ?_
                    refine at_put dX8_reads_211 fX8_61 ⟨_, _, rfl, Or.inl rfl, tyX8_ok 7 (by decide), fun _ => ⟨rfl, rfl⟩⟩ (mt_o hn _ _ _ _ _ _ _ _ _ _) (by omega) (Nat.le_of_ble_eq_true rfl) (mt_u7 h A F v q b 2 y 0 wr0 dm _ (q + 1) (nI_add q 1)) ?_
                    refine at_goto 140 dX8_reads_214 (by decide) ?_
                    rw [hy]
                    exact ih (q + 1) (by omega) (by omega) (by omega) (fun j j1 j2 => by
                      rcases Nat.lt_or_ge j q with z | z
                      · exact h4 j j1 z
                      · have : j = q := by omega
                        rw [this]; exact c8) h5
                  refine at_ld (i := 0) dX8_reads_161 rfl rfl rfl ?_
                  refine at_ld (i := 0) dX8_reads_162 rfl rfl rfl ?_
                  refine at_get dX8_reads_163 fX8_61 (mt_o hn _ _ _ _ _ _ _ _ _ _) (by omega) rfl ?_
                  refine at_ld (i := 0) dX8_reads_166 rfl rfl rfl ?_
                  refine at_get dX8_reads_167 fX8_52 (mt_o hn _ _ _ _ _ _ _ _ _ _) (by omega) rfl ?_
                  refine at_bin dX8_reads_170 rfl ?_
                  try dsimp only
                  rw [nI_sub h3]
                  refine at_k (nI 2) dX8_reads_171 rfl (by decide) ?_
                  refine at_ige 197 dX8_reads_172 (by decide) (fun c10 => ?_) (fun c10 => ?_)
                  · have c11 := (nI_leI (by omega) (by omega)).mp c10
                    refine at_ld (i := 0) dX8_reads_197 rfl rfl rfl ?_
                    refine at_get dX8_reads_198 fX8_80 (mt_o hn _ _ _ _ _ _ _ _ _ _) (by omega) rfl ?_
                    exact nx _ (by rw [hfs, if_neg (by omega)])
                  · have c11 : q - b < 2 := by
                      rcases Nat.lt_or_ge (q - b) 2 with z | z
                      · exact z
                      · exact absurd (nI_le z (by omega)) c10
                    refine at_k (nI 10) dX8_reads_175 rfl (by decide) ?_
                    refine at_ld (i := 0) dX8_reads_177 rfl rfl rfl ?_
                    refine at_get dX8_reads_178 fX8_80 (mt_o hn _ _ _ _ _ _ _ _ _ _) (by omega) rfl ?_
                    refine at_bin dX8_reads_181 rfl ?_
                    try dsimp only
                    rw [nI_mul]
                    refine at_ld (i := 0) dX8_reads_182 rfl rfl rfl ?_
                    refine at_ld (i := 0) dX8_reads_183 rfl rfl rfl ?_
                    refine at_get dX8_reads_184 fX8_61 (mt_o hn _ _ _ _ _ _ _ _ _ _) (by omega) rfl ?_
                    refine at_rv [_] dX8_reads_187 mX8_byteAt ⟨Nat.le_of_ble_eq_true rfl, Nat.le_of_ble_eq_true rfl⟩ lX8_64 iX8_byteAt rfl rfl (mt_o hn _ _ _ _ _ _ _ _ _ _) (by omega) rfl (Nat.le_of_ble_eq_true rfl) (Nat.le_of_ble_eq_true rfl) ⟨rfl, rfl⟩ (c_byteAt A F v t n hn ht _ _ _ _ _ _ _ q (by omega)) ?_
                    rw [show byt t n q = nI (t q) by rw [byt, if_pos c9.1]]
                    refine at_bin dX8_reads_190 rfl ?_
                    try dsimp only
                    rw [nI_add]
                    refine at_k (nI 48) dX8_reads_191 rfl (by decide) ?_
                    refine at_bin dX8_reads_193 rfl ?_
                    try dsimp only
                    rw [nI_sub (by omega)]
                    refine at_goto 201 dX8_reads_194 (by decide) ?_
                    exact nx _ (by rw [hfs, if_pos c11]; omega)
            have := L3 201 b (by omega) hB (Nat.le_refl _) (fun j j1 j2 => by omega) hE.symm
            rw [Nat.sub_self] at this
            exact this
        · have c4 : ltr t n b = true := bI_1 c3
          rw [if_pos c4] at hS hE
          subst hS
          rw [if_neg (by decide)] at hG
          subst hG
          have hX' : X = false := by rw [hX]; exact decide_eq_false (fun z => by omega)
          rw [hX', if_neg (by decide), if_neg (by decide)]
          refine at_ld (i := 0) dX8_reads_77 rfl rfl rfl ?_
          refine at_k (nI 1) dX8_reads_78 rfl (by decide) ?_
          refine at_put dX8_reads_79 fX8_58 ⟨_, _, rfl, Or.inl rfl, tyX8_ok 9 (by decide), fun _ => ⟨rfl, rfl⟩⟩ (mt_o hn _ _ _ _ _ _ _ _ _ _) (by omega) (Nat.le_of_ble_eq_true rfl) (mt_u9 h A F v b b s0 G 0 wr0 dm _ 1 rfl) ?_
          have L2 : ∀ f q, n < q + f → q ≤ n → skw (ltr t n) f q = E → sg_A MX8_reads 82 [some (.ref 64), some (.int (byt t n b))] [] (mt h A F v q b 1 G 0 wr0 dm) (fun r' h' => r' = none ∧ h' = mt h A F v E b 1 G 0 wr0 dm) := by
            intro f
            induction f with
            | zero => intro q h1 h2; omega
            | succ f ih =>
              intro q h1 h2 h5
              refine at_ld (i := 0) dX8_reads_82 rfl rfl rfl ?_
              refine at_ld (i := 0) dX8_reads_83 rfl rfl rfl ?_
              refine at_get dX8_reads_84 fX8_61 (mt_o hn _ _ _ _ _ _ _ _ _ _) (by omega) rfl ?_
              refine at_rv [_] dX8_reads_87 mX8_byteAt ⟨Nat.le_of_ble_eq_true rfl, Nat.le_of_ble_eq_true rfl⟩ lX8_64 iX8_byteAt rfl rfl (mt_o hn _ _ _ _ _ _ _ _ _ _) (by omega) rfl (Nat.le_of_ble_eq_true rfl) (Nat.le_of_ble_eq_true rfl) ⟨rfl, rfl⟩ (c_byteAt A F v t n hn ht _ _ _ _ _ _ _ q (by omega)) ?_
              refine at_i2l dX8_reads_90 ?_
              refine at_ldc2 dX8_reads_91 kX8_72 ?_
              refine at_ldc2 dX8_reads_94 kX8_74 ?_
              refine at_rs [_, _, _] dX8_reads_97 mX8_in ⟨Nat.le_of_ble_eq_true rfl, Nat.le_of_ble_eq_true rfl⟩ lX8_41 tX8_in rfl (Nat.le_of_ble_eq_true rfl) (Nat.le_of_ble_eq_true rfl) ⟨rfl, rfl⟩ (c_inA _ (byt t n q) 97 122 rfl rfl (by decide) (by decide)) ?_
              rw [byt_in h127 97 122 (by decide)]
              refine at_zeq 274 dX8_reads_100 (by decide) (fun c7 => ?_) (fun c7 => ?_)
              · have c8 : ¬ ltr t n q = true := by rw [ltr, (bI_0 _).mp c7]; decide
                rw [skw, if_neg c8] at h5
                subst h5
                refine at_vret dX8_reads_274 rfl ?_
                exact ⟨rfl, rfl⟩
              · have c8 : ltr t n q = true := bI_1 c7
                have c9 := of_decide_eq_true c8
                rw [skw, if_pos c8] at h5
                refine at_ld (i := 0) dX8_reads_103 rfl rfl rfl ?_
                refine at_dup dX8_reads_104 rfl ?_
                refine at_get dX8_reads_105 fX8_61 (mt_o hn _ _ _ _ _ _ _ _ _ _) (by omega) rfl ?_
                refine at_k (nI 1) dX8_reads_108 rfl (by decide) ?_
                refine at_bin dX8_reads_109 rfl ?_
                refine at_put dX8_reads_110 fX8_61 ⟨_, _, rfl, Or.inl rfl, tyX8_ok 7 (by decide), fun _ => ⟨rfl, rfl⟩⟩ (mt_o hn _ _ _ _ _ _ _ _ _ _) (by omega) (Nat.le_of_ble_eq_true rfl) (mt_u7 h A F v q b 1 G 0 wr0 dm _ (q + 1) (nI_add q 1)) ?_
                refine at_goto 82 dX8_reads_113 (by decide) ?_
                exact ih (q + 1) (by omega) (by omega) h5
          exact L2 201 b (by omega) hB hE.symm
      · rw [eb] at c2
        exact absurd (nI_pos' (by omega)) c2
  · exact absurd (by decide) c0
set_option maxRecDepth 100000 in
theorem c_reads1 (hn : 72 ≤ h.1) (e b s g f wr dm : Nat) (hf : 0 < f) (hf2 : f < 100) : sg_Kw MX8_reads [.ref 64] (mt h A F v e b s g f wr dm) none (mt h A F v e b s g f wr dm) := by
  show sg_A MX8_reads 0 [some (.ref 64), none] [] _ _
  refine at_ld (i := 0) dX8_reads_0 rfl rfl rfl ?_
  refine at_get dX8_reads_1 fX8_49 (mt_o hn _ _ _ _ _ _ _ _ _ _) (by omega) rfl ?_
  refine at_zle 8 dX8_reads_4 (by decide) (fun c0 => ?_) (fun c0 => ?_)
  · exact absurd c0 (nI_nle hf (by omega))
  · refine at_vret dX8_reads_7 rfl ?_
    exact ⟨rfl, rfl⟩
end R17
