/-! THE TEXT, token by token -/
/-- a number: its fault, or it and the place behind it -/
def nmS (t : Nat → Nat) (n lo hi p : Nat) : (Nat × Nat) ⊕ (Nat × Nat) := if tX t n p = true then .inl (1, tB t n p) else if tS t n p = 2 then (if lo ≤ tV t n p ∧ tV t n p ≤ hi then .inr (tV t n p, tE t n p) else .inl (3, tB t n p)) else .inl (2, tB t n p)
/-- the sign: its fault, or its place and the place behind it -/
def sgS (t : Nat → Nat) (n p : Nat) : (Nat × Nat) ⊕ (Nat × Nat) := if tX t n p = true then .inl (1, tB t n p) else if tS t n p = 3 then .inr (tB t n p, tE t n p) else .inl (2, tB t n p)
/-- the word of a line -/
def wdS (t : Nat → Nat) (n p : Nat) : Option Nat := lnw t n (tE t n p, tB t n p, tS t n p, 0, 0, 0)
/-- a line: its fault, or its kind, its numbers, its sign's place, the place behind it -/
def lnS (t : Nat → Nat) (n dm p : Nat) : (Nat × Nat) ⊕ (Nat × Nat × Nat × Nat × Nat × Nat) :=
  if tX t n p = true then .inl (1, tB t n p) else if wdS t n p = some 1 ∨ wdS t n p = some 2 then
    match nmS t n 0 dm (tE t n p) with
    | .inl f => .inl f
    | .inr a => match nmS t n 0 9 a.2 with
      | .inl f => .inl f
      | .inr b => match (if wdS t n p = some 2 then nmS t n 0 40 b.2 else .inr (0, b.2)) with
        | .inl f => .inl f
        | .inr c => match sgS t n c.2 with
          | .inl f => .inl f
          | .inr s => .inr (if wdS t n p = some 1 then 1 else 2, a.1, b.1, c.1, s.1, s.2)
  else .inl (2, tB t n p)
/-- the first line -/
def vlS (t : Nat → Nat) (n p : Nat) : (Nat × Nat) ⊕ ((Nat × Nat × Nat × Nat × Nat × Nat) × Nat) :=
  if tX t n p = true then .inl (1, tB t n p) else if wdS t n p = some 0 then
    match nmS t n 1 4 (tE t n p) with
    | .inl f => .inl f
    | .inr a => match nmS t n 1 8 a.2 with
      | .inl f => .inl f
      | .inr b => match nmS t n 1 6 b.2 with
        | .inl f => .inl f
        | .inr c => match nmS t n 0 3 c.2 with
          | .inl f => .inl f
          | .inr d => match nmS t n 0 99 d.2 with
            | .inl f => .inl f
            | .inr e => match nmS t n 1 8 e.2 with
              | .inl f => .inl f
              | .inr g => match sgS t n g.2 with
                | .inl f => .inl f
                | .inr s => .inr ((a.1, b.1, c.1, d.1, e.1, g.1), s.2)
  else .inl (2, tB t n p)
/-- the lines behind the first -/
def lpS (t : Nat → Nat) (n : Nat) : Nat → (Nat → Nat) → Nat → Nat → (Nat → Nat) → (Nat × Nat) ⊕ (Nat → Nat)
  | 0, v, _, _, _ => .inr v
  | f + 1, v, p, dm, E => if n ≤ tB t n p then .inr v else
    match lnS t n dm p with
    | .inl q => .inl q
    | .inr (k, a, b, c, w, p') => if (ino v (if a = 0 then 0 else E (a - 1)) b).isSome = true then .inl (4, w) else
      match cmS v (if a = 0 then 0 else E (a - 1)) b k c with
      | none => .inl (5, w)
      | some q => lpS t n f q.2 p' (if k = 1 then dm + 1 else dm) (if k = 1 then vf_upd E dm q.1 else E)
/-- the text -/
def txS (t : Nat → Nat) (n : Nat) (v : Nat → Nat) : (Nat × Nat) ⊕ (Nat → Nat) := match vlS t n 0 with
  | .inl q => .inl q
  | .inr (r, p) => lpS t n 201 (an1 (v6 v r.1 r.2.1 r.2.2.1 r.2.2.2.1 r.2.2.2.2.1 r.2.2.2.2.2)) p 0 (fun _ => 0)
/-- the reading has gone up to p, and the token there is read -/
def la (t : Nat → Nat) (n p : Nat) (P : Ps) : Prop := (tX t n p = true → P.2.2.2.2.1 = 1 ∧ P.2.2.2.2.2 = tB t n p) ∧ (tX t n p = false → P.2.2.2.2.1 = 0 ∧ P.1 = tE t n p ∧ P.2.1 = tB t n p ∧ P.2.2.1 = tS t n p ∧ (tS t n p = 2 → P.2.2.2.1 = tV t n p))
theorem la_rd {t : Nat → Nat} {n : Nat} {P : Ps} (h : P.2.2.2.2.1 = 0) : la t n P.1 (rdP t n P) := by
  rw [rdP, if_pos h]
  refine ⟨fun x => ?_, fun x => ?_⟩
  · rw [x]
    exact ⟨rfl, rfl⟩
  · rw [x]
    refine ⟨rfl, rfl, rfl, rfl, fun z => ?_⟩
    show rdG t n P.1 P.2.2.2.1 = _
    rw [rdG, if_pos z]
/-- a reading that came to its end: with a fault, or behind p -/
def enS {α : Type} (t : Nat → Nat) (n : Nat) (x : (Nat × Nat) ⊕ (α × Nat)) (P : Ps) (y : α) : Prop := match x with
  | .inl f => P.2.2.2.2.1 = f.1 ∧ P.2.2.2.2.2 = f.2 ∧ ¬ f.1 = 0
  | .inr z => y = z.1 ∧ la t n z.2 P
theorem la_nm {t : Nat → Nat} {n p lo hi : Nat} {P : Ps} (h : la t n p P) : enS t n (nmS t n lo hi p) (nmP t n lo hi P).2 (nmP t n lo hi P).1 := by
  unfold nmS
  by_cases x : tX t n p = true
  · rw [if_pos x]
    obtain ⟨a, b⟩ := h.1 x
    rw [nm_b (by omega)]
    exact ⟨a, b, Nat.succ_ne_zero _⟩
  · rw [if_neg x]
    obtain ⟨a, b, c, d, e⟩ := h.2 (by cases q : tX t n p; rfl; exact absurd q x)
    by_cases y : tS t n p = 2
    · rw [if_pos y]
      have g := e y
      have e0 : rqP (decide (P.2.2.1 = 2)) 2 P = P := by rw [rqP, if_neg (fun z => by rw [d, y] at z; exact absurd z.1 (by decide))]
      by_cases z : lo ≤ tV t n p ∧ tV t n p ≤ hi
      · rw [if_pos z]
        have e1 : rqP (decide (lo ≤ P.2.2.2.1 ∧ P.2.2.2.1 ≤ hi)) 3 P = P := by rw [rqP, if_neg (fun q => by rw [g, decide_eq_true z] at q; exact absurd q.1 (by decide))]
        rw [nmP, e0, e1, if_pos a]
        refine ⟨g, ?_⟩
        rw [← b]
        exact la_rd a
      · rw [if_neg z]
        have e1 : rqP (decide (lo ≤ P.2.2.2.1 ∧ P.2.2.2.1 ≤ hi)) 3 P = (P.1, P.2.1, P.2.2.1, P.2.2.2.1, 3, P.2.1) := by rw [rqP, if_pos ⟨by rw [g]; exact decide_eq_false z, a⟩]
        rw [nmP, e0, e1, rd_b (by show ¬ (3 : Nat) = 0; decide)]
        exact ⟨rfl, c, Nat.succ_ne_zero _⟩
    · rw [if_neg y]
      have e0 : rqP (decide (P.2.2.1 = 2)) 2 P = (P.1, P.2.1, P.2.2.1, P.2.2.2.1, 2, P.2.1) := by rw [rqP, if_pos ⟨by rw [d]; exact decide_eq_false y, a⟩]
      rw [nmP, e0, rq_b (by show ¬ (2 : Nat) = 0; decide), rd_b (by show ¬ (2 : Nat) = 0; decide)]
      exact ⟨rfl, c, Nat.succ_ne_zero _⟩
/-- behind a fault -/
theorem en_b {α : Type} {t : Nat → Nat} {n : Nat} {x : (Nat × Nat) ⊕ (α × Nat)} {P : Ps} {y : α} (h : enS t n x P y) {f : Nat × Nat} (e : x = .inl f) : P.2.2.2.2.1 = f.1 ∧ P.2.2.2.2.2 = f.2 ∧ ¬ f.1 = 0 := by
  subst e; exact h
theorem en_g {α : Type} {t : Nat → Nat} {n : Nat} {x : (Nat × Nat) ⊕ (α × Nat)} {P : Ps} {y : α} (h : enS t n x P y) {z : α × Nat} (e : x = .inr z) : y = z.1 ∧ la t n z.2 P := by
  subst e; exact h
/-- the sign -/
theorem la_st {t : Nat → Nat} {n p : Nat} {P : Ps} (h : la t n p P) : match sgS t n p with
    | .inl f => (stP P).2.2.2.2.1 = f.1 ∧ (stP P).2.2.2.2.2 = f.2 ∧ ¬ f.1 = 0
    | .inr s => (stP P) = P ∧ P.2.2.2.2.1 = 0 ∧ P.2.1 = s.1 ∧ P.1 = s.2 := by
  unfold sgS
  by_cases x : tX t n p = true
  · rw [if_pos x]
    obtain ⟨a, b⟩ := h.1 x
    rw [st_b (by omega)]
    exact ⟨a, b, Nat.succ_ne_zero _⟩
  · rw [if_neg x]
    obtain ⟨a, b, c, d, e⟩ := h.2 (by cases q : tX t n p; rfl; exact absurd q x)
    by_cases y : tS t n p = 3
    · rw [if_pos y]
      refine ⟨?_, a, c, b⟩
      rw [stP, rqP, if_neg (fun z => by rw [d, y] at z; exact absurd z.1 (by decide))]
    · rw [if_neg y]
      have e0 : stP P = (P.1, P.2.1, P.2.2.1, P.2.2.2.1, 2, P.2.1) := by rw [stP, rqP, if_pos ⟨by rw [d]; exact decide_eq_false y, a⟩]
      rw [e0]
      exact ⟨rfl, c, Nat.succ_ne_zero _⟩
theorem lnw_c (t : Nat → Nat) (n e b s g f w g' f' w' : Nat) : lnw t n (e, b, s, g, f, w) = lnw t n (e, b, s, g', f', w') := rfl
theorem la_w {t : Nat → Nat} {n p : Nat} {P : Ps} (h : la t n p P) (x : tX t n p = false) : lnw t n P = wdS t n p := by
  obtain ⟨e, b, s, g, f, w⟩ := P
  obtain ⟨-, h1, h2, h3, -⟩ := h.2 x
  dsimp only at h1 h2 h3
  subst h1 h2 h3
  rfl
