/-! THE CLASS: the tape, the reader's tokens -/
def rd_l (lk f fp nx ts tp : Nat) (tv : Int32) : List Value := [.ref 17, .ref 20, .int (nI lk), .int (nI f), .int (nI fp), .int (nI nx), .int (nI ts), .int (nI tp), .int tv]
/-- the reader: its numbers, the line's kind, the fault and its place, the place of what is next, the token's sort, place, value -/
def rd (g : sg_H) (N : Nat → Int32) (lk f fp nx ts tp : Nat) (tv : Int32) : sg_H := (g.1, g.2.1, fun j => if j = 19 then .inr (4, rd_l lk f fp nx ts tp tv) else if j = 20 then .inl (false, 6, N) else g.2.2 j)
/-- the tape -/
def TP (g : sg_H) (t : Nat → Nat) (n : Nat) : Prop := sg_at g 17 (.inr (5, [.ref 18, .int (nI n)])) ∧ (∃ B, sg_at g 18 (.inl (false, 200, B)) ∧ ∀ p, p < n → B p = nI (t p)) ∧ (∀ p, p < n → t p ≤ 127) ∧ n ≤ 200
section C19
variable {g : sg_H} {N : Nat → Int32} {lk f fp nx ts tp : Nat} {tv : Int32} {t : Nat → Nat} {n : Nat}
theorem rd_o (hg : 64 ≤ g.1) : sg_at (rd g N lk f fp nx ts tp tv) 19 (.inr (4, rd_l lk f fp nx ts tp tv)) := ⟨Or.inl (show 19 < g.1 by omega), rfl⟩
theorem rd_n (hg : 64 ≤ g.1) : sg_at (rd g N lk f fp nx ts tp tv) 20 (.inl (false, 6, N)) := ⟨Or.inl (show 20 < g.1 by omega), rfl⟩
theorem rd_O {j : Nat} {x : sg_E} (h : sg_at g j x) (h1 : j ≠ 19) (h2 : j ≠ 20) : sg_at (rd g N lk f fp nx ts tp tv) j x := ⟨h.1, by show (if j = 19 then _ else if j = 20 then _ else _) = _; rw [if_neg h1, if_neg h2]; exact h.2⟩
theorem rd_u {lk' f' fp' nx' ts' tp' : Nat} {tv' : Int32} {l : List Value} (h : l = rd_l lk' f' fp' nx' ts' tp' tv') : sg_up (rd g N lk f fp nx ts tp tv) 19 (.inr (4, l)) = rd g N lk' f' fp' nx' ts' tp' tv' := by
  subst h
  refine Prod.ext rfl (Prod.ext rfl ?_)
  funext j
  show (if j = 19 then _ else (if j = 19 then _ else if j = 20 then _ else _)) = (if j = 19 then _ else if j = 20 then _ else _)
  by_cases q : j = 19
  · rw [if_pos q, if_pos q]
  · rw [if_neg q, if_neg q, if_neg q]
theorem rd_u2 {y : Nat} {x : Int32} (e : x = nI y) : sg_up (rd g N lk f fp nx ts tp tv) 19 (.inr (4, (rd_l lk f fp nx ts tp tv).set 2 (.int x))) = rd g N y f fp nx ts tp tv := rd_u (by rw [e]; rfl)
theorem rd_u3 {y : Nat} {x : Int32} (e : x = nI y) : sg_up (rd g N lk f fp nx ts tp tv) 19 (.inr (4, (rd_l lk f fp nx ts tp tv).set 3 (.int x))) = rd g N lk y fp nx ts tp tv := rd_u (by rw [e]; rfl)
theorem rd_u4 {y : Nat} {x : Int32} (e : x = nI y) : sg_up (rd g N lk f fp nx ts tp tv) 19 (.inr (4, (rd_l lk f fp nx ts tp tv).set 4 (.int x))) = rd g N lk f y nx ts tp tv := rd_u (by rw [e]; rfl)
theorem rd_u5 {y : Nat} {x : Int32} (e : x = nI y) : sg_up (rd g N lk f fp nx ts tp tv) 19 (.inr (4, (rd_l lk f fp nx ts tp tv).set 5 (.int x))) = rd g N lk f fp y ts tp tv := rd_u (by rw [e]; rfl)
theorem rd_u6 {y : Nat} {x : Int32} (e : x = nI y) : sg_up (rd g N lk f fp nx ts tp tv) 19 (.inr (4, (rd_l lk f fp nx ts tp tv).set 6 (.int x))) = rd g N lk f fp nx y tp tv := rd_u (by rw [e]; rfl)
theorem rd_u7 {y : Nat} {x : Int32} (e : x = nI y) : sg_up (rd g N lk f fp nx ts tp tv) 19 (.inr (4, (rd_l lk f fp nx ts tp tv).set 7 (.int x))) = rd g N lk f fp nx ts y tv := rd_u (by rw [e]; rfl)
theorem rd_u8 (x : Int32) : sg_up (rd g N lk f fp nx ts tp tv) 19 (.inr (4, (rd_l lk f fp nx ts tp tv).set 8 (.int x))) = rd g N lk f fp nx ts tp x := rd_u rfl
theorem rd_un (N' : Nat → Int32) : sg_up (rd g N lk f fp nx ts tp tv) 20 (.inl (false, 6, N')) = rd g N' lk f fp nx ts tp tv := by
  refine Prod.ext rfl (Prod.ext rfl ?_)
  funext j
  show (if j = 20 then _ else (if j = 19 then _ else if j = 20 then _ else _)) = (if j = 19 then _ else if j = 20 then _ else _)
  by_cases q : j = 20
  · rw [if_pos q, if_neg (by omega), if_pos q]
  · rw [if_neg q, if_neg q]
    by_cases q2 : j = 19
    · rw [if_pos q2, if_pos q2]
    · rw [if_neg q2, if_neg q2, if_neg q]
theorem rd_T (h : TP g t n) : TP (rd g N lk f fp nx ts tp tv) t n := by
  obtain ⟨h1, ⟨B, h2, h3⟩, h4⟩ := h
  exact ⟨rd_O h1 (by decide) (by decide), ⟨B, rd_O h2 (by decide) (by decide), h3⟩, h4⟩
set_option maxRecDepth 100000 in
theorem k_byteAt (hT : TP g t n) (p : Nat) (hp : p < 2000) : sg_Kr MX5_byteAt [.ref 17, .int (nI p)] g (.int (if p < n then nI (t p) else -4)) := by
  obtain ⟨h1, ⟨B, h2, h3⟩, h4, h5⟩ := hT
  show sg_A MX5_byteAt 0 [some (.ref 17), some (.int (nI p))] [] _ _
  refine at_ld (i := 1) dX5_byteAt_0 rfl rfl rfl ?_
  refine at_zlt 30 dX5_byteAt_1 (by decide) (fun c => absurd c (nI_pos (by omega))) (fun _ => ?_)
  refine at_ld (i := 1) dX5_byteAt_4 rfl rfl rfl ?_
  refine at_ld (i := 0) dX5_byteAt_5 rfl rfl rfl ?_
  refine at_get dX5_byteAt_6 fX5_15 h1 (by omega) rfl ?_
  refine at_ige 30 dX5_byteAt_9 (by decide) (fun c => ?_) (fun c => ?_)
  · have c1 := (nI_leI (by omega) (by omega)).mp c
    refine at_k (-4) dX5_byteAt_30 rfl (by decide) ?_
    refine at_ret dX5_byteAt_32 rfl rfl ?_
    rw [if_neg (by omega)]
    exact ⟨rfl, rfl⟩
  · have c1 : p < n := by
      rcases Nat.lt_or_ge p n with q | q
      · exact q
      · exact absurd (nI_le q (by omega)) c
    refine at_ld (i := 1) dX5_byteAt_12 rfl rfl rfl ?_
    refine at_ld (i := 0) dX5_byteAt_13 rfl rfl rfl ?_
    refine at_get dX5_byteAt_14 fX5_9 h1 (by omega) rfl ?_
    refine at_alen dX5_byteAt_17 h2 ?_
    refine at_ige 30 dX5_byteAt_18 (by decide) (fun c => absurd c (nI_ge (by omega) (by decide))) (fun _ => ?_)
    refine at_ld (i := 0) dX5_byteAt_21 rfl rfl rfl ?_
    refine at_get dX5_byteAt_22 fX5_9 h1 (by omega) rfl ?_
    refine at_ld (i := 1) dX5_byteAt_25 rfl rfl rfl ?_
    refine at_ald (p) dX5_byteAt_26 h2 rfl (by omega) (by decide) ?_
    refine at_goto 32 dX5_byteAt_27 (by decide) ?_
    refine at_ret dX5_byteAt_32 rfl rfl ?_
    rw [if_pos c1, h3 p c1]
    exact ⟨rfl, rfl⟩
set_option maxRecDepth 100000 in
theorem k_hasLetterAt (hT : TP g t n) (p : Nat) (hp : p < 2000) : sg_Kr MX5_hasLetterAt [.ref 17, .int (nI p)] g (.int (bI (ltr t n p))) := by
  have kb := k_byteAt hT p hp
  have h7 := hT.2.2.1
  show sg_A MX5_hasLetterAt 0 [some (.ref 17), some (.int (nI p)), none] [] _ _
  by_cases c : p < n
  · rw [if_pos c] at kb
    have h7p := h7 p c
    refine at_ld (i := 0) dX5_hasLetterAt_0 rfl rfl rfl ?_
    refine at_ld (i := 1) dX5_hasLetterAt_1 rfl rfl rfl ?_
    refine at_rv [_] dX5_hasLetterAt_2 mX5_byteAt ⟨Nat.le_of_ble_eq_true rfl, Nat.le_of_ble_eq_true rfl⟩ lX5_19 iX5_byteAt rfl rfl hT.1 (by omega) rfl (Nat.le_of_ble_eq_true rfl) (Nat.le_of_ble_eq_true rfl) ⟨rfl, rfl⟩ (kb) ?_
    refine at_st (i := 2) dX5_hasLetterAt_5 rfl rfl (Nat.le_of_ble_eq_true rfl) rfl ?_
    try dsimp only [List.set_cons_succ, List.set_cons_zero]
    refine at_ld (i := 2) dX5_hasLetterAt_6 rfl rfl rfl ?_
    refine at_k (nI 97) dX5_hasLetterAt_7 rfl (by decide) ?_
    refine at_ilt 22 dX5_hasLetterAt_9 (by decide) (fun c1 => ?_) (fun c1 => ?_)
    · have c2 := (nI_ltI (by omega) (by decide)).mp c1
      refine at_k (nI 0) dX5_hasLetterAt_22 rfl (by decide) ?_
      refine at_ret dX5_hasLetterAt_23 rfl rfl ?_
      exact ri (bI_f (fun q => by omega))
    · have c2 : ¬ t p < 97 := fun q => c1 (nI_lt q (by decide))
      refine at_ld (i := 2) dX5_hasLetterAt_12 rfl rfl rfl ?_
      refine at_k (nI 122) dX5_hasLetterAt_13 rfl (by decide) ?_
      refine at_igt 22 dX5_hasLetterAt_15 (by decide) (fun c3 => ?_) (fun c3 => ?_)
      · have c4 := (nI_ltI (by decide) (by omega)).mp c3
        refine at_k (nI 0) dX5_hasLetterAt_22 rfl (by decide) ?_
        refine at_ret dX5_hasLetterAt_23 rfl rfl ?_
        exact ri (bI_f (fun q => by omega))
      · have c4 : ¬ 122 < t p := fun q => c3 (nI_lt q (by omega))
        refine at_k (nI 1) dX5_hasLetterAt_18 rfl (by decide) ?_
        refine at_goto 23 dX5_hasLetterAt_19 (by decide) ?_
        refine at_ret dX5_hasLetterAt_23 rfl rfl ?_
        exact ri (bI_t (by omega))
  · rw [if_neg c] at kb
    refine at_ld (i := 0) dX5_hasLetterAt_0 rfl rfl rfl ?_
    refine at_ld (i := 1) dX5_hasLetterAt_1 rfl rfl rfl ?_
    refine at_rv [_] dX5_hasLetterAt_2 mX5_byteAt ⟨Nat.le_of_ble_eq_true rfl, Nat.le_of_ble_eq_true rfl⟩ lX5_19 iX5_byteAt rfl rfl hT.1 (by omega) rfl (Nat.le_of_ble_eq_true rfl) (Nat.le_of_ble_eq_true rfl) ⟨rfl, rfl⟩ (kb) ?_
    refine at_st (i := 2) dX5_hasLetterAt_5 rfl rfl (Nat.le_of_ble_eq_true rfl) rfl ?_
    try dsimp only [List.set_cons_succ, List.set_cons_zero]
    refine at_ld (i := 2) dX5_hasLetterAt_6 rfl rfl rfl ?_
    refine at_k (nI 97) dX5_hasLetterAt_7 rfl (by decide) ?_
    refine at_ilt 22 dX5_hasLetterAt_9 (by decide) (fun _ => ?_) (fun c => absurd ((by decide)) c)
    refine at_k (nI 0) dX5_hasLetterAt_22 rfl (by decide) ?_
    refine at_ret dX5_hasLetterAt_23 rfl rfl ?_
    exact ri (bI_f (fun q => by omega))
set_option maxRecDepth 100000 in
theorem k_hasFigureAt (hT : TP g t n) (p : Nat) (hp : p < 2000) : sg_Kr MX5_hasFigureAt [.ref 17, .int (nI p)] g (.int (bI (fgr t n p))) := by
  have kb := k_byteAt hT p hp
  have h7 := hT.2.2.1
  show sg_A MX5_hasFigureAt 0 [some (.ref 17), some (.int (nI p)), none] [] _ _
  by_cases c : p < n
  · rw [if_pos c] at kb
    have h7p := h7 p c
    refine at_ld (i := 0) dX5_hasFigureAt_0 rfl rfl rfl ?_
    refine at_ld (i := 1) dX5_hasFigureAt_1 rfl rfl rfl ?_
    refine at_rv [_] dX5_hasFigureAt_2 mX5_byteAt ⟨Nat.le_of_ble_eq_true rfl, Nat.le_of_ble_eq_true rfl⟩ lX5_19 iX5_byteAt rfl rfl hT.1 (by omega) rfl (Nat.le_of_ble_eq_true rfl) (Nat.le_of_ble_eq_true rfl) ⟨rfl, rfl⟩ (kb) ?_
    refine at_st (i := 2) dX5_hasFigureAt_5 rfl rfl (Nat.le_of_ble_eq_true rfl) rfl ?_
    try dsimp only [List.set_cons_succ, List.set_cons_zero]
    refine at_ld (i := 2) dX5_hasFigureAt_6 rfl rfl rfl ?_
    refine at_k (nI 48) dX5_hasFigureAt_7 rfl (by decide) ?_
    refine at_ilt 22 dX5_hasFigureAt_9 (by decide) (fun c1 => ?_) (fun c1 => ?_)
    · have c2 := (nI_ltI (by omega) (by decide)).mp c1
      refine at_k (nI 0) dX5_hasFigureAt_22 rfl (by decide) ?_
      refine at_ret dX5_hasFigureAt_23 rfl rfl ?_
      exact ri (bI_f (fun q => by omega))
    · have c2 : ¬ t p < 48 := fun q => c1 (nI_lt q (by decide))
      refine at_ld (i := 2) dX5_hasFigureAt_12 rfl rfl rfl ?_
      refine at_k (nI 57) dX5_hasFigureAt_13 rfl (by decide) ?_
      refine at_igt 22 dX5_hasFigureAt_15 (by decide) (fun c3 => ?_) (fun c3 => ?_)
      · have c4 := (nI_ltI (by decide) (by omega)).mp c3
        refine at_k (nI 0) dX5_hasFigureAt_22 rfl (by decide) ?_
        refine at_ret dX5_hasFigureAt_23 rfl rfl ?_
        exact ri (bI_f (fun q => by omega))
      · have c4 : ¬ 57 < t p := fun q => c3 (nI_lt q (by omega))
        refine at_k (nI 1) dX5_hasFigureAt_18 rfl (by decide) ?_
        refine at_goto 23 dX5_hasFigureAt_19 (by decide) ?_
        refine at_ret dX5_hasFigureAt_23 rfl rfl ?_
        exact ri (bI_t (by omega))
  · rw [if_neg c] at kb
    refine at_ld (i := 0) dX5_hasFigureAt_0 rfl rfl rfl ?_
    refine at_ld (i := 1) dX5_hasFigureAt_1 rfl rfl rfl ?_
    refine at_rv [_] dX5_hasFigureAt_2 mX5_byteAt ⟨Nat.le_of_ble_eq_true rfl, Nat.le_of_ble_eq_true rfl⟩ lX5_19 iX5_byteAt rfl rfl hT.1 (by omega) rfl (Nat.le_of_ble_eq_true rfl) (Nat.le_of_ble_eq_true rfl) ⟨rfl, rfl⟩ (kb) ?_
    refine at_st (i := 2) dX5_hasFigureAt_5 rfl rfl (Nat.le_of_ble_eq_true rfl) rfl ?_
    try dsimp only [List.set_cons_succ, List.set_cons_zero]
    refine at_ld (i := 2) dX5_hasFigureAt_6 rfl rfl rfl ?_
    refine at_k (nI 48) dX5_hasFigureAt_7 rfl (by decide) ?_
    refine at_ilt 22 dX5_hasFigureAt_9 (by decide) (fun _ => ?_) (fun c => absurd ((by decide)) c)
    refine at_k (nI 0) dX5_hasFigureAt_22 rfl (by decide) ?_
    refine at_ret dX5_hasFigureAt_23 rfl rfl ?_
    exact ri (bI_f (fun q => by omega))
set_option maxRecDepth 100000 in
theorem k_passBlanks (hg : 64 ≤ g.1) (hT : TP g t n) : ∀ fu p, p ≤ n → n < p + fu → sg_Kw MX4_passBlanks [.ref 19] (rd g N lk f fp p ts tp tv) none (rd g N lk f fp (skw (blk t n) fu p) ts tp tv) := by
  have h5 := hT.2.2.2
  have h7 := hT.2.2.1
  intro fu
  induction fu with
  | zero => intro p h1 h2; omega
  | succ fu ih =>
    intro p hp hf
    have kb := k_byteAt (rd_T (N := N) (lk := lk) (f := f) (fp := fp) (nx := p) (ts := ts) (tp := tp) (tv := tv) hT) p (by omega)
    simp only [skw]
    show sg_A MX4_passBlanks 0 [some (.ref 19)] [] _ _
    refine at_ld (i := 0) dX4_passBlanks_0 rfl rfl rfl ?_
    refine at_get dX4_passBlanks_1 fX4_19 (rd_o hg) (by omega) rfl ?_
    refine at_ld (i := 0) dX4_passBlanks_4 rfl rfl rfl ?_
    refine at_get dX4_passBlanks_5 fX4_15 (rd_o hg) (by omega) rfl ?_
    refine at_get dX4_passBlanks_8 fX4_32 (rd_T hT).1 (by omega) rfl ?_
    refine at_ige 43 dX4_passBlanks_11 (by decide) (fun c => ?_) (fun c => ?_)
    · have c1 := (nI_leI (by omega) (by omega)).mp c
      refine at_vret dX4_passBlanks_43 rfl ?_
      rw [if_neg (fun q => by have := (of_decide_eq_true q).1; omega)]
      exact ⟨rfl, rfl⟩
    · have c1 : p < n := by
        rcases Nat.lt_or_ge p n with q | q
        · exact q
        · exact absurd (nI_le q (by omega)) c
      rw [if_pos c1] at kb
      have h7p := h7 p c1
      refine at_ld (i := 0) dX4_passBlanks_14 rfl rfl rfl ?_
      refine at_get dX4_passBlanks_15 fX4_15 (rd_o hg) (by omega) rfl ?_
      refine at_ld (i := 0) dX4_passBlanks_18 rfl rfl rfl ?_
      refine at_get dX4_passBlanks_19 fX4_19 (rd_o hg) (by omega) rfl ?_
      refine at_rv [_] dX4_passBlanks_22 mX5_byteAt ⟨Nat.le_of_ble_eq_true rfl, Nat.le_of_ble_eq_true rfl⟩ lX4_88 iX5_byteAt rfl rfl (rd_T hT).1 (by omega) rfl (Nat.le_of_ble_eq_true rfl) (Nat.le_of_ble_eq_true rfl) ⟨rfl, rfl⟩ (kb) ?_
      refine at_k (nI 32) dX4_passBlanks_25 rfl (by decide) ?_
      refine at_ine 43 dX4_passBlanks_27 (by decide) (fun c2 => ?_) (fun c2 => ?_)
      · refine at_vret dX4_passBlanks_43 rfl ?_
        rw [if_neg (fun q => c2 (by rw [(of_decide_eq_true q).2]))]
        exact ⟨rfl, rfl⟩
      · have c3 : t p = 32 := (nI_eq32 (by omega) (by decide)).mp (Classical.not_not.mp c2)
        rw [if_pos (show blk t n p = true from decide_eq_true ⟨c1, c3⟩)]
        refine at_ld (i := 0) dX4_passBlanks_30 rfl rfl rfl ?_
        refine at_dup dX4_passBlanks_31 rfl ?_
        refine at_get dX4_passBlanks_32 fX4_19 (rd_o hg) (by omega) rfl ?_
        refine at_k (nI 1) dX4_passBlanks_35 rfl (by decide) ?_
        refine at_bin dX4_passBlanks_36 rfl ?_
        try dsimp only
        rw [nI_add]
        refine at_put dX4_passBlanks_37 fX4_19 ⟨_, _, rfl, Or.inl rfl, tyX4_ok 5 (by decide), fun _ => ⟨rfl, rfl⟩⟩ (rd_o hg) (by omega) (Nat.le_of_ble_eq_true rfl) (rd_u5 rfl) ?_
        refine at_goto 0 dX4_passBlanks_40 (by decide) ?_
        exact ih (p + 1) (by omega) (by omega)
set_option maxRecDepth 100000 in
theorem k_refuse (hg : 64 ≤ g.1) (c p : Nat) : sg_Kw MX4_refuse [.ref 19, .int (nI c), .int (nI p)] (rd g N lk f fp nx ts tp tv) (some (.int (bI false))) (rd g N lk c p nx ts tp tv) := by
  show sg_A MX4_refuse 0 [some (.ref 19), some (.int (nI c)), some (.int (nI p))] [] _ _
  refine at_ld (i := 0) dX4_refuse_0 rfl rfl rfl ?_
  refine at_ld (i := 1) dX4_refuse_1 rfl rfl rfl ?_
  refine at_put dX4_refuse_2 fX4_23 ⟨_, _, rfl, Or.inl rfl, tyX4_ok 3 (by decide), fun _ => ⟨rfl, rfl⟩⟩ (rd_o hg) (by omega) (Nat.le_of_ble_eq_true rfl) (rd_u3 rfl) ?_
  refine at_ld (i := 0) dX4_refuse_5 rfl rfl rfl ?_
  refine at_ld (i := 2) dX4_refuse_6 rfl rfl rfl ?_
  refine at_put dX4_refuse_7 fX4_26 ⟨_, _, rfl, Or.inl rfl, tyX4_ok 4 (by decide), fun _ => ⟨rfl, rfl⟩⟩ (rd_o hg) (by omega) (Nat.le_of_ble_eq_true rfl) (rd_u4 rfl) ?_
  refine at_k (nI 0) dX4_refuse_10 rfl (by decide) ?_
  refine at_ret dX4_refuse_11 rfl rfl ?_
  exact ⟨rfl, rfl⟩
theorem skw_s (q : Nat → Bool) (f p : Nat) : skw q (f + 1) p = if q p = true then skw q f (p + 1) else p := rfl
/-- the value of m figures -/
def wv (t : Nat → Nat) (b : Nat) : Nat → Int32
  | 0 => nI 0
  | m + 1 => wv t b m * nI 10 + (nI (t (b + m)) - nI 48)
theorem wv_f {t : Nat → Nat} {b : Nat} : ∀ m, m ≤ 2 → (∀ j, j < m → 48 ≤ t (b + j)) → wv t b m = nI (fv t b m) := by
  intro m
  induction m with
  | zero => intro _ _; rfl
  | succ m ih =>
    intro hm h
    simp only [wv, fv]
    rw [ih (by omega) (fun j hj => h j (by omega)), nI_sub (h m (by omega)), nI_mul, nI_add, if_pos (by omega), Nat.mul_comm]
set_option maxRecDepth 100000 in
theorem k_readNumber (hg : 64 ≤ g.1) (hT : TP g t n) (b : Nat) (hb : b < n) : sg_K MX4_readNumber [.ref 19] (rd g N lk f fp b ts b tv) (fun r h' => if skw (fgr t n) 201 b - b ≤ 2 then r = some (.int (bI true)) ∧ h' = rd g N lk f fp (skw (fgr t n) 201 b) 2 b (nI (fv t b (skw (fgr t n) 201 b - b))) else r = some (.int (bI false)) ∧ ∃ x z, h' = rd g N lk 1 b x 2 b z) := by
  have h5 := hT.2.2.2
  have h7 := hT.2.2.1
  generalize hE : skw (fgr t n) 201 b = E
  show sg_A MX4_readNumber 0 [some (.ref 19)] [] _ _
  refine at_ld (i := 0) dX4_readNumber_0 rfl rfl rfl ?_
  refine at_k (nI 2) dX4_readNumber_1 rfl (by decide) ?_
  refine at_put dX4_readNumber_2 fX4_77 ⟨_, _, rfl, Or.inl rfl, tyX4_ok 6 (by decide), fun _ => ⟨rfl, rfl⟩⟩ (rd_o hg) (by omega) (Nat.le_of_ble_eq_true rfl) (rd_u6 rfl) ?_
  refine at_ld (i := 0) dX4_readNumber_5 rfl rfl rfl ?_
  refine at_k (nI 0) dX4_readNumber_6 rfl (by decide) ?_
  refine at_put dX4_readNumber_7 fX4_80 ⟨_, _, rfl, Or.inl rfl, tyX4_ok 8 (by decide), fun _ => ⟨rfl, rfl⟩⟩ (rd_o hg) (by omega) (Nat.le_of_ble_eq_true rfl) (rd_u8 _) ?_
  have loop : ∀ fu p, b ≤ p → p ≤ n → n < p + fu → (∀ j, b ≤ j → j < p → fgr t n j = true) → E = skw (fgr t n) fu p → sg_A MX4_readNumber 10 [some (.ref 19)] [] (rd g N lk f fp p 2 b (wv t b (p - b))) (fun r h' => if E - b ≤ 2 then r = some (.int (bI true)) ∧ h' = rd g N lk f fp (E) 2 b (nI (fv t b (E - b))) else r = some (.int (bI false)) ∧ ∃ x z, h' = rd g N lk 1 b x 2 b z) := by
    intro fu
    induction fu with
    | zero => intro p h0 h1 h2; omega
    | succ fu ih =>
      intro p h0 hp hf hall he
      have fin : fgr t n p = false → sg_A MX4_readNumber 77 [some (.ref 19)] [] (rd g N lk f fp p 2 b (wv t b (p - b))) (fun r h' => if E - b ≤ 2 then r = some (.int (bI true)) ∧ h' = rd g N lk f fp (E) 2 b (nI (fv t b (E - b))) else r = some (.int (bI false)) ∧ ∃ x z, h' = rd g N lk 1 b x 2 b z) := by
        intro q
        rw [skw_s] at he
        rw [if_neg (by rw [q]; decide)] at he
        rw [he]
        refine at_ld (i := 0) dX4_readNumber_77 rfl rfl rfl ?_
        refine at_get dX4_readNumber_78 fX4_19 (rd_o hg) (by omega) rfl ?_
        refine at_ld (i := 0) dX4_readNumber_81 rfl rfl rfl ?_
        refine at_get dX4_readNumber_82 fX4_67 (rd_o hg) (by omega) rfl ?_
        refine at_bin dX4_readNumber_85 rfl ?_
        try dsimp only
        rw [nI_sub h0]
        refine at_k (nI 2) dX4_readNumber_86 rfl (by decide) ?_
        refine at_ile 102 dX4_readNumber_87 (by decide) (fun c => ?_) (fun c => ?_)
        · have c1 := (nI_leI (by omega) (by decide)).mp c
          refine at_k (nI 1) dX4_readNumber_102 rfl (by decide) ?_
          refine at_goto 107 dX4_readNumber_103 (by decide) ?_
          refine at_ret dX4_readNumber_107 rfl rfl ?_
          rw [if_pos c1, wv_f _ c1 (fun j hj => (of_decide_eq_true (hall (b + j) (by omega) (by omega))).2.1)]
          exact ⟨rfl, rfl⟩
        · have c1 : ¬ p - b ≤ 2 := fun q => c (nI_le q (by decide))
          refine at_ld (i := 0) dX4_readNumber_90 rfl rfl rfl ?_
          refine at_k (nI 1) dX4_readNumber_91 rfl (by decide) ?_
          refine at_ld (i := 0) dX4_readNumber_92 rfl rfl rfl ?_
          refine at_get dX4_readNumber_93 fX4_67 (rd_o hg) (by omega) rfl ?_
          refine at_wv [_, _] dX4_readNumber_96 mX4_refuse ⟨Nat.le_of_ble_eq_true rfl, Nat.le_of_ble_eq_true rfl⟩ lX4_70 iX4_refuse rfl rfl (rd_o hg) (by omega) rfl (Nat.le_of_ble_eq_true rfl) (Nat.le_of_ble_eq_true rfl) ⟨rfl, rfl⟩ (k_refuse hg 1 b) ⟨rfl, rfl⟩ ?_
          try dsimp only [Option.toList, List.cons_append, List.nil_append]
          refine at_zeq 106 dX4_readNumber_99 (by decide) (fun _ => ?_) (fun c => absurd (rfl) c)
          refine at_k (nI 0) dX4_readNumber_106 rfl (by decide) ?_
          refine at_ret dX4_readNumber_107 rfl rfl ?_
          rw [if_neg c1]
          exact ⟨rfl, p, _, rfl⟩
      refine at_ld (i := 0) dX4_readNumber_10 rfl rfl rfl ?_
      refine at_get dX4_readNumber_11 fX4_19 (rd_o hg) (by omega) rfl ?_
      refine at_ld (i := 0) dX4_readNumber_14 rfl rfl rfl ?_
      refine at_get dX4_readNumber_15 fX4_15 (rd_o hg) (by omega) rfl ?_
      refine at_get dX4_readNumber_18 fX4_32 (rd_T hT).1 (by omega) rfl ?_
      refine at_ige 77 dX4_readNumber_21 (by decide) (fun c => ?_) (fun c => ?_)
      · have c1 := (nI_leI (by omega) (by omega)).mp c
        exact fin (decide_eq_false (fun q => by omega))
      · have c1 : p < n := by
          rcases Nat.lt_or_ge p n with q | q
          · exact q
          · exact absurd (nI_le q (by omega)) c
        have kb := k_byteAt (rd_T (N := N) (lk := lk) (f := f) (fp := fp) (nx := p) (ts := 2) (tp := b) (tv := wv t b (p - b)) hT) p (by omega)
        rw [if_pos c1] at kb
        refine at_ld (i := 0) dX4_readNumber_24 rfl rfl rfl ?_
        refine at_get dX4_readNumber_25 fX4_15 (rd_o hg) (by omega) rfl ?_
        refine at_ld (i := 0) dX4_readNumber_28 rfl rfl rfl ?_
        refine at_get dX4_readNumber_29 fX4_19 (rd_o hg) (by omega) rfl ?_
        refine at_rv [_] dX4_readNumber_32 mX5_hasFigureAt ⟨Nat.le_of_ble_eq_true rfl, Nat.le_of_ble_eq_true rfl⟩ lX4_96 iX5_hasFigureAt rfl rfl (rd_T hT).1 (by omega) rfl (Nat.le_of_ble_eq_true rfl) (Nat.le_of_ble_eq_true rfl) ⟨rfl, rfl⟩ (k_hasFigureAt (rd_T hT) p (by omega)) ?_
        refine at_zeq 77 dX4_readNumber_35 (by decide) (fun c2 => ?_) (fun c2 => ?_)
        · exact fin ((bI_0 _).mp c2)
        · have c3 := bI_1 c2
          rw [skw_s] at he
          rw [if_pos c3] at he
          have ew : wv t b (p - b) * nI 10 + (nI (t p) - nI 48) = wv t b (p + 1 - b) := by
            rw [show p + 1 - b = p - b + 1 by omega]
            simp only [wv]
            rw [show b + (p - b) = p by omega]
          refine at_ld (i := 0) dX4_readNumber_38 rfl rfl rfl ?_
          refine at_ld (i := 0) dX4_readNumber_39 rfl rfl rfl ?_
          refine at_get dX4_readNumber_40 fX4_80 (rd_o hg) (by omega) rfl ?_
          refine at_k (nI 10) dX4_readNumber_43 rfl (by decide) ?_
          refine at_bin dX4_readNumber_45 rfl ?_
          refine at_ld (i := 0) dX4_readNumber_46 rfl rfl rfl ?_
          refine at_get dX4_readNumber_47 fX4_15 (rd_o hg) (by omega) rfl ?_
          refine at_ld (i := 0) dX4_readNumber_50 rfl rfl rfl ?_
          refine at_get dX4_readNumber_51 fX4_19 (rd_o hg) (by omega) rfl ?_
          refine at_rv [_] dX4_readNumber_54 mX5_byteAt ⟨Nat.le_of_ble_eq_true rfl, Nat.le_of_ble_eq_true rfl⟩ lX4_88 iX5_byteAt rfl rfl (rd_T hT).1 (by omega) rfl (Nat.le_of_ble_eq_true rfl) (Nat.le_of_ble_eq_true rfl) ⟨rfl, rfl⟩ (kb) ?_
          refine at_k (nI 48) dX4_readNumber_57 rfl (by decide) ?_
          refine at_bin dX4_readNumber_59 rfl ?_
          refine at_bin dX4_readNumber_60 rfl ?_
          try dsimp only
          rw [ew]
          refine at_put dX4_readNumber_61 fX4_80 ⟨_, _, rfl, Or.inl rfl, tyX4_ok 8 (by decide), fun _ => ⟨rfl, rfl⟩⟩ (rd_o hg) (by omega) (Nat.le_of_ble_eq_true rfl) (rd_u8 _) ?_
          refine at_ld (i := 0) dX4_readNumber_64 rfl rfl rfl ?_
          refine at_dup dX4_readNumber_65 rfl ?_
          refine at_get dX4_readNumber_66 fX4_19 (rd_o hg) (by omega) rfl ?_
          refine at_k (nI 1) dX4_readNumber_69 rfl (by decide) ?_
          refine at_bin dX4_readNumber_70 rfl ?_
          try dsimp only
          rw [nI_add]
          refine at_put dX4_readNumber_71 fX4_19 ⟨_, _, rfl, Or.inl rfl, tyX4_ok 5 (by decide), fun _ => ⟨rfl, rfl⟩⟩ (rd_o hg) (by omega) (Nat.le_of_ble_eq_true rfl) (rd_u5 rfl) ?_
          refine at_goto 10 dX4_readNumber_74 (by decide) ?_
          exact ih (p + 1) (by omega) (by omega) (by omega) (fun j h1 h2 => by
            rcases Nat.lt_or_ge j p with q | q
            · exact hall j h1 q
            · have : j = p := by omega
              rw [this]; exact c3) he
  have := loop 201 b (Nat.le_refl b) (by omega) (by omega) (fun j h1 h2 => by omega) hE.symm
  rw [Nat.sub_self] at this
  exact this
/-- a token's sort, as the class has it -/
def cS (t : Nat → Nat) (n p : Nat) : Nat := if tS t n p = 0 then 4 else tS t n p
set_option maxRecDepth 100000 in
theorem k_readToken (hg : 64 ≤ g.1) (hT : TP g t n) (p : Nat) (hp : p ≤ n) : sg_K MX4_readToken [.ref 19] (rd g N lk f fp p ts tp tv) (fun r h' => if tX t n p = true then r = some (.int (bI false)) ∧ ∃ x y z w, h' = rd g N lk 1 (tB t n p) x y z w else r = some (.int (bI true)) ∧ ∃ w, h' = rd g N lk f fp (tE t n p) (cS t n p) (tB t n p) w ∧ (tS t n p = 2 → w = nI (tV t n p))) := by
  have h5 := hT.2.2.2
  have h7 := hT.2.2.1
  have hB := tB_le (t := t) hp
  have kp := k_passBlanks (N := N) (lk := lk) (f := f) (fp := fp) (ts := ts) (tp := tp) (tv := tv) hg hT 201 p hp (by omega)
  rw [show skw (blk t n) 201 p = tB t n p from rfl] at kp
  generalize hb : tB t n p = b at hB kp
  show sg_A MX4_readToken 0 [some (.ref 19)] [] _ _
  refine at_ld (i := 0) dX4_readToken_0 rfl rfl rfl ?_
  refine at_wv [] dX4_readToken_1 mX4_passBlanks ⟨Nat.le_of_ble_eq_true rfl, Nat.le_of_ble_eq_true rfl⟩ lX4_29 iX4_passBlanks rfl rfl (rd_o hg) (by omega) rfl (Nat.le_of_ble_eq_true rfl) (Nat.le_of_ble_eq_true rfl) ⟨rfl, rfl⟩ (kp) ⟨rfl, rfl⟩ ?_
  try dsimp only [Option.toList, List.cons_append, List.nil_append]
  refine at_ld (i := 0) dX4_readToken_4 rfl rfl rfl ?_
  refine at_ld (i := 0) dX4_readToken_5 rfl rfl rfl ?_
  refine at_get dX4_readToken_6 fX4_19 (rd_o hg) (by omega) rfl ?_
  refine at_put dX4_readToken_9 fX4_67 ⟨_, _, rfl, Or.inl rfl, tyX4_ok 7 (by decide), fun _ => ⟨rfl, rfl⟩⟩ (rd_o hg) (by omega) (Nat.le_of_ble_eq_true rfl) (rd_u7 rfl) ?_
  refine at_ld (i := 0) dX4_readToken_12 rfl rfl rfl ?_
  refine at_get dX4_readToken_13 fX4_19 (rd_o hg) (by omega) rfl ?_
  refine at_ld (i := 0) dX4_readToken_16 rfl rfl rfl ?_
  refine at_get dX4_readToken_17 fX4_15 (rd_o hg) (by omega) rfl ?_
  refine at_get dX4_readToken_20 fX4_32 (rd_T hT).1 (by omega) rfl ?_
  refine at_ilt 33 dX4_readToken_23 (by decide) (fun c => ?_) (fun c => ?_)
  · have c1 := (nI_ltI (by omega) (by omega)).mp c
    refine at_ld (i := 0) dX4_readToken_33 rfl rfl rfl ?_
    refine at_get dX4_readToken_34 fX4_15 (rd_o hg) (by omega) rfl ?_
    refine at_ld (i := 0) dX4_readToken_37 rfl rfl rfl ?_
    refine at_get dX4_readToken_38 fX4_19 (rd_o hg) (by omega) rfl ?_
    refine at_rv [_] dX4_readToken_41 mX5_hasFigureAt ⟨Nat.le_of_ble_eq_true rfl, Nat.le_of_ble_eq_true rfl⟩ lX4_96 iX5_hasFigureAt rfl rfl (rd_T hT).1 (by omega) rfl (Nat.le_of_ble_eq_true rfl) (Nat.le_of_ble_eq_true rfl) ⟨rfl, rfl⟩ (k_hasFigureAt (rd_T hT) b (by omega)) ?_
    refine at_zeq 52 dX4_readToken_44 (by decide) (fun c2 => ?_) (fun c2 => ?_)
    · have c3 : fgr t n b = false := (bI_0 _).mp c2
      refine at_ld (i := 0) dX4_readToken_52 rfl rfl rfl ?_
      refine at_get dX4_readToken_53 fX4_15 (rd_o hg) (by omega) rfl ?_
      refine at_ld (i := 0) dX4_readToken_56 rfl rfl rfl ?_
      refine at_get dX4_readToken_57 fX4_19 (rd_o hg) (by omega) rfl ?_
      refine at_rv [_] dX4_readToken_60 mX5_hasLetterAt ⟨Nat.le_of_ble_eq_true rfl, Nat.le_of_ble_eq_true rfl⟩ lX4_103 iX5_hasLetterAt rfl rfl (rd_T hT).1 (by omega) rfl (Nat.le_of_ble_eq_true rfl) (Nat.le_of_ble_eq_true rfl) ⟨rfl, rfl⟩ (k_hasLetterAt (rd_T hT) b (by omega)) ?_
      refine at_zeq 114 dX4_readToken_63 (by decide) (fun c4 => ?_) (fun c4 => ?_)
      · have c5 : ltr t n b = false := (bI_0 _).mp c4
        have eS : tS t n p = 3 := by unfold tS; rw [hb, if_neg (by omega), c5, c3]; rfl
        have eE : tE t n p = b + 1 := by unfold tE; rw [hb, if_neg (by omega), c5, c3]; rfl
        have kb := k_byteAt (rd_T (N := N) (lk := lk) (f := f) (fp := fp) (nx := b) (ts := ts) (tp := b) (tv := tv) hT) b (by omega)
        rw [if_pos c1] at kb
        have h7p := h7 b c1
        refine at_ld (i := 0) dX4_readToken_114 rfl rfl rfl ?_
        refine at_get dX4_readToken_115 fX4_15 (rd_o hg) (by omega) rfl ?_
        refine at_ld (i := 0) dX4_readToken_118 rfl rfl rfl ?_
        refine at_get dX4_readToken_119 fX4_19 (rd_o hg) (by omega) rfl ?_
        refine at_rv [_] dX4_readToken_122 mX5_byteAt ⟨Nat.le_of_ble_eq_true rfl, Nat.le_of_ble_eq_true rfl⟩ lX4_88 iX5_byteAt rfl rfl (rd_T hT).1 (by omega) rfl (Nat.le_of_ble_eq_true rfl) (Nat.le_of_ble_eq_true rfl) ⟨rfl, rfl⟩ (kb) ?_
        refine at_k (nI 59) dX4_readToken_125 rfl (by decide) ?_
        refine at_ieq 140 dX4_readToken_127 (by decide) (fun c6 => ?_) (fun c6 => ?_)
        · have c7 : t b = 59 := (nI_eq32 (by omega) (by decide)).mp c6
          refine at_ld (i := 0) dX4_readToken_140 rfl rfl rfl ?_
          refine at_k (nI 3) dX4_readToken_141 rfl (by decide) ?_
          refine at_put dX4_readToken_142 fX4_77 ⟨_, _, rfl, Or.inl rfl, tyX4_ok 6 (by decide), fun _ => ⟨rfl, rfl⟩⟩ (rd_o hg) (by omega) (Nat.le_of_ble_eq_true rfl) (rd_u6 rfl) ?_
          refine at_ld (i := 0) dX4_readToken_145 rfl rfl rfl ?_
          refine at_dup dX4_readToken_146 rfl ?_
          refine at_get dX4_readToken_147 fX4_19 (rd_o hg) (by omega) rfl ?_
          refine at_k (nI 1) dX4_readToken_150 rfl (by decide) ?_
          refine at_bin dX4_readToken_151 rfl ?_
          try dsimp only
          rw [nI_add]
          refine at_put dX4_readToken_152 fX4_19 ⟨_, _, rfl, Or.inl rfl, tyX4_ok 5 (by decide), fun _ => ⟨rfl, rfl⟩⟩ (rd_o hg) (by omega) (Nat.le_of_ble_eq_true rfl) (rd_u5 rfl) ?_
          refine at_k (nI 1) dX4_readToken_155 rfl (by decide) ?_
          refine at_ret dX4_readToken_156 rfl rfl ?_
          rw [if_neg (show ¬ tX t n p = true by unfold tX; rw [hb, c7, eS]; intro q; have := of_decide_eq_true q; omega)]
          refine ⟨rfl, tv, ?_, fun q => by rw [eS] at q; cases q⟩
          unfold cS
          rw [eS, eE]
          rfl
        · have c7 : t b ≠ 59 := fun q => c6 (by rw [q])
          refine at_ld (i := 0) dX4_readToken_130 rfl rfl rfl ?_
          refine at_k (nI 1) dX4_readToken_131 rfl (by decide) ?_
          refine at_ld (i := 0) dX4_readToken_132 rfl rfl rfl ?_
          refine at_get dX4_readToken_133 fX4_67 (rd_o hg) (by omega) rfl ?_
          refine at_wv [_, _] dX4_readToken_136 mX4_refuse ⟨Nat.le_of_ble_eq_true rfl, Nat.le_of_ble_eq_true rfl⟩ lX4_70 iX4_refuse rfl rfl (rd_o hg) (by omega) rfl (Nat.le_of_ble_eq_true rfl) (Nat.le_of_ble_eq_true rfl) ⟨rfl, rfl⟩ (k_refuse hg 1 b) ⟨rfl, rfl⟩ ?_
          try dsimp only [Option.toList, List.cons_append, List.nil_append]
          refine at_ret dX4_readToken_139 rfl rfl ?_
          rw [if_pos (show tX t n p = true from decide_eq_true (Or.inr ⟨eS, by rw [hb]; exact c7⟩))]
          exact ⟨rfl, _, _, _, _, rfl⟩
      · have c5 := bI_1 c4
        have eS : tS t n p = 1 := by unfold tS; rw [hb, if_neg (by omega), if_pos c5]
        have eE : tE t n p = skw (ltr t n) 201 b := by unfold tE; rw [hb, if_neg (by omega), if_pos c5]
        have eX : ¬ tX t n p = true := by unfold tX; rw [eS]; intro q; have := of_decide_eq_true q; omega
        refine at_ld (i := 0) dX4_readToken_66 rfl rfl rfl ?_
        refine at_k (nI 1) dX4_readToken_67 rfl (by decide) ?_
        refine at_put dX4_readToken_68 fX4_77 ⟨_, _, rfl, Or.inl rfl, tyX4_ok 6 (by decide), fun _ => ⟨rfl, rfl⟩⟩ (rd_o hg) (by omega) (Nat.le_of_ble_eq_true rfl) (rd_u6 rfl) ?_
        have eC : cS t n p = 1 := by unfold cS; rw [eS]; rfl
        simp only [if_neg eX, eE, eC]
        generalize hE : skw (ltr t n) 201 b = E
        have loop : ∀ fu q, q ≤ n → n < q + fu → E = skw (ltr t n) fu q → sg_A MX4_readToken 71 [some (.ref 19)] [] (rd g N lk f fp q 1 b tv) (fun r h' => r = some (.int (bI true)) ∧ ∃ w, h' = rd g N lk f fp (E) 1 b w ∧ (tS t n p = 2 → w = nI (tV t n p))) := by
          intro fu
          induction fu with
          | zero => intro q h1 h2; omega
          | succ fu ih =>
            intro q hq hf he
            rw [skw_s] at he
            have fin : ltr t n q = false → sg_A MX4_readToken 112 [some (.ref 19)] [] (rd g N lk f fp q 1 b tv) (fun r h' => r = some (.int (bI true)) ∧ ∃ w, h' = rd g N lk f fp (E) 1 b w ∧ (tS t n p = 2 → w = nI (tV t n p))) := by
              intro z
              rw [if_neg (by rw [z]; decide)] at he
              rw [he]
              refine at_k (nI 1) dX4_readToken_112 rfl (by decide) ?_
              refine at_ret dX4_readToken_113 rfl rfl ?_
              exact ⟨rfl, tv, rfl, fun z => by rw [eS] at z; cases z⟩
            refine at_ld (i := 0) dX4_readToken_71 rfl rfl rfl ?_
            refine at_get dX4_readToken_72 fX4_19 (rd_o hg) (by omega) rfl ?_
            refine at_ld (i := 0) dX4_readToken_75 rfl rfl rfl ?_
            refine at_get dX4_readToken_76 fX4_15 (rd_o hg) (by omega) rfl ?_
            refine at_get dX4_readToken_79 fX4_32 (rd_T hT).1 (by omega) rfl ?_
            refine at_ige 112 dX4_readToken_82 (by decide) (fun d1 => ?_) (fun d1 => ?_)
            · have d2 := (nI_leI (by omega) (by omega)).mp d1
              exact fin (decide_eq_false (fun q => by omega))
            · have d2 : q < n := by
                rcases Nat.lt_or_ge q n with z | z
                · exact z
                · exact absurd (nI_le z (by omega)) d1
              refine at_ld (i := 0) dX4_readToken_85 rfl rfl rfl ?_
              refine at_get dX4_readToken_86 fX4_15 (rd_o hg) (by omega) rfl ?_
              refine at_ld (i := 0) dX4_readToken_89 rfl rfl rfl ?_
              refine at_get dX4_readToken_90 fX4_19 (rd_o hg) (by omega) rfl ?_
              refine at_rv [_] dX4_readToken_93 mX5_hasLetterAt ⟨Nat.le_of_ble_eq_true rfl, Nat.le_of_ble_eq_true rfl⟩ lX4_103 iX5_hasLetterAt rfl rfl (rd_T hT).1 (by omega) rfl (Nat.le_of_ble_eq_true rfl) (Nat.le_of_ble_eq_true rfl) ⟨rfl, rfl⟩ (k_hasLetterAt (rd_T hT) q (by omega)) ?_
              refine at_zeq 112 dX4_readToken_96 (by decide) (fun d3 => ?_) (fun d3 => ?_)
              · exact fin ((bI_0 _).mp d3)
              · have d4 := bI_1 d3
                rw [if_pos d4] at he
                refine at_ld (i := 0) dX4_readToken_99 rfl rfl rfl ?_
                refine at_dup dX4_readToken_100 rfl ?_
                refine at_get dX4_readToken_101 fX4_19 (rd_o hg) (by omega) rfl ?_
                refine at_k (nI 1) dX4_readToken_104 rfl (by decide) ?_
                refine at_bin dX4_readToken_105 rfl ?_
                try dsimp only
                rw [nI_add]
                refine at_put dX4_readToken_106 fX4_19 ⟨_, _, rfl, Or.inl rfl, tyX4_ok 5 (by decide), fun _ => ⟨rfl, rfl⟩⟩ (rd_o hg) (by omega) (Nat.le_of_ble_eq_true rfl) (rd_u5 rfl) ?_
                refine at_goto 71 dX4_readToken_109 (by decide) ?_
                exact ih (q + 1) (by omega) (by omega) he
        exact loop 201 b (by omega) (by omega) hE.symm
    · have c3 := bI_1 c2
      have c3' := of_decide_eq_true c3
      have c5 : ltr t n b = false := decide_eq_false (fun q => by omega)
      have eS : tS t n p = 2 := by unfold tS; rw [hb, if_neg (by omega), c5, if_neg (by decide), if_pos c3]
      have eE : tE t n p = skw (fgr t n) 201 b := by unfold tE; rw [hb, if_neg (by omega), c5, if_neg (by decide), if_pos c3]
      have eX : tX t n p = decide (2 < skw (fgr t n) 201 b - b) := by
        unfold tX
        rw [eS, eE, hb]
        congr 1
        exact propext ⟨fun q => by omega, fun q => Or.inl ⟨rfl, q⟩⟩
      have eV : tV t n p = fv t b (skw (fgr t n) 201 b - b) := by unfold tV; rw [hb, eE]
      refine at_ld (i := 0) dX4_readToken_47 rfl rfl rfl ?_
      refine at_cv [] dX4_readToken_48 mX4_readNumber ⟨Nat.le_of_ble_eq_true rfl, Nat.le_of_ble_eq_true rfl⟩ lX4_100 iX4_readNumber rfl rfl (rd_o hg) (by omega) rfl (Nat.le_of_ble_eq_true rfl) (Nat.le_of_ble_eq_true rfl) (k_readNumber hg hT b c1) ?_ ?_
      · intro r h1 hq
        split at hq
        · rw [hq.2]; exact ⟨rfl, rfl⟩
        · obtain ⟨-, x, z, rfl⟩ := hq; exact ⟨rfl, rfl⟩
      · intro r h1 hq
        rw [eX, eV, eE]
        have eC : cS t n p = 2 := by unfold cS; rw [eS]; rfl
        rw [eC]
        split at hq
        · next z =>
          obtain ⟨rfl, rfl⟩ := hq
          try dsimp only [Option.toList, List.cons_append, List.nil_append]
          refine at_ret dX4_readToken_51 rfl rfl ?_
          rw [if_neg (show ¬ decide (2 < skw (fgr t n) 201 b - b) = true by rw [decide_eq_false (by omega)]; decide)]
          exact ⟨rfl, _, rfl, fun _ => rfl⟩
        · next z =>
          obtain ⟨rfl, x, y, rfl⟩ := hq
          try dsimp only [Option.toList, List.cons_append, List.nil_append]
          refine at_ret dX4_readToken_51 rfl rfl ?_
          rw [if_pos (decide_eq_true (by omega))]
          exact ⟨rfl, _, _, _, _, rfl⟩
  · have c1 : n ≤ b := by
      rcases Nat.lt_or_ge b n with q | q
      · exact absurd (nI_lt q (by omega)) c
      · exact q
    have eS : tS t n p = 0 := by unfold tS; rw [hb, if_pos c1]
    have eE : tE t n p = b := by unfold tE; rw [hb, if_pos c1]
    refine at_ld (i := 0) dX4_readToken_26 rfl rfl rfl ?_
    refine at_k (nI 4) dX4_readToken_27 rfl (by decide) ?_
    refine at_put dX4_readToken_28 fX4_77 ⟨_, _, rfl, Or.inl rfl, tyX4_ok 6 (by decide), fun _ => ⟨rfl, rfl⟩⟩ (rd_o hg) (by omega) (Nat.le_of_ble_eq_true rfl) (rd_u6 rfl) ?_
    refine at_k (nI 1) dX4_readToken_31 rfl (by decide) ?_
    refine at_ret dX4_readToken_32 rfl rfl ?_
    rw [if_neg (show ¬ tX t n p = true by unfold tX; rw [eS]; intro q; have := of_decide_eq_true q; omega)]
    refine ⟨rfl, tv, ?_, fun q => by rw [eS] at q; cases q⟩
    unfold cS
    rw [eS, eE]
    rfl
end C19
