/-! THE CLASS: the reader's words, numbers, lines -/
def wq (t : Nat → Nat) (n p k0 : Nat) : Prop := tS t n p = 1 ∧ tE t n p - tB t n p = (sg_tx k0).length ∧ ∀ j, j < (sg_tx k0).length → nI (t (tB t n p + j)) = (sg_tx k0).getD j 0
section C20a
variable {t : Nat → Nat} {n p : Nat}
theorem byt_w (hp : p ≤ n) {j : Nat} (hj : j < tE t n p - tB t n p) : byt t n (tB t n p + j) = nI (t (tB t n p + j)) := by
  have := tE_le (t := t) hp
  unfold byt
  rw [if_pos (by omega)]
theorem wq_0 (hp : p ≤ n) : wdS t n p = some 0 ↔ wq t n p 1010 := by
  unfold wdS lnw wq isw
  dsimp only
  simp only [decide_eq_true_eq]
  constructor
  · intro h
    split at h
    · next q =>
      obtain ⟨⟨h1, h2, q0, q1, q2⟩, ⟨-, -, q3, q4, q5⟩⟩ := q
      rw [show tB t n p + 0 = tB t n p + 0 from rfl, byt_w hp (by omega)] at q0
      rw [Nat.add_assoc, byt_w hp (by omega)] at q1
      rw [Nat.add_assoc, byt_w hp (by omega)] at q2
      rw [byt_w hp (by omega)] at q3
      rw [Nat.add_assoc, byt_w hp (by omega)] at q4
      rw [Nat.add_assoc, byt_w hp (by omega)] at q5
      refine ⟨h1, h2, fun j hj => ?_⟩
      rcases (show j = 0 ∨ j = 1 ∨ j = 2 ∨ j = 3 ∨ j = 4 ∨ j = 5 by have : j < 6 := hj; omega) with rfl | rfl | rfl | rfl | rfl | rfl
      · exact q0
      · exact q1
      · exact q2
      · exact q3
      · exact q4
      · exact q5
    · split at h
      · cases h
      · split at h <;> cases h
  · rintro ⟨h1, h2, h3⟩
    have h2' : tE t n p - tB t n p = 6 := h2
    have b : ∀ j, j < 6 → byt t n (tB t n p + j) = (sg_tx 1010).getD j 0 := fun j hj => by rw [byt_w hp (by omega)]; exact h3 j hj
    rw [if_pos]
    exact ⟨⟨h1, h2, b 0 (by decide), b 1 (by decide), b 2 (by decide)⟩, h1, h2, b 3 (by decide), b 4 (by decide), b 5 (by decide)⟩
theorem wq_1 (hp : p ≤ n) : wdS t n p = some 1 ↔ wq t n p 1011 := by
  unfold wdS lnw wq isw
  dsimp only
  simp only [decide_eq_true_eq]
  constructor
  · intro h
    split at h
    · cases h
    · split at h
      · next q =>
        obtain ⟨h1, h2, q0, q1, q2⟩ := q
        rw [byt_w hp (by omega)] at q0
        rw [Nat.add_assoc, byt_w hp (by omega)] at q1
        rw [Nat.add_assoc, byt_w hp (by omega)] at q2
        refine ⟨h1, h2, fun j hj => ?_⟩
        rcases (show j = 0 ∨ j = 1 ∨ j = 2 by have : j < 3 := hj; omega) with rfl | rfl | rfl
        · exact q0
        · exact q1
        · exact q2
      · split at h <;> cases h
  · rintro ⟨h1, h2, h3⟩
    have h2' : tE t n p - tB t n p = 3 := h2
    have b : ∀ j, j < 3 → byt t n (tB t n p + j) = (sg_tx 1011).getD j 0 := fun j hj => by rw [byt_w hp (by omega)]; exact h3 j hj
    rw [if_neg (fun q => by have := q.1.2.1; omega), if_pos]
    exact ⟨h1, h2, b 0 (by decide), b 1 (by decide), b 2 (by decide)⟩
theorem wq_2 (hp : p ≤ n) : wdS t n p = some 2 ↔ wq t n p 1012 := by
  unfold wdS lnw wq isw
  dsimp only
  simp only [decide_eq_true_eq]
  constructor
  · intro h
    split at h
    · cases h
    · split at h
      · cases h
      · split at h
        · next q =>
          obtain ⟨⟨h1, h2, q0, q1, q2⟩, ⟨-, -, -, -, q3⟩⟩ := q
          rw [byt_w hp (by omega)] at q0
          rw [Nat.add_assoc, byt_w hp (by omega)] at q1
          rw [Nat.add_assoc, byt_w hp (by omega)] at q2
          rw [Nat.add_assoc, byt_w hp (by omega)] at q3
          refine ⟨h1, h2, fun j hj => ?_⟩
          rcases (show j = 0 ∨ j = 1 ∨ j = 2 ∨ j = 3 by have : j < 4 := hj; omega) with rfl | rfl | rfl | rfl
          · exact q0
          · exact q1
          · exact q2
          · exact q3
        · cases h
  · rintro ⟨h1, h2, h3⟩
    have h2' : tE t n p - tB t n p = 4 := h2
    have b : ∀ j, j < 4 → byt t n (tB t n p + j) = (sg_tx 1012).getD j 0 := fun j hj => by rw [byt_w hp (by omega)]; exact h3 j hj
    rw [if_neg (fun q => by have := q.1.2.1; omega), if_neg (fun q => by have := q.2.1; omega), if_pos]
    exact ⟨⟨h1, h2, b 0 (by decide), b 1 (by decide), b 2 (by decide)⟩, h1, h2, b 1 (by decide), b 2 (by decide), b 3 (by decide)⟩
end C20a
section C20
variable {g : sg_H} {N : Nat → Int32} {lk f fp nx ts tp : Nat} {tv : Int32} {t : Nat → Nat} {n : Nat}
set_option maxRecDepth 100000 in
theorem k_isWord (hg : 64 ≤ g.1) (hT : TP g t n) (p : Nat) (hp : p ≤ n) (k0 : Nat) (hk : k0 = 1010 ∨ k0 = 1011 ∨ k0 = 1012) (B : Bool) (hB : B = true ↔ wq t n p k0) : sg_Kr MX4_isWord [.ref 19, .ref k0] (rd g N lk f fp (tE t n p) (cS t n p) (tB t n p) tv) (.int (bI B)) := by
  have h5 := hT.2.2.2
  have hE := tE_le (t := t) hp
  have hBE := tBE (t := t) (n := n) (p := p)
  have hS4 : cS t n p ≤ 4 ∧ (cS t n p = 1 ↔ tS t n p = 1) := by
    have : tS t n p ≤ 3 := by unfold tS; split <;> try split <;> try split
                              all_goals omega
    unfold cS
    split <;> omega
  have hln : (sg_tx k0).length < 10 := by rcases hk with rfl | rfl | rfl <;> decide
  show sg_A MX4_isWord 0 [some (.ref 19), some (.ref k0), none] [] _ _
  have no : ¬ wq t n p k0 → sg_A MX4_isWord 24 [some (.ref 19), some (.ref k0), none] [] (rd g N lk f fp (tE t n p) (cS t n p) (tB t n p) tv) (fun r h' => r = some (.int (bI B)) ∧ h' = (rd g N lk f fp (tE t n p) (cS t n p) (tB t n p) tv)) := by
    intro q
    refine at_k (nI 0) dX4_isWord_24 rfl (by decide) ?_
    refine at_ret dX4_isWord_25 rfl rfl ?_
    rw [Bool.eq_false_iff.mpr (fun z => q (hB.mp z))]
    exact ⟨rfl, rfl⟩
  refine at_ld (i := 0) dX4_isWord_0 rfl rfl rfl ?_
  refine at_get dX4_isWord_1 fX4_77 (rd_o hg) (by omega) rfl ?_
  refine at_k (nI 1) dX4_isWord_4 rfl (by decide) ?_
  refine at_ine 24 dX4_isWord_5 (by decide) (fun c => ?_) (fun c => ?_)
  · exact no (fun q => c (by rw [hS4.2.mpr q.1]))
  · have c1 : tS t n p = 1 := hS4.2.mp ((nI_eq32 (by omega) (by decide)).mp (Classical.not_not.mp c))
    refine at_ld (i := 0) dX4_isWord_8 rfl rfl rfl ?_
    refine at_get dX4_isWord_9 fX4_19 (rd_o hg) (by omega) rfl ?_
    refine at_ld (i := 0) dX4_isWord_12 rfl rfl rfl ?_
    refine at_get dX4_isWord_13 fX4_67 (rd_o hg) (by omega) rfl ?_
    refine at_bin dX4_isWord_16 rfl ?_
    try dsimp only
    rw [nI_sub hBE]
    refine at_ld (i := 1) dX4_isWord_17 rfl rfl rfl ?_
    refine at_slen dX4_isWord_18 aX4_83 hk (Nat.le_of_ble_eq_true rfl) ⟨Nat.le_of_ble_eq_true rfl, Nat.le_of_ble_eq_true rfl⟩ ?_
    refine at_ieq 26 dX4_isWord_21 (by decide) (fun c2 => ?_) (fun c2 => no (fun q => c2 (by rw [q.2.1])))
    have c3 : tE t n p - tB t n p = (sg_tx k0).length := (nI_eq32 (by omega) (by omega)).mp c2
    refine at_k (nI 0) dX4_isWord_26 rfl (by decide) ?_
    refine at_st (i := 2) dX4_isWord_27 rfl rfl (Nat.le_of_ble_eq_true rfl) rfl ?_
    try dsimp only [List.set_cons_succ, List.set_cons_zero]
    have loop : ∀ m k, k + m = (sg_tx k0).length → (∀ j, j < k → nI (t (tB t n p + j)) = (sg_tx k0).getD j 0) → sg_A MX4_isWord 28 [some (.ref 19), some (.ref k0), some (.int (nI k))] [] (rd g N lk f fp (tE t n p) (cS t n p) (tB t n p) tv) (fun r h' => r = some (.int (bI B)) ∧ h' = (rd g N lk f fp (tE t n p) (cS t n p) (tB t n p) tv)) := by
      intro m
      induction m with
      | zero =>
        intro k hkm hall
        refine at_ld (i := 2) dX4_isWord_28 rfl rfl rfl ?_
        refine at_ld (i := 1) dX4_isWord_29 rfl rfl rfl ?_
        refine at_slen dX4_isWord_30 aX4_83 hk (Nat.le_of_ble_eq_true rfl) ⟨Nat.le_of_ble_eq_true rfl, Nat.le_of_ble_eq_true rfl⟩ ?_
        refine at_ige 65 dX4_isWord_33 (by decide) (fun _ => ?_) (fun cz_ => absurd (nI_le (by omega) (by omega)) cz_)
        refine at_k (nI 1) dX4_isWord_65 rfl (by decide) ?_
        refine at_ret dX4_isWord_66 rfl rfl ?_
        rw [hB.mpr ⟨c1, c3, fun j hj => hall j (by omega)⟩]
        exact ⟨rfl, rfl⟩
      | succ m ih =>
        intro k hkm hall
        have kb := k_byteAt (rd_T (N := N) (lk := lk) (f := f) (fp := fp) (nx := tE t n p) (ts := cS t n p) (tp := tB t n p) (tv := tv) hT) (tB t n p + k) (by omega)
        rw [if_pos (by omega)] at kb
        refine at_ld (i := 2) dX4_isWord_28 rfl rfl rfl ?_
        refine at_ld (i := 1) dX4_isWord_29 rfl rfl rfl ?_
        refine at_slen dX4_isWord_30 aX4_83 hk (Nat.le_of_ble_eq_true rfl) ⟨Nat.le_of_ble_eq_true rfl, Nat.le_of_ble_eq_true rfl⟩ ?_
        refine at_ige 65 dX4_isWord_33 (by decide) (fun cz_ => absurd cz_ (nI_ge (by omega) (by omega))) (fun _ => ?_)
        refine at_ld (i := 0) dX4_isWord_36 rfl rfl rfl ?_
        refine at_get dX4_isWord_37 fX4_15 (rd_o hg) (by omega) rfl ?_
        refine at_ld (i := 0) dX4_isWord_40 rfl rfl rfl ?_
        refine at_get dX4_isWord_41 fX4_67 (rd_o hg) (by omega) rfl ?_
        refine at_ld (i := 2) dX4_isWord_44 rfl rfl rfl ?_
        refine at_bin dX4_isWord_45 rfl ?_
        try dsimp only
        rw [nI_add]
        refine at_rv [_] dX4_isWord_46 mX5_byteAt ⟨Nat.le_of_ble_eq_true rfl, Nat.le_of_ble_eq_true rfl⟩ lX4_88 iX5_byteAt rfl rfl (rd_T hT).1 (by omega) rfl (Nat.le_of_ble_eq_true rfl) (Nat.le_of_ble_eq_true rfl) ⟨rfl, rfl⟩ (kb) ?_
        refine at_ld (i := 1) dX4_isWord_49 rfl rfl rfl ?_
        refine at_ld (i := 2) dX4_isWord_50 rfl rfl rfl ?_
        refine at_schr k dX4_isWord_51 aX4_92 hk rfl (by omega) (Nat.le_of_ble_eq_true rfl) ⟨Nat.le_of_ble_eq_true rfl, Nat.le_of_ble_eq_true rfl⟩ ?_
        refine at_ieq 59 dX4_isWord_54 (by decide) (fun c4 => ?_) (fun c4 => ?_)
        · refine at_iinc (nI 1) dX4_isWord_59 rfl rfl (by decide) ?_
          try dsimp only [List.set_cons_succ, List.set_cons_zero]
          refine at_goto 28 dX4_isWord_62 (by decide) ?_
          rw [nI_add]
          refine ih (k + 1) (by omega) (fun j hj => ?_)
          rcases Nat.lt_or_ge j k with z | z
          · exact hall j z
          · rw [show j = k by omega]
            exact c4
        · refine at_k (nI 0) dX4_isWord_57 rfl (by decide) ?_
          refine at_ret dX4_isWord_58 rfl rfl ?_
          rw [Bool.eq_false_iff.mpr (fun z => c4 ((hB.mp z).2.2 k (by omega)))]
          exact ⟨rfl, rfl⟩
    exact loop _ 0 (Nat.zero_add _) (fun j hj => by omega)
set_option maxRecDepth 100000 in
theorem k_takeNumber (hg : 64 ≤ g.1) (hT : TP g t n) (p : Nat) (hp : p ≤ n) (sl lo hi : Nat) (hs : sl < 6) (hlo : lo < 1000) (hhi : hi < 1000) : sg_K MX4_takeNumber [.ref 19, .int (nI sl), .int (nI lo), .int (nI hi)] (rd g N lk f fp p ts tp tv) (fun r h' => match nmS t n lo hi p with | .inl q => r = some (.int (bI false)) ∧ ∃ x y z w, h' = rd g N lk q.1 q.2 x y z w | .inr a => r = some (.int (bI true)) ∧ ∃ y z w, h' = rd g (upd N sl (nI a.1)) lk f fp a.2 y z w) := by
  show sg_A MX4_takeNumber 0 [some (.ref 19), some (.int (nI sl)), some (.int (nI lo)), some (.int (nI hi))] [] _ _
  refine at_ld (i := 0) dX4_takeNumber_0 rfl rfl rfl ?_
  refine at_cv [] dX4_takeNumber_1 mX4_readToken ⟨Nat.le_of_ble_eq_true rfl, Nat.le_of_ble_eq_true rfl⟩ lX4_57 iX4_readToken rfl rfl (rd_o hg) (by omega) rfl (Nat.le_of_ble_eq_true rfl) (Nat.le_of_ble_eq_true rfl) (k_readToken hg hT p hp) ?_ ?_
  · intro r h1 hq
    split at hq
    · obtain ⟨-, x, y, z, w, rfl⟩ := hq; exact ⟨rfl, rfl⟩
    · obtain ⟨-, w, rfl, -⟩ := hq; exact ⟨rfl, rfl⟩
  · intro r h1 hq
    unfold nmS
    split at hq
    · next cx =>
      obtain ⟨rfl, x, y, z, w, rfl⟩ := hq
      try dsimp only [Option.toList, List.cons_append, List.nil_append]
      simp only [if_pos cx]
      refine at_zne 9 dX4_takeNumber_4 (by decide) (fun cz_ => absurd cz_ (fun q => q rfl)) (fun _ => ?_)
      refine at_k (nI 0) dX4_takeNumber_7 rfl (by decide) ?_
      refine at_ret dX4_takeNumber_8 rfl rfl ?_
      exact ⟨rfl, x, y, z, w, rfl⟩
    · next cx =>
      obtain ⟨rfl, w, rfl, hw⟩ := hq
      try dsimp only [Option.toList, List.cons_append, List.nil_append]
      simp only [if_neg cx]
      refine at_zne 9 dX4_takeNumber_4 (by decide) (fun _ => ?_) (fun cz_ => absurd (show ¬ bI true = 0 by decide) cz_)
      refine at_ld (i := 0) dX4_takeNumber_9 rfl rfl rfl ?_
      refine at_get dX4_takeNumber_10 fX4_77 (rd_o hg) (by omega) rfl ?_
      refine at_k (nI 2) dX4_takeNumber_13 rfl (by decide) ?_
      by_cases c : tS t n p = 2
      · have hv := tV_le c
        have ew := hw c
        subst ew
        refine at_ieq 27 dX4_takeNumber_14 (by decide) (fun _ => ?_) (fun cz_ => absurd (by unfold cS; rw [c]; rfl) cz_)
        simp only [if_pos c]
        have rf : ¬ (lo ≤ tV t n p ∧ tV t n p ≤ hi) → sg_A MX4_takeNumber 56 [some (.ref 19), some (.int (nI sl)), some (.int (nI lo)), some (.int (nI hi))] [] (rd g N lk f fp (tE t n p) (cS t n p) (tB t n p) (nI (tV t n p))) (fun r h' => match (if lo ≤ tV t n p ∧ tV t n p ≤ hi then Sum.inr (tV t n p, tE t n p) else Sum.inl (3, tB t n p) : (Nat × Nat) ⊕ (Nat × Nat)) with | .inl q => r = some (.int (bI false)) ∧ ∃ x y z w, h' = rd g N lk q.1 q.2 x y z w | .inr a => r = some (.int (bI true)) ∧ ∃ y z w, h' = rd g (upd N sl (nI a.1)) lk f fp a.2 y z w) := by
          intro q
          simp only [if_neg q]
          refine at_ld (i := 0) dX4_takeNumber_56 rfl rfl rfl ?_
          refine at_k (nI 3) dX4_takeNumber_57 rfl (by decide) ?_
          refine at_ld (i := 0) dX4_takeNumber_58 rfl rfl rfl ?_
          refine at_get dX4_takeNumber_59 fX4_67 (rd_o hg) (by omega) rfl ?_
          refine at_wv [_, _] dX4_takeNumber_62 mX4_refuse ⟨Nat.le_of_ble_eq_true rfl, Nat.le_of_ble_eq_true rfl⟩ lX4_70 iX4_refuse rfl rfl (rd_o hg) (by omega) rfl (Nat.le_of_ble_eq_true rfl) (Nat.le_of_ble_eq_true rfl) ⟨rfl, rfl⟩ (k_refuse hg 3 (tB t n p)) ⟨rfl, rfl⟩ ?_
          try dsimp only [Option.toList, List.cons_append, List.nil_append]
          refine at_ret dX4_takeNumber_65 rfl rfl ?_
          exact ⟨rfl, _, _, _, _, rfl⟩
        refine at_ld (i := 0) dX4_takeNumber_27 rfl rfl rfl ?_
        refine at_get dX4_takeNumber_28 fX4_80 (rd_o hg) (by omega) rfl ?_
        refine at_ld (i := 2) dX4_takeNumber_31 rfl rfl rfl ?_
        refine at_ilt 56 dX4_takeNumber_32 (by decide) (fun c2 => ?_) (fun c2 => ?_)
        · have := (nI_ltI (by omega) (by omega)).mp c2
          exact rf (fun q => by omega)
        · have c2' : ¬ tV t n p < lo := fun q => c2 (nI_lt q (by omega))
          refine at_ld (i := 0) dX4_takeNumber_35 rfl rfl rfl ?_
          refine at_get dX4_takeNumber_36 fX4_80 (rd_o hg) (by omega) rfl ?_
          refine at_ld (i := 3) dX4_takeNumber_39 rfl rfl rfl ?_
          refine at_igt 56 dX4_takeNumber_40 (by decide) (fun c3 => ?_) (fun c3 => ?_)
          · have := (nI_ltI (by omega) (by omega)).mp c3
            exact rf (fun q => by omega)
          · have c3' : ¬ hi < tV t n p := fun q => c3 (nI_lt q (by omega))
            simp only [if_pos (show lo ≤ tV t n p ∧ tV t n p ≤ hi by omega)]
            refine at_ld (i := 1) dX4_takeNumber_43 rfl rfl rfl ?_
            refine at_zlt 56 dX4_takeNumber_44 (by decide) (fun cz_ => absurd cz_ (nI_pos (by omega))) (fun _ => ?_)
            refine at_ld (i := 1) dX4_takeNumber_47 rfl rfl rfl ?_
            refine at_ld (i := 0) dX4_takeNumber_48 rfl rfl rfl ?_
            refine at_get dX4_takeNumber_49 fX4_9 (rd_o hg) (by omega) rfl ?_
            refine at_alen dX4_takeNumber_52 (rd_n hg) ?_
            refine at_ilt 66 dX4_takeNumber_53 (by decide) (fun _ => ?_) (fun cz_ => absurd (nI_lt hs (by decide)) cz_)
            refine at_ld (i := 0) dX4_takeNumber_66 rfl rfl rfl ?_
            refine at_get dX4_takeNumber_67 fX4_9 (rd_o hg) (by omega) rfl ?_
            refine at_ld (i := 1) dX4_takeNumber_70 rfl rfl rfl ?_
            refine at_ld (i := 0) dX4_takeNumber_71 rfl rfl rfl ?_
            refine at_get dX4_takeNumber_72 fX4_80 (rd_o hg) (by omega) rfl ?_
            refine at_ast sl dX4_takeNumber_75 (rd_n hg) (by decide) rfl hs (by decide) (rd_un _) ?_
            refine at_k (nI 1) dX4_takeNumber_76 rfl (by decide) ?_
            refine at_ret dX4_takeNumber_77 rfl rfl ?_
            exact ⟨rfl, _, _, _, rfl⟩
      · have hS3 : tS t n p ≤ 3 := by unfold tS; split <;> try split <;> try split
                                      all_goals omega
        refine at_ieq 27 dX4_takeNumber_14 (by decide) (fun cz_ => absurd cz_ (fun q => by unfold cS at q; split at q <;> have := (nI_eq32 (by omega) (by decide)).mp q <;> omega)) (fun _ => ?_)
        simp only [if_neg c]
        refine at_ld (i := 0) dX4_takeNumber_17 rfl rfl rfl ?_
        refine at_k (nI 2) dX4_takeNumber_18 rfl (by decide) ?_
        refine at_ld (i := 0) dX4_takeNumber_19 rfl rfl rfl ?_
        refine at_get dX4_takeNumber_20 fX4_67 (rd_o hg) (by omega) rfl ?_
        refine at_wv [_, _] dX4_takeNumber_23 mX4_refuse ⟨Nat.le_of_ble_eq_true rfl, Nat.le_of_ble_eq_true rfl⟩ lX4_70 iX4_refuse rfl rfl (rd_o hg) (by omega) rfl (Nat.le_of_ble_eq_true rfl) (Nat.le_of_ble_eq_true rfl) ⟨rfl, rfl⟩ (k_refuse hg 2 (tB t n p)) ⟨rfl, rfl⟩ ?_
        try dsimp only [Option.toList, List.cons_append, List.nil_append]
        refine at_ret dX4_takeNumber_26 rfl rfl ?_
        exact ⟨rfl, _, _, _, _, rfl⟩
set_option maxRecDepth 100000 in
theorem k_takeSign (hg : 64 ≤ g.1) (hT : TP g t n) (p : Nat) (hp : p ≤ n) : sg_K MX4_takeSign [.ref 19] (rd g N lk f fp p ts tp tv) (fun r h' => match sgS t n p with | .inl q => r = some (.int (bI false)) ∧ ∃ x y z w, h' = rd g N lk q.1 q.2 x y z w | .inr s => r = some (.int (bI true)) ∧ ∃ w, h' = rd g N lk f fp s.2 3 s.1 w) := by
  show sg_A MX4_takeSign 0 [some (.ref 19)] [] _ _
  refine at_ld (i := 0) dX4_takeSign_0 rfl rfl rfl ?_
  refine at_cv [] dX4_takeSign_1 mX4_readToken ⟨Nat.le_of_ble_eq_true rfl, Nat.le_of_ble_eq_true rfl⟩ lX4_57 iX4_readToken rfl rfl (rd_o hg) (by omega) rfl (Nat.le_of_ble_eq_true rfl) (Nat.le_of_ble_eq_true rfl) (k_readToken hg hT p hp) ?_ ?_
  · intro r h1 hq
    split at hq
    · obtain ⟨-, x, y, z, w, rfl⟩ := hq; exact ⟨rfl, rfl⟩
    · obtain ⟨-, w, rfl, -⟩ := hq; exact ⟨rfl, rfl⟩
  · intro r h1 hq
    unfold sgS
    split at hq
    · next cx =>
      obtain ⟨rfl, x, y, z, w, rfl⟩ := hq
      try dsimp only [Option.toList, List.cons_append, List.nil_append]
      simp only [if_pos cx]
      refine at_zeq 31 dX4_takeSign_4 (by decide) (fun _ => ?_) (fun cz_ => absurd (rfl) cz_)
      refine at_k (nI 0) dX4_takeSign_31 rfl (by decide) ?_
      refine at_ret dX4_takeSign_32 rfl rfl ?_
      exact ⟨rfl, x, y, z, w, rfl⟩
    · next cx =>
      obtain ⟨rfl, w, rfl, hw⟩ := hq
      try dsimp only [Option.toList, List.cons_append, List.nil_append]
      simp only [if_neg cx]
      refine at_zeq 31 dX4_takeSign_4 (by decide) (fun cz_ => absurd cz_ (show ¬ bI true = 0 by decide)) (fun _ => ?_)
      have hS3 : tS t n p ≤ 3 := by unfold tS; split <;> try split <;> try split
                                    all_goals omega
      refine at_ld (i := 0) dX4_takeSign_7 rfl rfl rfl ?_
      refine at_get dX4_takeSign_8 fX4_77 (rd_o hg) (by omega) rfl ?_
      refine at_k (nI 3) dX4_takeSign_11 rfl (by decide) ?_
      by_cases c : tS t n p = 3
      · have ec : cS t n p = 3 := by unfold cS; rw [c]; rfl
        rw [ec]
        refine at_ieq 27 dX4_takeSign_12 (by decide) (fun _ => ?_) (fun cz_ => absurd (rfl) cz_)
        simp only [if_pos c]
        refine at_k (nI 1) dX4_takeSign_27 rfl (by decide) ?_
        refine at_goto 32 dX4_takeSign_28 (by decide) ?_
        refine at_ret dX4_takeSign_32 rfl rfl ?_
        exact ⟨rfl, w, rfl⟩
      · refine at_ieq 27 dX4_takeSign_12 (by decide) (fun cz_ => absurd cz_ (fun q => by unfold cS at q; split at q <;> have := (nI_eq32 (by omega) (by decide)).mp q <;> omega)) (fun _ => ?_)
        simp only [if_neg c]
        refine at_ld (i := 0) dX4_takeSign_15 rfl rfl rfl ?_
        refine at_k (nI 2) dX4_takeSign_16 rfl (by decide) ?_
        refine at_ld (i := 0) dX4_takeSign_17 rfl rfl rfl ?_
        refine at_get dX4_takeSign_18 fX4_67 (rd_o hg) (by omega) rfl ?_
        refine at_wv [_, _] dX4_takeSign_21 mX4_refuse ⟨Nat.le_of_ble_eq_true rfl, Nat.le_of_ble_eq_true rfl⟩ lX4_70 iX4_refuse rfl rfl (rd_o hg) (by omega) rfl (Nat.le_of_ble_eq_true rfl) (Nat.le_of_ble_eq_true rfl) ⟨rfl, rfl⟩ (k_refuse hg 2 (tB t n p)) ⟨rfl, rfl⟩ ?_
        try dsimp only [Option.toList, List.cons_append, List.nil_append]
        refine at_zeq 31 dX4_takeSign_24 (by decide) (fun _ => ?_) (fun cz_ => absurd (rfl) cz_)
        refine at_k (nI 0) dX4_takeSign_31 rfl (by decide) ?_
        refine at_ret dX4_takeSign_32 rfl rfl ?_
        exact ⟨rfl, _, _, _, _, rfl⟩
set_option maxRecDepth 100000 in
theorem k_takeWord (hg : 64 ≤ g.1) (hT : TP g t n) (p : Nat) (hp : p ≤ n) : sg_K MX4_takeWord [.ref 19, .ref 1010] (rd g N lk f fp p ts tp tv) (fun r h' => if tX t n p = true then r = some (.int (bI false)) ∧ ∃ x y z w, h' = rd g N lk 1 (tB t n p) x y z w else if wdS t n p = some 0 then r = some (.int (bI true)) ∧ ∃ y z w, h' = rd g N lk f fp (tE t n p) y z w else r = some (.int (bI false)) ∧ ∃ x y z w, h' = rd g N lk 2 (tB t n p) x y z w) := by
  show sg_A MX4_takeWord 0 [some (.ref 19), some (.ref 1010)] [] _ _
  refine at_ld (i := 0) dX4_takeWord_0 rfl rfl rfl ?_
  refine at_cv [] dX4_takeWord_1 mX4_readToken ⟨Nat.le_of_ble_eq_true rfl, Nat.le_of_ble_eq_true rfl⟩ lX4_57 iX4_readToken rfl rfl (rd_o hg) (by omega) rfl (Nat.le_of_ble_eq_true rfl) (Nat.le_of_ble_eq_true rfl) (k_readToken hg hT p hp) ?_ ?_
  · intro r h1 hq
    split at hq
    · obtain ⟨-, x, y, z, w, rfl⟩ := hq; exact ⟨rfl, rfl⟩
    · obtain ⟨-, w, rfl, -⟩ := hq; exact ⟨rfl, rfl⟩
  · intro r h1 hq
    split at hq
    · next cx =>
      obtain ⟨rfl, x, y, z, w, rfl⟩ := hq
      try dsimp only [Option.toList, List.cons_append, List.nil_append]
      simp only [if_pos cx]
      refine at_zeq 31 dX4_takeWord_4 (by decide) (fun _ => ?_) (fun cz_ => absurd (rfl) cz_)
      refine at_k (nI 0) dX4_takeWord_31 rfl (by decide) ?_
      refine at_ret dX4_takeWord_32 rfl rfl ?_
      exact ⟨rfl, x, y, z, w, rfl⟩
    · next cx =>
      obtain ⟨rfl, w, rfl, hw⟩ := hq
      try dsimp only [Option.toList, List.cons_append, List.nil_append]
      simp only [if_neg cx]
      refine at_zeq 31 dX4_takeWord_4 (by decide) (fun cz_ => absurd cz_ (show ¬ bI true = 0 by decide)) (fun _ => ?_)
      by_cases c : wdS t n p = some 0
      · refine at_ld (i := 0) dX4_takeWord_7 rfl rfl rfl ?_
        refine at_ld (i := 1) dX4_takeWord_8 rfl rfl rfl ?_
        refine at_rv [_] dX4_takeWord_9 mX4_isWord ⟨Nat.le_of_ble_eq_true rfl, Nat.le_of_ble_eq_true rfl⟩ lX4_62 iX4_isWord rfl rfl (rd_o hg) (by omega) rfl (Nat.le_of_ble_eq_true rfl) (Nat.le_of_ble_eq_true rfl) ⟨rfl, rfl⟩ (k_isWord hg hT p hp 1010 (Or.inl rfl) true ⟨fun _ => (wq_0 hp).mp c, fun _ => rfl⟩) ?_
        refine at_zne 27 dX4_takeWord_12 (by decide) (fun _ => ?_) (fun cz_ => absurd (show ¬ bI true = 0 by decide) cz_)
        simp only [if_pos c]
        refine at_k (nI 1) dX4_takeWord_27 rfl (by decide) ?_
        refine at_goto 32 dX4_takeWord_28 (by decide) ?_
        refine at_ret dX4_takeWord_32 rfl rfl ?_
        exact ⟨rfl, _, _, w, rfl⟩
      · refine at_ld (i := 0) dX4_takeWord_7 rfl rfl rfl ?_
        refine at_ld (i := 1) dX4_takeWord_8 rfl rfl rfl ?_
        refine at_rv [_] dX4_takeWord_9 mX4_isWord ⟨Nat.le_of_ble_eq_true rfl, Nat.le_of_ble_eq_true rfl⟩ lX4_62 iX4_isWord rfl rfl (rd_o hg) (by omega) rfl (Nat.le_of_ble_eq_true rfl) (Nat.le_of_ble_eq_true rfl) ⟨rfl, rfl⟩ (k_isWord hg hT p hp 1010 (Or.inl rfl) false ⟨fun q => (by cases q), fun q => absurd ((wq_0 hp).mpr q) c⟩) ?_
        refine at_zne 27 dX4_takeWord_12 (by decide) (fun cz_ => absurd cz_ (fun q => q rfl)) (fun _ => ?_)
        simp only [if_neg c]
        refine at_ld (i := 0) dX4_takeWord_15 rfl rfl rfl ?_
        refine at_k (nI 2) dX4_takeWord_16 rfl (by decide) ?_
        refine at_ld (i := 0) dX4_takeWord_17 rfl rfl rfl ?_
        refine at_get dX4_takeWord_18 fX4_67 (rd_o hg) (by omega) rfl ?_
        refine at_wv [_, _] dX4_takeWord_21 mX4_refuse ⟨Nat.le_of_ble_eq_true rfl, Nat.le_of_ble_eq_true rfl⟩ lX4_70 iX4_refuse rfl rfl (rd_o hg) (by omega) rfl (Nat.le_of_ble_eq_true rfl) (Nat.le_of_ble_eq_true rfl) ⟨rfl, rfl⟩ (k_refuse hg 2 (tB t n p)) ⟨rfl, rfl⟩ ?_
        try dsimp only [Option.toList, List.cons_append, List.nil_append]
        refine at_zeq 31 dX4_takeWord_24 (by decide) (fun _ => ?_) (fun cz_ => absurd (rfl) cz_)
        refine at_k (nI 0) dX4_takeWord_31 rfl (by decide) ?_
        refine at_ret dX4_takeWord_32 rfl rfl ?_
        exact ⟨rfl, _, _, _, _, rfl⟩
set_option maxRecDepth 100000 in
theorem k_hasMore (hg : 64 ≤ g.1) (hT : TP g t n) (p : Nat) (hp : p ≤ n) : sg_Kw MX4_hasMore [.ref 19] (rd g N lk f fp p ts tp tv) (some (.int (bI (decide (tB t n p < n))))) (rd g N lk f fp (tB t n p) ts tp tv) := by
  have h5 := hT.2.2.2
  have hB := tB_le (t := t) hp
  have kp := k_passBlanks (N := N) (lk := lk) (f := f) (fp := fp) (ts := ts) (tp := tp) (tv := tv) hg hT 201 p hp (by omega)
  rw [show skw (blk t n) 201 p = tB t n p from rfl] at kp
  show sg_A MX4_hasMore 0 [some (.ref 19)] [] _ _
  refine at_ld (i := 0) dX4_hasMore_0 rfl rfl rfl ?_
  refine at_wv [] dX4_hasMore_1 mX4_passBlanks ⟨Nat.le_of_ble_eq_true rfl, Nat.le_of_ble_eq_true rfl⟩ lX4_29 iX4_passBlanks rfl rfl (rd_o hg) (by omega) rfl (Nat.le_of_ble_eq_true rfl) (Nat.le_of_ble_eq_true rfl) ⟨rfl, rfl⟩ (kp) ⟨rfl, rfl⟩ ?_
  try dsimp only [Option.toList, List.cons_append, List.nil_append]
  refine at_ld (i := 0) dX4_hasMore_4 rfl rfl rfl ?_
  refine at_get dX4_hasMore_5 fX4_19 (rd_o hg) (by omega) rfl ?_
  refine at_ld (i := 0) dX4_hasMore_8 rfl rfl rfl ?_
  refine at_get dX4_hasMore_9 fX4_15 (rd_o hg) (by omega) rfl ?_
  refine at_get dX4_hasMore_12 fX4_32 (rd_T hT).1 (by omega) rfl ?_
  refine at_ige 22 dX4_hasMore_15 (by decide) (fun c => ?_) (fun c => ?_)
  · have c1 := (nI_leI (by omega) (by omega)).mp c
    refine at_k (nI 0) dX4_hasMore_22 rfl (by decide) ?_
    refine at_ret dX4_hasMore_23 rfl rfl ?_
    exact ⟨by rw [decide_eq_false (by omega)]; rfl, rfl⟩
  · have c1 : tB t n p < n := by
      rcases Nat.lt_or_ge (tB t n p) n with z | z
      · exact z
      · exact absurd (nI_le z (by omega)) c
    refine at_k (nI 1) dX4_hasMore_18 rfl (by decide) ?_
    refine at_goto 23 dX4_hasMore_19 (by decide) ?_
    refine at_ret dX4_hasMore_23 rfl rfl ?_
    exact ⟨by rw [decide_eq_true c1]; rfl, rfl⟩
set_option maxRecDepth 100000 in
theorem k_rewind (hg : 64 ≤ g.1) : sg_Kw MX4_rewind [.ref 19] (rd g N lk f fp nx ts tp tv) none (rd g N lk 0 0 0 ts tp tv) := by
  show sg_A MX4_rewind 0 [some (.ref 19)] [] _ _
  refine at_ld (i := 0) dX4_rewind_0 rfl rfl rfl ?_
  refine at_k (nI 0) dX4_rewind_1 rfl (by decide) ?_
  refine at_put dX4_rewind_2 fX4_19 ⟨_, _, rfl, Or.inl rfl, tyX4_ok 5 (by decide), fun _ => ⟨rfl, rfl⟩⟩ (rd_o hg) (by omega) (Nat.le_of_ble_eq_true rfl) (rd_u5 rfl) ?_
  refine at_ld (i := 0) dX4_rewind_5 rfl rfl rfl ?_
  refine at_k (nI 0) dX4_rewind_6 rfl (by decide) ?_
  refine at_put dX4_rewind_7 fX4_23 ⟨_, _, rfl, Or.inl rfl, tyX4_ok 3 (by decide), fun _ => ⟨rfl, rfl⟩⟩ (rd_o hg) (by omega) (Nat.le_of_ble_eq_true rfl) (rd_u3 rfl) ?_
  refine at_ld (i := 0) dX4_rewind_10 rfl rfl rfl ?_
  refine at_k (nI 0) dX4_rewind_11 rfl (by decide) ?_
  refine at_put dX4_rewind_12 fX4_26 ⟨_, _, rfl, Or.inl rfl, tyX4_ok 4 (by decide), fun _ => ⟨rfl, rfl⟩⟩ (rd_o hg) (by omega) (Nat.le_of_ble_eq_true rfl) (rd_u4 rfl) ?_
  refine at_vret dX4_rewind_15 rfl ?_
  exact ⟨rfl, rfl⟩
set_option maxRecDepth 100000 in
theorem k_refuseLine (hg : 64 ≤ g.1) (c : Nat) : sg_Kw MX4_refuseLine [.ref 19, .int (nI c)] (rd g N lk f fp nx ts tp tv) (some (.int (bI false))) (rd g N lk c tp nx ts tp tv) := by
  show sg_A MX4_refuseLine 0 [some (.ref 19), some (.int (nI c))] [] _ _
  refine at_ld (i := 0) dX4_refuseLine_0 rfl rfl rfl ?_
  refine at_ld (i := 1) dX4_refuseLine_1 rfl rfl rfl ?_
  refine at_ld (i := 0) dX4_refuseLine_2 rfl rfl rfl ?_
  refine at_get dX4_refuseLine_3 fX4_67 (rd_o hg) (by omega) rfl ?_
  refine at_wv [_, _] dX4_refuseLine_6 mX4_refuse ⟨Nat.le_of_ble_eq_true rfl, Nat.le_of_ble_eq_true rfl⟩ lX4_70 iX4_refuse rfl rfl (rd_o hg) (by omega) rfl (Nat.le_of_ble_eq_true rfl) (Nat.le_of_ble_eq_true rfl) ⟨rfl, rfl⟩ (k_refuse hg c tp) ⟨rfl, rfl⟩ ?_
  try dsimp only [Option.toList, List.cons_append, List.nil_append]
  refine at_ret dX4_refuseLine_9 rfl rfl ?_
  exact ⟨rfl, rfl⟩
end C20
