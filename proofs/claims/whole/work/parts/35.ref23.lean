/-! THE REFERENCE: the text -/
section R23
variable {h : sg_H} (A : Nat → Nat → Int32) (F : Nat → Int32) (v : Nat → Nat) (t : Nat → Nat) (n : Nat)
theorem tkF_of (b s g wr : Nat) (e8 : F 8 = nI b) (e9 : F 9 = nI s) (e10 : F 10 = nI g) (e12 : F 12 = nI wr) : upd (upd (upd F 11 (nI 0)) 7 (nI 0)) 14 (nI 0) = tkF F 0 b s g 0 wr 0 := by
  funext k
  unfold tkF upd
  by_cases q14 : k = 14
  · rw [if_pos q14, if_neg (by omega), if_neg (by omega), if_neg (by omega), if_neg (by omega), if_neg (by omega), if_neg (by omega), if_pos q14]
  rw [if_neg q14]
  by_cases q7 : k = 7
  · rw [if_pos q7, if_pos q7]
  rw [if_neg q7, if_neg q7]
  by_cases q11 : k = 11
  · rw [if_pos q11, if_neg (by omega), if_neg (by omega), if_neg (by omega), if_pos q11]
  rw [if_neg q11]
  by_cases q8 : k = 8
  · rw [if_pos q8, q8, e8]
  rw [if_neg q8]
  by_cases q9 : k = 9
  · rw [if_pos q9, q9, e9]
  rw [if_neg q9]
  by_cases q10 : k = 10
  · rw [if_pos q10, q10, e10]
  rw [if_neg q10, if_neg q11]
  by_cases q12 : k = 12
  · rw [if_pos q12, q12, e12]
  rw [if_neg q12, if_neg q14]
/-- what the text answers, and what it leaves: the state, the fault -/
def s_text (t : Nat → Nat) (n : Nat) (v : Nat → Nat) : Int32 × (Nat → Nat) × Nat := match txS t n v with
  | .inl q => (-10 - nI q.2, v, q.1)
  | .inr v1 => (nI (nth (vf_upd (vf_upd v1 6 0) 7 0)), vf_upd (vf_upd v1 6 0) 7 0, 0)
/-- a loop's end: the fault, or the state -/
def enX (X : (Nat × Nat) ⊕ (Nat → Nat)) (v2 : Nat → Nat) (P2 : Ps) : Prop := match X with
  | .inl q => P2.2.2.2.2.1 = q.1 ∧ P2.2.2.2.2.2 = q.2 ∧ ¬ q.1 = 0
  | .inr v' => P2.2.2.2.2.1 = 0 ∧ v2 = v'
set_option maxRecDepth 100000 in
set_option maxHeartbeats 1000000 in
theorem c_textLoop (hn : 72 ≤ h.1) (ht : tpo A F t n) (X : (Nat × Nat) ⊕ (Nat → Nat)) (Q : Option Value → sg_H → Prop)
    (ex : ∀ (A2 : Nat → Nat → Int32) v2 P2 dm2, keT A A2 → sb v v2 → okP n P2 → enX X v2 P2 → (P2.2.2.2.2.1 = 0 → ivr v2) → sg_A MX8_text 55 [some (.ref 64)] [] (mp h A2 F v2 P2 dm2) Q) :
    ∀ f (A1 : Nat → Nat → Int32) v1 P1 p dm E, n < p + f → keT A A1 → ivr v1 → sb v v1 → okP n P1 → la t n p P1 → dm + 1 ≤ nth v1 → (∀ j, j < dm → A1 6 j = nI (E j) ∧ E j < v1 0 * v1 2) → p ≤ n → lpS t n f v1 p dm E = X → sg_A MX8_text 34 [some (.ref 64)] [] (mp h A1 F v1 P1 dm) Q := by
  intro f
  induction f with
  | zero => intro A1 v1 P1 p dm E hf _ _ _ _ _ _ _ hp; omega
  | succ f ih =>
    intro A1 v1 P1 p dm E hf hk w s1 hP hl hdm hE hp hX
    have hgi := wf_gi w.1.1
    have hnl := nth_le v1
    have ht1 : tpo A1 F t n := ⟨ht.1, ht.2.1, fun p hp => by rw [hk 5 (by omega)]; exact ht.2.2 p hp⟩
    unfold lpS at hX
    have hf5 := hP.2.2.2.2
    have hs3 := hP.2.2.1
    refine at_ld (i := 0) dX8_text_34 rfl rfl rfl ?_
    refine at_get dX8_text_35 fX8_49 (mt_o hn _ _ _ _ _ _ _ _ _ _) (by omega) rfl ?_
    refine at_zne 55 dX8_text_38 (by decide) (fun c => ?_) (fun c => ?_)
    · have c1 : ¬ P1.2.2.2.2.1 = 0 := fun z => c (by rw [z]; rfl)
      have x : tX t n p = true := by
        cases q : tX t n p
        · exact absurd (hl.2 q).1 c1
        · rfl
      rw [if_neg (tX_n x), lnS, if_pos x] at hX
      refine ex A1 v1 P1 dm hk s1 hP ?_ (fun z => absurd z c1)
      rw [← hX]
      exact ⟨(hl.1 x).1, (hl.1 x).2, Nat.succ_ne_zero _⟩
    · have c1 := (nI_eq32 (b := 0) (by omega) (by decide)).mp (Classical.not_not.mp c)
      have x : tX t n p = false := by
        cases q : tX t n p
        · rfl
        · have := (hl.1 q).1
          omega
      obtain ⟨-, l1, l2, l3, -⟩ := hl.2 x
      refine at_ld (i := 0) dX8_text_41 rfl rfl rfl ?_
      refine at_get dX8_text_42 fX8_58 (mt_o hn _ _ _ _ _ _ _ _ _ _) (by omega) rfl ?_
      refine at_zeq 55 dX8_text_45 (by decide) (fun c2 => ?_) (fun c2 => ?_)
      · have c3 : P1.2.2.1 = 0 := (nI_eq32 (b := 0) (by omega) (by decide)).mp c2
        rw [l3] at c3
        rw [if_pos (tS0.mp c3)] at hX
        refine ex A1 v1 P1 dm hk s1 hP ?_ (fun _ => w)
        rw [← hX]
        exact ⟨c1, rfl⟩
      · have c3 : ¬ P1.2.2.1 = 0 := fun z => c2 (by rw [z]; rfl)
        rw [l3] at c3
        rw [if_neg (fun z => c3 (tS0.mpr z))] at hX
        obtain ⟨o, eo⟩ : ∃ o, lnw t n P1 = o := ⟨_, rfl⟩
        obtain ⟨P0, e0⟩ : ∃ P0, rqP (decide (o = some 1 ∨ o = some 2)) 2 P1 = P0 := ⟨_, rfl⟩
        obtain ⟨PA, eA⟩ : ∃ PA, rdP t n P0 = PA := ⟨_, rfl⟩
        obtain ⟨R1, e1⟩ : ∃ R1, nmP t n 0 dm PA = R1 := ⟨_, rfl⟩
        obtain ⟨R2, e2⟩ : ∃ R2, nmP t n 0 9 R1.2 = R2 := ⟨_, rfl⟩
        obtain ⟨R3, e3⟩ : ∃ R3, (if o = some 2 ∧ R2.2.2.2.2.2.1 = 0 then nmP t n 0 40 R2.2 else (0, R2.2)) = R3 := ⟨_, rfl⟩
        obtain ⟨P7, e7⟩ : ∃ P7, stP R3.2 = P7 := ⟨_, rfl⟩
        have h0 : okP n P0 := by rw [← e0]; exact ok_rq hP _ (by decide)
        have hA : okP n PA := by rw [← eA]; exact ok_rd h0
        have h1 : okP n R1.2 := by rw [← e1]; exact ok_nm hA _ _
        have h2 : okP n R2.2 := by rw [← e2]; exact ok_nm h1 _ _
        have h3 : okP n R3.2 := by
          rw [← e3]
          split
          · exact ok_nm h2 _ _
          · exact h2
        have h7 : okP n P7 := by rw [← e7]; exact ok_rq h3 _ (by decide)
        have hll := la_line hl eo e0 eA e1 e2 e3 e7
        have hin : P7.2.2.2.2.1 = 0 → (o = some 1 ∧ R3.1 = 0 ∨ o = some 2) ∧ R1.1 ≤ dm ∧ R2.1 ≤ 9 ∧ R3.1 ≤ 40 := by
          intro z
          revert hll
          split
          · rintro ⟨a, -, b⟩; exact absurd (a.symm.trans z) b
          · rintro ⟨-, ⟨a, b⟩, ⟨c, c'⟩, ⟨d, d'⟩, ⟨e, e'⟩, -⟩
            refine ⟨?_, by omega, by omega, by omega⟩
            rcases b with b | b
            · exact Or.inl ⟨by rw [a, b.1], by omega⟩
            · exact Or.inr (by rw [a, b])
        refine at_ld (i := 0) dX8_text_48 rfl rfl rfl ?_
        refine at_cv [] dX8_text_49 mX8_readLine ⟨Nat.le_of_ble_eq_true rfl, Nat.le_of_ble_eq_true rfl⟩ lX8_124 iX8_readLine rfl rfl (mt_o hn _ _ _ _ _ _ _ _ _ _) (by omega) rfl (Nat.le_of_ble_eq_true rfl) (Nat.le_of_ble_eq_true rfl) (c_readLin A1 F v1 t n hn ht1 w E dm (by omega) hE P1 P0 PA P7 R1 R2 R3 hP o eo e0 eA e1 e2 e3 e7 h0 hA h1 h2 h3 h7 hin) ?_ ?_
        · rintro r h1 ⟨-, A', v', P', dm', rfl, -⟩
          exact ⟨rfl, rfl⟩
        · rintro r h1 ⟨rfl, A', v', P', dm', rfl, k', ok', sb', lr⟩
          try dsimp only [Option.toList, List.cons_append, List.nil_append]
          have hk' := keT_t hk k'
          have sb2 := sb_t s1 sb'
          -- a fault: the loop ends
          have stop : ∀ q : Nat × Nat, X = .inl q → P'.2.2.2.2.1 = q.1 → P'.2.2.2.2.2 = q.2 → ¬ q.1 = 0 → sg_A MX8_text 52 [some (.ref 64)] [] (mp h A' F v' P' dm') Q := by
            intro q eX q1 q2 q3
            have hf5 := ok'.2.2.2.2
            refine at_goto 34 dX8_text_52 (by decide) ?_
            refine at_ld (i := 0) dX8_text_34 rfl rfl rfl ?_
            refine at_get dX8_text_35 fX8_49 (mt_o hn _ _ _ _ _ _ _ _ _ _) (by omega) rfl ?_
            refine at_zne 55 dX8_text_38 (by decide) (fun c => ?_) (fun c => ?_)
            · refine ex A' v' P' dm' hk' sb2 ok' ?_ (fun z => absurd (q1.symm.trans z) q3)
              rw [eX]
              exact ⟨q1, q2, q3⟩
            · have c1 := (nI_eq32 (b := 0) (by omega) (by decide)).mp (Classical.not_not.mp c)
              exact absurd (q1.symm.trans c1) q3
          cases qs : lnS t n dm p with
          | inl q =>
            rw [qs] at hll hX
            obtain ⟨a, b, d⟩ := hll
            have := lr.1 (by rw [a]; exact d)
            rw [this] at stop ⊢
            exact stop q hX.symm a b d
          | inr z =>
            have adv := ln_adv qs
            rw [qs] at hll hX
            obtain ⟨k, a, b, cc, ww, p'⟩ := z
            dsimp only at hll hX adv
            obtain ⟨f0, ⟨ok1, hk1⟩, ⟨ra, ma⟩, ⟨rb, mb⟩, ⟨rc, mc⟩, rw_, rp⟩ := hll
            have lr2 := lr.2 f0 k ok1
            rw [ra, rb, rc] at lr2
            by_cases qi : (ino v1 (if a = 0 then 0 else E (a - 1)) b).isSome = true
            · rw [if_pos qi] at lr2 hX
              exact stop _ hX.symm lr2.1 (lr2.2.trans rw_) (Nat.succ_ne_zero _)
            · rw [if_neg qi] at lr2 hX
              have hd : (if a = 0 then 0 else E (a - 1)) < v1 0 * v1 2 := by
                split
                · omega
                · exact (hE _ (by omega)).2
              cases qc : cmS v1 (if a = 0 then 0 else E (a - 1)) b k cc with
              | none =>
                rw [qc] at lr2 hX
                exact stop _ hX.symm lr2.1 (lr2.2.trans rw_) (Nat.succ_ne_zero _)
              | some q =>
                rw [qc] at lr2 hX
                obtain ⟨rfl, rfl, rfl, hD⟩ := lr2
                obtain ⟨u1, u2, u3⟩ := cms_ok w (by omega) (by omega) (by omega) qc
                obtain ⟨u4, u5, u6, u7⟩ := cms_k w (by omega) (by omega) (by omega) qc
                have hP7n := h7.2.1
                refine at_goto 34 dX8_text_52 (by decide) ?_
                refine ih A' q.2 (rdP t n P7) p' _ _ (by omega) hk' u1 sb2 ok' ?_ ?_ ?_ (by omega) hX
                · rw [← rp]
                  exact la_rd f0
                · split <;> omega
                · intro j hj
                  rw [u4 0 (by decide), u4 2 (by decide), hD]
                  by_cases q1 : k = 1
                  · rw [if_pos q1] at hj
                    rw [if_pos q1, if_pos q1]
                    by_cases q2 : j = dm
                    · rw [q2, vu_s]
                      exact ⟨by simp [upd], u3⟩
                    · rw [vu_n _ _ _ _ q2]
                      have := hE j (by omega)
                      exact ⟨by rw [← this.1]; simp [upd, q2], this.2⟩
                  · rw [if_neg q1] at hj
                    rw [if_neg q1, if_neg q1]
                    exact hE j hj
theorem c_rvS (hn : 72 ≤ h.1) (ht : tpo A F t n) {p : Nat} {P : Ps} (hl : la t n p P) (hP : okP n P) (dm : Nat) : ∃ V P', sg_Kw MX8_readVolume [.ref 64] (mp h A F v P dm) none (mp h A F V P' dm) ∧ okP n P' ∧ match vlS t n p with
    | .inl q => V = v ∧ P'.2.2.2.2.1 = q.1 ∧ P'.2.2.2.2.2 = q.2 ∧ ¬ q.1 = 0
    | .inr z => V = an1 (v6 v z.1.1 z.1.2.1 z.1.2.2.1 z.1.2.2.2.1 z.1.2.2.2.2.1 z.1.2.2.2.2.2) ∧ la t n z.2 P' ∧ z.2 ≤ n := by
  obtain ⟨P0, e0⟩ : ∃ P0, rqP (decide (lnw t n P = some 0)) 2 P = P0 := ⟨_, rfl⟩
  obtain ⟨PA, eA⟩ : ∃ PA, rdP t n P0 = PA := ⟨_, rfl⟩
  obtain ⟨R1, e1⟩ : ∃ R1, nmP t n 1 4 PA = R1 := ⟨_, rfl⟩
  obtain ⟨R2, e2⟩ : ∃ R2, nmP t n 1 8 R1.2 = R2 := ⟨_, rfl⟩
  obtain ⟨R3, e3⟩ : ∃ R3, nmP t n 1 6 R2.2 = R3 := ⟨_, rfl⟩
  obtain ⟨R4, e4⟩ : ∃ R4, nmP t n 0 3 R3.2 = R4 := ⟨_, rfl⟩
  obtain ⟨R5, e5⟩ : ∃ R5, nmP t n 0 99 R4.2 = R5 := ⟨_, rfl⟩
  obtain ⟨R6, e6⟩ : ∃ R6, nmP t n 1 8 R5.2 = R6 := ⟨_, rfl⟩
  obtain ⟨P7, e7⟩ : ∃ P7, stP R6.2 = P7 := ⟨_, rfl⟩
  obtain ⟨P8, e8⟩ : ∃ P8, rdP t n P7 = P8 := ⟨_, rfl⟩
  have h0 : okP n P0 := by rw [← e0]; exact ok_rq hP _ (by decide)
  have hA : okP n PA := by rw [← eA]; exact ok_rd h0
  have h1 : okP n R1.2 := by rw [← e1]; exact ok_nm hA _ _
  have h2 : okP n R2.2 := by rw [← e2]; exact ok_nm h1 _ _
  have h3 : okP n R3.2 := by rw [← e3]; exact ok_nm h2 _ _
  have h4 : okP n R4.2 := by rw [← e4]; exact ok_nm h3 _ _
  have h5 : okP n R5.2 := by rw [← e5]; exact ok_nm h4 _ _
  have h6 : okP n R6.2 := by rw [← e6]; exact ok_nm h5 _ _
  have h7 : okP n P7 := by rw [← e7]; exact ok_rq h6 _ (by decide)
  have h8 : okP n P8 := by rw [← e8]; exact ok_rd h7
  have lv := la_vol hl e0 eA e1 e2 e3 e4 e5 e6 e7
  have hin : P7.2.2.2.2.1 = 0 → R1.1 ≤ 4 ∧ R2.1 ≤ 8 := by
    intro z
    cases qv : vlS t n p with
    | inl q =>
      rw [qv] at lv
      exact absurd (lv.1.symm.trans z) lv.2.2
    | inr r =>
      rw [qv] at lv
      obtain ⟨g1, g2, -⟩ := vl_rng qv
      obtain ⟨-, r1, r2, -⟩ := lv
      omega
  have K := c_readVol (h := h) A F v t n hn ht P P0 PA P7 P8 R1 R2 R3 R4 R5 R6 hP dm e0 eA e1 e2 e3 e4 e5 e6 e7 e8 h0 hA h1 h2 h3 h4 h5 h6 h7 hin
  refine ⟨_, P8, K, h8, ?_⟩
  cases qv : vlS t n p with
  | inl q =>
    rw [qv] at lv
    obtain ⟨l1, l2, l3⟩ := lv
    have l0 : ¬ P7.2.2.2.2.1 = 0 := by rw [l1]; exact l3
    rw [rd_b l0] at e8
    dsimp only
    rw [if_neg l0, ← e8]
    exact ⟨rfl, l1, l2, l3⟩
  | inr z =>
    rw [qv] at lv
    obtain ⟨l0, r1, r2, r3, r4, r5, r6, r7⟩ := lv
    dsimp only
    rw [if_pos l0, r1, r2, r3, r4, r5, r6, ← r7, ← e8]
    exact ⟨rfl, la_rd l0, h7.2.1⟩
theorem tkF_6 (e b s g f wr dm : Nat) : upd (tkF F e b s g f wr dm) 6 (nI 0) = tkF (upd F 6 (nI 0)) e b s g f wr dm := by
  funext k
  unfold tkF upd
  by_cases q : k = 6
  · subst q; rfl
  · rw [if_neg q, if_neg q]
set_option maxRecDepth 100000 in
set_option maxHeartbeats 1000000 in
theorem c_text (hn : 72 ≤ h.1) (ht : tpo A F t n) : sg_K MX8_text [.ref 64] (mv h A F v) (fun r h' => r = some (.int (s_text t n v).1) ∧ ∃ (A' : Nat → Nat → Int32) (F' : Nat → Int32), h' = mv h A' F' (s_text t n v).2.1 ∧ A' 3 = A 3 ∧ A' 5 = A 5 ∧ A' 4 = (if (s_text t n v).2.2 = 0 then upd (upd (A 4) 0 0) 1 0 else A 4) ∧ F' 6 = nI 0 ∧ F' 11 = nI (s_text t n v).2.2) := by
  obtain ⟨b, e8⟩ := nI_sur (F 8)
  obtain ⟨s, e9⟩ := nI_sur (F 9)
  obtain ⟨g, e10⟩ := nI_sur (F 10)
  obtain ⟨wr, e12⟩ := nI_sur (F 12)
  have h200 := ht.1
  -- the copy of what was
  obtain ⟨A0, hA0⟩ : ∃ A0 : Nat → Nat → Int32, A0 = vf_upd A 2 (fun c => if c < 496 then nI (v c) else A 2 c) := ⟨_, rfl⟩
  have ht0 : tpo A0 F t n := ⟨ht.1, ht.2.1, fun p hp => by rw [hA0, vu_n _ _ _ _ (by decide)]; exact ht.2.2 p hp⟩
  have hcp : mh h (vf_upd (vf_upd A 0 (fun k => nI (v k))) 2 (fun c => if c < 496 then (vf_upd A 0 (fun k => nI (v k))) 0 c else (vf_upd A 0 (fun k => nI (v k))) 2 c)) (tkF F 0 b s g 0 wr 0) = mt h A0 F v 0 b s g 0 wr 0 := by
    rw [hA0]
    unfold mt mv
    congr 1
    funext j
    unfold vf_upd
    by_cases q : j = 2
    · subst q; rfl
    · rw [if_neg q]
      by_cases q0 : j = 0
      · rw [if_pos q0, if_pos q0]
      · rw [if_neg q0, if_neg q0, if_neg q]
  obtain ⟨P, eP⟩ : ∃ P, rdP t n (0, b, s, g, 0, wr) = P := ⟨_, rfl⟩
  have laP : la t n 0 P := by rw [← eP]; exact la_rd (P := (0, b, s, g, 0, wr)) rfl
  have okPP : okP n P := by
    rw [← eP, rdP, if_pos rfl]
    refine ⟨tBE, tE_le (Nat.zero_le _), ?_, ?_, ?_⟩
    · show tS t n 0 ≤ 3
      unfold tS
      repeat' split
      all_goals omega
    · show tS t n 0 = 2 → rdG t n 0 g ≤ 99
      intro z
      unfold rdG
      rw [if_pos z]
      exact tV_le z
    · show (if tX t n 0 = true then 1 else 0) ≤ 5
      split <;> omega
  -- the end, behind the loop
  have ex : ∀ (A2 : Nat → Nat → Int32) v2 P2 dm2, keT A0 A2 → sb v v2 → okP n P2 → enX (txS t n v) v2 P2 → (P2.2.2.2.2.1 = 0 → ivr v2) → sg_A MX8_text 55 [some (.ref 64)] [] (mp h A2 F v2 P2 dm2) (fun r h' => r = some (.int (s_text t n v).1) ∧ ∃ (A' : Nat → Nat → Int32) (F' : Nat → Int32), h' = mv h A' F' (s_text t n v).2.1 ∧ A' 3 = A 3 ∧ A' 5 = A 5 ∧ A' 4 = (if (s_text t n v).2.2 = 0 then upd (upd (A 4) 0 0) 1 0 else A 4) ∧ F' 6 = nI 0 ∧ F' 11 = nI (s_text t n v).2.2) := by
    intro A2 v2 P2 dm2 k2 s2 o2 x2 w2
    have hf5 := o2.2.2.2.2
    have a2 : A2 2 = A0 2 := k2 2 (by omega)
    have a3 : A2 3 = A 3 := by rw [k2 3 (by omega), hA0, vu_n _ _ _ _ (by decide)]
    have a4 : A2 4 = A 4 := by rw [k2 4 (by omega), hA0, vu_n _ _ _ _ (by decide)]
    have a5 : A2 5 = A 5 := by rw [k2 5 (by omega), hA0, vu_n _ _ _ _ (by decide)]
    refine at_ld (i := 0) dX8_text_55 rfl rfl rfl ?_
    refine at_k (nI 0) dX8_text_56 rfl (by decide) ?_
    refine at_put dX8_text_57 fX8_45 ⟨_, _, rfl, Or.inl rfl, tyX8_ok 6 (by decide), fun _ => ⟨rfl, rfl⟩⟩ (mv_o hn _ _ _) (by omega) (Nat.le_of_ble_eq_true rfl) (mh_u6 h _ _ _) ?_
    rw [tkF_6]
    have e0 : mh h (vf_upd A2 0 (fun k => nI (v2 k))) (tkF (upd F 6 (nI 0)) P2.1 P2.2.1 P2.2.2.1 P2.2.2.2.1 P2.2.2.2.2.1 P2.2.2.2.2.2 dm2) = mp h A2 (upd F 6 (nI 0)) v2 P2 dm2 := rfl
    rw [e0]
    have f6 : tkF (upd F 6 (nI 0)) P2.1 P2.2.1 P2.2.2.1 P2.2.2.2.1 P2.2.2.2.2.1 P2.2.2.2.2.2 dm2 6 = nI 0 := rfl
    have f11 : tkF (upd F 6 (nI 0)) P2.1 P2.2.1 P2.2.2.1 P2.2.2.2.1 P2.2.2.2.2.1 P2.2.2.2.2.2 dm2 11 = nI P2.2.2.2.2.1 := rfl
    unfold s_text
    cases qX : txS t n v with
    | inl q =>
      rw [qX] at x2
      obtain ⟨q1, q2, q3⟩ := x2
      dsimp only
      have hpos : 0 < P2.2.2.2.2.1 := by omega
      refine at_ld (i := 0) dX8_text_60 rfl rfl rfl ?_
      refine at_get dX8_text_61 fX8_49 (mt_o hn _ _ _ _ _ _ _ _ _ _) (by omega) rfl ?_
      refine at_zle 86 dX8_text_64 (by decide) (fun c => ?_) (fun c => ?_)
      · exact absurd c (nI_nle hpos (by omega))
      · refine at_ld (i := 0) dX8_text_67 rfl rfl rfl ?_
        refine at_get dX8_text_68 fX8_16 (mt_o hn _ _ _ _ _ _ _ _ _ _) (by omega) rfl ?_
        refine at_ld (i := 0) dX8_text_71 rfl rfl rfl ?_
        refine at_get dX8_text_72 fX8_7 (mt_o hn _ _ _ _ _ _ _ _ _ _) (by omega) rfl ?_
        have e1 : mp h A2 (upd F 6 (nI 0)) v2 P2 dm2 = mh h (vf_upd A2 0 (fun k => nI (v2 k))) (tkF (upd F 6 (nI 0)) P2.1 P2.2.1 P2.2.2.1 P2.2.2.2.1 P2.2.2.2.2.1 P2.2.2.2.2.2 dm2) := rfl
        rw [e1]
        have e2 : mh h (vf_upd (vf_upd A2 0 (fun k => nI (v2 k))) 0 (fun c => if c < 496 then (vf_upd A2 0 (fun k => nI (v2 k))) 2 c else (vf_upd A2 0 (fun k => nI (v2 k))) 0 c)) (tkF (upd F 6 (nI 0)) P2.1 P2.2.1 P2.2.2.1 P2.2.2.2.1 P2.2.2.2.2.1 P2.2.2.2.2.2 dm2) = mp h A2 (upd F 6 (nI 0)) v P2 dm2 := by
          unfold mp mt mv
          rw [vu_vu]
          congr 2
          funext c
          rw [vu_n _ _ _ _ (by decide), vu_s]
          by_cases qc : c < 496
          · rw [if_pos qc, a2, hA0, vu_s, if_pos qc]
          · rw [if_neg qc, s2 c (by omega)]
        refine at_ws [_, _] dX8_text_75 mX8_copies ⟨Nat.le_of_ble_eq_true rfl, Nat.le_of_ble_eq_true rfl⟩ lX8_117 tX8_copies rfl (Nat.le_of_ble_eq_true rfl) (Nat.le_of_ble_eq_true rfl) ⟨rfl, rfl⟩ (c_copies (vf_upd A2 0 (fun k => nI (v2 k))) _ hn 2 0 (by decide) (by decide) (by decide)) ⟨rfl, rfl⟩ ?_
        try dsimp only [Option.toList, List.cons_append, List.nil_append]
        rw [e2]
        refine at_k (-10) dX8_text_78 rfl (by decide) ?_
        refine at_ld (i := 0) dX8_text_80 rfl rfl rfl ?_
        refine at_get dX8_text_81 fX8_55 (mt_o hn _ _ _ _ _ _ _ _ _ _) (by omega) rfl ?_
        refine at_bin dX8_text_84 rfl ?_
        refine at_ret dX8_text_85 rfl rfl ?_
        refine ⟨by rw [q2], A2, _, rfl, a3, a5, ?_, f6, ?_⟩
        · rw [if_neg q3, a4]
        · rw [f11, q1]
    | inr v1 =>
      rw [qX] at x2
      obtain ⟨q1, rfl⟩ := x2
      have w := w2 q1
      dsimp only
      refine at_ld (i := 0) dX8_text_60 rfl rfl rfl ?_
      refine at_get dX8_text_61 fX8_49 (mt_o hn _ _ _ _ _ _ _ _ _ _) (by omega) rfl ?_
      rw [q1]
      refine at_zle 86 dX8_text_64 (by decide) (fun c => ?_) (fun c => ?_)
      · refine at_ld (i := 0) dX8_text_86 rfl rfl rfl ?_
        refine at_get dX8_text_87 fX8_7 (mt_o hn _ _ _ _ _ _ _ _ _ _) (by omega) rfl ?_
        refine at_k (nI 6) dX8_text_90 rfl (by decide) ?_
        refine at_k (nI 0) dX8_text_92 rfl (by decide) ?_
        refine at_ast 6 dX8_text_93 (mv_a hn _ _ _) (by omega) rfl (by decide) (by decide) (mv_s h A2 _ v2 6 _ 0 rfl) ?_
        refine at_ld (i := 0) dX8_text_94 rfl rfl rfl ?_
        refine at_get dX8_text_95 fX8_7 (mt_o hn _ _ _ _ _ _ _ _ _ _) (by omega) rfl ?_
        refine at_k (nI 7) dX8_text_98 rfl (by decide) ?_
        refine at_k (nI 0) dX8_text_100 rfl (by decide) ?_
        refine at_ast 7 dX8_text_101 (mv_a hn _ _ _) (by omega) rfl (by decide) (by decide) (mv_s h A2 _ _ 7 _ 0 rfl) ?_
        have e2 : mh h (vf_upd (vf_upd A2 0 (fun k => nI (vf_upd (vf_upd v2 6 0) 7 0 k))) 4 (upd (upd ((vf_upd A2 0 (fun k => nI (vf_upd (vf_upd v2 6 0) 7 0 k))) 4) 0 0) 1 0)) (tkF (upd F 6 (nI 0)) P2.1 P2.2.1 P2.2.2.1 P2.2.2.2.1 P2.2.2.2.2.1 P2.2.2.2.2.2 dm2) = mp h (vf_upd A2 4 (upd (upd (A 4) 0 0) 1 0)) (upd F 6 (nI 0)) (vf_upd (vf_upd v2 6 0) 7 0) P2 dm2 := by
          unfold mp mt mv
          congr 1
          funext j
          rw [vu_n A2 0 4 _ (by decide), a4]
          unfold vf_upd
          by_cases q4 : j = 4
          · subst q4; rfl
          · rw [if_neg q4]
            by_cases q0 : j = 0
            · rw [if_pos q0, if_pos q0]
            · rw [if_neg q0, if_neg q0, if_neg q4]
        refine at_ld (i := 0) dX8_text_102 rfl rfl rfl ?_
        refine at_wv [] dX8_text_103 mX8_forgets ⟨Nat.le_of_ble_eq_true rfl, Nat.le_of_ble_eq_true rfl⟩ lX8_127 iX8_forgets rfl rfl (mt_o hn _ _ _ _ _ _ _ _ _ _) (by omega) rfl (Nat.le_of_ble_eq_true rfl) (Nat.le_of_ble_eq_true rfl) ⟨rfl, rfl⟩ (c_forgets (vf_upd A2 0 (fun k => nI (vf_upd (vf_upd v2 6 0) 7 0 k))) _ hn) ⟨rfl, rfl⟩ ?_
        try dsimp only [Option.toList, List.cons_append, List.nil_append]
        rw [e2]
        have w' : wf (vf_upd (vf_upd v2 6 0) 7 0) := wf_c (wf_c w.1 6 0 (Or.inl rfl)) 7 0 (Or.inr rfl)
        refine at_ld (i := 0) dX8_text_106 rfl rfl rfl ?_
        refine at_rv [] dX8_text_107 mX8_inodesThere ⟨Nat.le_of_ble_eq_true rfl, Nat.le_of_ble_eq_true rfl⟩ lX8_130 iX8_inodesThere rfl rfl (mt_o hn _ _ _ _ _ _ _ _ _ _) (by omega) rfl (Nat.le_of_ble_eq_true rfl) (Nat.le_of_ble_eq_true rfl) ⟨rfl, rfl⟩ (c_inodesThere _ _ _ hn w') ?_
        refine at_ret dX8_text_110 rfl rfl ?_
        refine ⟨rfl, _, _, rfl, ?_, ?_, ?_, f6, ?_⟩
        · rw [vu_n _ _ _ _ (by decide), a3]
        · rw [vu_n _ _ _ _ (by decide), a5]
        · rw [if_pos rfl, vu_s]
        · rw [f11, q1]
      · exact absurd (by decide) c
  show sg_A MX8_text 0 [some (.ref 64)] [] _ _
  refine at_ld (i := 0) dX8_text_0 rfl rfl rfl ?_
  refine at_k (nI 0) dX8_text_1 rfl (by decide) ?_
  refine at_put dX8_text_2 fX8_49 ⟨_, _, rfl, Or.inl rfl, tyX8_ok 11 (by decide), fun _ => ⟨rfl, rfl⟩⟩ (mv_o hn _ _ _) (by omega) (Nat.le_of_ble_eq_true rfl) (mh_u11 h _ _ _) ?_
  refine at_ld (i := 0) dX8_text_5 rfl rfl rfl ?_
  refine at_k (nI 0) dX8_text_6 rfl (by decide) ?_
  refine at_put dX8_text_7 fX8_61 ⟨_, _, rfl, Or.inl rfl, tyX8_ok 7 (by decide), fun _ => ⟨rfl, rfl⟩⟩ (mv_o hn _ _ _) (by omega) (Nat.le_of_ble_eq_true rfl) (mh_u7 h _ _ _) ?_
  refine at_ld (i := 0) dX8_text_10 rfl rfl rfl ?_
  refine at_k (nI 0) dX8_text_11 rfl (by decide) ?_
  refine at_put dX8_text_12 fX8_100 ⟨_, _, rfl, Or.inl rfl, tyX8_ok 14 (by decide), fun _ => ⟨rfl, rfl⟩⟩ (mv_o hn _ _ _) (by omega) (Nat.le_of_ble_eq_true rfl) (mh_u14 h _ _ _) ?_
  rw [tkF_of F b s g wr e8 e9 e10 e12]
  refine at_ld (i := 0) dX8_text_15 rfl rfl rfl ?_
  refine at_get dX8_text_16 fX8_7 (mv_o hn _ _ _) (by omega) rfl ?_
  refine at_ld (i := 0) dX8_text_19 rfl rfl rfl ?_
  refine at_get dX8_text_20 fX8_16 (mv_o hn _ _ _) (by omega) rfl ?_
  refine at_ws [_, _] dX8_text_23 mX8_copies ⟨Nat.le_of_ble_eq_true rfl, Nat.le_of_ble_eq_true rfl⟩ lX8_117 tX8_copies rfl (Nat.le_of_ble_eq_true rfl) (Nat.le_of_ble_eq_true rfl) ⟨rfl, rfl⟩ (c_copies (vf_upd A 0 (fun k => nI (v k))) _ hn 0 2 (by decide) (by decide) (by decide)) ⟨rfl, rfl⟩ ?_
  try dsimp only [Option.toList, List.cons_append, List.nil_append]
  rw [hcp]
  have rd0 := c_reads0 A0 F v t n hn ht0 0 b s g wr 0 (Nat.zero_le _)
  have rd1 : sg_Kw MX8_reads [.ref 64] (mt h A0 F v 0 b s g 0 wr 0) none (mp h A0 F v P 0) := by
    rw [← eP, rdP, if_pos rfl]
    exact rd0
  obtain ⟨V, P', rv, okV, hV⟩ := c_rvS A0 F v t n hn ht0 laP okPP 0
  refine at_ld (i := 0) dX8_text_26 rfl rfl rfl ?_
  refine at_wv [] dX8_text_27 mX8_reads ⟨Nat.le_of_ble_eq_true rfl, Nat.le_of_ble_eq_true rfl⟩ lX8_87 iX8_reads rfl rfl (mt_o hn _ _ _ _ _ _ _ _ _ _) (by omega) rfl (Nat.le_of_ble_eq_true rfl) (Nat.le_of_ble_eq_true rfl) ⟨rfl, rfl⟩ (rd1) ⟨rfl, rfl⟩ ?_
  try dsimp only [Option.toList, List.cons_append, List.nil_append]
  refine at_ld (i := 0) dX8_text_30 rfl rfl rfl ?_
  refine at_wv [] dX8_text_31 mX8_readVolume ⟨Nat.le_of_ble_eq_true rfl, Nat.le_of_ble_eq_true rfl⟩ lX8_121 iX8_readVolume rfl rfl (mt_o hn _ _ _ _ _ _ _ _ _ _) (by omega) rfl (Nat.le_of_ble_eq_true rfl) (Nat.le_of_ble_eq_true rfl) ⟨rfl, rfl⟩ (rv) ⟨rfl, rfl⟩ ?_
  try dsimp only [Option.toList, List.cons_append, List.nil_append]
  cases qv : vlS t n 0 with
  | inl q =>
    rw [qv] at hV
    obtain ⟨rfl, l1, l2, l3⟩ := hV
    have l0 : ¬ P'.2.2.2.2.1 = 0 := by rw [l1]; exact l3
    have hf5 := okV.2.2.2.2
    refine at_ld (i := 0) dX8_text_34 rfl rfl rfl ?_
    refine at_get dX8_text_35 fX8_49 (mt_o hn _ _ _ _ _ _ _ _ _ _) (by omega) rfl ?_
    refine at_zne 55 dX8_text_38 (by decide) (fun c => ?_) (fun c => ?_)
    · refine ex A0 V _ 0 (keT_r _) (sb_r V) okV ?_ (fun z => absurd z l0)
      unfold txS
      rw [qv]
      exact ⟨l1, l2, l3⟩
    · exact absurd ((nI_eq32 (b := 0) (by omega) (by decide)).mp (Classical.not_not.mp c)) l0
  | inr z =>
    obtain ⟨r, p⟩ := z
    rw [qv] at hV
    dsimp only at hV
    obtain ⟨rfl, r7, r8⟩ := hV
    obtain ⟨g1, g2, g3, g4, g5, g6⟩ := vl_rng qv
    have wg := v6_g v g1 g2 g3 g4 g5 g6
    have hw := ivr_an1 wg
    have z0 := an1_lo (v6 v r.1 r.2.1 r.2.2.1 r.2.2.2.1 r.2.2.2.2.1 r.2.2.2.2.2) (c := 0) (by decide)
    have z2 := an1_lo (v6 v r.1 r.2.1 r.2.2.1 r.2.2.2.1 r.2.2.2.2.1 r.2.2.2.2.2) (c := 2) (by decide)
    refine c_textLoop A0 F v t n hn ht0 (txS t n v) _ ex 201 A0 _ _ p 0 (fun _ => 0) (by omega) (keT_r _) hw ?_ okV r7 ?_ (fun j hj => by omega) r8 ?_
    · intro c hc
      rw [an1_hi _ hc]
      unfold v6
      rw [vu_n _ _ _ _ (by omega), vu_n _ _ _ _ (by omega), vu_n _ _ _ _ (by omega), vu_n _ _ _ _ (by omega), vu_n _ _ _ _ (by omega), vu_n _ _ _ _ (by omega)]
    · refine cnt_0 ?_ _ ?_
      · rw [an1_io _ (wf_gb wg) (by decide) (by decide)]
        rfl
      · rw [z0, z2]
        exact Nat.mul_pos wg.1.1 wg.2.2.1.1
    · unfold txS
      rw [qv]
end R23
