/-! THE CLASS: the reader's first line, its lines -/
def lea : Nat → Nat
  | 0 => 1
  | 1 => 1
  | 2 => 1
  | 3 => 0
  | 4 => 0
  | _ => 1
def mos : Nat → Nat
  | 0 => 4
  | 1 => 8
  | 2 => 6
  | 3 => 3
  | 4 => 99
  | _ => 8
def atf : Nat → Nat
  | 0 => 2
  | 1 => 4
  | 2 => 4
  | 3 => 0
  | 4 => 0
  | _ => 4
/-- the static rows -/
def SR (g : sg_H) : Prop := (∃ f, sg_at g 1001 (.inl (false, 6, f)) ∧ ∀ k, k < 6 → f k = nI (lea k)) ∧ (∃ f, sg_at g 1002 (.inl (false, 6, f)) ∧ ∀ k, k < 6 → f k = nI (mos k)) ∧ ∃ f, sg_at g 1003 (.inl (false, 6, f)) ∧ ∀ k, k < 6 → f k = nI (atf k)
theorem upd_s (f : Nat → Int32) (k : Nat) (x : Int32) : upd f k x k = x := by simp [upd]
theorem upd_n (f : Nat → Int32) (k j : Nat) (x : Int32) (h : j ≠ k) : upd f k x j = f j := by simp [upd, h]
theorem nm_le {t : Nat → Nat} {n lo hi p : Nat} (hp : p ≤ n) {a : Nat × Nat} (h : nmS t n lo hi p = .inr a) : a.2 ≤ n := by
  rw [(nmS_in h).2.2.1]
  exact tE_le hp
section C21
variable {g : sg_H} {N : Nat → Int32} {lk f fp nx ts tp : Nat} {tv : Int32} {t : Nat → Nat} {n : Nat}
set_option maxRecDepth 100000 in
theorem k_rrStep (hg : 64 ≤ g.1) (hT : TP g t n) (hS : SR g) (Q : Option Value → sg_H → Prop) (r : Nat) (hr : r < 6) (p : Nat) (hp : p ≤ n) (N : Nat → Int32) (ts tp : Nat) (tv : Int32) (h1 : ∀ q, nmS t n (lea r) (mos r) p = .inl q → ∀ x y z w, Q (some (.int (bI false))) (rd g N lk q.1 q.2 x y z w)) (h2 : ∀ a, nmS t n (lea r) (mos r) p = .inr a → ∀ y z w, sg_A MX4_readRules 13 [some (.ref 19), some (.int (nI (r + 1)))] [] (rd g (upd N r (nI a.1)) lk f fp a.2 y z w) Q) : sg_A MX4_readRules 13 [some (.ref 19), some (.int (nI r))] [] (rd g N lk f fp p ts tp tv) Q := by
  obtain ⟨⟨f1, s1, e1⟩, ⟨f2, s2, e2⟩, -⟩ := hS
  have hl : lea r < 1000 ∧ mos r < 1000 := by
    rcases (show r = 0 ∨ r = 1 ∨ r = 2 ∨ r = 3 ∨ r = 4 ∨ r = 5 by omega) with rfl | rfl | rfl | rfl | rfl | rfl <;> decide
  refine at_ld (i := 1) dX4_readRules_13 rfl rfl rfl ?_
  refine at_k (nI 6) dX4_readRules_14 rfl (by decide) ?_
  refine at_ige 45 dX4_readRules_16 (by decide) (fun cz_ => absurd cz_ (nI_ge hr (by decide))) (fun _ => ?_)
  refine at_ld (i := 0) dX4_readRules_19 rfl rfl rfl ?_
  refine at_ld (i := 1) dX4_readRules_20 rfl rfl rfl ?_
  refine at_gets (k0 := 1001) (nm := "LEAST_RULES") dX4_readRules_21 (List.Mem.head _) ?_
  refine at_ld (i := 1) dX4_readRules_24 rfl rfl rfl ?_
  refine at_ald (r) dX4_readRules_25 (rd_O s1 (by decide) (by decide)) rfl hr (by decide) ?_
  rw [e1 r hr]
  refine at_gets (k0 := 1002) (nm := "MOST_RULES") dX4_readRules_26 (List.Mem.tail _ (List.Mem.head _)) ?_
  refine at_ld (i := 1) dX4_readRules_29 rfl rfl rfl ?_
  refine at_ald (r) dX4_readRules_30 (rd_O s2 (by decide) (by decide)) rfl hr (by decide) ?_
  rw [e2 r hr]
  refine at_cv [_, _, _] dX4_readRules_31 mX4_takeNumber ⟨Nat.le_of_ble_eq_true rfl, Nat.le_of_ble_eq_true rfl⟩ lX4_49 iX4_takeNumber rfl rfl (rd_o hg) (by omega) rfl (Nat.le_of_ble_eq_true rfl) (Nat.le_of_ble_eq_true rfl) (k_takeNumber hg hT p hp r (lea r) (mos r) hr hl.1 hl.2) ?_ ?_
  · intro r' h' hq
    split at hq
    · obtain ⟨-, x, y, z, w, rfl⟩ := hq; exact ⟨rfl, rfl⟩
    · obtain ⟨-, y, z, w, rfl⟩ := hq; exact ⟨rfl, rfl⟩
  · intro r' h' hq
    cases c : nmS t n (lea r) (mos r) p with
    | inl q =>
      rw [c] at hq
      obtain ⟨rfl, x, y, z, w, rfl⟩ := hq
      try dsimp only [Option.toList, List.cons_append, List.nil_append]
      refine at_zne 39 dX4_readRules_34 (by decide) (fun cz_ => absurd cz_ (fun q => q rfl)) (fun _ => ?_)
      refine at_k (nI 0) dX4_readRules_37 rfl (by decide) ?_
      refine at_ret dX4_readRules_38 rfl rfl ?_
      exact h1 q c x y z w
    | inr a =>
      rw [c] at hq
      obtain ⟨rfl, y, z, w, rfl⟩ := hq
      try dsimp only [Option.toList, List.cons_append, List.nil_append]
      refine at_zne 39 dX4_readRules_34 (by decide) (fun _ => ?_) (fun cz_ => absurd (show ¬ bI true = 0 by decide) cz_)
      refine at_iinc (nI 1) dX4_readRules_39 rfl rfl (by decide) ?_
      try dsimp only [List.set_cons_succ, List.set_cons_zero]
      refine at_goto 13 dX4_readRules_42 (by decide) ?_
      rw [nI_add]
      exact h2 a c y z w
set_option maxRecDepth 100000 in
theorem k_readRules (hg : 64 ≤ g.1) (hT : TP g t n) (hS : SR g) : sg_K MX4_readRules [.ref 19] (rd g N lk f fp 0 ts tp tv) (fun r h' => match vlS t n 0 with | .inl q => r = some (.int (bI false)) ∧ ∃ N' x y z w, h' = rd g N' lk q.1 q.2 x y z w | .inr q => r = some (.int (bI true)) ∧ ∃ N' y z w, h' = rd g N' lk f fp q.2 y z w ∧ N' 0 = nI q.1.1 ∧ N' 1 = nI q.1.2.1 ∧ N' 2 = nI q.1.2.2.1 ∧ N' 3 = nI q.1.2.2.2.1 ∧ N' 4 = nI q.1.2.2.2.2.1 ∧ N' 5 = nI q.1.2.2.2.2.2) := by
  show sg_A MX4_readRules 0 [some (.ref 19), none] [] _ _
  refine at_ld (i := 0) dX4_readRules_0 rfl rfl rfl ?_
  refine at_ldcS (k0 := 1010) dX4_readRules_1 (List.Mem.head _) ?_
  refine at_cv [_] dX4_readRules_3 mX4_takeWord ⟨Nat.le_of_ble_eq_true rfl, Nat.le_of_ble_eq_true rfl⟩ lX4_39 iX4_takeWord rfl rfl (rd_o hg) (by omega) rfl (Nat.le_of_ble_eq_true rfl) (Nat.le_of_ble_eq_true rfl) (k_takeWord hg hT 0 (Nat.zero_le _)) ?_ ?_
  · intro r' h' hq
    split at hq
    · obtain ⟨-, x, y, z, w, rfl⟩ := hq; exact ⟨rfl, rfl⟩
    · split at hq
      · obtain ⟨-, y, z, w, rfl⟩ := hq; exact ⟨rfl, rfl⟩
      · obtain ⟨-, x, y, z, w, rfl⟩ := hq; exact ⟨rfl, rfl⟩
  · intro r' h' hq
    unfold vlS
    split at hq
    · next cx =>
      obtain ⟨rfl, x, y, z, w, rfl⟩ := hq
      try dsimp only [Option.toList, List.cons_append, List.nil_append]
      simp only [if_pos cx]
      refine at_zne 11 dX4_readRules_6 (by decide) (fun cz_ => absurd cz_ (fun q => q rfl)) (fun _ => ?_)
      refine at_k (nI 0) dX4_readRules_9 rfl (by decide) ?_
      refine at_ret dX4_readRules_10 rfl rfl ?_
      exact ⟨rfl, N, x, y, z, w, rfl⟩
    · next cx =>
      simp only [if_neg cx]
      split at hq
      · next cw =>
        obtain ⟨rfl, y, z, w, rfl⟩ := hq
        try dsimp only [Option.toList, List.cons_append, List.nil_append]
        simp only [if_pos cw]
        refine at_zne 11 dX4_readRules_6 (by decide) (fun _ => ?_) (fun cz_ => absurd (show ¬ bI true = 0 by decide) cz_)
        refine at_k (nI 0) dX4_readRules_11 rfl (by decide) ?_
        refine at_st (i := 1) dX4_readRules_12 rfl rfl (Nat.le_of_ble_eq_true rfl) rfl ?_
        try dsimp only [List.set_cons_succ, List.set_cons_zero]
        have hE0 := tE_le (t := t) (Nat.zero_le n)
        refine k_rrStep hg hT hS _ 0 (by decide) _ hE0 _ _ _ _ (fun q e x y z w => ?_) (fun q0 e0 y z w => ?_)
        · rw [show nmS t n 1 4 (tE t n 0) = _ from e]
          exact ⟨rfl, _, x, y, z, w, rfl⟩
        · rw [show nmS t n 1 4 (tE t n 0) = _ from e0]
          have l0 := nm_le hE0 e0
          dsimp only
          refine k_rrStep hg hT hS _ 1 (by decide) _ l0 _ _ _ _ (fun q e x y z w => ?_) (fun q1 e1 y z w => ?_)
          · rw [show nmS t n 1 8 q0.2 = _ from e]
            exact ⟨rfl, _, x, y, z, w, rfl⟩
          · rw [show nmS t n 1 8 q0.2 = _ from e1]
            have l1 := nm_le l0 e1
            dsimp only
            refine k_rrStep hg hT hS _ 2 (by decide) _ l1 _ _ _ _ (fun q e x y z w => ?_) (fun q2 e2 y z w => ?_)
            · rw [show nmS t n 1 6 q1.2 = _ from e]
              exact ⟨rfl, _, x, y, z, w, rfl⟩
            · rw [show nmS t n 1 6 q1.2 = _ from e2]
              have l2 := nm_le l1 e2
              dsimp only
              refine k_rrStep hg hT hS _ 3 (by decide) _ l2 _ _ _ _ (fun q e x y z w => ?_) (fun q3 e3 y z w => ?_)
              · rw [show nmS t n 0 3 q2.2 = _ from e]
                exact ⟨rfl, _, x, y, z, w, rfl⟩
              · rw [show nmS t n 0 3 q2.2 = _ from e3]
                have l3 := nm_le l2 e3
                dsimp only
                refine k_rrStep hg hT hS _ 4 (by decide) _ l3 _ _ _ _ (fun q e x y z w => ?_) (fun q4 e4 y z w => ?_)
                · rw [show nmS t n 0 99 q3.2 = _ from e]
                  exact ⟨rfl, _, x, y, z, w, rfl⟩
                · rw [show nmS t n 0 99 q3.2 = _ from e4]
                  have l4 := nm_le l3 e4
                  dsimp only
                  refine k_rrStep hg hT hS _ 5 (by decide) _ l4 _ _ _ _ (fun q e x y z w => ?_) (fun q5 e5 y z w => ?_)
                  · rw [show nmS t n 1 8 q4.2 = _ from e]
                    exact ⟨rfl, _, x, y, z, w, rfl⟩
                  · rw [show nmS t n 1 8 q4.2 = _ from e5]
                    have l5 := nm_le l4 e5
                    dsimp only
                    refine at_ld (i := 1) dX4_readRules_13 rfl rfl rfl ?_
                    refine at_k (nI 6) dX4_readRules_14 rfl (by decide) ?_
                    refine at_ige 45 dX4_readRules_16 (by decide) (fun _ => ?_) (fun cz_ => absurd (by decide) cz_)
                    refine at_ld (i := 0) dX4_readRules_45 rfl rfl rfl ?_
                    refine at_cv [] dX4_readRules_46 mX4_takeSign ⟨Nat.le_of_ble_eq_true rfl, Nat.le_of_ble_eq_true rfl⟩ lX4_53 iX4_takeSign rfl rfl (rd_o hg) (by omega) rfl (Nat.le_of_ble_eq_true rfl) (Nat.le_of_ble_eq_true rfl) (k_takeSign hg hT _ l5) ?_ ?_
                    · intro r' h' hq
                      split at hq
                      · obtain ⟨-, x, y, z, w, rfl⟩ := hq; exact ⟨rfl, rfl⟩
                      · obtain ⟨-, w, rfl⟩ := hq; exact ⟨rfl, rfl⟩
                    · intro r' h' hq
                      cases c : sgS t n q5.2 with
                      | inl q =>
                        rw [c] at hq
                        obtain ⟨rfl, x, y, z, w, rfl⟩ := hq
                        try dsimp only [Option.toList, List.cons_append, List.nil_append]
                        refine at_ret dX4_readRules_49 rfl rfl ?_
                        exact ⟨rfl, _, x, y, z, w, rfl⟩
                      | inr s =>
                        rw [c] at hq
                        obtain ⟨rfl, w, rfl⟩ := hq
                        try dsimp only [Option.toList, List.cons_append, List.nil_append]
                        refine at_ret dX4_readRules_49 rfl rfl ?_
                        exact ⟨rfl, _, _, _, w, rfl, by simp [upd], by simp [upd], by simp [upd], by simp [upd], by simp [upd], by simp [upd]⟩
      · next cw =>
        obtain ⟨rfl, x, y, z, w, rfl⟩ := hq
        try dsimp only [Option.toList, List.cons_append, List.nil_append]
        simp only [if_neg cw]
        refine at_zne 11 dX4_readRules_6 (by decide) (fun cz_ => absurd cz_ (fun q => q rfl)) (fun _ => ?_)
        refine at_k (nI 0) dX4_readRules_9 rfl (by decide) ?_
        refine at_ret dX4_readRules_10 rfl rfl ?_
        exact ⟨rfl, N, x, y, z, w, rfl⟩
/-- what a line leaves: the reader's state -/
def lnQ (g : sg_H) (f fp : Nat) (X : (Nat × Nat) ⊕ (Nat × Nat × Nat × Nat × Nat × Nat)) (r : Option Value) (h' : sg_H) : Prop := match X with
  | .inl q => r = some (.int (bI false)) ∧ ∃ N' lk' x y z w, h' = rd g N' lk' q.1 q.2 x y z w
  | .inr q => r = some (.int (bI true)) ∧ ∃ N' w, h' = rd g N' q.1 f fp q.2.2.2.2.2 3 q.2.2.2.2.1 w ∧ N' 0 = nI q.2.1 ∧ N' 1 = nI q.2.2.1 ∧ (q.1 = 2 → N' 2 = nI q.2.2.2.1)
set_option maxRecDepth 100000 in
theorem k_rlStep (hg : 64 ≤ g.1) (hT : TP g t n) (X : (Nat × Nat) ⊕ (Nat × Nat × Nat × Nat × Nat × Nat)) (pc sl lo hi p pc' : Nat) (hp : p ≤ n) (hs : sl < 6) (hlo : lo < 1000) (hhi : hi < 1000) (N : Nat → Int32) (ts tp : Nat) (tv : Int32) (y1 : Option Value)
    (hcall : ∀ Q' : Option Value → sg_H → Prop, sg_K MX4_takeNumber [.ref 19, .int (nI sl), .int (nI lo), .int (nI hi)] (rd g N lk f fp p ts tp tv) Q' → (∀ r h1, Q' r h1 → h1.1 = g.1 ∧ h1.2.1 = g.2.1) → (∀ r h1, Q' r h1 → sg_A MX4_readLine (pc + 3) [some (.ref 19), y1] (r.toList ++ []) h1 (lnQ g f fp X)) → sg_A MX4_readLine pc [some (.ref 19), y1] [.int (nI hi), .int (nI lo), .int (nI sl), .ref 19] (rd g N lk f fp p ts tp tv) (lnQ g f fp X))
    (hbr : ∀ (b : Bool) h1, (b = false → sg_A MX4_readLine 106 [some (.ref 19), y1] [] h1 (lnQ g f fp X)) → (b = true → sg_A MX4_readLine pc' [some (.ref 19), y1] [] h1 (lnQ g f fp X)) → sg_A MX4_readLine (pc + 3) [some (.ref 19), y1] [.int (bI b)] h1 (lnQ g f fp X))
    (h1 : ∀ q, nmS t n lo hi p = .inl q → X = .inl q) (h2 : ∀ a, nmS t n lo hi p = .inr a → ∀ y z w, sg_A MX4_readLine pc' [some (.ref 19), y1] [] (rd g (upd N sl (nI a.1)) lk f fp a.2 y z w) (lnQ g f fp X)) : sg_A MX4_readLine pc [some (.ref 19), y1] [.int (nI hi), .int (nI lo), .int (nI sl), .ref 19] (rd g N lk f fp p ts tp tv) (lnQ g f fp X) := by
  refine hcall _ (k_takeNumber hg hT p hp sl lo hi hs hlo hhi) ?_ ?_
  · intro r' h' hq
    split at hq
    · obtain ⟨-, x, y, z, w, rfl⟩ := hq; exact ⟨rfl, rfl⟩
    · obtain ⟨-, y, z, w, rfl⟩ := hq; exact ⟨rfl, rfl⟩
  · intro r' h' hq
    cases c : nmS t n lo hi p with
    | inl q =>
      rw [c] at hq
      obtain ⟨rfl, x, y, z, w, rfl⟩ := hq
      refine hbr false _ (fun _ => ?_) (fun z => by cases z)
      refine at_k (nI 0) dX4_readLine_106 rfl (by decide) ?_
      refine at_ret dX4_readLine_107 rfl rfl ?_
      rw [h1 q c]
      exact ⟨rfl, _, _, x, y, z, w, rfl⟩
    | inr a =>
      rw [c] at hq
      obtain ⟨rfl, y, z, w, rfl⟩ := hq
      exact hbr true _ (fun z => by cases z) (fun _ => h2 a c y z w)
set_option maxRecDepth 100000 in
theorem k_readLine (hg : 64 ≤ g.1) (hT : TP g t n) (p : Nat) (hp : p ≤ n) (dm : Nat) (hdm : dm < 1000) : sg_K MX4_readLine [.ref 19, .int (nI dm)] (rd g N lk f fp p ts tp tv) (lnQ g f fp (lnS t n dm p)) := by
  show sg_A MX4_readLine 0 [some (.ref 19), some (.int (nI dm))] [] _ _
  refine at_ld (i := 0) dX4_readLine_0 rfl rfl rfl ?_
  refine at_cv [] dX4_readLine_1 mX4_readToken ⟨Nat.le_of_ble_eq_true rfl, Nat.le_of_ble_eq_true rfl⟩ lX4_57 iX4_readToken rfl rfl (rd_o hg) (by omega) rfl (Nat.le_of_ble_eq_true rfl) (Nat.le_of_ble_eq_true rfl) (k_readToken hg hT p hp) ?_ ?_
  · intro r' h' hq
    split at hq
    · obtain ⟨-, x, y, z, w, rfl⟩ := hq; exact ⟨rfl, rfl⟩
    · obtain ⟨-, w, rfl, -⟩ := hq; exact ⟨rfl, rfl⟩
  · intro r' h' hq
    generalize hX : lnS t n dm p = X
    unfold lnS at hX
    split at hq
    · next cx =>
      obtain ⟨rfl, x, y, z, w, rfl⟩ := hq
      try dsimp only [Option.toList, List.cons_append, List.nil_append]
      rw [if_pos cx] at hX
      subst hX
      refine at_zne 9 dX4_readLine_4 (by decide) (fun cz_ => absurd cz_ (fun q => q rfl)) (fun _ => ?_)
      refine at_k (nI 0) dX4_readLine_7 rfl (by decide) ?_
      refine at_ret dX4_readLine_8 rfl rfl ?_
      exact ⟨rfl, N, _, x, y, z, w, rfl⟩
    · next cx =>
      obtain ⟨rfl, w, rfl, -⟩ := hq
      try dsimp only [Option.toList, List.cons_append, List.nil_append]
      rw [if_neg cx] at hX
      refine at_zne 9 dX4_readLine_4 (by decide) (fun _ => ?_) (fun cz_ => absurd (show ¬ bI true = 0 by decide) cz_)
      have hE := tE_le (t := t) hp
      -- behind the word
      have go : ∀ k, (k = 1 ∨ k = 2) → wdS t n p = some k → ∀ y z w, sg_A MX4_readLine 55 [some (.ref 19), some (.int (nI dm))] [] (rd g N k f fp (tE t n p) y z w) (lnQ g f fp X) := by
        intro k hk hw y z w
        rw [if_pos (by rcases hk with rfl | rfl; exact Or.inl hw; exact Or.inr hw)] at hX
        refine at_ld (i := 0) dX4_readLine_55 rfl rfl rfl ?_
        refine at_k (nI 0) dX4_readLine_56 rfl (by decide) ?_
        refine at_k (nI 0) dX4_readLine_57 rfl (by decide) ?_
        refine at_ld (i := 1) dX4_readLine_58 rfl rfl rfl ?_
        refine k_rlStep hg hT X 59 0 0 dm (tE t n p) 65 hE (by decide) (by decide) hdm _ _ _ _ _ (fun Q' K hc hn => ?_) (fun b h1 hf ht => ?_) (fun q e => ?_) (fun qa ea y z w => ?_)
        · refine at_cv [_, _, _] dX4_readLine_59 mX4_takeNumber ⟨Nat.le_of_ble_eq_true rfl, Nat.le_of_ble_eq_true rfl⟩ lX4_49 iX4_takeNumber rfl rfl (rd_o hg) (by omega) rfl (Nat.le_of_ble_eq_true rfl) (Nat.le_of_ble_eq_true rfl) (K) ?_ ?_
          · exact hc
          · exact hn
        · refine at_zeq 106 dX4_readLine_62 (by decide) (fun c => ?_) (fun c => ?_)
          · exact hf ((bI_0 _).mp c)
          · exact ht (bI_1 c)
        · rw [e] at hX; exact hX.symm
        · rw [ea] at hX
          have la := nm_le hE ea
          dsimp only at hX
          refine at_ld (i := 0) dX4_readLine_65 rfl rfl rfl ?_
          refine at_k (nI 1) dX4_readLine_66 rfl (by decide) ?_
          refine at_k (nI 0) dX4_readLine_67 rfl (by decide) ?_
          refine at_k (nI 9) dX4_readLine_68 rfl (by decide) ?_
          refine k_rlStep hg hT X 70 1 0 9 qa.2 76 la (by decide) (by decide) (by decide) _ _ _ _ _ (fun Q' K hc hn => ?_) (fun b h1 hf ht => ?_) (fun q e => ?_) (fun qb eb y z w => ?_)
          · refine at_cv [_, _, _] dX4_readLine_70 mX4_takeNumber ⟨Nat.le_of_ble_eq_true rfl, Nat.le_of_ble_eq_true rfl⟩ lX4_49 iX4_takeNumber rfl rfl (rd_o hg) (by omega) rfl (Nat.le_of_ble_eq_true rfl) (Nat.le_of_ble_eq_true rfl) (K) ?_ ?_
            · exact hc
            · exact hn
          · refine at_zeq 106 dX4_readLine_73 (by decide) (fun c => ?_) (fun c => ?_)
            · exact hf ((bI_0 _).mp c)
            · exact ht (bI_1 c)
          · rw [e] at hX; exact hX.symm
          · rw [eb] at hX
            have lb := nm_le la eb
            dsimp only at hX
            -- the sign
            have sg : ∀ pq N2 y z w, pq ≤ n → (∀ q, sgS t n pq = .inl q → X = .inl q) → (∀ s, sgS t n pq = .inr s → ∃ c, X = .inr (k, qa.1, qb.1, c, s.1, s.2) ∧ (k = 2 → N2 2 = nI c)) → N2 0 = nI qa.1 → N2 1 = nI qb.1 → sg_A MX4_readLine 95 [some (.ref 19), some (.int (nI dm))] [] (rd g N2 k f fp pq y z w) (lnQ g f fp X) := by
              intro pq N2 y z w hpq hl hr e0 e1
              refine at_ld (i := 0) dX4_readLine_95 rfl rfl rfl ?_
              refine at_cv [] dX4_readLine_96 mX4_takeSign ⟨Nat.le_of_ble_eq_true rfl, Nat.le_of_ble_eq_true rfl⟩ lX4_53 iX4_takeSign rfl rfl (rd_o hg) (by omega) rfl (Nat.le_of_ble_eq_true rfl) (Nat.le_of_ble_eq_true rfl) (k_takeSign hg hT _ hpq) ?_ ?_
              · intro r' h' hq
                split at hq
                · obtain ⟨-, x, y, z, w, rfl⟩ := hq; exact ⟨rfl, rfl⟩
                · obtain ⟨-, w, rfl⟩ := hq; exact ⟨rfl, rfl⟩
              · intro r' h' hq
                cases c : sgS t n pq with
                | inl q =>
                  rw [c] at hq
                  obtain ⟨rfl, x, y, z, w, rfl⟩ := hq
                  try dsimp only [Option.toList, List.cons_append, List.nil_append]
                  refine at_zeq 106 dX4_readLine_99 (by decide) (fun _ => ?_) (fun cz_ => absurd (rfl) cz_)
                  refine at_k (nI 0) dX4_readLine_106 rfl (by decide) ?_
                  refine at_ret dX4_readLine_107 rfl rfl ?_
                  rw [hl q c]
                  exact ⟨rfl, _, _, x, y, z, w, rfl⟩
                | inr s =>
                  rw [c] at hq
                  obtain ⟨rfl, w, rfl⟩ := hq
                  try dsimp only [Option.toList, List.cons_append, List.nil_append]
                  refine at_zeq 106 dX4_readLine_99 (by decide) (fun cz_ => absurd cz_ (show ¬ bI true = 0 by decide)) (fun _ => ?_)
                  refine at_k (nI 1) dX4_readLine_102 rfl (by decide) ?_
                  refine at_goto 107 dX4_readLine_103 (by decide) ?_
                  refine at_ret dX4_readLine_107 rfl rfl ?_
                  obtain ⟨c2, ex, e2⟩ := hr s c
                  rw [ex]
                  exact ⟨rfl, N2, w, rfl, e0, e1, e2⟩
            refine at_ld (i := 0) dX4_readLine_76 rfl rfl rfl ?_
            refine at_get dX4_readLine_77 fX4_74 (rd_o hg) (by omega) rfl ?_
            refine at_k (nI 1) dX4_readLine_80 rfl (by decide) ?_
            rcases hk with rfl | rfl
            · refine at_ieq 95 dX4_readLine_81 (by decide) (fun _ => ?_) (fun cz_ => absurd (rfl) cz_)
              rw [if_neg (show ¬ wdS t n p = some 2 by rw [hw]; decide)] at hX
              dsimp only at hX
              refine sg qb.2 _ _ _ _ lb (fun q e => ?_) (fun s e => ?_) (by simp [upd]) (by simp [upd])
              · rw [e] at hX; exact hX.symm
              · rw [e] at hX
                dsimp only at hX
                rw [if_pos hw] at hX
                exact ⟨0, hX.symm, fun q => by cases q⟩
            · refine at_ieq 95 dX4_readLine_81 (by decide) (fun cz_ => absurd cz_ (by decide)) (fun _ => ?_)
              rw [if_pos hw] at hX
              refine at_ld (i := 0) dX4_readLine_84 rfl rfl rfl ?_
              refine at_k (nI 2) dX4_readLine_85 rfl (by decide) ?_
              refine at_k (nI 0) dX4_readLine_86 rfl (by decide) ?_
              refine at_k (nI 40) dX4_readLine_87 rfl (by decide) ?_
              refine k_rlStep hg hT X 89 2 0 40 qb.2 95 lb (by decide) (by decide) (by decide) _ _ _ _ _ (fun Q' K hc hn => ?_) (fun b h1 hf ht => ?_) (fun q e => ?_) (fun qc ec y z w => ?_)
              · refine at_cv [_, _, _] dX4_readLine_89 mX4_takeNumber ⟨Nat.le_of_ble_eq_true rfl, Nat.le_of_ble_eq_true rfl⟩ lX4_49 iX4_takeNumber rfl rfl (rd_o hg) (by omega) rfl (Nat.le_of_ble_eq_true rfl) (Nat.le_of_ble_eq_true rfl) (K) ?_ ?_
                · exact hc
                · exact hn
              · refine at_zeq 106 dX4_readLine_92 (by decide) (fun c => ?_) (fun c => ?_)
                · exact hf ((bI_0 _).mp c)
                · exact ht (bI_1 c)
              · rw [e] at hX; exact hX.symm
              · rw [ec] at hX
                have lc := nm_le lb ec
                dsimp only at hX
                refine sg qc.2 _ _ _ _ lc (fun q e => ?_) (fun s e => ?_) (by simp [upd]) (by simp [upd])
                · rw [e] at hX; exact hX.symm
                · rw [e] at hX
                  dsimp only at hX
                  rw [if_neg (show ¬ wdS t n p = some 1 by rw [hw]; decide)] at hX
                  exact ⟨qc.1, hX.symm, fun _ => by simp [upd]⟩
      by_cases c1 : wdS t n p = some 1
      · refine at_ld (i := 0) dX4_readLine_9 rfl rfl rfl ?_
        refine at_ldcS (k0 := 1011) dX4_readLine_10 (List.Mem.tail _ (List.Mem.head _)) ?_
        refine at_rv [_] dX4_readLine_12 mX4_isWord ⟨Nat.le_of_ble_eq_true rfl, Nat.le_of_ble_eq_true rfl⟩ lX4_62 iX4_isWord rfl rfl (rd_o hg) (by omega) rfl (Nat.le_of_ble_eq_true rfl) (Nat.le_of_ble_eq_true rfl) ⟨rfl, rfl⟩ (k_isWord hg hT p hp 1011 (Or.inr (Or.inl rfl)) true ⟨fun _ => (wq_1 hp).mp c1, fun _ => rfl⟩) ?_
        refine at_zne 37 dX4_readLine_15 (by decide) (fun _ => ?_) (fun cz_ => absurd (show ¬ bI true = 0 by decide) cz_)
        refine at_ld (i := 0) dX4_readLine_37 rfl rfl rfl ?_
        refine at_ld (i := 0) dX4_readLine_38 rfl rfl rfl ?_
        refine at_ldcS (k0 := 1011) dX4_readLine_39 (List.Mem.tail _ (List.Mem.head _)) ?_
        refine at_rv [_] dX4_readLine_41 mX4_isWord ⟨Nat.le_of_ble_eq_true rfl, Nat.le_of_ble_eq_true rfl⟩ lX4_62 iX4_isWord rfl rfl (rd_o hg) (by omega) rfl (Nat.le_of_ble_eq_true rfl) (Nat.le_of_ble_eq_true rfl) ⟨rfl, rfl⟩ (k_isWord hg hT p hp 1011 (Or.inr (Or.inl rfl)) true ⟨fun _ => (wq_1 hp).mp c1, fun _ => rfl⟩) ?_
        refine at_zeq 51 dX4_readLine_44 (by decide) (fun cz_ => absurd cz_ (show ¬ bI true = 0 by decide)) (fun _ => ?_)
        refine at_k (nI 1) dX4_readLine_47 rfl (by decide) ?_
        refine at_goto 52 dX4_readLine_48 (by decide) ?_
        refine at_put dX4_readLine_52 fX4_74 ⟨_, _, rfl, Or.inl rfl, tyX4_ok 2 (by decide), fun _ => ⟨rfl, rfl⟩⟩ (rd_o hg) (by omega) (Nat.le_of_ble_eq_true rfl) (rd_u2 rfl) ?_
        exact go 1 (Or.inl rfl) c1 _ _ _
      · refine at_ld (i := 0) dX4_readLine_9 rfl rfl rfl ?_
        refine at_ldcS (k0 := 1011) dX4_readLine_10 (List.Mem.tail _ (List.Mem.head _)) ?_
        refine at_rv [_] dX4_readLine_12 mX4_isWord ⟨Nat.le_of_ble_eq_true rfl, Nat.le_of_ble_eq_true rfl⟩ lX4_62 iX4_isWord rfl rfl (rd_o hg) (by omega) rfl (Nat.le_of_ble_eq_true rfl) (Nat.le_of_ble_eq_true rfl) ⟨rfl, rfl⟩ (k_isWord hg hT p hp 1011 (Or.inr (Or.inl rfl)) false ⟨fun q => (by cases q), fun q => absurd ((wq_1 hp).mpr q) c1⟩) ?_
        refine at_zne 37 dX4_readLine_15 (by decide) (fun cz_ => absurd cz_ (fun q => q rfl)) (fun _ => ?_)
        by_cases c2 : wdS t n p = some 2
        · refine at_ld (i := 0) dX4_readLine_18 rfl rfl rfl ?_
          refine at_ldcS (k0 := 1012) dX4_readLine_19 (List.Mem.tail _ (List.Mem.tail _ (List.Mem.head _))) ?_
          refine at_rv [_] dX4_readLine_21 mX4_isWord ⟨Nat.le_of_ble_eq_true rfl, Nat.le_of_ble_eq_true rfl⟩ lX4_62 iX4_isWord rfl rfl (rd_o hg) (by omega) rfl (Nat.le_of_ble_eq_true rfl) (Nat.le_of_ble_eq_true rfl) ⟨rfl, rfl⟩ (k_isWord hg hT p hp 1012 (Or.inr (Or.inr rfl)) true ⟨fun _ => (wq_2 hp).mp c2, fun _ => rfl⟩) ?_
          refine at_zne 37 dX4_readLine_24 (by decide) (fun _ => ?_) (fun cz_ => absurd (show ¬ bI true = 0 by decide) cz_)
          refine at_ld (i := 0) dX4_readLine_37 rfl rfl rfl ?_
          refine at_ld (i := 0) dX4_readLine_38 rfl rfl rfl ?_
          refine at_ldcS (k0 := 1011) dX4_readLine_39 (List.Mem.tail _ (List.Mem.head _)) ?_
          refine at_rv [_] dX4_readLine_41 mX4_isWord ⟨Nat.le_of_ble_eq_true rfl, Nat.le_of_ble_eq_true rfl⟩ lX4_62 iX4_isWord rfl rfl (rd_o hg) (by omega) rfl (Nat.le_of_ble_eq_true rfl) (Nat.le_of_ble_eq_true rfl) ⟨rfl, rfl⟩ (k_isWord hg hT p hp 1011 (Or.inr (Or.inl rfl)) false ⟨fun q => (by cases q), fun q => absurd ((wq_1 hp).mpr q) c1⟩) ?_
          refine at_zeq 51 dX4_readLine_44 (by decide) (fun _ => ?_) (fun cz_ => absurd (rfl) cz_)
          refine at_k (nI 2) dX4_readLine_51 rfl (by decide) ?_
          refine at_put dX4_readLine_52 fX4_74 ⟨_, _, rfl, Or.inl rfl, tyX4_ok 2 (by decide), fun _ => ⟨rfl, rfl⟩⟩ (rd_o hg) (by omega) (Nat.le_of_ble_eq_true rfl) (rd_u2 rfl) ?_
          exact go 2 (Or.inr rfl) c2 _ _ _
        · refine at_ld (i := 0) dX4_readLine_18 rfl rfl rfl ?_
          refine at_ldcS (k0 := 1012) dX4_readLine_19 (List.Mem.tail _ (List.Mem.tail _ (List.Mem.head _))) ?_
          refine at_rv [_] dX4_readLine_21 mX4_isWord ⟨Nat.le_of_ble_eq_true rfl, Nat.le_of_ble_eq_true rfl⟩ lX4_62 iX4_isWord rfl rfl (rd_o hg) (by omega) rfl (Nat.le_of_ble_eq_true rfl) (Nat.le_of_ble_eq_true rfl) ⟨rfl, rfl⟩ (k_isWord hg hT p hp 1012 (Or.inr (Or.inr rfl)) false ⟨fun q => (by cases q), fun q => absurd ((wq_2 hp).mpr q) c2⟩) ?_
          refine at_zne 37 dX4_readLine_24 (by decide) (fun cz_ => absurd cz_ (fun q => q rfl)) (fun _ => ?_)
          refine at_ld (i := 0) dX4_readLine_27 rfl rfl rfl ?_
          refine at_k (nI 2) dX4_readLine_28 rfl (by decide) ?_
          refine at_ld (i := 0) dX4_readLine_29 rfl rfl rfl ?_
          refine at_get dX4_readLine_30 fX4_67 (rd_o hg) (by omega) rfl ?_
          refine at_wv [_, _] dX4_readLine_33 mX4_refuse ⟨Nat.le_of_ble_eq_true rfl, Nat.le_of_ble_eq_true rfl⟩ lX4_70 iX4_refuse rfl rfl (rd_o hg) (by omega) rfl (Nat.le_of_ble_eq_true rfl) (Nat.le_of_ble_eq_true rfl) ⟨rfl, rfl⟩ (k_refuse hg 2 (tB t n p)) ⟨rfl, rfl⟩ ?_
          try dsimp only [Option.toList, List.cons_append, List.nil_append]
          refine at_ret dX4_readLine_36 rfl rfl ?_
          rw [if_neg (by rintro (q | q); exact c1 q; exact c2 q)] at hX
          subst hX
          exact ⟨rfl, _, _, _, _, _, _, rfl⟩
end C21
