/-! THE CLASS: FreeMap, the rest -/
def gon (v : Nat → Nat) (a : Nat) : Nat := match srch (fun n => if fba v ≤ fbs v (bh v a n) * v 0 then some (bh v a n) else none) 1 (v 0) with
  | some g => g
  | none => a
def grw1 (v : Nat → Nat) (a q : Nat) : Option Nat := srch (fun p => if rfr v a p q = true then some (v 1 * a + p) else none) 0 (v 1)
theorem allB_t {p : Nat → Bool} : ∀ n, (∀ k, k < n → p k = true) → allB p n = true := by
  intro n
  induction n with
  | zero => intro _; rfl
  | succ n ih => intro h; simp only [allB]; rw [ih (fun k hk => h k (by omega)), h n (by omega)]; rfl
section C5
variable {g : sg_H} {m l : Nat} {v : Nat → Nat} {b : Nat → Int32}
set_option maxRecDepth 100000 in
theorem k_groupOnward (hF : FM g m l v b) (hb : mbq (fr v) b) (w : wfg v) (a : Nat) (ha : a < v 0) : sg_Kr MX1_groupOnward [.ref m, .int (nI a)] g (.int (nI (gon v a))) := by
  have hm1 := hF.2.2.2.1
  have hl1 := hF.2.2.2.2.1
  have h4 := w.1.2
  have h8 := w.2.1.2
  have hgb := wf_gb w
  have hfa := fba_le v
  show sg_A MX1_groupOnward 0 [some (.ref m), some (.int (nI a)), none, none, none] [] _ _
  refine at_ld (i := 0) dX1_groupOnward_0 rfl rfl rfl ?_
  refine at_rv [] dX1_groupOnward_1 mX1_freeBlocks ⟨Nat.le_of_ble_eq_true rfl, Nat.le_of_ble_eq_true rfl⟩ lX1_75 iX1_freeBlocks rfl rfl hF.1 (by omega) rfl (Nat.le_of_ble_eq_true rfl) (Nat.le_of_ble_eq_true rfl) ⟨rfl, rfl⟩ (k_freeBlocks hF hb w) ?_
  refine at_st (i := 2) dX1_groupOnward_4 rfl rfl (Nat.le_of_ble_eq_true rfl) rfl ?_
  try dsimp only [List.set_cons_succ, List.set_cons_zero]
  refine at_k (nI 1) dX1_groupOnward_5 rfl (by decide) ?_
  refine at_st (i := 3) dX1_groupOnward_6 rfl rfl (Nat.le_of_ble_eq_true rfl) rfl ?_
  try dsimp only [List.set_cons_succ, List.set_cons_zero]
  have loop : ∀ f k y4, k + f = v 0 → 1 ≤ k → gon v a = (match srch (fun n => if fba v ≤ fbs v (bh v a n) * v 0 then some (bh v a n) else none) k (v 0 + 1 - k) with | some g => g | none => a) → sg_A MX1_groupOnward 7 [some (.ref m), some (.int (nI a)), some (.int (nI (fba v))), some (.int (nI k)), y4] [] g (fun r h' => r = some (.int (nI (gon v a))) ∧ h' = g) := by
    intro f
    induction f with
    | zero =>
      intro k y4 hk h1 e
      have : k = v 0 := by omega
      subst this
      have hbh : bh v a (v 0) = a := by
        unfold bh
        rw [Nat.add_mod_right, Nat.mod_eq_of_lt ha]
      have e2 : gon v a = a := by
        rw [e, show v 0 + 1 - v 0 = 1 by omega]
        simp only [srch]
        rw [hbh]
        by_cases q : fba v ≤ fbs v a * v 0
        · rw [if_pos q]
        · rw [if_neg q]
      refine at_ld (i := 3) dX1_groupOnward_7 rfl rfl rfl ?_
      refine at_ld (i := 0) dX1_groupOnward_8 rfl rfl rfl ?_
      refine at_get dX1_groupOnward_9 fX1_15 hF.1 (by omega) rfl ?_
      refine at_get dX1_groupOnward_12 fX1_48 hF.2.1 (by omega) rfl ?_
      refine at_ige 56 dX1_groupOnward_15 (by decide) (fun c => ?_) (fun c => ?_)
      · refine at_ld (i := 1) dX1_groupOnward_56 rfl rfl rfl ?_
        refine at_ret dX1_groupOnward_57 rfl rfl ?_
        rw [e2]
        exact ⟨rfl, rfl⟩
      · exact absurd (nI_le (Nat.le_refl _) (by omega)) c
    | succ f ih =>
      intro k y4 hk h1 e
      have hbl := bh_lt w a k
      have hfs := fbs_le v (bh v a k)
      have hfv : fbs v (bh v a k) * v 0 ≤ 8 * 4 := Nat.mul_le_mul (by omega) h4
      refine at_ld (i := 3) dX1_groupOnward_7 rfl rfl rfl ?_
      refine at_ld (i := 0) dX1_groupOnward_8 rfl rfl rfl ?_
      refine at_get dX1_groupOnward_9 fX1_15 hF.1 (by omega) rfl ?_
      refine at_get dX1_groupOnward_12 fX1_48 hF.2.1 (by omega) rfl ?_
      refine at_ige 56 dX1_groupOnward_15 (by decide) (fun c => ?_) (fun c => ?_)
      · exact absurd c (nI_ge (by omega) (by omega))
      · refine at_ld (i := 0) dX1_groupOnward_18 rfl rfl rfl ?_
        refine at_get dX1_groupOnward_19 fX1_15 hF.1 (by omega) rfl ?_
        refine at_ld (i := 1) dX1_groupOnward_22 rfl rfl rfl ?_
        refine at_ld (i := 3) dX1_groupOnward_23 rfl rfl rfl ?_
        refine at_rv [_, _] dX1_groupOnward_24 mX3_behind ⟨Nat.le_of_ble_eq_true rfl, Nat.le_of_ble_eq_true rfl⟩ lX1_61 iX3_behind rfl rfl hF.2.1 (by omega) rfl (Nat.le_of_ble_eq_true rfl) (Nat.le_of_ble_eq_true rfl) ⟨rfl, rfl⟩ (k_behind hF.2.1 hl1 w a k ha (by omega)) ?_
        refine at_st (i := 4) dX1_groupOnward_27 rfl rfl (Nat.le_of_ble_eq_true rfl) rfl ?_
        try dsimp only [List.set_cons_succ, List.set_cons_zero]
        refine at_ld (i := 0) dX1_groupOnward_29 rfl rfl rfl ?_
        refine at_ld (i := 4) dX1_groupOnward_30 rfl rfl rfl ?_
        refine at_rv [_] dX1_groupOnward_32 mX1_freeBlocksIn ⟨Nat.le_of_ble_eq_true rfl, Nat.le_of_ble_eq_true rfl⟩ lX1_78 iX1_freeBlocksIn rfl rfl hF.1 (by omega) rfl (Nat.le_of_ble_eq_true rfl) (Nat.le_of_ble_eq_true rfl) ⟨rfl, rfl⟩ (k_freeBlocksIn hF hb w (bh v a k) hbl) ?_
        refine at_ld (i := 0) dX1_groupOnward_35 rfl rfl rfl ?_
        refine at_get dX1_groupOnward_36 fX1_15 hF.1 (by omega) rfl ?_
        refine at_get dX1_groupOnward_39 fX1_48 hF.2.1 (by omega) rfl ?_
        refine at_bin dX1_groupOnward_42 rfl ?_
        try dsimp only
        rw [nI_mul]
        refine at_ld (i := 2) dX1_groupOnward_43 rfl rfl rfl ?_
        refine at_ilt 50 dX1_groupOnward_44 (by decide) (fun c1 => ?_) (fun c1 => ?_)
        · have c2 := (nI_ltI (by omega) (by omega)).mp c1
          refine at_iinc (nI 1) dX1_groupOnward_50 rfl rfl (by decide) ?_
          try dsimp only [List.set_cons_succ, List.set_cons_zero]
          refine at_goto 7 dX1_groupOnward_53 (by decide) ?_
          rw [nI_add]
          refine ih (k + 1) _ (by omega) (by omega) ?_
          rw [e, sr_n (by omega) (if_neg (by omega))]
        · have c2 : fba v ≤ fbs v (bh v a k) * v 0 := by
            rcases Nat.lt_or_ge (fbs v (bh v a k) * v 0) (fba v) with z | z
            · exact absurd (nI_lt z (by omega)) c1
            · exact z
          refine at_ld (i := 4) dX1_groupOnward_47 rfl rfl rfl ?_
          refine at_ret dX1_groupOnward_49 rfl rfl ?_
          rw [e, sr_s (by omega) (if_pos c2)]
          exact ⟨rfl, rfl⟩
  have h01 := w.1.1
  exact loop (v 0 - 1) 1 none (by omega) (by decide) (by rw [show v 0 + 1 - 1 = v 0 by omega]; rfl)
set_option maxRecDepth 100000 in
theorem k_gatheredRowIn (hF : FM g m l v b) (hb : mbq (fr v) b) (w : wfg v) (a q : Nat) (ha : a < v 0) (hq1 : 1 ≤ q) (hq : q ≤ 10) : sg_Kr MX1_gatheredRowIn [.ref m, .int (nI a), .int (nI q)] g (.int (oI (grw1 v a q))) := by
  have hm1 := hF.2.2.2.1
  have hl1 := hF.2.2.2.2.1
  have h3 := w.2.2.2.1
  have h8 := w.2.1
  have hgb := wf_gb w
  have hqf : (q - 1) * (1 + v 3) ≤ 9 * 4 := Nat.mul_le_mul (by omega) (by omega)
  show sg_A MX1_gatheredRowIn 0 [some (.ref m), some (.int (nI a)), some (.int (nI q)), none, none, none] [] _ _
  refine at_k (nI 1) dX1_gatheredRowIn_0 rfl (by decide) ?_
  refine at_ld (i := 0) dX1_gatheredRowIn_1 rfl rfl rfl ?_
  refine at_get dX1_gatheredRowIn_2 fX1_15 hF.1 (by omega) rfl ?_
  refine at_get dX1_gatheredRowIn_5 fX1_81 hF.2.1 (by omega) rfl ?_
  refine at_bin dX1_gatheredRowIn_8 rfl ?_
  try dsimp only
  rw [nI_add]
  refine at_st (i := 3) dX1_gatheredRowIn_9 rfl rfl (Nat.le_of_ble_eq_true rfl) rfl ?_
  try dsimp only [List.set_cons_succ, List.set_cons_zero]
  refine at_k (nI 0) dX1_gatheredRowIn_10 rfl (by decide) ?_
  refine at_st (i := 4) dX1_gatheredRowIn_11 rfl rfl (Nat.le_of_ble_eq_true rfl) rfl ?_
  try dsimp only [List.set_cons_succ, List.set_cons_zero]
  -- behind the last one that may be
  have non : ∀ k, v 1 ≤ k + (q - 1) * (1 + v 3) → rfr v a k q = true → False := by
    intro k hk hr
    have := allB_of q hr (q - 1) (by omega)
    rw [Bool.and_eq_true] at this
    have := of_decide_eq_true this.1
    omega
  have loop : ∀ f k y5, k + f = v 1 → grw1 v a q = srch (fun p => if rfr v a p q = true then some (v 1 * a + p) else none) k (v 1 - k) → sg_A MX1_gatheredRowIn 13 [some (.ref m), some (.int (nI a)), some (.int (nI q)), some (.int (nI (1 + v 3))), some (.int (nI k)), y5] [] g (fun r h' => r = some (.int (oI (grw1 v a q))) ∧ h' = g) := by
    intro f
    induction f with
    | zero =>
      intro k y5 hk e
      have : k = v 1 := by omega
      subst this
      rw [sr_0] at e
      rw [e]
      refine at_ld (i := 4) dX1_gatheredRowIn_13 rfl rfl rfl ?_
      refine at_ld (i := 2) dX1_gatheredRowIn_15 rfl rfl rfl ?_
      refine at_k (nI 1) dX1_gatheredRowIn_16 rfl (by decide) ?_
      refine at_bin dX1_gatheredRowIn_17 rfl ?_
      try dsimp only
      rw [nI_sub hq1]
      refine at_ld (i := 3) dX1_gatheredRowIn_18 rfl rfl rfl ?_
      refine at_bin dX1_gatheredRowIn_19 rfl ?_
      try dsimp only
      rw [nI_mul]
      refine at_bin dX1_gatheredRowIn_20 rfl ?_
      try dsimp only
      rw [nI_add]
      refine at_ld (i := 0) dX1_gatheredRowIn_21 rfl rfl rfl ?_
      refine at_get dX1_gatheredRowIn_22 fX1_15 hF.1 (by omega) rfl ?_
      refine at_get dX1_gatheredRowIn_25 fX1_39 hF.2.1 (by omega) rfl ?_
      refine at_ige 95 dX1_gatheredRowIn_28 (by decide) (fun c => ?_) (fun c => ?_)
      · refine at_k (-4) dX1_gatheredRowIn_95 rfl (by decide) ?_
        refine at_ret dX1_gatheredRowIn_97 rfl rfl ?_
        exact ⟨rfl, rfl⟩
      · exact absurd (nI_le (by omega) (by omega)) c
    | succ f ih =>
      intro k y5 hk e
      refine at_ld (i := 4) dX1_gatheredRowIn_13 rfl rfl rfl ?_
      refine at_ld (i := 2) dX1_gatheredRowIn_15 rfl rfl rfl ?_
      refine at_k (nI 1) dX1_gatheredRowIn_16 rfl (by decide) ?_
      refine at_bin dX1_gatheredRowIn_17 rfl ?_
      try dsimp only
      rw [nI_sub hq1]
      refine at_ld (i := 3) dX1_gatheredRowIn_18 rfl rfl rfl ?_
      refine at_bin dX1_gatheredRowIn_19 rfl ?_
      try dsimp only
      rw [nI_mul]
      refine at_bin dX1_gatheredRowIn_20 rfl ?_
      try dsimp only
      rw [nI_add]
      refine at_ld (i := 0) dX1_gatheredRowIn_21 rfl rfl rfl ?_
      refine at_get dX1_gatheredRowIn_22 fX1_15 hF.1 (by omega) rfl ?_
      refine at_get dX1_gatheredRowIn_25 fX1_39 hF.2.1 (by omega) rfl ?_
      refine at_ige 95 dX1_gatheredRowIn_28 (by decide) (fun c => ?_) (fun c => ?_)
      · have c1 := (nI_leI (by omega) (by omega)).mp c
        refine at_k (-4) dX1_gatheredRowIn_95 rfl (by decide) ?_
        refine at_ret dX1_gatheredRowIn_97 rfl rfl ?_
        have : grw1 v a q = none := by
          rw [e]
          refine srch_none _ _ (fun j hj1 hj2 => if_neg (fun z => non j (by omega) z))
        rw [this]
        exact ⟨rfl, rfl⟩
      · have c1 : k + (q - 1) * (1 + v 3) < v 1 := by
          rcases Nat.lt_or_ge (k + (q - 1) * (1 + v 3)) (v 1) with z | z
          · exact z
          · exact absurd (nI_le z (by omega)) c
        have hin : ∀ n, n < q → k + n * (1 + v 3) < v 1 := by
          intro n hn
          have : n * (1 + v 3) ≤ (q - 1) * (1 + v 3) := Nat.mul_le_mul_right _ (by omega)
          omega
        -- how many are free
        have fin : ∀ n, n ≤ q → (n = q ↔ rfr v a k q = true) → sg_A MX1_gatheredRowIn 70 [some (.ref m), some (.int (nI a)), some (.int (nI q)), some (.int (nI (1 + v 3))), some (.int (nI k)), some (.int (nI n))] [] g (fun r h' => r = some (.int (oI (grw1 v a q))) ∧ h' = g) := by
          intro n hn hiff
          refine at_ld (i := 5) dX1_gatheredRowIn_70 rfl rfl rfl ?_
          refine at_ld (i := 2) dX1_gatheredRowIn_72 rfl rfl rfl ?_
          refine at_ine 89 dX1_gatheredRowIn_73 (by decide) (fun c2 => ?_) (fun c2 => ?_)
          · have c3 : ¬ rfr v a k q = true := fun z => c2 (by rw [hiff.mpr z])
            refine at_iinc (nI 1) dX1_gatheredRowIn_89 rfl rfl (by decide) ?_
            try dsimp only [List.set_cons_succ, List.set_cons_zero]
            refine at_goto 13 dX1_gatheredRowIn_92 (by decide) ?_
            rw [nI_add]
            refine ih (k + 1) _ (by omega) ?_
            rw [e, sr_n (by omega) (if_neg c3)]
          · have c3 : n = q := (nI_eq32 (by omega) (by omega)).mp (Classical.not_not.mp c2)
            refine at_ld (i := 1) dX1_gatheredRowIn_76 rfl rfl rfl ?_
            refine at_ld (i := 0) dX1_gatheredRowIn_77 rfl rfl rfl ?_
            refine at_get dX1_gatheredRowIn_78 fX1_15 hF.1 (by omega) rfl ?_
            refine at_get dX1_gatheredRowIn_81 fX1_39 hF.2.1 (by omega) rfl ?_
            refine at_bin dX1_gatheredRowIn_84 rfl ?_
            try dsimp only
            rw [nI_mul]
            refine at_ld (i := 4) dX1_gatheredRowIn_85 rfl rfl rfl ?_
            refine at_bin dX1_gatheredRowIn_87 rfl ?_
            try dsimp only
            rw [nI_add, Nat.mul_comm a]
            refine at_ret dX1_gatheredRowIn_88 rfl rfl ?_
            rw [e, sr_s (by omega) (if_pos (hiff.mp c3))]
            exact ⟨rfl, rfl⟩
        refine at_k (nI 0) dX1_gatheredRowIn_31 rfl (by decide) ?_
        refine at_st (i := 5) dX1_gatheredRowIn_32 rfl rfl (Nat.le_of_ble_eq_true rfl) rfl ?_
        try dsimp only [List.set_cons_succ, List.set_cons_zero]
        have inner : ∀ f2 n, n + f2 = q → (∀ j, j < n → fbk v (v 1 * a + (k + j * (1 + v 3))) = true) → sg_A MX1_gatheredRowIn 34 [some (.ref m), some (.int (nI a)), some (.int (nI q)), some (.int (nI (1 + v 3))), some (.int (nI k)), some (.int (nI n))] [] g (fun r h' => r = some (.int (oI (grw1 v a q))) ∧ h' = g) := by
          intro f2
          induction f2 with
          | zero =>
            intro n hn hall
            have : n = q := by omega
            subst this
            refine at_ld (i := 5) dX1_gatheredRowIn_34 rfl rfl rfl ?_
            refine at_ld (i := 2) dX1_gatheredRowIn_36 rfl rfl rfl ?_
            refine at_ige 70 dX1_gatheredRowIn_37 (by decide) (fun c2 => ?_) (fun c2 => ?_)
            · refine fin n (Nat.le_refl _) ⟨fun _ => ?_, fun _ => rfl⟩
              exact allB_t n (fun j hj => by rw [hall j hj, decide_eq_true (hin j hj)]; rfl)
            · exact absurd (nI_le (Nat.le_refl _) (by omega)) c2
          | succ f2 ih2 =>
            intro n hn hall
            have hlt := gb_lt ha (hin n (by omega))
            refine at_ld (i := 5) dX1_gatheredRowIn_34 rfl rfl rfl ?_
            refine at_ld (i := 2) dX1_gatheredRowIn_36 rfl rfl rfl ?_
            refine at_ige 70 dX1_gatheredRowIn_37 (by decide) (fun c2 => ?_) (fun c2 => ?_)
            · exact absurd c2 (nI_ge (by omega) (by omega))
            · refine at_ld (i := 0) dX1_gatheredRowIn_40 rfl rfl rfl ?_
              refine at_ld (i := 1) dX1_gatheredRowIn_41 rfl rfl rfl ?_
              refine at_ld (i := 0) dX1_gatheredRowIn_42 rfl rfl rfl ?_
              refine at_get dX1_gatheredRowIn_43 fX1_15 hF.1 (by omega) rfl ?_
              refine at_get dX1_gatheredRowIn_46 fX1_39 hF.2.1 (by omega) rfl ?_
              refine at_bin dX1_gatheredRowIn_49 rfl ?_
              try dsimp only
              rw [nI_mul]
              refine at_ld (i := 4) dX1_gatheredRowIn_50 rfl rfl rfl ?_
              refine at_bin dX1_gatheredRowIn_52 rfl ?_
              try dsimp only
              rw [nI_add]
              refine at_ld (i := 5) dX1_gatheredRowIn_53 rfl rfl rfl ?_
              refine at_ld (i := 3) dX1_gatheredRowIn_55 rfl rfl rfl ?_
              refine at_bin dX1_gatheredRowIn_56 rfl ?_
              try dsimp only
              rw [nI_mul]
              refine at_bin dX1_gatheredRowIn_57 rfl ?_
              try dsimp only
              rw [nI_add, Nat.mul_comm a, Nat.add_assoc (v 1 * a)]
              refine at_rv [_] dX1_gatheredRowIn_58 mX1_isFreeBlock ⟨Nat.le_of_ble_eq_true rfl, Nat.le_of_ble_eq_true rfl⟩ lX1_54 iX1_isFreeBlock rfl rfl hF.1 (by omega) rfl (Nat.le_of_ble_eq_true rfl) (Nat.le_of_ble_eq_true rfl) ⟨rfl, rfl⟩ (k_isFreeBlock hF hb (v 1 * a + (k + n * (1 + v 3))) (by omega)) ?_
              refine at_zeq 70 dX1_gatheredRowIn_61 (by decide) (fun c3 => ?_) (fun c3 => ?_)
              · have c4 : fbk v (v 1 * a + (k + n * (1 + v 3))) = false := (bI_0 _).mp c3
                refine fin n (by omega) ⟨fun z => by omega, fun z => ?_⟩
                have := allB_of q z n (by omega)
                rw [Bool.and_eq_true] at this
                rw [this.2] at c4
                cases c4
              · have c4 : fbk v (v 1 * a + (k + n * (1 + v 3))) = true := bI_1 c3
                refine at_iinc (nI 1) dX1_gatheredRowIn_64 rfl rfl (by decide) ?_
                try dsimp only [List.set_cons_succ, List.set_cons_zero]
                refine at_goto 34 dX1_gatheredRowIn_67 (by decide) ?_
                rw [nI_add]
                refine ih2 (n + 1) (by omega) (fun j hj => ?_)
                by_cases z : j = n
                · rw [z]; exact c4
                · exact hall j (by omega)
        exact inner q 0 (by omega) (fun j hj => by omega)
  exact loop (v 1) 0 none (by omega) rfl
/-- all that the groups have is free -/
def fAll (v : Nat → Nat) (x : Nat) : Bool := decide (x < 4 * (v 0 * v 1))
theorem mbq_all (v : Nat → Nat) (b : Nat → Int32) (h : ∀ k, k < 32 → b k = if k < v 0 * v 1 then nI 15 else nI 0) : mbq (fAll v) b := by
  intro k hk
  rw [h k hk]
  unfold bq fAll
  by_cases e : k < v 0 * v 1
  · rw [if_pos e, decide_eq_true (by omega), decide_eq_true (by omega), decide_eq_true (by omega), decide_eq_true (by omega)]
    rfl
  · rw [if_neg e, decide_eq_false (by omega), decide_eq_false (by omega), decide_eq_false (by omega), decide_eq_false (by omega)]
    rfl
set_option maxRecDepth 100000 in
theorem k_freeAll (hF : FM g m l v b) (w : wfg v) : ∃ b', sg_Kw MX1_freeAll [.ref m] g none (sg_up g (m + 1) (.inl (false, 32, b'))) ∧ mbq (fAll v) b' := by
  have hm1 := hF.2.2.2.1
  have hl1 := hF.2.2.2.2.1
  have hgb := wf_gb w
  refine ⟨fun k => if k < 32 then (if k < v 0 * v 1 then nI 15 else nI 0) else b k, ?_, mbq_all v _ (fun k hk => if_pos hk)⟩
  show sg_A MX1_freeAll 0 [some (.ref m), none] [] _ _
  refine at_k (nI 0) dX1_freeAll_0 rfl (by decide) ?_
  refine at_st (i := 1) dX1_freeAll_1 rfl rfl (Nat.le_of_ble_eq_true rfl) rfl ?_
  try dsimp only [List.set_cons_succ, List.set_cons_zero]
  have e0 : g = sg_up g (m + 1) (.inl (false, 32, fun k => if k < 0 then (if k < v 0 * v 1 then nI 15 else nI 0) else b k)) := by
    have : (fun k => if k < 0 then (if k < v 0 * v 1 then nI 15 else nI 0) else b k) = b := by funext k; rw [if_neg (by omega)]
    rw [this, up_self hF.2.2.1]
  have : sg_A MX1_freeAll 2 [some (.ref m), some (.int (nI 0))] [] (sg_up g (m + 1) (.inl (false, 32, fun k => if k < 0 then (if k < v 0 * v 1 then nI 15 else nI 0) else b k))) (fun r' h' => r' = none ∧ h' = sg_up g (m + 1) (.inl (false, 32, fun k => if k < 32 then (if k < v 0 * v 1 then nI 15 else nI 0) else b k))) := by
    refine lpN (fun n => sg_A MX1_freeAll 2 [some (.ref m), some (.int (nI n))] [] (sg_up g (m + 1) (.inl (false, 32, fun k => if k < n then (if k < v 0 * v 1 then nI 15 else nI 0) else b k))) (fun r' h' => r' = none ∧ h' = sg_up g (m + 1) (.inl (false, 32, fun k => if k < 32 then (if k < v 0 * v 1 then nI 15 else nI 0) else b k)))) 32 ?_ ?_
    · refine at_ld (i := 1) dX1_freeAll_2 rfl rfl rfl ?_
      refine at_ld (i := 0) dX1_freeAll_3 rfl rfl rfl ?_
      refine at_get dX1_freeAll_4 fX1_9 (FM_u hF _).1 (by omega) rfl ?_
      refine at_alen dX1_freeAll_7 (FM_u hF _).2.2.1 ?_
      refine at_ige 40 dX1_freeAll_8 (by decide) (fun c => ?_) (fun c => ?_)
      · refine at_vret dX1_freeAll_40 rfl ?_
        exact ⟨rfl, rfl⟩
      · exact absurd (nI_le (Nat.le_refl _) (by omega)) c
    · intro n hn ih
      have go : ∀ y, y = (if n < v 0 * v 1 then nI 15 else nI 0) → sg_A MX1_freeAll 33 [some (.ref m), some (.int (nI n))] [.int y, .int (nI n), .ref (m + 1)] (sg_up g (m + 1) (.inl (false, 32, fun k => if k < n then (if k < v 0 * v 1 then nI 15 else nI 0) else b k))) (fun r' h' => r' = none ∧ h' = sg_up g (m + 1) (.inl (false, 32, fun k => if k < 32 then (if k < v 0 * v 1 then nI 15 else nI 0) else b k))) := by
        intro y hy
        refine at_ast n dX1_freeAll_33 (FM_u hF _).2.2.1 (by omega) rfl hn (by decide) (up_up _ _ _ _) ?_
        refine at_iinc (nI 1) dX1_freeAll_34 rfl rfl (by decide) ?_
        try dsimp only [List.set_cons_succ, List.set_cons_zero]
        refine at_goto 2 dX1_freeAll_37 (by decide) ?_
        rw [nI_add]
        have : upd (fun k => if k < n then (if k < v 0 * v 1 then nI 15 else nI 0) else b k) n y = (fun k => if k < n + 1 then (if k < v 0 * v 1 then nI 15 else nI 0) else b k) := by
          funext k
          unfold upd
          by_cases e : k = n
          · rw [if_pos e, if_pos (by omega), hy, e]
          · rw [if_neg e]
            show (if k < n then _ else _) = _
            by_cases e2 : k < n
            · rw [if_pos e2, if_pos (show k < n + 1 by omega)]
            · rw [if_neg e2, if_neg (show ¬ k < n + 1 by omega)]
        rw [this]
        exact ih
      refine at_ld (i := 1) dX1_freeAll_2 rfl rfl rfl ?_
      refine at_ld (i := 0) dX1_freeAll_3 rfl rfl rfl ?_
      refine at_get dX1_freeAll_4 fX1_9 (FM_u hF _).1 (by omega) rfl ?_
      refine at_alen dX1_freeAll_7 (FM_u hF _).2.2.1 ?_
      refine at_ige 40 dX1_freeAll_8 (by decide) (fun c => ?_) (fun c => ?_)
      · exact absurd c (nI_ge hn (by decide))
      · refine at_ld (i := 0) dX1_freeAll_11 rfl rfl rfl ?_
        refine at_get dX1_freeAll_12 fX1_9 (FM_u hF _).1 (by omega) rfl ?_
        refine at_ld (i := 1) dX1_freeAll_15 rfl rfl rfl ?_
        refine at_ld (i := 1) dX1_freeAll_16 rfl rfl rfl ?_
        refine at_ld (i := 0) dX1_freeAll_17 rfl rfl rfl ?_
        refine at_get dX1_freeAll_18 fX1_15 (FM_u hF _).1 (by omega) rfl ?_
        refine at_rv [] dX1_freeAll_21 mX3_allBlocks ⟨Nat.le_of_ble_eq_true rfl, Nat.le_of_ble_eq_true rfl⟩ lX1_25 iX3_allBlocks rfl rfl (FM_u hF _).2.1 (by omega) rfl (Nat.le_of_ble_eq_true rfl) (Nat.le_of_ble_eq_true rfl) ⟨rfl, rfl⟩ (k_allBlocks (FM_u hF _).2.1 hl1) ?_
        refine at_ige 32 dX1_freeAll_24 (by decide) (fun c1 => ?_) (fun c1 => ?_)
        · have c2 := (nI_leI (by omega) (by omega)).mp c1
          refine at_k (nI 0) dX1_freeAll_32 rfl (by decide) ?_
          exact go _ (if_neg (by omega)).symm
        · have c2 : n < v 0 * v 1 := by
            rcases Nat.lt_or_ge n (v 0 * v 1) with z | z
            · exact z
            · exact absurd (nI_le z (by omega)) c1
          refine at_k (nI 15) dX1_freeAll_27 rfl (by decide) ?_
          refine at_goto 33 dX1_freeAll_29 (by decide) ?_
          exact go _ (if_pos c2).symm
  rw [← e0] at this
  exact this
end C5
