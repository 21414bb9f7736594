/-! THE REFERENCE: deeds: shrink, remove, move, gather -/
def frb (v : Nat → Nat) (i : Nat) : Nat → Nat → (Nat → Nat)
  | 0, _ => v
  | m + 1, k => frb (lta v (4 * io v i (5 + k)) true 4) i m (k + 1)
theorem frb_p {i : Nat} (hi : i < 24) : ∀ m k {v : Nat → Nat}, wf v → k + m ≤ 10 → wf (frb v i m k) ∧ sb v (frb v i m k) ∧ ∀ j f, io (frb v i m k) j f = io v j f := by
  intro m
  induction m with
  | zero => intro k v w _; exact ⟨w, sb_r v, fun _ _ => rfl⟩
  | succ m ih =>
    intro k v w hk
    have hb := (w.2.2 i hi).2.2.2 k (by omega)
    obtain ⟨h1, h2, h3⟩ := ih (k + 1) (wf_lta w true (x := 4 * io v i (5 + k)) (n := 4) (by omega)) (by omega)
    exact ⟨h1, sb_t (sb_l v true (by omega)) h2, fun j f => by simp only [frb]; rw [h3 j f, io_lta v true (by omega)]⟩
def shr (v : Nat → Nat) (i n : Nat) : Nat → Nat := vf_upd (if (io v i 3 - n) / 4 = io v i 3 / 4 then lta v (io v i 4 + (io v i 3 - n) % 4) true (io v i 3 % 4 - (io v i 3 - n) % 4) else
  lta (vf_upd (frb (lta v (io v i 4) true (io v i 3 % 4)) i (io v i 3 / 4 - (io v i 3 - n) / 4) ((io v i 3 - n) / 4)) (136 + 15 * i + 4) (4 * io v i (5 + (io v i 3 - n) / 4))) (4 * io v i (5 + (io v i 3 - n) / 4)) false ((io v i 3 - n) % 4)) (136 + 15 * i + 3) (io v i 3 - n)
def s_shrink (v : Nat → Nat) (x y : Int32) : Int32 × (Nat → Nat) := if isFil v x = true ∧ inR y 1 (io v x.toNatClampNeg 3) = true then (if spt v = true then (-2, v) else (nI (io v x.toNatClampNeg 3 - y.toNatClampNeg), shr v x.toNatClampNeg y.toNatClampNeg)) else (-1, v)
def hso (v : Nat → Nat) (d : Nat) : Bool := anyB (fun i => decide (1 ≤ i ∧ io v i 0 ≠ 0 ∧ io v i 1 = d)) (v 0 * v 2)
def rmv (v : Nat → Nat) (i : Nat) : Nat → Nat := vf_upd (frb (lta v (io v i 4) true (io v i 3 % 4)) i (io v i 3 / 4) 0) (136 + 15 * i + 0) 0
def s_remove (v : Nat → Nat) (x : Int32) : Int32 × (Nat → Nat) := if there v x = true then (if spt v = true ∨ x = 0 ∨ hso v x.toNatClampNeg = true then (-2, v) else (nI (io v x.toNatClampNeg 3), rmv v x.toNatClampNeg)) else (-1, v)
/-- k lies n below the root -/
def chn (v : Nat → Nat) : Nat → Nat → Prop
  | 0, k => k = 0
  | n + 1, k => k ≠ 0 ∧ k < v 0 * v 2 ∧ io v k 0 ≠ 0 ∧ chn v n (io v k 1)
def wth (v : Nat → Nat) (i : Nat) : Nat → Nat → Bool
  | 0, up => decide (up = i)
  | n + 1, up => decide (up = i) || wth v i n (io v up 1)
section R11
variable {h : sg_H} (A : Nat → Nat → Int32) (F : Nat → Int32) (v : Nat → Nat)
set_option maxRecDepth 100000 in
set_option maxHeartbeats 4000000 in
theorem c_shrink (hn : 72 ≤ h.1) (w : wf v) (wt : wfT v) (x y : Int32) : sg_Kw MX8_shrink [.ref 64, .int x, .int y] (mv h A F v) (some (.int (s_shrink v x y).1)) (mv h A F (s_shrink v x y).2) := by
  have hgi := wf_gi w.1
  show sg_A MX8_shrink 0 [some (.ref 64), some (.int x), some (.int y), none, none, none, none, none, none] [] _ _
  refine at_ld (i := 0) dX8_shrink_0 rfl rfl rfl ?_
  refine at_ld (i := 1) dX8_shrink_1 rfl rfl rfl ?_
  refine at_rv [_] dX8_shrink_2 mX8_isFile ⟨Nat.le_of_ble_eq_true rfl, Nat.le_of_ble_eq_true rfl⟩ lX8_273 iX8_isFile rfl rfl (mv_o hn _ _ _) (by omega) rfl (Nat.le_of_ble_eq_true rfl) (Nat.le_of_ble_eq_true rfl) ⟨rfl, rfl⟩ (c_isFile A F v hn w.1 (wf_k w) x) ?_
  refine at_zeq 24 dX8_shrink_5 (by decide) (fun c => ?_) (fun c => ?_)
  · have c1 := (bI_0 _).mp c
    refine at_k (-1) dX8_shrink_24 rfl (by decide) ?_
    refine at_ret dX8_shrink_25 rfl rfl ?_
    rw [s_shrink, if_neg (fun z => by rw [c1] at z; cases z.1)]
    exact ⟨rfl, rfl⟩
  · have c1 := bI_1 c
    have c1' := c1
    obtain ⟨k, hk, rfl, -⟩ := isFil_of w.1 c1
    have hs := wf_s w (i := k) (by omega)
    refine at_ld (i := 2) dX8_shrink_8 rfl rfl rfl ?_
    refine at_i2l dX8_shrink_9 ?_
    refine at_lconst dX8_shrink_10 ?_
    refine at_ld (i := 0) dX8_shrink_11 rfl rfl rfl ?_
    refine at_ld (i := 1) dX8_shrink_12 rfl rfl rfl ?_
    refine at_k (nI 3) dX8_shrink_13 rfl (by decide) ?_
    refine at_rv [_, _] dX8_shrink_14 mX8_of ⟨Nat.le_of_ble_eq_true rfl, Nat.le_of_ble_eq_true rfl⟩ lX8_173 iX8_of rfl rfl (mv_o hn _ _ _) (by omega) rfl (Nat.le_of_ble_eq_true rfl) (Nat.le_of_ble_eq_true rfl) ⟨rfl, rfl⟩ (c_of A F v hn k 3 (by omega)) ?_
    refine at_i2l dX8_shrink_17 ?_
    refine at_rs [_, _, _] dX8_shrink_18 mX8_in ⟨Nat.le_of_ble_eq_true rfl, Nat.le_of_ble_eq_true rfl⟩ lX8_41 tX8_in rfl (Nat.le_of_ble_eq_true rfl) (Nat.le_of_ble_eq_true rfl) ⟨rfl, rfl⟩ (c_inA _ y 1 (io v k 3) rfl (nI_l (by omega)) (by decide) (by omega)) ?_
    refine at_zne 26 dX8_shrink_21 (by decide) (fun c2 => ?_) (fun c2 => ?_)
    · have c3 := bI_1 c2
      rw [s_shrink, nI_clamp (by omega), if_pos ⟨c1', c3⟩]
      refine at_ld (i := 0) dX8_shrink_26 rfl rfl rfl ?_
      refine at_rv [] dX8_shrink_27 mX8_isSpoilt ⟨Nat.le_of_ble_eq_true rfl, Nat.le_of_ble_eq_true rfl⟩ lX8_240 iX8_isSpoilt rfl rfl (mv_o hn _ _ _) (by omega) rfl (Nat.le_of_ble_eq_true rfl) (Nat.le_of_ble_eq_true rfl) ⟨rfl, rfl⟩ (c_isSpoilt A F v hn w) ?_
      refine at_zeq 36 dX8_shrink_30 (by decide) (fun c4 => ?_) (fun c4 => ?_)
      · have c5 := (bI_0 _).mp c4
        rw [if_neg (by rw [c5]; exact fun z => by cases z)]
        obtain ⟨n, hn1, hn2, rfl⟩ := inR_of (by omega) c3
        rw [nI_clamp (by omega)]
        obtain ⟨-, -, w4, wb⟩ := w.2.2 k (by omega)
        have hwt := wt k (by omega)
        refine at_ld (i := 0) dX8_shrink_36 rfl rfl rfl ?_
        refine at_ld (i := 1) dX8_shrink_37 rfl rfl rfl ?_
        refine at_rv [_] dX8_shrink_38 mX8_blocks ⟨Nat.le_of_ble_eq_true rfl, Nat.le_of_ble_eq_true rfl⟩ lX8_194 iX8_blocks rfl rfl (mv_o hn _ _ _) (by omega) rfl (Nat.le_of_ble_eq_true rfl) (Nat.le_of_ble_eq_true rfl) ⟨rfl, rfl⟩ (c_blocks A F v hn k (by omega) (by omega)) ?_
        refine at_st (i := 3) dX8_shrink_41 rfl rfl (Nat.le_of_ble_eq_true rfl) rfl ?_
        try dsimp only [List.set_cons_succ, List.set_cons_zero]
        refine at_ld (i := 0) dX8_shrink_42 rfl rfl rfl ?_
        refine at_ld (i := 1) dX8_shrink_43 rfl rfl rfl ?_
        refine at_rv [_] dX8_shrink_44 mX8_tail ⟨Nat.le_of_ble_eq_true rfl, Nat.le_of_ble_eq_true rfl⟩ lX8_191 iX8_tail rfl rfl (mv_o hn _ _ _) (by omega) rfl (Nat.le_of_ble_eq_true rfl) (Nat.le_of_ble_eq_true rfl) ⟨rfl, rfl⟩ (c_tail A F v hn k (by omega) (by omega)) ?_
        refine at_st (i := 4) dX8_shrink_47 rfl rfl (Nat.le_of_ble_eq_true rfl) rfl ?_
        try dsimp only [List.set_cons_succ, List.set_cons_zero]
        refine at_ld (i := 0) dX8_shrink_49 rfl rfl rfl ?_
        refine at_ld (i := 1) dX8_shrink_50 rfl rfl rfl ?_
        refine at_k (nI 3) dX8_shrink_51 rfl (by decide) ?_
        refine at_rv [_, _] dX8_shrink_52 mX8_of ⟨Nat.le_of_ble_eq_true rfl, Nat.le_of_ble_eq_true rfl⟩ lX8_173 iX8_of rfl rfl (mv_o hn _ _ _) (by omega) rfl (Nat.le_of_ble_eq_true rfl) (Nat.le_of_ble_eq_true rfl) ⟨rfl, rfl⟩ (c_of A F v hn k 3 (by omega)) ?_
        refine at_ld (i := 2) dX8_shrink_55 rfl rfl rfl ?_
        refine at_bin dX8_shrink_56 rfl ?_
        try dsimp only
        rw [nI_sub hn2]
        obtain ⟨size, hsize⟩ : ∃ s, s = io v k 3 - n := ⟨_, rfl⟩
        rw [shr]
        rw [← hsize]
        refine at_st (i := 5) dX8_shrink_57 rfl rfl (Nat.le_of_ble_eq_true rfl) rfl ?_
        try dsimp only [List.set_cons_succ, List.set_cons_zero]
        refine at_ld (i := 5) dX8_shrink_59 rfl rfl rfl ?_
        refine at_k (nI 4) dX8_shrink_61 rfl (by decide) ?_
        refine at_div dX8_shrink_62 (by decide) ?_
        rw [nI_div (by omega) (by decide)]
        refine at_st (i := 6) dX8_shrink_63 rfl rfl (Nat.le_of_ble_eq_true rfl) rfl ?_
        try dsimp only [List.set_cons_succ, List.set_cons_zero]
        refine at_ld (i := 5) dX8_shrink_65 rfl rfl rfl ?_
        refine at_k (nI 4) dX8_shrink_67 rfl (by decide) ?_
        refine at_rem dX8_shrink_68 (by decide) ?_
        rw [nI_rem (by omega) (by decide)]
        refine at_st (i := 7) dX8_shrink_69 rfl rfl (Nat.le_of_ble_eq_true rfl) rfl ?_
        try dsimp only [List.set_cons_succ, List.set_cons_zero]
        refine at_ld (i := 6) dX8_shrink_71 rfl rfl rfl ?_
        refine at_ld (i := 3) dX8_shrink_73 rfl rfl rfl ?_
        have fin : ∀ v1 y8, sg_A MX8_shrink 175 [some (.ref 64), some (.int (nI k)), some (.int (nI n)), some (.int (nI (io v k 3 / 4))), some (.int (nI (io v k 3 % 4))), some (.int (nI size)), some (.int (nI (size / 4))), some (.int (nI (size % 4))), y8] [] (mv h A F v1) (fun r' h' => r' = some (.int (nI size)) ∧ h' = mv h A F (vf_upd v1 (136 + 15 * k + 3) size)) := by
          intro v1 y8
          refine at_ld (i := 0) dX8_shrink_175 rfl rfl rfl ?_
          refine at_ld (i := 1) dX8_shrink_176 rfl rfl rfl ?_
          refine at_k (nI 3) dX8_shrink_177 rfl (by decide) ?_
          refine at_ld (i := 5) dX8_shrink_178 rfl rfl rfl ?_
          refine at_wv [_, _, _] dX8_shrink_180 mX8_sets ⟨Nat.le_of_ble_eq_true rfl, Nat.le_of_ble_eq_true rfl⟩ lX8_236 iX8_sets rfl rfl (mv_o hn _ _ _) (by omega) rfl (Nat.le_of_ble_eq_true rfl) (Nat.le_of_ble_eq_true rfl) ⟨rfl, rfl⟩ (c_sets A F v1 hn k 3 size _ rfl (by omega)) ⟨rfl, rfl⟩ ?_
          try dsimp only [Option.toList, List.cons_append, List.nil_append]
          refine at_ld (i := 5) dX8_shrink_183 rfl rfl rfl ?_
          refine at_ret dX8_shrink_185 rfl rfl ?_
          exact ⟨rfl, rfl⟩
        refine at_ine 99 dX8_shrink_74 (by decide) (fun c6 => ?_) (fun c6 => ?_)
        · have c7 : ¬ size / 4 = io v k 3 / 4 := fun z => c6 (by rw [z])
          rw [if_neg c7]
          refine at_ld (i := 0) dX8_shrink_99 rfl rfl rfl ?_
          refine at_ld (i := 0) dX8_shrink_100 rfl rfl rfl ?_
          refine at_ld (i := 1) dX8_shrink_101 rfl rfl rfl ?_
          refine at_k (nI 4) dX8_shrink_102 rfl (by decide) ?_
          refine at_rv [_, _] dX8_shrink_103 mX8_of ⟨Nat.le_of_ble_eq_true rfl, Nat.le_of_ble_eq_true rfl⟩ lX8_173 iX8_of rfl rfl (mv_o hn _ _ _) (by omega) rfl (Nat.le_of_ble_eq_true rfl) (Nat.le_of_ble_eq_true rfl) ⟨rfl, rfl⟩ (c_of A F v hn k 4 (by omega)) ?_
          refine at_ld (i := 4) dX8_shrink_106 rfl rfl rfl ?_
          refine at_k (nI 1) dX8_shrink_108 rfl (by decide) ?_
          refine at_wv [_, _, _] dX8_shrink_109 mX8_letsAll ⟨Nat.le_of_ble_eq_true rfl, Nat.le_of_ble_eq_true rfl⟩ lX8_253 iX8_letsAll rfl rfl (mv_o hn _ _ _) (by omega) rfl (Nat.le_of_ble_eq_true rfl) (Nat.le_of_ble_eq_true rfl) ⟨rfl, rfl⟩ (c_letsAll A F v hn (io v k 4) (io v k 3 % 4) (by omega) true) ⟨rfl, rfl⟩ ?_
          try dsimp only [Option.toList, List.cons_append, List.nil_append]
          refine at_ld (i := 6) dX8_shrink_112 rfl rfl rfl ?_
          refine at_st (i := 8) dX8_shrink_114 rfl rfl (Nat.le_of_ble_eq_true rfl) rfl ?_
          try dsimp only [List.set_cons_succ, List.set_cons_zero]
          have w1 : wf (lta v (io v k 4) true (io v k 3 % 4)) := wf_lta w true (by omega)
          have e1 : ∀ j f, io (lta v (io v k 4) true (io v k 3 % 4)) j f = io v j f := fun j f => io_lta v true (by omega) j f
          generalize hv1 : lta v (io v k 4) true (io v k 3 % 4) = v1 at w1 e1
          have loop : ∀ m j v2, wf v2 → (∀ j f, io v2 j f = io v j f) → j + m = io v k 3 / 4 → size / 4 ≤ j → sg_A MX8_shrink 116 [some (.ref 64), some (.int (nI k)), some (.int (nI n)), some (.int (nI (io v k 3 / 4))), some (.int (nI (io v k 3 % 4))), some (.int (nI size)), some (.int (nI (size / 4))), some (.int (nI (size % 4))), some (.int (nI j))] [] (mv h A F v2) (fun r' h' => r' = some (.int (nI size)) ∧ h' = mv h A F (vf_upd (lta (vf_upd (frb v2 k m j) (136 + 15 * k + 4) (4 * io v k (5 + size / 4))) (4 * io v k (5 + size / 4)) false (size % 4)) (136 + 15 * k + 3) size)) := by
            intro m
            induction m with
            | zero =>
              intro j v2 w2 e2 hj hj2
              have hb := wb (size / 4) (by omega)
              refine at_ld (i := 8) dX8_shrink_116 rfl rfl rfl ?_
              refine at_ld (i := 3) dX8_shrink_118 rfl rfl rfl ?_
              refine at_ige 145 dX8_shrink_119 (by decide) (fun c8 => ?_) (fun c8 => ?_)
              · refine at_ld (i := 0) dX8_shrink_145 rfl rfl rfl ?_
                refine at_ld (i := 1) dX8_shrink_146 rfl rfl rfl ?_
                refine at_k (nI 4) dX8_shrink_147 rfl (by decide) ?_
                refine at_k (nI 4) dX8_shrink_148 rfl (by decide) ?_
                refine at_ld (i := 0) dX8_shrink_149 rfl rfl rfl ?_
                refine at_ld (i := 1) dX8_shrink_150 rfl rfl rfl ?_
                refine at_k (nI 5) dX8_shrink_151 rfl (by decide) ?_
                refine at_ld (i := 6) dX8_shrink_152 rfl rfl rfl ?_
                refine at_bin dX8_shrink_154 rfl ?_
                try dsimp only
                rw [nI_add]
                refine at_rv [_, _] dX8_shrink_155 mX8_of ⟨Nat.le_of_ble_eq_true rfl, Nat.le_of_ble_eq_true rfl⟩ lX8_173 iX8_of rfl rfl (mv_o hn _ _ _) (by omega) rfl (Nat.le_of_ble_eq_true rfl) (Nat.le_of_ble_eq_true rfl) ⟨rfl, rfl⟩ (c_of A F v2 hn k (5 + size / 4) (by omega)) ?_
                refine at_bin dX8_shrink_158 rfl ?_
                try dsimp only
                rw [nI_mul, e2]
                refine at_wv [_, _, _] dX8_shrink_159 mX8_sets ⟨Nat.le_of_ble_eq_true rfl, Nat.le_of_ble_eq_true rfl⟩ lX8_236 iX8_sets rfl rfl (mv_o hn _ _ _) (by omega) rfl (Nat.le_of_ble_eq_true rfl) (Nat.le_of_ble_eq_true rfl) ⟨rfl, rfl⟩ (c_sets A F v2 hn k 4 (4 * io v k (5 + size / 4)) _ rfl (by omega)) ⟨rfl, rfl⟩ ?_
                try dsimp only [Option.toList, List.cons_append, List.nil_append]
                refine at_ld (i := 0) dX8_shrink_162 rfl rfl rfl ?_
                refine at_ld (i := 0) dX8_shrink_163 rfl rfl rfl ?_
                refine at_ld (i := 1) dX8_shrink_164 rfl rfl rfl ?_
                refine at_k (nI 4) dX8_shrink_165 rfl (by decide) ?_
                refine at_rv [_, _] dX8_shrink_166 mX8_of ⟨Nat.le_of_ble_eq_true rfl, Nat.le_of_ble_eq_true rfl⟩ lX8_173 iX8_of rfl rfl (mv_o hn _ _ _) (by omega) rfl (Nat.le_of_ble_eq_true rfl) (Nat.le_of_ble_eq_true rfl) ⟨rfl, rfl⟩ (c_of A F _ hn k 4 (by omega)) ?_
                rw [io_u v2 (by omega) (by omega), if_pos ⟨rfl, rfl⟩]
                refine at_ld (i := 7) dX8_shrink_169 rfl rfl rfl ?_
                refine at_k (nI 0) dX8_shrink_171 rfl (by decide) ?_
                refine at_wv [_, _, _] dX8_shrink_172 mX8_letsAll ⟨Nat.le_of_ble_eq_true rfl, Nat.le_of_ble_eq_true rfl⟩ lX8_253 iX8_letsAll rfl rfl (mv_o hn _ _ _) (by omega) rfl (Nat.le_of_ble_eq_true rfl) (Nat.le_of_ble_eq_true rfl) ⟨rfl, rfl⟩ (c_letsAll A F _ hn (4 * io v k (5 + size / 4)) (size % 4) (by omega) false) ⟨rfl, rfl⟩ ?_
                try dsimp only [Option.toList, List.cons_append, List.nil_append]
                exact fin _ _
              · exact absurd (nI_le (by omega) (by omega)) c8
            | succ m ih =>
              intro j v2 w2 e2 hj hj2
              have hb := wb j (by omega)
              refine at_ld (i := 8) dX8_shrink_116 rfl rfl rfl ?_
              refine at_ld (i := 3) dX8_shrink_118 rfl rfl rfl ?_
              refine at_ige 145 dX8_shrink_119 (by decide) (fun c8 => ?_) (fun c8 => ?_)
              · exact absurd c8 (nI_ge (by omega) (by omega))
              · refine at_ld (i := 0) dX8_shrink_122 rfl rfl rfl ?_
                refine at_k (nI 4) dX8_shrink_123 rfl (by decide) ?_
                refine at_ld (i := 0) dX8_shrink_124 rfl rfl rfl ?_
                refine at_ld (i := 1) dX8_shrink_125 rfl rfl rfl ?_
                refine at_k (nI 5) dX8_shrink_126 rfl (by decide) ?_
                refine at_ld (i := 8) dX8_shrink_127 rfl rfl rfl ?_
                refine at_bin dX8_shrink_129 rfl ?_
                try dsimp only
                rw [nI_add]
                refine at_rv [_, _] dX8_shrink_130 mX8_of ⟨Nat.le_of_ble_eq_true rfl, Nat.le_of_ble_eq_true rfl⟩ lX8_173 iX8_of rfl rfl (mv_o hn _ _ _) (by omega) rfl (Nat.le_of_ble_eq_true rfl) (Nat.le_of_ble_eq_true rfl) ⟨rfl, rfl⟩ (c_of A F v2 hn k (5 + j) (by omega)) ?_
                refine at_bin dX8_shrink_133 rfl ?_
                try dsimp only
                rw [nI_mul]
                have hb2 : io v2 k (5 + j) < 32 := by rw [e2]; exact hb
                refine at_k (nI 4) dX8_shrink_134 rfl (by decide) ?_
                refine at_k (nI 1) dX8_shrink_135 rfl (by decide) ?_
                refine at_wv [_, _, _] dX8_shrink_136 mX8_letsAll ⟨Nat.le_of_ble_eq_true rfl, Nat.le_of_ble_eq_true rfl⟩ lX8_253 iX8_letsAll rfl rfl (mv_o hn _ _ _) (by omega) rfl (Nat.le_of_ble_eq_true rfl) (Nat.le_of_ble_eq_true rfl) ⟨rfl, rfl⟩ (c_letsAll A F v2 hn (4 * io v2 k (5 + j)) 4 (by omega) true) ⟨rfl, rfl⟩ ?_
                try dsimp only [Option.toList, List.cons_append, List.nil_append]
                refine at_iinc (nI 1) dX8_shrink_139 rfl rfl (by decide) ?_
                try dsimp only [List.set_cons_succ, List.set_cons_zero]
                refine at_goto 116 dX8_shrink_142 (by decide) ?_
                rw [nI_add]
                exact ih (j + 1) _ (wf_lta w2 true (by omega)) (fun a b => by rw [io_lta v2 true (by omega)]; exact e2 a b) (by omega) (by omega)
          exact loop (io v k 3 / 4 - size / 4) (size / 4) v1 w1 e1 (by omega) (Nat.le_refl _)
        · have c7 := (nI_eq32 (by omega) (by omega)).mp (Classical.not_not.mp c6)
          rw [if_pos c7]
          refine at_ld (i := 0) dX8_shrink_77 rfl rfl rfl ?_
          refine at_ld (i := 0) dX8_shrink_78 rfl rfl rfl ?_
          refine at_ld (i := 1) dX8_shrink_79 rfl rfl rfl ?_
          refine at_k (nI 4) dX8_shrink_80 rfl (by decide) ?_
          refine at_rv [_, _] dX8_shrink_81 mX8_of ⟨Nat.le_of_ble_eq_true rfl, Nat.le_of_ble_eq_true rfl⟩ lX8_173 iX8_of rfl rfl (mv_o hn _ _ _) (by omega) rfl (Nat.le_of_ble_eq_true rfl) (Nat.le_of_ble_eq_true rfl) ⟨rfl, rfl⟩ (c_of A F v hn k 4 (by omega)) ?_
          refine at_ld (i := 7) dX8_shrink_84 rfl rfl rfl ?_
          refine at_bin dX8_shrink_86 rfl ?_
          try dsimp only
          rw [nI_add]
          refine at_ld (i := 4) dX8_shrink_87 rfl rfl rfl ?_
          refine at_ld (i := 7) dX8_shrink_89 rfl rfl rfl ?_
          refine at_bin dX8_shrink_91 rfl ?_
          try dsimp only
          rw [nI_sub (by omega)]
          refine at_k (nI 1) dX8_shrink_92 rfl (by decide) ?_
          refine at_wv [_, _, _] dX8_shrink_93 mX8_letsAll ⟨Nat.le_of_ble_eq_true rfl, Nat.le_of_ble_eq_true rfl⟩ lX8_253 iX8_letsAll rfl rfl (mv_o hn _ _ _) (by omega) rfl (Nat.le_of_ble_eq_true rfl) (Nat.le_of_ble_eq_true rfl) ⟨rfl, rfl⟩ (c_letsAll A F v hn (io v k 4 + size % 4) (io v k 3 % 4 - size % 4) (by omega) true) ⟨rfl, rfl⟩ ?_
          try dsimp only [Option.toList, List.cons_append, List.nil_append]
          refine at_goto 175 dX8_shrink_96 (by decide) ?_
          exact fin _ _
      · have c5 := bI_1 c4
        rw [if_pos c5]
        refine at_k (-2) dX8_shrink_33 rfl (by decide) ?_
        refine at_ret dX8_shrink_35 rfl rfl ?_
        exact ⟨rfl, rfl⟩
    · have c3 := (bI_0 _).mp (Classical.not_not.mp c2)
      refine at_k (-1) dX8_shrink_24 rfl (by decide) ?_
      refine at_ret dX8_shrink_25 rfl rfl ?_
      rw [s_shrink, nI_clamp (by omega), if_neg (fun z => by rw [c3] at z; cases z.2)]
      exact ⟨rfl, rfl⟩
set_option maxRecDepth 100000 in
theorem c_hasOthers (hn : 72 ≤ h.1) (w : wf v) (wp : wfp v) (d : Nat) (hd : d < 2 ^ 32) : sg_Kr MX8_hasOthers [.ref 64, .int (nI d)] (mv h A F v) (.int (bI (hso v d))) := by
  have hgi := wf_gi w.1
  have hge := gb_ge w.1.1.1 w.1.2.2.1.1
  show sg_A MX8_hasOthers 0 [some (.ref 64), some (.int (nI d)), none, none] [] _ _
  refine at_k (nI 0) dX8_hasOthers_0 rfl (by decide) ?_
  refine at_st (i := 2) dX8_hasOthers_1 rfl rfl (Nat.le_of_ble_eq_true rfl) rfl ?_
  try dsimp only [List.set_cons_succ, List.set_cons_zero]
  refine at_k (nI 1) dX8_hasOthers_2 rfl (by decide) ?_
  refine at_st (i := 3) dX8_hasOthers_3 rfl rfl (Nat.le_of_ble_eq_true rfl) rfl ?_
  try dsimp only [List.set_cons_succ, List.set_cons_zero]
  have e0 : nI 0 = bI (anyB (fun i => decide (1 ≤ i ∧ io v i 0 ≠ 0 ∧ io v i 1 = d)) 1) := by
    have : decide (1 ≤ 0 ∧ io v 0 0 ≠ 0 ∧ io v 0 1 = d) = false := decide_eq_false (fun z => by omega)
    simp only [anyB, this]; rfl
  rw [e0]
  refine lpF (fun k => sg_A MX8_hasOthers 4 [some (.ref 64), some (.int (nI d)), some (.int (bI (anyB (fun i => decide (1 ≤ i ∧ io v i 0 ≠ 0 ∧ io v i 1 = d)) k))), some (.int (nI k))] [] (mv h A F v) (fun r h' => r = some (.int (bI (hso v d))) ∧ h' = mv h A F v)) 1 (v 0 * v 2) hge ?_ ?_
  · refine at_ld (i := 3) dX8_hasOthers_4 rfl rfl rfl ?_
    refine at_ld (i := 0) dX8_hasOthers_5 rfl rfl rfl ?_
    refine at_rv [] dX8_hasOthers_6 mX8_inodes ⟨Nat.le_of_ble_eq_true rfl, Nat.le_of_ble_eq_true rfl⟩ lX8_167 iX8_inodes rfl rfl (mv_o hn _ _ _) (by omega) rfl (Nat.le_of_ble_eq_true rfl) (Nat.le_of_ble_eq_true rfl) ⟨rfl, rfl⟩ (c_inodes A F v hn) ?_
    refine at_ige 46 dX8_hasOthers_9 (by decide) (fun c => ?_) (fun c => ?_)
    · refine at_ld (i := 2) dX8_hasOthers_46 rfl rfl rfl ?_
      refine at_ret dX8_hasOthers_47 rfl (bI_narr _) ?_
      exact ⟨rfl, rfl⟩
    · exact absurd (nI_le (Nat.le_refl _) (by omega)) c
  · intro k hk1 hk ih
    have nx : ∀ b : Bool, b = anyB (fun i => decide (1 ≤ i ∧ io v i 0 ≠ 0 ∧ io v i 1 = d)) (k + 1) → sg_A MX8_hasOthers 39 [some (.ref 64), some (.int (nI d)), some (.int (bI (anyB (fun i => decide (1 ≤ i ∧ io v i 0 ≠ 0 ∧ io v i 1 = d)) k))), some (.int (nI k))] [.int (bI b)] (mv h A F v) (fun r h' => r = some (.int (bI (hso v d))) ∧ h' = mv h A F v) := by
      intro b hb
      subst hb
      refine at_st (i := 2) dX8_hasOthers_39 rfl rfl (Nat.le_of_ble_eq_true rfl) rfl ?_
      try dsimp only [List.set_cons_succ, List.set_cons_zero]
      refine at_iinc (nI 1) dX8_hasOthers_40 rfl rfl (by decide) ?_
      try dsimp only [List.set_cons_succ, List.set_cons_zero]
      refine at_goto 4 dX8_hasOthers_43 (by decide) ?_
      rw [nI_add]
      exact ih
    refine at_ld (i := 3) dX8_hasOthers_4 rfl rfl rfl ?_
    refine at_ld (i := 0) dX8_hasOthers_5 rfl rfl rfl ?_
    refine at_rv [] dX8_hasOthers_6 mX8_inodes ⟨Nat.le_of_ble_eq_true rfl, Nat.le_of_ble_eq_true rfl⟩ lX8_167 iX8_inodes rfl rfl (mv_o hn _ _ _) (by omega) rfl (Nat.le_of_ble_eq_true rfl) (Nat.le_of_ble_eq_true rfl) ⟨rfl, rfl⟩ (c_inodes A F v hn) ?_
    refine at_ige 46 dX8_hasOthers_9 (by decide) (fun c => ?_) (fun c => ?_)
    · exact absurd c (nI_ge hk (by omega))
    · refine at_ld (i := 2) dX8_hasOthers_12 rfl rfl rfl ?_
      refine at_zne 34 dX8_hasOthers_13 (by decide) (fun c1 => ?_) (fun c1 => ?_)
      · have c2 := bI_1 c1
        refine at_k (nI 1) dX8_hasOthers_34 rfl (by decide) ?_
        refine at_goto 39 dX8_hasOthers_35 (by decide) ?_
        exact nx true (by rw [anyB, c2, Bool.true_or])
      · have c2 := (bI_0 _).mp (Classical.not_not.mp c1)
        refine at_ld (i := 0) dX8_hasOthers_16 rfl rfl rfl ?_
        refine at_ld (i := 3) dX8_hasOthers_17 rfl rfl rfl ?_
        refine at_rv [_] dX8_hasOthers_18 mX8_isThere ⟨Nat.le_of_ble_eq_true rfl, Nat.le_of_ble_eq_true rfl⟩ lX8_176 iX8_isThere rfl rfl (mv_o hn _ _ _) (by omega) rfl (Nat.le_of_ble_eq_true rfl) (Nat.le_of_ble_eq_true rfl) ⟨rfl, rfl⟩ (c_isThere A F v hn w.1 (wf_k w) (nI k)) ?_
        rw [there_nI w.1 hk]
        refine at_zeq 38 dX8_hasOthers_21 (by decide) (fun c3 => ?_) (fun c3 => ?_)
        · have c4 := of_decide_eq_false ((bI_0 _).mp c3)
          refine at_k (nI 0) dX8_hasOthers_38 rfl (by decide) ?_
          exact nx false (by rw [anyB, c2, decide_eq_false (fun z => c4 z.2.1)]; rfl)
        · have c4 := of_decide_eq_true (bI_1 c3)
          refine at_ld (i := 0) dX8_hasOthers_24 rfl rfl rfl ?_
          refine at_ld (i := 3) dX8_hasOthers_25 rfl rfl rfl ?_
          refine at_k (nI 1) dX8_hasOthers_26 rfl (by decide) ?_
          refine at_rv [_, _] dX8_hasOthers_27 mX8_of ⟨Nat.le_of_ble_eq_true rfl, Nat.le_of_ble_eq_true rfl⟩ lX8_173 iX8_of rfl rfl (mv_o hn _ _ _) (by omega) rfl (Nat.le_of_ble_eq_true rfl) (Nat.le_of_ble_eq_true rfl) ⟨rfl, rfl⟩ (c_of A F v hn k 1 (by omega)) ?_
          refine at_ld (i := 1) dX8_hasOthers_30 rfl rfl rfl ?_
          refine at_ine 38 dX8_hasOthers_31 (by decide) (fun c5 => ?_) (fun c5 => ?_)
          · have c6 : ¬ io v k 1 = d := fun z => c5 (by rw [z])
            refine at_k (nI 0) dX8_hasOthers_38 rfl (by decide) ?_
            exact nx false (by rw [anyB, c2, decide_eq_false (fun z => c6 z.2.2)]; rfl)
          · have c6 := (nI_eq32 (wp k (by omega)).1 hd).mp (Classical.not_not.mp c5)
            refine at_k (nI 1) dX8_hasOthers_34 rfl (by decide) ?_
            refine at_goto 39 dX8_hasOthers_35 (by decide) ?_
            exact nx true (by rw [anyB, c2, decide_eq_true ⟨hk1, c4, c6⟩]; rfl)
theorem there_of {v : Nat → Nat} (w : wfg v) {x : Int32} (h : there v x = true) : ∃ k : Nat, k < v 0 * v 2 ∧ x = nI k ∧ io v k 0 ≠ 0 := by
  have hgi := wf_gi w
  rw [there, Bool.and_eq_true] at h
  obtain ⟨k, hk, rfl⟩ := isI_of w h.1
  have h2 := of_decide_eq_true h.2
  rw [nI_clamp (by omega)] at h2
  exact ⟨k, hk, rfl, h2⟩
set_option maxRecDepth 100000 in
set_option maxHeartbeats 4000000 in
theorem c_remove (hn : 72 ≤ h.1) (w : wf v) (wp : wfp v) (wt : wfT v) (x : Int32) : sg_Kw MX8_remove [.ref 64, .int x] (mv h A F v) (some (.int (s_remove v x).1)) (mv h A F (s_remove v x).2) := by
  have hgi := wf_gi w.1
  show sg_A MX8_remove 0 [some (.ref 64), some (.int x), none] [] _ _
  refine at_ld (i := 0) dX8_remove_0 rfl rfl rfl ?_
  refine at_ld (i := 1) dX8_remove_1 rfl rfl rfl ?_
  refine at_rv [_] dX8_remove_2 mX8_isThere ⟨Nat.le_of_ble_eq_true rfl, Nat.le_of_ble_eq_true rfl⟩ lX8_176 iX8_isThere rfl rfl (mv_o hn _ _ _) (by omega) rfl (Nat.le_of_ble_eq_true rfl) (Nat.le_of_ble_eq_true rfl) ⟨rfl, rfl⟩ (c_isThere A F v hn w.1 (wf_k w) x) ?_
  refine at_zne 10 dX8_remove_5 (by decide) (fun c => ?_) (fun c => ?_)
  · have c1 := bI_1 c
    rw [s_remove, if_pos c1]
    obtain ⟨k, hk, rfl, -⟩ := there_of w.1 c1
    rw [nI_clamp (by omega)]
    have hs := wf_s w (i := k) (by omega)
    obtain ⟨-, -, w4, wb⟩ := w.2.2 k (by omega)
    have hwt := wt k (by omega)
    have st2 : (spt v = true ∨ nI k = 0 ∨ hso v k = true) → sg_A MX8_remove 29 [some (.ref 64), some (.int (nI k)), none] [] (mv h A F v) (fun r' h' => r' = some (.int (if spt v = true ∨ nI k = 0 ∨ hso v k = true then (-2, v) else (nI (io v k 3), rmv v k)).1) ∧ h' = mv h A F (if spt v = true ∨ nI k = 0 ∨ hso v k = true then (-2, v) else (nI (io v k 3), rmv v k)).2) := by
      intro hy
      refine at_k (-2) dX8_remove_29 rfl (by decide) ?_
      refine at_ret dX8_remove_31 rfl rfl ?_
      rw [if_pos hy]
      exact ⟨rfl, rfl⟩
    refine at_ld (i := 0) dX8_remove_10 rfl rfl rfl ?_
    refine at_rv [] dX8_remove_11 mX8_isSpoilt ⟨Nat.le_of_ble_eq_true rfl, Nat.le_of_ble_eq_true rfl⟩ lX8_240 iX8_isSpoilt rfl rfl (mv_o hn _ _ _) (by omega) rfl (Nat.le_of_ble_eq_true rfl) (Nat.le_of_ble_eq_true rfl) ⟨rfl, rfl⟩ (c_isSpoilt A F v hn w) ?_
    refine at_zne 29 dX8_remove_14 (by decide) (fun c2 => ?_) (fun c2 => ?_)
    · exact st2 (Or.inl (bI_1 c2))
    · have c3 := (bI_0 _).mp (Classical.not_not.mp c2)
      refine at_ld (i := 1) dX8_remove_17 rfl rfl rfl ?_
      refine at_zeq 29 dX8_remove_18 (by decide) (fun c4 => ?_) (fun c4 => ?_)
      · exact st2 (Or.inr (Or.inl c4))
      · refine at_ld (i := 0) dX8_remove_21 rfl rfl rfl ?_
        refine at_ld (i := 1) dX8_remove_22 rfl rfl rfl ?_
        refine at_rv [_] dX8_remove_23 mX8_hasOthers ⟨Nat.le_of_ble_eq_true rfl, Nat.le_of_ble_eq_true rfl⟩ lX8_278 iX8_hasOthers rfl rfl (mv_o hn _ _ _) (by omega) rfl (Nat.le_of_ble_eq_true rfl) (Nat.le_of_ble_eq_true rfl) ⟨rfl, rfl⟩ (c_hasOthers A F v hn w wp k (by omega)) ?_
        refine at_zeq 32 dX8_remove_26 (by decide) (fun c5 => ?_) (fun c5 => ?_)
        · have c6 := (bI_0 _).mp c5
          have hno : ¬ (spt v = true ∨ nI k = 0 ∨ hso v k = true) := by
            rintro (z | z | z)
            · rw [c3] at z; cases z
            · exact c4 z
            · rw [c6] at z; cases z
          rw [if_neg hno, rmv]
          refine at_ld (i := 0) dX8_remove_32 rfl rfl rfl ?_
          refine at_ld (i := 0) dX8_remove_33 rfl rfl rfl ?_
          refine at_ld (i := 1) dX8_remove_34 rfl rfl rfl ?_
          refine at_k (nI 4) dX8_remove_35 rfl (by decide) ?_
          refine at_rv [_, _] dX8_remove_36 mX8_of ⟨Nat.le_of_ble_eq_true rfl, Nat.le_of_ble_eq_true rfl⟩ lX8_173 iX8_of rfl rfl (mv_o hn _ _ _) (by omega) rfl (Nat.le_of_ble_eq_true rfl) (Nat.le_of_ble_eq_true rfl) ⟨rfl, rfl⟩ (c_of A F v hn k 4 (by omega)) ?_
          refine at_ld (i := 0) dX8_remove_39 rfl rfl rfl ?_
          refine at_ld (i := 1) dX8_remove_40 rfl rfl rfl ?_
          refine at_rv [_] dX8_remove_41 mX8_tail ⟨Nat.le_of_ble_eq_true rfl, Nat.le_of_ble_eq_true rfl⟩ lX8_191 iX8_tail rfl rfl (mv_o hn _ _ _) (by omega) rfl (Nat.le_of_ble_eq_true rfl) (Nat.le_of_ble_eq_true rfl) ⟨rfl, rfl⟩ (c_tail A F v hn k (by omega) (by omega)) ?_
          refine at_k (nI 1) dX8_remove_44 rfl (by decide) ?_
          refine at_wv [_, _, _] dX8_remove_45 mX8_letsAll ⟨Nat.le_of_ble_eq_true rfl, Nat.le_of_ble_eq_true rfl⟩ lX8_253 iX8_letsAll rfl rfl (mv_o hn _ _ _) (by omega) rfl (Nat.le_of_ble_eq_true rfl) (Nat.le_of_ble_eq_true rfl) ⟨rfl, rfl⟩ (c_letsAll A F v hn (io v k 4) (io v k 3 % 4) (by omega) true) ⟨rfl, rfl⟩ ?_
          try dsimp only [Option.toList, List.cons_append, List.nil_append]
          refine at_k (nI 0) dX8_remove_48 rfl (by decide) ?_
          refine at_st (i := 2) dX8_remove_49 rfl rfl (Nat.le_of_ble_eq_true rfl) rfl ?_
          try dsimp only [List.set_cons_succ, List.set_cons_zero]
          have w1 : wf (lta v (io v k 4) true (io v k 3 % 4)) := wf_lta w true (by omega)
          have e1 : ∀ j f, io (lta v (io v k 4) true (io v k 3 % 4)) j f = io v j f := fun j f => io_lta v true (by omega) j f
          generalize hv1 : lta v (io v k 4) true (io v k 3 % 4) = v1 at w1 e1
          have loop : ∀ m j v2, wf v2 → (∀ j f, io v2 j f = io v j f) → j + m = io v k 3 / 4 → sg_A MX8_remove 50 [some (.ref 64), some (.int (nI k)), some (.int (nI j))] [] (mv h A F v2) (fun r' h' => r' = some (.int (nI (io v k 3))) ∧ h' = mv h A F (vf_upd (frb v2 k m j) (136 + 15 * k + 0) 0)) := by
            intro m
            induction m with
            | zero =>
              intro j v2 w2 e2 hj
              refine at_ld (i := 2) dX8_remove_50 rfl rfl rfl ?_
              refine at_ld (i := 0) dX8_remove_51 rfl rfl rfl ?_
              refine at_ld (i := 1) dX8_remove_52 rfl rfl rfl ?_
              refine at_rv [_] dX8_remove_53 mX8_blocks ⟨Nat.le_of_ble_eq_true rfl, Nat.le_of_ble_eq_true rfl⟩ lX8_194 iX8_blocks rfl rfl (mv_o hn _ _ _) (by omega) rfl (Nat.le_of_ble_eq_true rfl) (Nat.le_of_ble_eq_true rfl) ⟨rfl, rfl⟩ (c_blocks A F v2 hn k (by omega) (by rw [e2]; omega)) ?_
              refine at_ige 81 dX8_remove_56 (by decide) (fun c8 => ?_) (fun c8 => ?_)
              · refine at_ld (i := 0) dX8_remove_81 rfl rfl rfl ?_
                refine at_ld (i := 1) dX8_remove_82 rfl rfl rfl ?_
                refine at_k (nI 0) dX8_remove_83 rfl (by decide) ?_
                refine at_k (nI 0) dX8_remove_84 rfl (by decide) ?_
                refine at_wv [_, _, _] dX8_remove_85 mX8_sets ⟨Nat.le_of_ble_eq_true rfl, Nat.le_of_ble_eq_true rfl⟩ lX8_236 iX8_sets rfl rfl (mv_o hn _ _ _) (by omega) rfl (Nat.le_of_ble_eq_true rfl) (Nat.le_of_ble_eq_true rfl) ⟨rfl, rfl⟩ (c_sets A F v2 hn k 0 0 _ rfl (by omega)) ⟨rfl, rfl⟩ ?_
                try dsimp only [Option.toList, List.cons_append, List.nil_append]
                refine at_ld (i := 0) dX8_remove_88 rfl rfl rfl ?_
                refine at_ld (i := 1) dX8_remove_89 rfl rfl rfl ?_
                refine at_k (nI 3) dX8_remove_90 rfl (by decide) ?_
                refine at_rv [_, _] dX8_remove_91 mX8_of ⟨Nat.le_of_ble_eq_true rfl, Nat.le_of_ble_eq_true rfl⟩ lX8_173 iX8_of rfl rfl (mv_o hn _ _ _) (by omega) rfl (Nat.le_of_ble_eq_true rfl) (Nat.le_of_ble_eq_true rfl) ⟨rfl, rfl⟩ (c_of A F _ hn k 3 (by omega)) ?_
                refine at_ret dX8_remove_94 rfl rfl ?_
                rw [io_u v2 (by omega) (by omega), if_neg (by omega), e2]
                exact ⟨rfl, rfl⟩
              · rw [e2] at c8
                exact absurd (nI_le (by omega) (by omega)) c8
            | succ m ih =>
              intro j v2 w2 e2 hj
              have hb := wb j (by omega)
              refine at_ld (i := 2) dX8_remove_50 rfl rfl rfl ?_
              refine at_ld (i := 0) dX8_remove_51 rfl rfl rfl ?_
              refine at_ld (i := 1) dX8_remove_52 rfl rfl rfl ?_
              refine at_rv [_] dX8_remove_53 mX8_blocks ⟨Nat.le_of_ble_eq_true rfl, Nat.le_of_ble_eq_true rfl⟩ lX8_194 iX8_blocks rfl rfl (mv_o hn _ _ _) (by omega) rfl (Nat.le_of_ble_eq_true rfl) (Nat.le_of_ble_eq_true rfl) ⟨rfl, rfl⟩ (c_blocks A F v2 hn k (by omega) (by rw [e2]; omega)) ?_
              refine at_ige 81 dX8_remove_56 (by decide) (fun c8 => ?_) (fun c8 => ?_)
              · rw [e2] at c8
                exact absurd c8 (nI_ge (by omega) (by omega))
              · refine at_ld (i := 0) dX8_remove_59 rfl rfl rfl ?_
                refine at_k (nI 4) dX8_remove_60 rfl (by decide) ?_
                refine at_ld (i := 0) dX8_remove_61 rfl rfl rfl ?_
                refine at_ld (i := 1) dX8_remove_62 rfl rfl rfl ?_
                refine at_k (nI 5) dX8_remove_63 rfl (by decide) ?_
                refine at_ld (i := 2) dX8_remove_64 rfl rfl rfl ?_
                refine at_bin dX8_remove_65 rfl ?_
                try dsimp only
                rw [nI_add]
                refine at_rv [_, _] dX8_remove_66 mX8_of ⟨Nat.le_of_ble_eq_true rfl, Nat.le_of_ble_eq_true rfl⟩ lX8_173 iX8_of rfl rfl (mv_o hn _ _ _) (by omega) rfl (Nat.le_of_ble_eq_true rfl) (Nat.le_of_ble_eq_true rfl) ⟨rfl, rfl⟩ (c_of A F v2 hn k (5 + j) (by omega)) ?_
                refine at_bin dX8_remove_69 rfl ?_
                try dsimp only
                rw [nI_mul]
                have hb2 : io v2 k (5 + j) < 32 := by rw [e2]; exact hb
                refine at_k (nI 4) dX8_remove_70 rfl (by decide) ?_
                refine at_k (nI 1) dX8_remove_71 rfl (by decide) ?_
                refine at_wv [_, _, _] dX8_remove_72 mX8_letsAll ⟨Nat.le_of_ble_eq_true rfl, Nat.le_of_ble_eq_true rfl⟩ lX8_253 iX8_letsAll rfl rfl (mv_o hn _ _ _) (by omega) rfl (Nat.le_of_ble_eq_true rfl) (Nat.le_of_ble_eq_true rfl) ⟨rfl, rfl⟩ (c_letsAll A F v2 hn (4 * io v2 k (5 + j)) 4 (by omega) true) ⟨rfl, rfl⟩ ?_
                try dsimp only [Option.toList, List.cons_append, List.nil_append]
                refine at_iinc (nI 1) dX8_remove_75 rfl rfl (by decide) ?_
                try dsimp only [List.set_cons_succ, List.set_cons_zero]
                refine at_goto 50 dX8_remove_78 (by decide) ?_
                rw [nI_add]
                exact ih (j + 1) _ (wf_lta w2 true (by omega)) (fun a b => by rw [io_lta v2 true (by omega)]; exact e2 a b) (by omega)
          exact loop (io v k 3 / 4) 0 v1 w1 e1 (by omega)
        · exact st2 (Or.inr (Or.inr (bI_1 c5)))
  · have c1 := (bI_0 _).mp (Classical.not_not.mp c)
    refine at_k (-1) dX8_remove_8 rfl (by decide) ?_
    refine at_ret dX8_remove_9 rfl rfl ?_
    rw [s_remove, c1]
    exact ⟨rfl, rfl⟩
set_option maxRecDepth 100000 in
theorem c_isWithin (hn : 72 ≤ h.1) (w : wf v) (hroot : io v 0 1 = 4294967292) (i : Nat) (hi : i < 2 ^ 31) (n d : Nat) (hc : chn v n d) : sg_Kr MX8_isWithin [.ref 64, .int (nI d), .int (nI i)] (mv h A F v) (.int (bI (wth v i n d))) := by
  have hgi := wf_gi w.1
  show sg_A MX8_isWithin 0 [some (.ref 64), some (.int (nI d)), some (.int (nI i)), none] [] _ _
  refine at_ld (i := 1) dX8_isWithin_0 rfl rfl rfl ?_
  refine at_st (i := 3) dX8_isWithin_1 rfl rfl (Nat.le_of_ble_eq_true rfl) rfl ?_
  try dsimp only [List.set_cons_succ, List.set_cons_zero]
  have lp : ∀ n up, chn v n up → sg_A MX8_isWithin 2 [some (.ref 64), some (.int (nI d)), some (.int (nI i)), some (.int (nI up))] [] (mv h A F v) (fun r h' => r = some (.int (bI (wth v i n up))) ∧ h' = mv h A F v) := by
    intro n
    induction n with
    | zero =>
      intro up hup
      have e : up = 0 := hup
      subst e
      refine at_ld (i := 3) dX8_isWithin_2 rfl rfl rfl ?_
      refine at_k (-4) dX8_isWithin_3 rfl (by decide) ?_
      refine at_ieq 23 dX8_isWithin_5 (by decide) (fun c => ?_) (fun c => ?_)
      · exact absurd c (oI_n (by decide))
      · refine at_ld (i := 3) dX8_isWithin_8 rfl rfl rfl ?_
        refine at_ld (i := 2) dX8_isWithin_9 rfl rfl rfl ?_
        refine at_ieq 23 dX8_isWithin_10 (by decide) (fun c1 => ?_) (fun c1 => ?_)
        · have c2 := (nI_eq32 (by decide) (by omega)).mp c1
          refine at_ld (i := 3) dX8_isWithin_23 rfl rfl rfl ?_
          refine at_ld (i := 2) dX8_isWithin_24 rfl rfl rfl ?_
          refine at_ine 32 dX8_isWithin_25 (by decide) (fun c3 => ?_) (fun c3 => ?_)
          · exact absurd c1 c3
          · refine at_k (nI 1) dX8_isWithin_28 rfl (by decide) ?_
            refine at_goto 33 dX8_isWithin_29 (by decide) ?_
            refine at_ret dX8_isWithin_33 rfl rfl ?_
            rw [wth, decide_eq_true c2]
            exact ⟨rfl, rfl⟩
        · have c2 : ¬ 0 = i := fun z => c1 (by rw [z])
          refine at_ld (i := 0) dX8_isWithin_13 rfl rfl rfl ?_
          refine at_ld (i := 3) dX8_isWithin_14 rfl rfl rfl ?_
          refine at_k (nI 1) dX8_isWithin_15 rfl (by decide) ?_
          refine at_rv [_, _] dX8_isWithin_16 mX8_of ⟨Nat.le_of_ble_eq_true rfl, Nat.le_of_ble_eq_true rfl⟩ lX8_173 iX8_of rfl rfl (mv_o hn _ _ _) (by omega) rfl (Nat.le_of_ble_eq_true rfl) (Nat.le_of_ble_eq_true rfl) ⟨rfl, rfl⟩ (c_of A F v hn 0 1 (by decide)) ?_
          refine at_st (i := 3) dX8_isWithin_19 rfl rfl (Nat.le_of_ble_eq_true rfl) rfl ?_
          try dsimp only [List.set_cons_succ, List.set_cons_zero]
          refine at_goto 2 dX8_isWithin_20 (by decide) ?_
          rw [hroot]
          refine at_ld (i := 3) dX8_isWithin_2 rfl rfl rfl ?_
          refine at_k (-4) dX8_isWithin_3 rfl (by decide) ?_
          refine at_ieq 23 dX8_isWithin_5 (by decide) (fun c3 => ?_) (fun c3 => ?_)
          · refine at_ld (i := 3) dX8_isWithin_23 rfl rfl rfl ?_
            refine at_ld (i := 2) dX8_isWithin_24 rfl rfl rfl ?_
            refine at_ine 32 dX8_isWithin_25 (by decide) (fun c4 => ?_) (fun c4 => ?_)
            · refine at_k (nI 0) dX8_isWithin_32 rfl (by decide) ?_
              refine at_ret dX8_isWithin_33 rfl rfl ?_
              rw [wth, decide_eq_false c2]
              exact ⟨rfl, rfl⟩
            · have := (nI_eq32 (by decide) (by omega)).mp (Classical.not_not.mp c4)
              omega
          · exact absurd (by decide) c3
    | succ n ih =>
      intro up hup
      obtain ⟨h0, h1, h2, h3⟩ := hup
      refine at_ld (i := 3) dX8_isWithin_2 rfl rfl rfl ?_
      refine at_k (-4) dX8_isWithin_3 rfl (by decide) ?_
      refine at_ieq 23 dX8_isWithin_5 (by decide) (fun c => ?_) (fun c => ?_)
      · exact absurd c (oI_n (by omega))
      · refine at_ld (i := 3) dX8_isWithin_8 rfl rfl rfl ?_
        refine at_ld (i := 2) dX8_isWithin_9 rfl rfl rfl ?_
        refine at_ieq 23 dX8_isWithin_10 (by decide) (fun c1 => ?_) (fun c1 => ?_)
        · have c2 := (nI_eq32 (by omega) (by omega)).mp c1
          refine at_ld (i := 3) dX8_isWithin_23 rfl rfl rfl ?_
          refine at_ld (i := 2) dX8_isWithin_24 rfl rfl rfl ?_
          refine at_ine 32 dX8_isWithin_25 (by decide) (fun c3 => ?_) (fun c3 => ?_)
          · exact absurd c1 c3
          · refine at_k (nI 1) dX8_isWithin_28 rfl (by decide) ?_
            refine at_goto 33 dX8_isWithin_29 (by decide) ?_
            refine at_ret dX8_isWithin_33 rfl rfl ?_
            rw [wth, decide_eq_true c2, Bool.true_or]
            exact ⟨rfl, rfl⟩
        · have c2 : ¬ up = i := fun z => c1 (by rw [z])
          refine at_ld (i := 0) dX8_isWithin_13 rfl rfl rfl ?_
          refine at_ld (i := 3) dX8_isWithin_14 rfl rfl rfl ?_
          refine at_k (nI 1) dX8_isWithin_15 rfl (by decide) ?_
          refine at_rv [_, _] dX8_isWithin_16 mX8_of ⟨Nat.le_of_ble_eq_true rfl, Nat.le_of_ble_eq_true rfl⟩ lX8_173 iX8_of rfl rfl (mv_o hn _ _ _) (by omega) rfl (Nat.le_of_ble_eq_true rfl) (Nat.le_of_ble_eq_true rfl) ⟨rfl, rfl⟩ (c_of A F v hn up 1 (by omega)) ?_
          refine at_st (i := 3) dX8_isWithin_19 rfl rfl (Nat.le_of_ble_eq_true rfl) rfl ?_
          try dsimp only [List.set_cons_succ, List.set_cons_zero]
          refine at_goto 2 dX8_isWithin_20 (by decide) ?_
          rw [wth, decide_eq_false c2, Bool.false_or]
          exact ih _ h3
  exact lp n d hc
set_option maxRecDepth 100000 in
theorem c_farFromRoot (hn : 72 ≤ h.1) (w : wf v) (n i : Nat) (hc : chn v n i) : sg_Kr MX8_farFromRoot [.ref 64, .int (nI i)] (mv h A F v) (.int (nI n)) := by
  have hgi := wf_gi w.1
  show sg_A MX8_farFromRoot 0 [some (.ref 64), some (.int (nI i)), none, none] [] _ _
  refine at_k (nI 0) dX8_farFromRoot_0 rfl (by decide) ?_
  refine at_st (i := 2) dX8_farFromRoot_1 rfl rfl (Nat.le_of_ble_eq_true rfl) rfl ?_
  try dsimp only [List.set_cons_succ, List.set_cons_zero]
  refine at_ld (i := 1) dX8_farFromRoot_2 rfl rfl rfl ?_
  refine at_st (i := 3) dX8_farFromRoot_3 rfl rfl (Nat.le_of_ble_eq_true rfl) rfl ?_
  try dsimp only [List.set_cons_succ, List.set_cons_zero]
  have lp : ∀ m up far, chn v m up → sg_A MX8_farFromRoot 4 [some (.ref 64), some (.int (nI i)), some (.int (nI far)), some (.int (nI up))] [] (mv h A F v) (fun r h' => r = some (.int (nI (far + m))) ∧ h' = mv h A F v) := by
    intro m
    induction m with
    | zero =>
      intro up far hup
      have e : up = 0 := hup
      subst e
      refine at_ld (i := 3) dX8_farFromRoot_4 rfl rfl rfl ?_
      refine at_zeq 21 dX8_farFromRoot_5 (by decide) (fun c => ?_) (fun c => ?_)
      · refine at_ld (i := 2) dX8_farFromRoot_21 rfl rfl rfl ?_
        refine at_ret dX8_farFromRoot_22 rfl rfl ?_
        exact ⟨rfl, rfl⟩
      · exact absurd rfl c
    | succ m ih =>
      intro up far hup
      obtain ⟨h0, h1, h2, h3⟩ := hup
      refine at_ld (i := 3) dX8_farFromRoot_4 rfl rfl rfl ?_
      refine at_zeq 21 dX8_farFromRoot_5 (by decide) (fun c => ?_) (fun c => ?_)
      · exact absurd ((nI_eq32 (b := 0) (by omega) (by decide)).mp c) h0
      · refine at_iinc (nI 1) dX8_farFromRoot_8 rfl rfl (by decide) ?_
        try dsimp only [List.set_cons_succ, List.set_cons_zero]
        refine at_ld (i := 0) dX8_farFromRoot_11 rfl rfl rfl ?_
        refine at_ld (i := 3) dX8_farFromRoot_12 rfl rfl rfl ?_
        refine at_k (nI 1) dX8_farFromRoot_13 rfl (by decide) ?_
        refine at_rv [_, _] dX8_farFromRoot_14 mX8_of ⟨Nat.le_of_ble_eq_true rfl, Nat.le_of_ble_eq_true rfl⟩ lX8_173 iX8_of rfl rfl (mv_o hn _ _ _) (by omega) rfl (Nat.le_of_ble_eq_true rfl) (Nat.le_of_ble_eq_true rfl) ⟨rfl, rfl⟩ (c_of A F v hn up 1 (by omega)) ?_
        refine at_st (i := 3) dX8_farFromRoot_17 rfl rfl (Nat.le_of_ble_eq_true rfl) rfl ?_
        try dsimp only [List.set_cons_succ, List.set_cons_zero]
        refine at_goto 4 dX8_farFromRoot_18 (by decide) ?_
        rw [nI_add, show far + (m + 1) = far + 1 + m by omega]
        exact ih _ (far + 1) h3
  have := lp n i 0 hc
  rw [Nat.zero_add] at this
  exact this
end R11
