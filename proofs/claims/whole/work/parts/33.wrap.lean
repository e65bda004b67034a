section WR
variable {l : Launch} {E : aE} {d : Nat} {S : aS} {g : aG} {u : aU} {P : aP} {Pn T : Nat} {nd gv : Nat → Nat → Int} {fs wn pr : Nat → Int} {fi : Nat} {tm gm : Prop} {a b : Nat}
theorem c_L_arc {t p nn ng : Int} (hW : WX S Pn T) (hX : XS Pn T g nd gv fs wn pr fi tm gm) (ha : 1 ≤ a) (hb : 6 ≤ b) (h0 : ∀ t' p' : Nat, t = (t' : Int) → p = (p' : Int) → t' < T → p' < Pn → 0 ≤ nn → nn ≤ 9 → 0 ≤ ng → ng ≤ 9 → ∀ g', XS Pn T g' (upA nd t' p' nn) (upA gv t' p' ng) fs wn pr fi False False → FX T g g' → P (.inl (some (iV 0))) (S, upA g' (2 * T + 283) 0 (ng - nn), a, b, false)) (h1 : ¬ (0 ≤ t ∧ t < (T : Int)) ∨ ¬ (0 ≤ p ∧ p < (Pn : Int)) → P (.inl (some (iV 1))) (S, g, a - 1, b - 6, false)) (h2 : (0 ≤ t ∧ t < (T : Int)) → (0 ≤ p ∧ p < (Pn : Int)) → ¬ (0 ≤ nn ∧ nn ≤ 9) ∨ ¬ (0 ≤ ng ∧ ng ≤ 9) → P (.inl (some (iV 2))) (S, g, a - 1, b - 6, false)) : Sp l E L_arc 11 [rV 0, iV t, iV p, iV nn, iV ng, rV (2 * T + 283)] (S, g, a, b, false) P := by
  have hT8 := wx_T hW
  show aw l E L_arc 11 0 [some (rV 0), some (iV t), some (iV p), some (iV nn), some (iV ng), some (rV (2 * T + 283)), none] [] (S, g, a, b, false) P
  refine aw_al5 L_arc_0 ?_
  refine aw_c L_arc_2 ?_
  refine aw_al0 L_arc_3 ?_
  refine aw_il1 L_arc_4 ?_
  refine aw_il2 L_arc_5 ?_
  refine aw_il3 L_arc_6 ?_
  refine aw_il4 L_arc_7 ?_
  refine aw_H4 L_arc_9 rfl rfl rfl rfl rfl (wx_o3 hW) ?_
  refine c_arc hW hX ha hb (fun z0 z1 z2 z3 z4 z5 z6 z7 z8 z9 z10 z11 z12 => ?_) (fun z0 => ?_) (fun z0 z1 z2 => ?_)
  · show aw _ _ _ _ _ _ _ _ _
    refine aw_i2l L_arc_12 ?_
    refine aw_last L_arc_13 (wx_out hW) (show (0 : Int) = ((0 : Nat) : Int) from rfl) (by omega) ?_
    refine aw_go L_arc_14 ?_
    refine aw_c L_arc_25 ?_
    refine aw_reti L_arc_26 (Or.inl rfl) ?_
    exact h0 z0 z1 z2 z3 z4 z5 z6 z7 z8 z9 z10 z11 z12
  · refine ⟨_, _, L_arc_h0, ?_⟩
    show aw _ _ _ _ _ _ _ _ _
    refine aw_c L_arc_19 ?_
    refine aw_reti L_arc_20 (Or.inl rfl) ?_
    exact h1 z0
  · refine ⟨_, _, L_arc_h1, ?_⟩
    show aw _ _ _ _ _ _ _ _ _
    refine aw_c L_arc_23 ?_
    refine aw_reti L_arc_24 (Or.inl rfl) ?_
    exact h2 z0 z1 z2
theorem c_L_start {p n : Int} (hW : WX S Pn T) (hX : XS Pn T g nd gv fs wn pr fi tm gm) (ha : 1 ≤ a) (hb : 6 ≤ b) (h0 : ∀ p' : Nat, p = (p' : Int) → p' < Pn → 0 ≤ n → n ≤ 100 → ∀ g', XS Pn T g' nd gv (up1 fs p' n) wn (up1 fs p' n) 0 False False → FX T g g' → P (.inl (some (iV 0))) (S, upA g' (2 * T + 283) 0 (fs p'), a, b, false)) (h1 : ¬ (0 ≤ p ∧ p < (Pn : Int)) → P (.inl (some (iV 1))) (S, g, a - 1, b - 6, false)) (h2 : (0 ≤ p ∧ p < (Pn : Int)) → ¬ (0 ≤ n ∧ n ≤ 100) → P (.inl (some (iV 2))) (S, g, a - 1, b - 6, false)) : Sp l E L_start 11 [rV 0, iV p, iV n, rV (2 * T + 283)] (S, g, a, b, false) P := by
  have hT8 := wx_T hW
  show aw l E L_start 11 0 [some (rV 0), some (iV p), some (iV n), some (rV (2 * T + 283)), none, none, none] [] (S, g, a, b, false) P
  refine aw_al3 L_start_0 ?_
  refine aw_c L_start_1 ?_
  refine aw_al0 L_start_2 ?_
  refine aw_il1 L_start_3 ?_
  refine aw_il2 L_start_4 ?_
  refine aw_H2 L_start_5 rfl rfl rfl (wx_o3 hW) ?_
  refine c_start hW hX ha hb (fun z0 z1 z2 z3 z4 z5 z6 z7 => ?_) (fun z0 => ?_) (fun z0 z1 => ?_)
  · show aw _ _ _ _ _ _ _ _ _
    refine aw_i2l L_start_8 ?_
    refine aw_last L_start_9 (wx_out hW) (show (0 : Int) = ((0 : Nat) : Int) from rfl) (by omega) ?_
    refine aw_go L_start_10 ?_
    refine aw_c L_start_21 ?_
    refine aw_reti L_start_22 (Or.inl rfl) ?_
    exact h0 z0 z1 z2 z3 z4 z5 z6 z7
  · refine ⟨_, _, L_start_h0, ?_⟩
    show aw _ _ _ _ _ _ _ _ _
    refine aw_c L_start_15 ?_
    refine aw_reti L_start_16 (Or.inl rfl) ?_
    exact h1 z0
  · refine ⟨_, _, L_start_h1, ?_⟩
    show aw _ _ _ _ _ _ _ _ _
    refine aw_c L_start_19 ?_
    refine aw_reti L_start_20 (Or.inl rfl) ?_
    exact h2 z0 z1
theorem c_L_want {p n : Int} (hW : WX S Pn T) (hX : XS Pn T g nd gv fs wn pr fi tm gm) (ha : 1 ≤ a) (hb : 6 ≤ b) (h0 : ∀ p' : Nat, p = (p' : Int) → p' < Pn → 0 ≤ n → n ≤ 100 → ∀ g', XS Pn T g' nd gv fs (up1 wn p' n) pr fi tm False → FX T g g' → P (.inl (some (iV 0))) (S, upA g' (2 * T + 283) 0 (wn p'), a, b, false)) (h1 : ¬ (0 ≤ p ∧ p < (Pn : Int)) → P (.inl (some (iV 1))) (S, g, a - 1, b - 6, false)) (h2 : (0 ≤ p ∧ p < (Pn : Int)) → ¬ (0 ≤ n ∧ n ≤ 100) → P (.inl (some (iV 2))) (S, g, a - 1, b - 6, false)) : Sp l E L_want 11 [rV 0, iV p, iV n, rV (2 * T + 283)] (S, g, a, b, false) P := by
  have hT8 := wx_T hW
  show aw l E L_want 11 0 [some (rV 0), some (iV p), some (iV n), some (rV (2 * T + 283)), none, none, none] [] (S, g, a, b, false) P
  refine aw_al3 L_want_0 ?_
  refine aw_c L_want_1 ?_
  refine aw_al0 L_want_2 ?_
  refine aw_il1 L_want_3 ?_
  refine aw_il2 L_want_4 ?_
  refine aw_H2 L_want_5 rfl rfl rfl (wx_o3 hW) ?_
  refine c_want hW hX ha hb (fun z0 z1 z2 z3 z4 z5 z6 z7 => ?_) (fun z0 => ?_) (fun z0 z1 => ?_)
  · show aw _ _ _ _ _ _ _ _ _
    refine aw_i2l L_want_8 ?_
    refine aw_last L_want_9 (wx_out hW) (show (0 : Int) = ((0 : Nat) : Int) from rfl) (by omega) ?_
    refine aw_go L_want_10 ?_
    refine aw_c L_want_21 ?_
    refine aw_reti L_want_22 (Or.inl rfl) ?_
    exact h0 z0 z1 z2 z3 z4 z5 z6 z7
  · refine ⟨_, _, L_want_h0, ?_⟩
    show aw _ _ _ _ _ _ _ _ _
    refine aw_c L_want_15 ?_
    refine aw_reti L_want_16 (Or.inl rfl) ?_
    exact h1 z0
  · refine ⟨_, _, L_want_h1, ?_⟩
    show aw _ _ _ _ _ _ _ _ _
    refine aw_c L_want_19 ?_
    refine aw_reti L_want_20 (Or.inl rfl) ?_
    exact h2 z0 z1
theorem c_L_fire {t : Int} (hW : WX S Pn T) (hX : XS Pn T g nd gv fs wn pr fi tm gm) (ha : 1 ≤ a) (hb : 6 ≤ b) (hfi : fi ≤ 100000) (h0 : ∀ t' : Nat, t = (t' : Int) → t' < T → bl Pn (nd t') pr → ∀ g', XS Pn T g' nd gv fs wn (fun p => pr p - nd t' p + gv t' p) (fi + 1) tm gm → FX T g g' → P (.inl (some (iV 0))) (S, upA g' (2 * T + 283) 0 1, a, b, false)) (h0' : ∀ t' : Nat, t = (t' : Int) → t' < T → ¬ bl Pn (nd t') pr → P (.inl (some (iV 0))) (S, upA g (2 * T + 283) 0 0, a, b, false)) (h1 : ¬ (0 ≤ t ∧ t < (T : Int)) → P (.inl (some (iV 1))) (S, g, a - 1, b - 6, false)) : Sp l E L_fire 11 [rV 0, iV t, rV (2 * T + 283)] (S, g, a, b, false) P := by
  have hT8 := wx_T hW
  show aw l E L_fire 11 0 [some (rV 0), some (iV t), some (rV (2 * T + 283)), none, none, none, none] [] (S, g, a, b, false) P
  refine aw_al2 L_fire_0 ?_
  refine aw_c L_fire_1 ?_
  refine aw_al0 L_fire_2 ?_
  refine aw_il1 L_fire_3 ?_
  refine aw_H1 L_fire_4 rfl rfl (wx_o3 hW) ?_
  refine c_fire hW hX ha hb hfi (fun z0 z1 z2 z3 z4 z5 z6 => ?_) (fun z0 z1 z2 z3 => ?_) (fun z0 => ?_)
  · show aw _ _ _ _ _ _ _ _ _
    refine aw_zeq L_fire_7 (fun h7 => ?_) (fun h7 => ?_)
    · skip
      refine aw_lc L_fire_14 ?_
      refine aw_last L_fire_15 (wx_out hW) (show (0 : Int) = ((0 : Nat) : Int) from rfl) (by omega) ?_
      refine aw_go L_fire_16 ?_
      refine aw_c L_fire_22 ?_
      refine aw_reti L_fire_23 (Or.inl rfl) ?_
      exact absurd h7 (by decide)
    · skip
      refine aw_lc L_fire_10 ?_
      refine aw_go L_fire_11 ?_
      refine aw_last L_fire_15 (wx_out hW) (show (0 : Int) = ((0 : Nat) : Int) from rfl) (by omega) ?_
      refine aw_go L_fire_16 ?_
      refine aw_c L_fire_22 ?_
      refine aw_reti L_fire_23 (Or.inl rfl) ?_
      exact h0 z0 z1 z2 z3 z4 z5 z6
  · show aw _ _ _ _ _ _ _ _ _
    refine aw_zeq L_fire_7 (fun h7 => ?_) (fun h7 => ?_)
    · skip
      refine aw_lc L_fire_14 ?_
      refine aw_last L_fire_15 (wx_out hW) (show (0 : Int) = ((0 : Nat) : Int) from rfl) (by omega) ?_
      refine aw_go L_fire_16 ?_
      refine aw_c L_fire_22 ?_
      refine aw_reti L_fire_23 (Or.inl rfl) ?_
      exact h0' z0 z1 z2 z3
    · skip
      refine aw_lc L_fire_10 ?_
      refine aw_go L_fire_11 ?_
      refine aw_last L_fire_15 (wx_out hW) (show (0 : Int) = ((0 : Nat) : Int) from rfl) (by omega) ?_
      refine aw_go L_fire_16 ?_
      refine aw_c L_fire_22 ?_
      refine aw_reti L_fire_23 (Or.inl rfl) ?_
      exact absurd rfl h7
  · refine ⟨_, _, L_fire_h0, ?_⟩
    show aw _ _ _ _ _ _ _ _ _
    refine aw_c L_fire_20 ?_
    refine aw_reti L_fire_21 (Or.inl rfl) ?_
    exact h1 z0
theorem c_L_at {p : Int} (hW : WX S Pn T) (hX : XS Pn T g nd gv fs wn pr fi tm gm) (ha : 1 ≤ a) (hb : 6 ≤ b) (h0 : ∀ p' : Nat, p = (p' : Int) → p' < Pn → P (.inl (some (iV 0))) (S, upA g (2 * T + 283) 0 (pr p'), a, b, false)) (h1 : ¬ (0 ≤ p ∧ p < (Pn : Int)) → P (.inl (some (iV 1))) (S, g, a - 1, b - 6, false)) : Sp l E L_at 11 [rV 0, iV p, rV (2 * T + 283)] (S, g, a, b, false) P := by
  have hT8 := wx_T hW
  show aw l E L_at 11 0 [some (rV 0), some (iV p), some (rV (2 * T + 283)), none, none, none, none] [] (S, g, a, b, false) P
  refine aw_al2 L_at_0 ?_
  refine aw_c L_at_1 ?_
  refine aw_al0 L_at_2 ?_
  refine aw_il1 L_at_3 ?_
  refine aw_H1 L_at_4 rfl rfl (wx_o3 hW) ?_
  refine c_at hW hX ha hb (fun z0 z1 z2 => ?_) (fun z0 => ?_)
  · show aw _ _ _ _ _ _ _ _ _
    refine aw_i2l L_at_7 ?_
    refine aw_last L_at_8 (wx_out hW) (show (0 : Int) = ((0 : Nat) : Int) from rfl) (by omega) ?_
    refine aw_go L_at_9 ?_
    refine aw_c L_at_15 ?_
    refine aw_reti L_at_16 (Or.inl rfl) ?_
    exact h0 z0 z1 z2
  · refine ⟨_, _, L_at_h0, ?_⟩
    show aw _ _ _ _ _ _ _ _ _
    refine aw_c L_at_13 ?_
    refine aw_reti L_at_14 (Or.inl rfl) ?_
    exact h1 z0
theorem c_L_explore (hW : WX S Pn T) (hX : XS Pn T g nd gv fs wn pr fi tm gm) (ha : 1 ≤ a) (hb : 6 ≤ b) (h0 : (grT Pn T nd gv fs 200).1 = true → ∀ g', XS Pn T g' nd gv fs wn pr fi True gm → FX T g g' → P (.inl (some (iV 0))) (S, upA g' (2 * T + 283) 0 ((grT Pn T nd gv fs 200).2.1 : Int), a, b, false)) (h1 : (grT Pn T nd gv fs 200).1 = false → ∀ g', XS Pn T g' nd gv fs wn pr fi False gm → FX T g g' → P (.inl (some (iV 1))) (S, g', a - 1, b - 6, false)) : Sp l E L_explore 11 [rV 0, rV (2 * T + 283)] (S, g, a, b, false) P := by
  have hT8 := wx_T hW
  show aw l E L_explore 11 0 [some (rV 0), some (rV (2 * T + 283)), none, none, none, none, none] [] (S, g, a, b, false) P
  refine aw_al1 L_explore_0 ?_
  refine aw_c L_explore_1 ?_
  refine aw_al0 L_explore_2 ?_
  refine aw_H0 L_explore_3 rfl (wx_o3 hW) ?_
  refine c_explore hW hX ha hb (fun z0 z1 z2 z3 => ?_) (fun z0 z1 z2 z3 => ?_)
  · show aw _ _ _ _ _ _ _ _ _
    refine aw_i2l L_explore_6 ?_
    refine aw_last L_explore_7 (wx_out hW) (show (0 : Int) = ((0 : Nat) : Int) from rfl) (by omega) ?_
    refine aw_go L_explore_8 ?_
    refine aw_c L_explore_14 ?_
    refine aw_reti L_explore_15 (Or.inl rfl) ?_
    exact h0 z0 z1 z2 z3
  · refine ⟨_, _, L_explore_h0, ?_⟩
    show aw _ _ _ _ _ _ _ _ _
    refine aw_c L_explore_12 ?_
    refine aw_reti L_explore_13 (Or.inl rfl) ?_
    exact h1 z0 z1 z2 z3
theorem c_L_count {n p : Int} (hW : WX S Pn T) (hX : XS Pn T g nd gv fs wn pr fi tm gm) (ha : 1 ≤ a) (hb : 6 ≤ b) (h0 : tm → ∀ n' p' : Nat, n = (n' : Int) → p = (p' : Int) → n' < (grT Pn T nd gv fs 200).2.1 → p' < Pn → P (.inl (some (iV 0))) (S, upA g (2 * T + 283) 0 (if (grT Pn T nd gv fs 200).2.2.1 n' p' = 1000000000 then -1 else (grT Pn T nd gv fs 200).2.2.1 n' p'), a, b, false)) (h1 : ¬ tm → P (.inl (some (iV 1))) (S, g, a - 1, b - 6, false)) (h2 : tm → ¬ (0 ≤ n ∧ n < ((grT Pn T nd gv fs 200).2.1 : Int)) ∨ ¬ (0 ≤ p ∧ p < (Pn : Int)) → P (.inl (some (iV 2))) (S, g, a - 1, b - 6, false)) : Sp l E L_count 11 [rV 0, iV n, iV p, rV (2 * T + 283)] (S, g, a, b, false) P := by
  have hT8 := wx_T hW
  show aw l E L_count 11 0 [some (rV 0), some (iV n), some (iV p), some (rV (2 * T + 283)), none, none, none] [] (S, g, a, b, false) P
  refine aw_al3 L_count_0 ?_
  refine aw_c L_count_1 ?_
  refine aw_al0 L_count_2 ?_
  refine aw_il1 L_count_3 ?_
  refine aw_il2 L_count_4 ?_
  refine aw_H2 L_count_5 rfl rfl rfl (wx_o3 hW) ?_
  refine c_count hW hX ha hb (fun z0 z1 z2 z3 z4 z5 z6 => ?_) (fun z0 => ?_) (fun z0 z1 => ?_)
  · show aw _ _ _ _ _ _ _ _ _
    refine aw_i2l L_count_8 ?_
    refine aw_last L_count_9 (wx_out hW) (show (0 : Int) = ((0 : Nat) : Int) from rfl) (by omega) ?_
    refine aw_go L_count_10 ?_
    refine aw_c L_count_21 ?_
    refine aw_reti L_count_22 (Or.inl rfl) ?_
    exact h0 z0 z1 z2 z3 z4 z5 z6
  · refine ⟨_, _, L_count_h0, ?_⟩
    show aw _ _ _ _ _ _ _ _ _
    refine aw_c L_count_15 ?_
    refine aw_reti L_count_16 (Or.inl rfl) ?_
    exact h1 z0
  · refine ⟨_, _, L_count_h1, ?_⟩
    show aw _ _ _ _ _ _ _ _ _
    refine aw_c L_count_19 ?_
    refine aw_reti L_count_20 (Or.inl rfl) ?_
    exact h2 z0 z1
theorem c_L_node {n k : Int} (hW : WX S Pn T) (hX : XS Pn T g nd gv fs wn pr fi tm gm) (ha : 1 ≤ a) (hb : 6 ≤ b) (h0 : tm → ∀ n' k' : Nat, n = (n' : Int) → k = (k' : Int) → n' < (grT Pn T nd gv fs 200).2.1 → k' < 3 → P (.inl (some (iV 0))) (S, upA g (2 * T + 283) 0 (tq (grT Pn T nd gv fs 200).2 n' k'), a, b, false)) (h1 : ¬ tm → P (.inl (some (iV 1))) (S, g, a - 1, b - 6, false)) (h2 : tm → ¬ (0 ≤ n ∧ n < ((grT Pn T nd gv fs 200).2.1 : Int)) → P (.inl (some (iV 2))) (S, g, a - 1, b - 6, false)) (h3 : tm → (0 ≤ n ∧ n < ((grT Pn T nd gv fs 200).2.1 : Int)) → ¬ (0 ≤ k ∧ k < 3) → P (.inl (some (iV 3))) (S, g, a - 1, b - 6, false)) : Sp l E L_node 11 [rV 0, iV n, iV k, rV (2 * T + 283)] (S, g, a, b, false) P := by
  have hT8 := wx_T hW
  show aw l E L_node 11 0 [some (rV 0), some (iV n), some (iV k), some (rV (2 * T + 283)), none, none, none] [] (S, g, a, b, false) P
  refine aw_al3 L_node_0 ?_
  refine aw_c L_node_1 ?_
  refine aw_al0 L_node_2 ?_
  refine aw_il1 L_node_3 ?_
  refine aw_il2 L_node_4 ?_
  refine aw_H2 L_node_5 rfl rfl rfl (wx_o3 hW) ?_
  refine c_node hW hX ha hb (fun z0 z1 z2 z3 z4 z5 z6 => ?_) (fun z0 => ?_) (fun z0 z1 => ?_) (fun z0 z1 z2 => ?_)
  · show aw _ _ _ _ _ _ _ _ _
    refine aw_i2l L_node_8 ?_
    refine aw_last L_node_9 (wx_out hW) (show (0 : Int) = ((0 : Nat) : Int) from rfl) (by omega) ?_
    refine aw_go L_node_10 ?_
    refine aw_c L_node_25 ?_
    refine aw_reti L_node_26 (Or.inl rfl) ?_
    exact h0 z0 z1 z2 z3 z4 z5 z6
  · refine ⟨_, _, L_node_h0, ?_⟩
    show aw _ _ _ _ _ _ _ _ _
    refine aw_c L_node_15 ?_
    refine aw_reti L_node_16 (Or.inl rfl) ?_
    exact h1 z0
  · refine ⟨_, _, L_node_h1, ?_⟩
    show aw _ _ _ _ _ _ _ _ _
    refine aw_c L_node_19 ?_
    refine aw_reti L_node_20 (Or.inl rfl) ?_
    exact h2 z0 z1
  · refine ⟨_, _, L_node_h2, ?_⟩
    show aw _ _ _ _ _ _ _ _ _
    refine aw_c L_node_23 ?_
    refine aw_reti L_node_24 (Or.inl rfl) ?_
    exact h3 z0 z1 z2
theorem c_L_path {n i : Int} (hW : WX S Pn T) (hX : XS Pn T g nd gv fs wn pr fi tm gm) (ha : 1 ≤ a) (hb : 6 ≤ b) (h0 : tm → ∀ n' i' : Nat, n = (n' : Int) → i = (i' : Int) → n' < (grT Pn T nd gv fs 200).2.1 → i' < (grT Pn T nd gv fs 200).2.2.2.2.2.1 n' → P (.inl (some (iV 0))) (S, upA g (2 * T + 283) 0 ((grT Pn T nd gv fs 200).2.2.2.2.1 (upT (grT Pn T nd gv fs 200).2.2.2.1 ((grT Pn T nd gv fs 200).2.2.2.2.2.1 n' - (i' + 1)) n') : Int), a, b, false)) (h1 : ¬ tm → P (.inl (some (iV 1))) (S, g, a - 1, b - 6, false)) (h2 : tm → ¬ (0 ≤ n ∧ n < ((grT Pn T nd gv fs 200).2.1 : Int)) → P (.inl (some (iV 2))) (S, g, a - 1, b - 6, false)) (h3 : tm → ∀ n' : Nat, n = (n' : Int) → n' < (grT Pn T nd gv fs 200).2.1 → ¬ (0 ≤ i ∧ i < ((grT Pn T nd gv fs 200).2.2.2.2.2.1 n' : Int)) → P (.inl (some (iV 2))) (S, g, a - 1, b - 6, false)) : Sp l E L_path 11 [rV 0, iV n, iV i, rV (2 * T + 283)] (S, g, a, b, false) P := by
  have hT8 := wx_T hW
  show aw l E L_path 11 0 [some (rV 0), some (iV n), some (iV i), some (rV (2 * T + 283)), none, none, none] [] (S, g, a, b, false) P
  refine aw_al3 L_path_0 ?_
  refine aw_c L_path_1 ?_
  refine aw_al0 L_path_2 ?_
  refine aw_il1 L_path_3 ?_
  refine aw_il2 L_path_4 ?_
  refine aw_H2 L_path_5 rfl rfl rfl (wx_o3 hW) ?_
  refine c_path hW hX ha hb (fun z0 z1 z2 z3 z4 z5 z6 => ?_) (fun z0 => ?_) (fun z0 z1 => ?_) (fun z0 z1 z2 z3 z4 => ?_)
  · show aw _ _ _ _ _ _ _ _ _
    refine aw_i2l L_path_8 ?_
    refine aw_last L_path_9 (wx_out hW) (show (0 : Int) = ((0 : Nat) : Int) from rfl) (by omega) ?_
    refine aw_go L_path_10 ?_
    refine aw_c L_path_21 ?_
    refine aw_reti L_path_22 (Or.inl rfl) ?_
    exact h0 z0 z1 z2 z3 z4 z5 z6
  · refine ⟨_, _, L_path_h0, ?_⟩
    show aw _ _ _ _ _ _ _ _ _
    refine aw_c L_path_15 ?_
    refine aw_reti L_path_16 (Or.inl rfl) ?_
    exact h1 z0
  · refine ⟨_, _, L_path_h1, ?_⟩
    show aw _ _ _ _ _ _ _ _ _
    refine aw_c L_path_19 ?_
    refine aw_reti L_path_20 (Or.inl rfl) ?_
    exact h2 z0 z1
  · refine ⟨_, _, L_path_h1, ?_⟩
    show aw _ _ _ _ _ _ _ _ _
    refine aw_c L_path_19 ?_
    refine aw_reti L_path_20 (Or.inl rfl) ?_
    exact h3 z0 z1 z2 z3 z4
theorem c_L_bound {p : Int} (hW : WX S Pn T) (hX : XS Pn T g nd gv fs wn pr fi tm gm) (ha : 1 ≤ a) (hb : 6 ≤ b) (h0 : tm → ∀ p' : Nat, p = (p' : Int) → p' < Pn → P (.inl (some (iV 0))) (S, upA g (2 * T + 283) 0 (if mxT (grT Pn T nd gv fs 200).2 p' (grT Pn T nd gv fs 200).2.1 = 1000000000 then -1 else mxT (grT Pn T nd gv fs 200).2 p' (grT Pn T nd gv fs 200).2.1), a, b, false)) (h1 : ¬ tm → P (.inl (some (iV 1))) (S, g, a - 1, b - 6, false)) (h2 : tm → ¬ (0 ≤ p ∧ p < (Pn : Int)) → P (.inl (some (iV 2))) (S, g, a - 1, b - 6, false)) : Sp l E L_bound 11 [rV 0, iV p, rV (2 * T + 283)] (S, g, a, b, false) P := by
  have hT8 := wx_T hW
  show aw l E L_bound 11 0 [some (rV 0), some (iV p), some (rV (2 * T + 283)), none, none, none, none] [] (S, g, a, b, false) P
  refine aw_al2 L_bound_0 ?_
  refine aw_c L_bound_1 ?_
  refine aw_al0 L_bound_2 ?_
  refine aw_il1 L_bound_3 ?_
  refine aw_H1 L_bound_4 rfl rfl (wx_o3 hW) ?_
  refine c_bound hW hX ha hb (fun z0 z1 z2 z3 => ?_) (fun z0 => ?_) (fun z0 z1 => ?_)
  · show aw _ _ _ _ _ _ _ _ _
    refine aw_i2l L_bound_7 ?_
    refine aw_last L_bound_8 (wx_out hW) (show (0 : Int) = ((0 : Nat) : Int) from rfl) (by omega) ?_
    refine aw_go L_bound_9 ?_
    refine aw_c L_bound_18 ?_
    refine aw_reti L_bound_19 (Or.inl rfl) ?_
    exact h0 z0 z1 z2 z3
  · refine ⟨_, _, L_bound_h0, ?_⟩
    show aw _ _ _ _ _ _ _ _ _
    refine aw_c L_bound_13 ?_
    refine aw_reti L_bound_14 (Or.inl rfl) ?_
    exact h1 z0
  · refine ⟨_, _, L_bound_h1, ?_⟩
    show aw _ _ _ _ _ _ _ _ _
    refine aw_c L_bound_16 ?_
    refine aw_reti L_bound_17 (Or.inl rfl) ?_
    exact h2 z0 z1
theorem c_L_tops (hW : WX S Pn T) (hX : XS Pn T g nd gv fs wn pr fi tm gm) (ha : 1 ≤ a) (hb : 6 ≤ b) (h0 : tm → P (.inl (some (iV 0))) (S, upA g (2 * T + 283) 0 (ctT Pn (grT Pn T nd gv fs 200).2 (grT Pn T nd gv fs 200).2.1 : Int), a, b, false)) (h1 : ¬ tm → P (.inl (some (iV 1))) (S, g, a - 1, b - 6, false)) : Sp l E L_tops 11 [rV 0, rV (2 * T + 283)] (S, g, a, b, false) P := by
  have hT8 := wx_T hW
  show aw l E L_tops 11 0 [some (rV 0), some (rV (2 * T + 283)), none, none, none, none, none] [] (S, g, a, b, false) P
  refine aw_al1 L_tops_0 ?_
  refine aw_c L_tops_1 ?_
  refine aw_al0 L_tops_2 ?_
  refine aw_H0 L_tops_3 rfl (wx_o3 hW) ?_
  refine c_tops hW hX ha hb (fun z0 => ?_) (fun z0 => ?_)
  · show aw _ _ _ _ _ _ _ _ _
    refine aw_i2l L_tops_6 ?_
    refine aw_last L_tops_7 (wx_out hW) (show (0 : Int) = ((0 : Nat) : Int) from rfl) (by omega) ?_
    refine aw_go L_tops_8 ?_
    refine aw_c L_tops_14 ?_
    refine aw_reti L_tops_15 (Or.inl rfl) ?_
    exact h0 z0
  · refine ⟨_, _, L_tops_h0, ?_⟩
    show aw _ _ _ _ _ _ _ _ _
    refine aw_c L_tops_12 ?_
    refine aw_reti L_tops_13 (Or.inl rfl) ?_
    exact h1 z0
theorem c_L_top {k : Int} (hW : WX S Pn T) (hX : XS Pn T g nd gv fs wn pr fi tm gm) (ha : 1 ≤ a) (hb : 6 ≤ b) (h0 : tm → ∀ v, v < (grT Pn T nd gv fs 200).2.1 → tpT Pn (grT Pn T nd gv fs 200).2 v → k = (ctT Pn (grT Pn T nd gv fs 200).2 v : Int) → P (.inl (some (iV 0))) (S, upA g (2 * T + 283) 0 (v : Int), a, b, false)) (h1 : ¬ tm → P (.inl (some (iV 1))) (S, g, a - 1, b - 6, false)) (h2 : tm → ¬ (0 ≤ k ∧ k < (ctT Pn (grT Pn T nd gv fs 200).2 (grT Pn T nd gv fs 200).2.1 : Int)) → P (.inl (some (iV 2))) (S, g, a - 1, b - 6, false)) : Sp l E L_top 11 [rV 0, iV k, rV (2 * T + 283)] (S, g, a, b, false) P := by
  have hT8 := wx_T hW
  show aw l E L_top 11 0 [some (rV 0), some (iV k), some (rV (2 * T + 283)), none, none, none, none] [] (S, g, a, b, false) P
  refine aw_al2 L_top_0 ?_
  refine aw_c L_top_1 ?_
  refine aw_al0 L_top_2 ?_
  refine aw_il1 L_top_3 ?_
  refine aw_H1 L_top_4 rfl rfl (wx_o3 hW) ?_
  refine c_top hW hX ha hb (fun z0 z1 z2 z3 z4 => ?_) (fun z0 => ?_) (fun z0 z1 => ?_)
  · show aw _ _ _ _ _ _ _ _ _
    refine aw_i2l L_top_7 ?_
    refine aw_last L_top_8 (wx_out hW) (show (0 : Int) = ((0 : Nat) : Int) from rfl) (by omega) ?_
    refine aw_go L_top_9 ?_
    refine aw_c L_top_18 ?_
    refine aw_reti L_top_19 (Or.inl rfl) ?_
    exact h0 z0 z1 z2 z3 z4
  · refine ⟨_, _, L_top_h0, ?_⟩
    show aw _ _ _ _ _ _ _ _ _
    refine aw_c L_top_13 ?_
    refine aw_reti L_top_14 (Or.inl rfl) ?_
    exact h1 z0
  · refine ⟨_, _, L_top_h1, ?_⟩
    show aw _ _ _ _ _ _ _ _ _
    refine aw_c L_top_16 ?_
    refine aw_reti L_top_17 (Or.inl rfl) ?_
    exact h2 z0 z1
theorem c_L_covered (hW : WX S Pn T) (hX : XS Pn T g nd gv fs wn pr fi tm gm) (ha : 1 ≤ a) (hb : 6 ≤ b) (h0 : tm → P (.inl (some (iV 0))) (S, upA g (2 * T + 283) 0 (tf (cvT Pn (grT Pn T nd gv fs 200).2 wn)), a, b, false)) (h1 : ¬ tm → P (.inl (some (iV 1))) (S, g, a - 1, b - 6, false)) : Sp l E L_covered 11 [rV 0, rV (2 * T + 283)] (S, g, a, b, false) P := by
  have hT8 := wx_T hW
  show aw l E L_covered 11 0 [some (rV 0), some (rV (2 * T + 283)), none, none, none, none, none] [] (S, g, a, b, false) P
  refine aw_al1 L_covered_0 ?_
  refine aw_c L_covered_1 ?_
  refine aw_al0 L_covered_2 ?_
  refine aw_H0 L_covered_3 rfl (wx_o3 hW) ?_
  refine c_covered hW hX ha hb (fun z0 => ?_) (fun z0 => ?_)
  · show aw _ _ _ _ _ _ _ _ _
    refine aw_zeq L_covered_6 (fun h6 => ?_) (fun h6 => ?_)
    · skip
      refine aw_lc L_covered_13 ?_
      refine aw_last L_covered_14 (wx_out hW) (show (0 : Int) = ((0 : Nat) : Int) from rfl) (by omega) ?_
      refine aw_go L_covered_15 ?_
      refine aw_c L_covered_21 ?_
      refine aw_reti L_covered_22 (Or.inl rfl) ?_
      have hq := h0 z0
      rw [show (tf (cvT Pn (grT Pn T nd gv fs 200).2 wn)) = 0 from h6] at hq
      exact hq
    · skip
      refine aw_lc L_covered_9 ?_
      refine aw_go L_covered_10 ?_
      refine aw_last L_covered_14 (wx_out hW) (show (0 : Int) = ((0 : Nat) : Int) from rfl) (by omega) ?_
      refine aw_go L_covered_15 ?_
      refine aw_c L_covered_21 ?_
      refine aw_reti L_covered_22 (Or.inl rfl) ?_
      have hq := h0 z0
      rw [show (tf (cvT Pn (grT Pn T nd gv fs 200).2 wn)) = 1 from cI_p (nz h6)] at hq
      exact hq
  · refine ⟨_, _, L_covered_h0, ?_⟩
    show aw _ _ _ _ _ _ _ _ _
    refine aw_c L_covered_19 ?_
    refine aw_reti L_covered_20 (Or.inl rfl) ?_
    exact h1 z0
theorem c_L_lives {t : Int} (hW : WX S Pn T) (hX : XS Pn T g nd gv fs wn pr fi tm gm) (ha : 1 ≤ a) (hb : 6 ≤ b) (h0 : tm → ∀ t' : Nat, t = (t' : Int) → t' < T → P (.inl (some (iV 0))) (S, upA g (2 * T + 283) 0 (tf (cvT Pn (grT Pn T nd gv fs 200).2 (nd t'))), a, b, false)) (h1 : ¬ tm → P (.inl (some (iV 1))) (S, g, a - 1, b - 6, false)) (h2 : tm → ¬ (0 ≤ t ∧ t < (T : Int)) → P (.inl (some (iV 2))) (S, g, a - 1, b - 6, false)) : Sp l E L_lives 11 [rV 0, iV t, rV (2 * T + 283)] (S, g, a, b, false) P := by
  have hT8 := wx_T hW
  show aw l E L_lives 11 0 [some (rV 0), some (iV t), some (rV (2 * T + 283)), none, none, none, none] [] (S, g, a, b, false) P
  refine aw_al2 L_lives_0 ?_
  refine aw_c L_lives_1 ?_
  refine aw_al0 L_lives_2 ?_
  refine aw_il1 L_lives_3 ?_
  refine aw_H1 L_lives_4 rfl rfl (wx_o3 hW) ?_
  refine c_lives hW hX ha hb (fun z0 z1 z2 z3 => ?_) (fun z0 => ?_) (fun z0 z1 => ?_)
  · show aw _ _ _ _ _ _ _ _ _
    refine aw_zeq L_lives_7 (fun h7 => ?_) (fun h7 => ?_)
    · skip
      refine aw_lc L_lives_14 ?_
      refine aw_last L_lives_15 (wx_out hW) (show (0 : Int) = ((0 : Nat) : Int) from rfl) (by omega) ?_
      refine aw_go L_lives_16 ?_
      refine aw_c L_lives_25 ?_
      refine aw_reti L_lives_26 (Or.inl rfl) ?_
      have hq := h0 z0 z1 z2 z3
      rw [show (tf (cvT Pn (grT Pn T nd gv fs 200).2 (nd z1))) = 0 from h7] at hq
      exact hq
    · skip
      refine aw_lc L_lives_10 ?_
      refine aw_go L_lives_11 ?_
      refine aw_last L_lives_15 (wx_out hW) (show (0 : Int) = ((0 : Nat) : Int) from rfl) (by omega) ?_
      refine aw_go L_lives_16 ?_
      refine aw_c L_lives_25 ?_
      refine aw_reti L_lives_26 (Or.inl rfl) ?_
      have hq := h0 z0 z1 z2 z3
      rw [show (tf (cvT Pn (grT Pn T nd gv fs 200).2 (nd z1))) = 1 from cI_p (nz h7)] at hq
      exact hq
  · refine ⟨_, _, L_lives_h0, ?_⟩
    show aw _ _ _ _ _ _ _ _ _
    refine aw_c L_lives_20 ?_
    refine aw_reti L_lives_21 (Or.inl rfl) ?_
    exact h1 z0
  · refine ⟨_, _, L_lives_h1, ?_⟩
    show aw _ _ _ _ _ _ _ _ _
    refine aw_c L_lives_23 ?_
    refine aw_reti L_lives_24 (Or.inl rfl) ?_
    exact h2 z0 z1
theorem c_L_dead (hW : WX S Pn T) (hX : XS Pn T g nd gv fs wn pr fi tm gm) (ha : 1 ≤ a) (hb : 6 ≤ b) (h0 : tm → P (.inl (some (iV 0))) (S, upA g (2 * T + 283) 0 (fnd (suT Pn T nd (grT Pn T nd gv fs 200).2) (grT Pn T nd gv fs 200).2.1 0), a, b, false)) (h1 : ¬ tm → P (.inl (some (iV 1))) (S, g, a - 1, b - 6, false)) : Sp l E L_dead 11 [rV 0, rV (2 * T + 283)] (S, g, a, b, false) P := by
  have hT8 := wx_T hW
  show aw l E L_dead 11 0 [some (rV 0), some (rV (2 * T + 283)), none, none, none, none, none] [] (S, g, a, b, false) P
  refine aw_al1 L_dead_0 ?_
  refine aw_c L_dead_1 ?_
  refine aw_al0 L_dead_2 ?_
  refine aw_H0 L_dead_3 rfl (wx_o3 hW) ?_
  refine c_dead hW hX ha hb (fun z0 => ?_) (fun z0 => ?_)
  · show aw _ _ _ _ _ _ _ _ _
    refine aw_i2l L_dead_6 ?_
    refine aw_last L_dead_7 (wx_out hW) (show (0 : Int) = ((0 : Nat) : Int) from rfl) (by omega) ?_
    refine aw_go L_dead_8 ?_
    refine aw_c L_dead_14 ?_
    refine aw_reti L_dead_15 (Or.inl rfl) ?_
    exact h0 z0
  · refine ⟨_, _, L_dead_h0, ?_⟩
    show aw _ _ _ _ _ _ _ _ _
    refine aw_c L_dead_12 ?_
    refine aw_reti L_dead_13 (Or.inl rfl) ?_
    exact h1 z0
theorem c_L_back (hW : WX S Pn T) (hX : XS Pn T g nd gv fs wn pr fi tm gm) (ha : 1 ≤ a) (hb : 6 ≤ b) (h0 : (gtG Pn T nd gv wn 48).1 = true → ∀ g', XS Pn T g' nd gv fs wn pr fi tm True → FX T g g' → P (.inl (some (iV 0))) (S, upA g' (2 * T + 283) 0 (kcG (gtG Pn T nd gv wn 48).2 (gtG Pn T nd gv wn 48).2.1 : Int), a, b, false)) (h1 : (gtG Pn T nd gv wn 48).1 = false → ∀ g', XS Pn T g' nd gv fs wn pr fi tm False → FX T g g' → P (.inl (some (iV 1))) (S, g', a - 1, b - 6, false)) : Sp l E L_back 11 [rV 0, rV (2 * T + 283)] (S, g, a, b, false) P := by
  have hT8 := wx_T hW
  show aw l E L_back 11 0 [some (rV 0), some (rV (2 * T + 283)), none, none, none, none, none] [] (S, g, a, b, false) P
  refine aw_al1 L_back_0 ?_
  refine aw_c L_back_1 ?_
  refine aw_al0 L_back_2 ?_
  refine aw_H0 L_back_3 rfl (wx_o3 hW) ?_
  refine c_back hW hX ha hb (fun z0 z1 z2 z3 => ?_) (fun z0 z1 z2 z3 => ?_)
  · show aw _ _ _ _ _ _ _ _ _
    refine aw_i2l L_back_6 ?_
    refine aw_last L_back_7 (wx_out hW) (show (0 : Int) = ((0 : Nat) : Int) from rfl) (by omega) ?_
    refine aw_go L_back_8 ?_
    refine aw_c L_back_14 ?_
    refine aw_reti L_back_15 (Or.inl rfl) ?_
    exact h0 z0 z1 z2 z3
  · refine ⟨_, _, L_back_h0, ?_⟩
    show aw _ _ _ _ _ _ _ _ _
    refine aw_c L_back_12 ?_
    refine aw_reti L_back_13 (Or.inl rfl) ?_
    exact h1 z0 z1 z2 z3
theorem c_L_goal {k p : Int} (hW : WX S Pn T) (hX : XS Pn T g nd gv fs wn pr fi tm gm) (ha : 1 ≤ a) (hb : 6 ≤ b) (hk : okI k) (h0 : gm → ∀ j p' : Nat, p = (p' : Int) → fnd (fun j => ¬ (gtG Pn T nd gv wn 48).2.2.2.2.2.2 j ∧ k = (kcG (gtG Pn T nd gv wn 48).2 j : Int)) (gtG Pn T nd gv wn 48).2.1 0 = (j : Int) → j < (gtG Pn T nd gv wn 48).2.1 → p' < Pn → P (.inl (some (iV 0))) (S, upA g (2 * T + 283) 0 ((gtG Pn T nd gv wn 48).2.2.1 j p'), a, b, false)) (h1 : ¬ gm → P (.inl (some (iV 1))) (S, g, a - 1, b - 6, false)) (h2 : gm → fnd (fun j => ¬ (gtG Pn T nd gv wn 48).2.2.2.2.2.2 j ∧ k = (kcG (gtG Pn T nd gv wn 48).2 j : Int)) (gtG Pn T nd gv wn 48).2.1 0 = -2 ∨ ¬ (0 ≤ p ∧ p < (Pn : Int)) → P (.inl (some (iV 2))) (S, g, a - 1, b - 6, false)) : Sp l E L_goal 11 [rV 0, iV k, iV p, rV (2 * T + 283)] (S, g, a, b, false) P := by
  have hT8 := wx_T hW
  show aw l E L_goal 11 0 [some (rV 0), some (iV k), some (iV p), some (rV (2 * T + 283)), none, none, none] [] (S, g, a, b, false) P
  refine aw_al3 L_goal_0 ?_
  refine aw_c L_goal_1 ?_
  refine aw_al0 L_goal_2 ?_
  refine aw_il1 L_goal_3 ?_
  refine aw_il2 L_goal_4 ?_
  refine aw_H2 L_goal_5 rfl rfl rfl (wx_o3 hW) ?_
  refine c_goal hW hX ha hb hk (fun z0 z1 z2 z3 z4 z5 z6 => ?_) (fun z0 => ?_) (fun z0 z1 => ?_)
  · show aw _ _ _ _ _ _ _ _ _
    refine aw_i2l L_goal_8 ?_
    refine aw_last L_goal_9 (wx_out hW) (show (0 : Int) = ((0 : Nat) : Int) from rfl) (by omega) ?_
    refine aw_go L_goal_10 ?_
    refine aw_c L_goal_21 ?_
    refine aw_reti L_goal_22 (Or.inl rfl) ?_
    exact h0 z0 z1 z2 z3 z4 z5 z6
  · refine ⟨_, _, L_goal_h0, ?_⟩
    show aw _ _ _ _ _ _ _ _ _
    refine aw_c L_goal_15 ?_
    refine aw_reti L_goal_16 (Or.inl rfl) ?_
    exact h1 z0
  · refine ⟨_, _, L_goal_h1, ?_⟩
    show aw _ _ _ _ _ _ _ _ _
    refine aw_c L_goal_19 ?_
    refine aw_reti L_goal_20 (Or.inl rfl) ?_
    exact h2 z0 z1
theorem c_L_length (hW : WX S Pn T) (hX : XS Pn T g nd gv fs wn pr fi tm gm) (ha : 1 ≤ a) (hb : 6 ≤ b) (h0 : gm → ∀ j : Nat, fnd (fun j => bl Pn ((gtG Pn T nd gv wn 48).2.2.1 j) fs) (gtG Pn T nd gv wn 48).2.1 0 = (j : Int) → j < (gtG Pn T nd gv wn 48).2.1 → P (.inl (some (iV 0))) (S, upA g (2 * T + 283) 0 ((gtG Pn T nd gv wn 48).2.2.2.2.2.1 j : Int), a, b, false)) (h1 : ¬ gm → P (.inl (some (iV 1))) (S, g, a - 1, b - 6, false)) (h2 : gm → fnd (fun j => bl Pn ((gtG Pn T nd gv wn 48).2.2.1 j) fs) (gtG Pn T nd gv wn 48).2.1 0 = -2 → P (.inl (some (iV 2))) (S, g, a - 1, b - 6, false)) : Sp l E L_length 11 [rV 0, rV (2 * T + 283)] (S, g, a, b, false) P := by
  have hT8 := wx_T hW
  show aw l E L_length 11 0 [some (rV 0), some (rV (2 * T + 283)), none, none, none, none, none] [] (S, g, a, b, false) P
  refine aw_al1 L_length_0 ?_
  refine aw_c L_length_1 ?_
  refine aw_al0 L_length_2 ?_
  refine aw_H0 L_length_3 rfl (wx_o3 hW) ?_
  refine c_length hW hX ha hb (fun z0 z1 z2 z3 => ?_) (fun z0 => ?_) (fun z0 z1 => ?_)
  · show aw _ _ _ _ _ _ _ _ _
    refine aw_i2l L_length_6 ?_
    refine aw_last L_length_7 (wx_out hW) (show (0 : Int) = ((0 : Nat) : Int) from rfl) (by omega) ?_
    refine aw_go L_length_8 ?_
    refine aw_c L_length_17 ?_
    refine aw_reti L_length_18 (Or.inl rfl) ?_
    exact h0 z0 z1 z2 z3
  · refine ⟨_, _, L_length_h0, ?_⟩
    show aw _ _ _ _ _ _ _ _ _
    refine aw_c L_length_12 ?_
    refine aw_reti L_length_13 (Or.inl rfl) ?_
    exact h1 z0
  · refine ⟨_, _, L_length_h1, ?_⟩
    show aw _ _ _ _ _ _ _ _ _
    refine aw_c L_length_15 ?_
    refine aw_reti L_length_16 (Or.inl rfl) ?_
    exact h2 z0 z1
theorem c_L_way {i : Int} (hW : WX S Pn T) (hX : XS Pn T g nd gv fs wn pr fi tm gm) (ha : 1 ≤ a) (hb : 6 ≤ b) (h0 : gm → ∀ j i' : Nat, i = (i' : Int) → fnd (fun j => bl Pn ((gtG Pn T nd gv wn 48).2.2.1 j) fs) (gtG Pn T nd gv wn 48).2.1 0 = (j : Int) → j < (gtG Pn T nd gv wn 48).2.1 → i' < (gtG Pn T nd gv wn 48).2.2.2.2.2.1 j → P (.inl (some (iV 0))) (S, upA g (2 * T + 283) 0 ((gtG Pn T nd gv wn 48).2.2.2.2.1 (upT (gtG Pn T nd gv wn 48).2.2.2.1 i' j) : Int), a, b, false)) (h1 : ¬ gm → P (.inl (some (iV 1))) (S, g, a - 1, b - 6, false)) (h2 : gm → fnd (fun j => bl Pn ((gtG Pn T nd gv wn 48).2.2.1 j) fs) (gtG Pn T nd gv wn 48).2.1 0 = -2 → P (.inl (some (iV 2))) (S, g, a - 1, b - 6, false)) (h3 : gm → ∀ j : Nat, fnd (fun j => bl Pn ((gtG Pn T nd gv wn 48).2.2.1 j) fs) (gtG Pn T nd gv wn 48).2.1 0 = (j : Int) → j < (gtG Pn T nd gv wn 48).2.1 → ¬ (0 ≤ i ∧ i < ((gtG Pn T nd gv wn 48).2.2.2.2.2.1 j : Int)) → P (.inl (some (iV 3))) (S, g, a - 1, b - 6, false)) : Sp l E L_way 11 [rV 0, iV i, rV (2 * T + 283)] (S, g, a, b, false) P := by
  have hT8 := wx_T hW
  show aw l E L_way 11 0 [some (rV 0), some (iV i), some (rV (2 * T + 283)), none, none, none, none] [] (S, g, a, b, false) P
  refine aw_al2 L_way_0 ?_
  refine aw_c L_way_1 ?_
  refine aw_al0 L_way_2 ?_
  refine aw_il1 L_way_3 ?_
  refine aw_H1 L_way_4 rfl rfl (wx_o3 hW) ?_
  refine c_way hW hX ha hb (fun z0 z1 z2 z3 z4 z5 z6 => ?_) (fun z0 => ?_) (fun z0 z1 => ?_) (fun z0 z1 z2 z3 z4 => ?_)
  · show aw _ _ _ _ _ _ _ _ _
    refine aw_i2l L_way_7 ?_
    refine aw_last L_way_8 (wx_out hW) (show (0 : Int) = ((0 : Nat) : Int) from rfl) (by omega) ?_
    refine aw_go L_way_9 ?_
    refine aw_c L_way_21 ?_
    refine aw_reti L_way_22 (Or.inl rfl) ?_
    exact h0 z0 z1 z2 z3 z4 z5 z6
  · refine ⟨_, _, L_way_h0, ?_⟩
    show aw _ _ _ _ _ _ _ _ _
    refine aw_c L_way_13 ?_
    refine aw_reti L_way_14 (Or.inl rfl) ?_
    exact h1 z0
  · refine ⟨_, _, L_way_h1, ?_⟩
    show aw _ _ _ _ _ _ _ _ _
    refine aw_c L_way_16 ?_
    refine aw_reti L_way_17 (Or.inl rfl) ?_
    exact h2 z0 z1
  · refine ⟨_, _, L_way_h2, ?_⟩
    show aw _ _ _ _ _ _ _ _ _
    refine aw_c L_way_19 ?_
    refine aw_reti L_way_20 (Or.inl rfl) ?_
    exact h3 z0 z1 z2 z3 z4
/-- a cell of the script, or 0 -/
def scE (E : aE) (j : Nat) : Int := if j < E.1.2.2.1 then (E.1.2.2.2 j).toInt else 0
theorem c_L_cell {j : Nat} {M : aM} (hn : E.1.2.2.1 ≤ 2562) (hP : P (.inl (some (iV (scE E j)))) M) : Sp l E L_cell d [sV, iV (j : Int)] M P := by
  show aw l E L_cell d 0 [some sV, some (iV (j : Int)), none, none, none, none, none] [] M P
  refine aw_il1 L_cell_0 ?_
  refine aw_sl0 L_cell_1 ?_
  refine aw_slen L_cell_2 (by constructor <;> omega) ?_
  refine aw_cge L_cell_3 (fun h3 => ?_) (fun h3 => ?_)
  · skip
    refine aw_c L_cell_12 ?_
    refine aw_reti L_cell_13 (Or.inl rfl) ?_
    rw [show scE E j = 0 from if_neg (by omega)] at hP
    exact hP
  · skip
    refine aw_sl0 L_cell_6 ?_
    refine aw_il1 L_cell_7 ?_
    refine aw_sld L_cell_8 (by first | rfl | assumption) (by omega) ?_
    refine aw_go L_cell_9 ?_
    refine aw_reti L_cell_13 (Or.inl rfl) ?_
    rw [show scE E j = (E.1.2.2.2 j).toInt from if_pos (by omega)] at hP
    exact hP
end WR
