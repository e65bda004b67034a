section NF
variable {l : Launch} {E : aE} {d : Nat} {S : aS} {g : aG} {u : aU} {P : aP} {Pn T : Nat} {nd gv : Nat → Nat → Int} {fs wn pr : Nat → Int} {fi : Nat} {tm gm : Prop}
theorem c_M_isTop_0 {n : Nat} {j : Int} {x4 : Option aA} (hW : WX S Pn T) (hP : P (.inl (some (iV 0))) (S, g, u)) : aw l E M_isTop (d + 1) 4 [some (rV (2 * T + 269)), some (iV (n : Int)), some (iV 0), some (iV j), x4, none, none] [] (S, g, u) P := by
  refine aw_il3 M_isTop_4 ?_
  refine aw_al0 M_isTop_5 ?_
  refine aw_gi M_isTop_6 (wx_o4 hW) ?_
  refine aw_cge M_isTop_9 (fun h9 => ?_) (fun h9 => ?_)
  · skip
    refine aw_il2 M_isTop_68 ?_
    refine aw_reti M_isTop_69 (Or.inr ⟨rfl, (by first | exact Or.inl rfl | exact Or.inr rfl | assumption)⟩) ?_
    exact hP
  · skip
    refine aw_il2 M_isTop_12 ?_
    refine aw_zeq M_isTop_13 (fun h13 => ?_) (fun h13 => ?_)
    · skip
      refine aw_il2 M_isTop_68 ?_
      refine aw_reti M_isTop_69 (Or.inr ⟨rfl, (by first | exact Or.inl rfl | exact Or.inr rfl | assumption)⟩) ?_
      exact hP
    · skip
      exact absurd rfl h13
theorem c_M_isTop_lp {n : Nat} {τ : Tz} (hW : WX S Pn T) (h1 : g (2 * T + 269) 1 = (Pn : Int)) (hs : τ.1 ≤ 200) (hR : RM Pn T g τ) (hn : n < τ.1) (hP : P (.inl (some (iV (tf (tpT Pn τ n))))) (S, g, u)) : ∀ (m k : Nat) (x4 : Option aA), τ.1 - k < m → k ≤ τ.1 → (∀ r, r < k → r ≠ n → bl Pn (τ.2.1 n) (τ.2.1 r) → n < r ∧ bl Pn (τ.2.1 r) (τ.2.1 n)) → aw l E M_isTop (d + 1) 4 [some (rV (2 * T + 269)), some (iV (n : Int)), some (iV 1), some (iV (k : Int)), x4, none, none] [] (S, g, u) P := by
  intro m
  have hp6 := wx_P hW
  have e10 := hR.2.2.2.2
  induction m with
  | zero => intro k x4 h; omega
  | succ m ih =>
    intro k x4 hm hk hi
    have hb1 : k < τ.1 → (bl Pn (rwM T g n) (rwM T g k) ↔ bl Pn (τ.2.1 n) (τ.2.1 k)) := fun h => blC (hR.1 n hn) (hR.1 k h)
    have hb2 : k < τ.1 → (bl Pn (rwM T g k) (rwM T g n) ↔ bl Pn (τ.2.1 k) (τ.2.1 n)) := fun h => blC (hR.1 k h) (hR.1 n hn)
    refine aw_il3 M_isTop_4 ?_
    refine aw_al0 M_isTop_5 ?_
    refine aw_gi M_isTop_6 (wx_o4 hW) ?_
    refine aw_cge M_isTop_9 (fun h9 => ?_) (fun h9 => ?_)
    · skip
      rw [show tf (tpT Pn τ n) = 1 from cI_p (fun r hr => hi r (by omega))] at hP
      refine aw_il2 M_isTop_68 ?_
      exact aw_reti M_isTop_69 (Or.inr ⟨rfl, Or.inr rfl⟩) hP
    · skip
      refine aw_il2 M_isTop_12 ?_
      refine aw_zeq M_isTop_13 (fun h13 => ?_) (fun h13 => ?_)
      · skip
        omega
      · skip
        refine aw_il3 M_isTop_16 ?_
        refine aw_il1 M_isTop_17 ?_
        refine aw_ceq M_isTop_18 (fun h18 => ?_) (fun h18 => ?_)
        · skip
          refine aw_c M_isTop_34 ?_
          refine aw_is4 M_isTop_35 ?_
          refine aw_il4 M_isTop_37 ?_
          refine aw_zeq M_isTop_39 (fun h39 => ?_) (fun h39 => ?_)
          · skip
            refine aw_c M_isTop_56 ?_
            refine aw_go M_isTop_57 ?_
            refine aw_is2 M_isTop_61 ?_
            refine aw_ip3 M_isTop_62 (by omega) ?_
            refine aw_go M_isTop_65 ?_
            exact ih (k + 1) _ (by omega) (by omega) (fun r hr hne hbl => by
              by_cases e : r = k
              · subst e
                omega
              · exact hi r (by omega) hne hbl)
          · skip
            exact absurd rfl h39
        · skip
          refine aw_al0 M_isTop_21 ?_
          refine aw_il1 M_isTop_22 ?_
          refine aw_il3 M_isTop_23 ?_
          refine aw_V2 M_isTop_24 rfl rfl rfl rfl (wx_o4 hW) ?_
          refine c_M_isBelow (d := d) hW h1 (by omega) (by omega) ?_
          show aw _ _ _ _ _ _ _ _ _
          refine aw_zeq M_isTop_27 (fun h27 => ?_) (fun h27 => ?_)
          · skip
            refine aw_c M_isTop_34 ?_
            refine aw_is4 M_isTop_35 ?_
            refine aw_il4 M_isTop_37 ?_
            refine aw_zeq M_isTop_39 (fun h39 => ?_) (fun h39 => ?_)
            · skip
              refine aw_c M_isTop_56 ?_
              refine aw_go M_isTop_57 ?_
              refine aw_is2 M_isTop_61 ?_
              refine aw_ip3 M_isTop_62 (by omega) ?_
              refine aw_go M_isTop_65 ?_
              exact ih (k + 1) _ (by omega) (by omega) (fun r hr hne hbl => by
                by_cases e : r = k
                · subst e
                  exact absurd ((hb1 (by omega)).mpr hbl) (iz h27)
                · exact hi r (by omega) hne hbl)
            · skip
              exact absurd rfl h39
          · skip
            refine aw_c M_isTop_30 ?_
            refine aw_go M_isTop_31 ?_
            refine aw_is4 M_isTop_35 ?_
            refine aw_il4 M_isTop_37 ?_
            refine aw_zeq M_isTop_39 (fun h39 => ?_) (fun h39 => ?_)
            · skip
              exact absurd h39 (by decide)
            · skip
              refine aw_il3 M_isTop_42 ?_
              refine aw_il1 M_isTop_43 ?_
              refine aw_cle M_isTop_44 (fun h44 => ?_) (fun h44 => ?_)
              · skip
                refine aw_c M_isTop_60 ?_
                refine aw_is2 M_isTop_61 ?_
                refine aw_ip3 M_isTop_62 (by omega) ?_
                refine aw_go M_isTop_65 ?_
                rw [show tf (tpT Pn τ n) = 0 from cI_n (fun z => by have := (z k (by omega) (by omega) ((hb1 (by omega)).mp (nz h27))).1; omega)] at hP
                exact c_M_isTop_0 hW hP
              · skip
                refine aw_al0 M_isTop_47 ?_
                refine aw_il3 M_isTop_48 ?_
                refine aw_il1 M_isTop_49 ?_
                refine aw_V2 M_isTop_50 rfl rfl rfl rfl (wx_o4 hW) ?_
                refine c_M_isBelow (d := d) hW h1 (by omega) (by omega) ?_
                show aw _ _ _ _ _ _ _ _ _
                refine aw_zeq M_isTop_53 (fun h53 => ?_) (fun h53 => ?_)
                · skip
                  refine aw_c M_isTop_60 ?_
                  refine aw_is2 M_isTop_61 ?_
                  refine aw_ip3 M_isTop_62 (by omega) ?_
                  refine aw_go M_isTop_65 ?_
                  rw [show tf (tpT Pn τ n) = 0 from cI_n (fun z => iz h53 ((hb2 (by omega)).mpr (z k (by omega) (by omega) ((hb1 (by omega)).mp (nz h27))).2))] at hP
                  exact c_M_isTop_0 hW hP
                · skip
                  refine aw_c M_isTop_56 ?_
                  refine aw_go M_isTop_57 ?_
                  refine aw_is2 M_isTop_61 ?_
                  refine aw_ip3 M_isTop_62 (by omega) ?_
                  refine aw_go M_isTop_65 ?_
                  exact ih (k + 1) _ (by omega) (by omega) (fun r hr hne hbl => by
                    by_cases e : r = k
                    · subst e
                      exact ⟨by omega, (hb2 (by omega)).mp (nz h53)⟩
                    · exact hi r (by omega) hne hbl)
theorem c_M_isTop {n : Nat} {τ : Tz} (hW : WX S Pn T) (h1 : g (2 * T + 269) 1 = (Pn : Int)) (hs : τ.1 ≤ 200) (hR : RM Pn T g τ) (hn : n < τ.1) (hP : P (.inl (some (iV (tf (tpT Pn τ n))))) (S, g, u)) : Sp l E M_isTop (d + 1) [rV (2 * T + 269), iV (n : Int)] (S, g, u) P := by
  show aw l E M_isTop (d + 1) 0 [some (rV (2 * T + 269)), some (iV (n : Int)), none, none, none, none, none] [] (S, g, u) P
  refine aw_c M_isTop_0 ?_
  refine aw_is2 M_isTop_1 ?_
  refine aw_c M_isTop_2 ?_
  refine aw_is3 M_isTop_3 ?_
  exact c_M_isTop_lp hW h1 hs hR hn hP (τ.1 + 1) 0 none (by omega) (by omega) (fun r hr => absurd hr (Nat.not_lt_zero r))
theorem c_M_topAt_lp {k : Int} {τ : Tz} (hW : WX S Pn T) (h1 : g (2 * T + 269) 1 = (Pn : Int)) (hs : τ.1 ≤ 200) (hR : RM Pn T g τ) (h0 : ∀ v, v < τ.1 → tpT Pn τ v → k = (ctT Pn τ v : Int) → P (.inl (some (iV (v : Int)))) (S, g, u)) (h2 : ¬ (0 ≤ k ∧ k < (ctT Pn τ τ.1 : Int)) → P (.inl (some (iV (-1)))) (S, g, u)) : ∀ (m v : Nat), τ.1 - v < m → v ≤ τ.1 → (∀ r, r < v → tpT Pn τ r → k ≠ (ctT Pn τ r : Int)) → aw l E M_topAt (d + 2) 4 [some (rV (2 * T + 269)), some (iV k), some (iV (ctT Pn τ v : Int)), some (iV (v : Int)), none, none, none] [] (S, g, u) P := by
  intro m
  have e10 := hR.2.2.2.2
  induction m with
  | zero => intro v h; omega
  | succ m ih =>
    intro v hm hv hi
    have hct := ctT_le Pn τ v
    refine aw_il3 M_topAt_4 ?_
    refine aw_al0 M_topAt_5 ?_
    refine aw_gi M_topAt_6 (wx_o4 hW) ?_
    refine aw_cge M_topAt_9 (fun h9 => ?_) (fun h9 => ?_)
    · skip
      refine aw_c M_topAt_36 ?_
      refine aw_reti M_topAt_37 (Or.inl rfl) ?_
      refine h2 (fun z => ?_)
      have e : v = τ.1 := by omega
      subst e
      obtain ⟨k', rfl⟩ := Int.eq_ofNat_of_zero_le z.1
      obtain ⟨r, z1, z2, z3⟩ := ctT_ex Pn τ k' τ.1 (by omega)
      exact hi r z1 z2 (by rw [z3])
    · skip
      refine aw_al0 M_topAt_12 ?_
      refine aw_il3 M_topAt_13 ?_
      refine aw_V1 M_topAt_14 rfl rfl rfl (wx_o4 hW) ?_
      refine c_M_isTop (d := d) hW h1 hs hR (by omega) ?_
      show aw _ _ _ _ _ _ _ _ _
      refine aw_zeq M_topAt_17 (fun h17 => ?_) (fun h17 => ?_)
      · skip
        refine aw_ip3 M_topAt_30 (by omega) ?_
        refine aw_go M_topAt_33 ?_
        have hno : ¬ tpT Pn τ v := iz h17
        have hk2 := ih (v + 1) (by omega) (by omega) (fun r hr hr2 => by
          by_cases e : r = v
          · subst e; exact absurd hr2 hno
          · exact hi r (by omega) hr2)
        rw [show ctT Pn τ (v + 1) = ctT Pn τ v from by show ctT Pn τ v + cI (tpT Pn τ v) 1 0 = _; rw [cI_n hno]; rfl] at hk2
        exact hk2
      · skip
        refine aw_il2 M_topAt_20 ?_
        refine aw_il1 M_topAt_21 ?_
        refine aw_cne M_topAt_22 (fun h22 => ?_) (fun h22 => ?_)
        · skip
          refine aw_ip2 M_topAt_27 (by omega) ?_
          refine aw_ip3 M_topAt_30 (by omega) ?_
          refine aw_go M_topAt_33 ?_
          have hy : tpT Pn τ v := nz h17
          have hk2 := ih (v + 1) (by omega) (by omega) (fun r hr hr2 => by
            by_cases e : r = v
            · subst e; omega
            · exact hi r (by omega) hr2)
          rw [show ctT Pn τ (v + 1) = ctT Pn τ v + 1 from by show ctT Pn τ v + cI (tpT Pn τ v) 1 0 = _; rw [cI_p hy]] at hk2
          exact hk2
        · skip
          refine aw_il3 M_topAt_25 ?_
          refine aw_reti M_topAt_26 (Or.inl rfl) ?_
          exact h0 v (by omega) (nz h17) (by omega)
theorem c_M_topAt {k : Int} {τ : Tz} (hW : WX S Pn T) (h1 : g (2 * T + 269) 1 = (Pn : Int)) (hs : τ.1 ≤ 200) (hR : RM Pn T g τ) (h0 : ∀ v, v < τ.1 → tpT Pn τ v → k = (ctT Pn τ v : Int) → P (.inl (some (iV (v : Int)))) (S, g, u)) (h2 : ¬ (0 ≤ k ∧ k < (ctT Pn τ τ.1 : Int)) → P (.inl (some (iV (-1)))) (S, g, u)) : Sp l E M_topAt (d + 2) [rV (2 * T + 269), iV k] (S, g, u) P := by
  show aw l E M_topAt (d + 2) 0 [some (rV (2 * T + 269)), some (iV k), none, none, none, none, none] [] (S, g, u) P
  refine aw_c M_topAt_0 ?_
  refine aw_is2 M_topAt_1 ?_
  refine aw_c M_topAt_2 ?_
  refine aw_is3 M_topAt_3 ?_
  exact c_M_topAt_lp hW h1 hs hR h0 h2 (τ.1 + 1) 0 (by omega) (by omega) (fun r hr => absurd hr (Nat.not_lt_zero r))
theorem c_M_tops_lp {τ : Tz} (hW : WX S Pn T) (h1 : g (2 * T + 269) 1 = (Pn : Int)) (hs : τ.1 ≤ 200) (hR : RM Pn T g τ) (ht : g (2 * T + 269) 0 = 0) (hP : P (.inl (some (iV (ctT Pn τ τ.1 : Int)))) (S, g, u)) : ∀ (m v : Nat), τ.1 - v < m → v ≤ τ.1 → aw l E M_tops (d + 2) 20 [some (rV (2 * T + 269)), some (iV (ctT Pn τ v : Int)), some (iV (v : Int)), none, none, none, none] [] (S, g, u) P := by
  intro m
  have e10 := hR.2.2.2.2
  induction m with
  | zero => intro v h; omega
  | succ m ih =>
    intro v hm hv
    have hct := ctT_le Pn τ v
    refine aw_il2 M_tops_20 ?_
    refine aw_al0 M_tops_21 ?_
    refine aw_gi M_tops_22 (wx_o4 hW) ?_
    refine aw_cge M_tops_25 (fun h25 => ?_) (fun h25 => ?_)
    · skip
      have e : v = τ.1 := by omega
      subst e
      refine aw_il1 M_tops_57 ?_
      exact aw_reti M_tops_58 (Or.inl rfl) hP
    · skip
      refine aw_al0 M_tops_28 ?_
      refine aw_gi M_tops_29 (wx_o4 hW) ?_
      refine aw_zne M_tops_32 (fun h32 => ?_) (fun h32 => ?_)
      · skip
        exact absurd ht h32
      · skip
        refine aw_al0 M_tops_35 ?_
        refine aw_il2 M_tops_36 ?_
        refine aw_V1 M_tops_37 rfl rfl rfl (wx_o4 hW) ?_
        refine c_M_isTop (d := d) hW h1 hs hR (by omega) ?_
        show aw _ _ _ _ _ _ _ _ _
        refine aw_zeq M_tops_40 (fun h40 => ?_) (fun h40 => ?_)
        · skip
          refine aw_il1 M_tops_49 ?_
          refine aw_is1 M_tops_50 ?_
          refine aw_ip2 M_tops_51 (by omega) ?_
          refine aw_go M_tops_54 ?_
          have hno : ¬ tpT Pn τ v := iz h40
          have hk2 := ih (v + 1) (by omega) (by omega)
          rw [show ctT Pn τ (v + 1) = ctT Pn τ v from by show ctT Pn τ v + cI (tpT Pn τ v) 1 0 = _; rw [cI_n hno]; rfl] at hk2
          exact hk2
        · skip
          refine aw_il1 M_tops_43 ?_
          refine aw_c M_tops_44 ?_
          refine aw_add M_tops_45 (by constructor <;> omega) ?_
          refine aw_go M_tops_46 ?_
          refine aw_is1 M_tops_50 ?_
          refine aw_ip2 M_tops_51 (by omega) ?_
          refine aw_go M_tops_54 ?_
          have hy : tpT Pn τ v := nz h40
          have hk2 := ih (v + 1) (by omega) (by omega)
          rw [show ctT Pn τ (v + 1) = ctT Pn τ v + 1 from by show ctT Pn τ v + cI (tpT Pn τ v) 1 0 = _; rw [cI_p hy]] at hk2
          exact hk2
theorem c_M_tops (hW : WX S Pn T) (hS : MS Pn T g nd gv fs wn pr fi tm gm) (hB : BX Pn T nd gv fs) (h0 : tm → P (.inl (some (iV ((ctT Pn (grT Pn T nd gv fs 200).2 (grT Pn T nd gv fs 200).2.1 : Int))))) (S, upA g (2 * T + 269) 0 0, u)) (h1 : ¬ tm → P (.inl (some (iV (0)))) (S, upA g (2 * T + 269) 0 1, u)) : Sp l E M_tops (d + 2) [rV (2 * T + 269)] (S, g, u) P := by
  have hp6 := wx_P hW
  have hT8 := wx_T hW
  have hw := BX_wt hB 200
  have hw2 := hw.2.1
  have e9 : g (2 * T + 269) 9 = tf tm := hS.2.2.2.1
  show aw l E M_tops (d + 2) 0 [some (rV (2 * T + 269)), none, none, none, none, none, none] [] (S, g, u) P
  refine aw_al0 M_tops_0 ?_
  refine aw_al0 M_tops_1 ?_
  refine aw_gi M_tops_2 (wx_o4 hW) ?_
  rw [e9]
  refine aw_zeq M_tops_5 (fun h5 => ?_) (fun h5 => ?_)
  · skip
    refine aw_c M_tops_12 ?_
    refine aw_pi M_tops_13 (wx_o4 hW) ?_
    refine aw_c M_tops_16 ?_
    refine aw_is1 M_tops_17 ?_
    refine aw_c M_tops_18 ?_
    refine aw_is2 M_tops_19 ?_
    have hd : (upA g (2 * T + 269) 0 1) (2 * T + 269) 0 ≠ 0 := by rw [upA_eq]; omega
    have hf := h1 (iz h5)
    refine aw_il2 M_tops_20 ?_
    refine aw_al0 M_tops_21 ?_
    refine aw_gi M_tops_22 (wx_o4 hW) ?_
    refine aw_cge M_tops_25 (fun q25 => ?_) (fun q25 => ?_)
    · skip
      refine aw_il1 M_tops_57 ?_
      refine aw_reti M_tops_58 (Or.inl rfl) ?_
      exact hf
    · skip
      refine aw_al0 M_tops_28 ?_
      refine aw_gi M_tops_29 (wx_o4 hW) ?_
      refine aw_zne M_tops_32 (fun q32 => ?_) (fun q32 => ?_)
      · skip
        refine aw_il1 M_tops_57 ?_
        refine aw_reti M_tops_58 (Or.inl rfl) ?_
        exact hf
      · skip
        exact absurd q32 hd
  · skip
    refine aw_c M_tops_8 ?_
    refine aw_go M_tops_9 ?_
    refine aw_pi M_tops_13 (wx_o4 hW) ?_
    refine aw_c M_tops_16 ?_
    refine aw_is1 M_tops_17 ?_
    refine aw_c M_tops_18 ?_
    refine aw_is2 M_tops_19 ?_
    have htm : tm := nz h5
    have hRt := RM_fr (g' := upA g (2 * T + 269) 0 0) (hS.2.2.2.2.2.1 htm).2.1 (fun x y z => upA_ne (by omega))
    exact c_M_tops_lp (d := d) hW ((upA_ne (by omega)).trans hS.1.1) hw2 hRt (upA_eq _ _ _ _) (h0 htm) ((grT Pn T nd gv fs 200).2.1 + 1) 0 (by omega) (by omega)
theorem c_M_top {k : Int} (hW : WX S Pn T) (hS : MS Pn T g nd gv fs wn pr fi tm gm) (hB : BX Pn T nd gv fs) (h0 : tm → ∀ v, v < (grT Pn T nd gv fs 200).2.1 → tpT Pn (grT Pn T nd gv fs 200).2 v → k = (ctT Pn (grT Pn T nd gv fs 200).2 v : Int) → P (.inl (some (iV ((v : Int))))) (S, upA g (2 * T + 269) 0 0, u)) (h1 : ¬ tm → P (.inl (some (iV (0)))) (S, upA g (2 * T + 269) 0 1, u)) (h2 : tm → ¬ (0 ≤ k ∧ k < (ctT Pn (grT Pn T nd gv fs 200).2 (grT Pn T nd gv fs 200).2.1 : Int)) → P (.inl (some (iV (0)))) (S, upA g (2 * T + 269) 0 2, u)) : Sp l E M_top (d + 3) [rV (2 * T + 269), iV k] (S, g, u) P := by
  have hp6 := wx_P hW
  have hT8 := wx_T hW
  have hw := BX_wt hB 200
  have hw2 := hw.2.1
  have e9 : g (2 * T + 269) 9 = tf tm := hS.2.2.2.1
  have hX : ∀ v : Int, ¬ tm → aw l E M_top (d + 3) 20 [some (rV (2 * T + 269)), some (iV k), none, none, none, none, none] [iV v] (S, g, u) P := by
    intro v htm
    refine aw_is2 M_top_20 ?_
    refine aw_al0 M_top_21 ?_
    refine aw_al0 M_top_22 ?_
    refine aw_gi M_top_23 (wx_o4 hW) ?_
    rw [e9]
    refine aw_zne M_top_26 (fun h26 => ?_) (fun h26 => ?_)
    · skip
      exact absurd (nz h26) htm
    · skip
      refine aw_c M_top_29 ?_
      refine aw_go M_top_30 ?_
      refine aw_pi M_top_42 (wx_o4 hW) ?_
      refine aw_al0 M_top_45 ?_
      refine aw_gi M_top_46 (wx_o4 hW) ?_
      rw [upA_eq]
      refine aw_zne M_top_49 (fun h49 => ?_) (fun h49 => ?_)
      · skip
        refine aw_c M_top_56 ?_
        refine aw_reti M_top_57 (Or.inl rfl) ?_
        exact h1 htm
      · skip
        omega
  have hY : tm → ¬ (0 ≤ k ∧ k < (ctT Pn (grT Pn T nd gv fs 200).2 (grT Pn T nd gv fs 200).2.1 : Int)) → aw l E M_top (d + 3) 20 [some (rV (2 * T + 269)), some (iV k), none, none, none, none, none] [iV (-1)] (S, g, u) P := by
    intro htm hk
    refine aw_is2 M_top_20 ?_
    refine aw_al0 M_top_21 ?_
    refine aw_al0 M_top_22 ?_
    refine aw_gi M_top_23 (wx_o4 hW) ?_
    rw [e9]
    refine aw_zne M_top_26 (fun h26 => ?_) (fun h26 => ?_)
    · skip
      refine aw_il2 M_top_33 ?_
      refine aw_zge M_top_34 (fun h34 => ?_) (fun h34 => ?_)
      · skip
        omega
      · skip
        refine aw_c M_top_37 ?_
        refine aw_go M_top_38 ?_
        refine aw_pi M_top_42 (wx_o4 hW) ?_
        refine aw_al0 M_top_45 ?_
        refine aw_gi M_top_46 (wx_o4 hW) ?_
        rw [upA_eq]
        refine aw_zne M_top_49 (fun h49 => ?_) (fun h49 => ?_)
        · skip
          refine aw_c M_top_56 ?_
          refine aw_reti M_top_57 (Or.inl rfl) ?_
          exact h2 htm hk
        · skip
          omega
    · skip
      exact absurd htm (iz h26)
  have hZ : tm → ∀ v, v < (grT Pn T nd gv fs 200).2.1 → tpT Pn (grT Pn T nd gv fs 200).2 v → k = (ctT Pn (grT Pn T nd gv fs 200).2 v : Int) → aw l E M_top (d + 3) 20 [some (rV (2 * T + 269)), some (iV k), none, none, none, none, none] [iV (v : Int)] (S, g, u) P := by
    intro htm v hv hv2 hk
    refine aw_is2 M_top_20 ?_
    refine aw_al0 M_top_21 ?_
    refine aw_al0 M_top_22 ?_
    refine aw_gi M_top_23 (wx_o4 hW) ?_
    rw [e9]
    refine aw_zne M_top_26 (fun h26 => ?_) (fun h26 => ?_)
    · skip
      refine aw_il2 M_top_33 ?_
      refine aw_zge M_top_34 (fun h34 => ?_) (fun h34 => ?_)
      · skip
        refine aw_c M_top_41 ?_
        refine aw_pi M_top_42 (wx_o4 hW) ?_
        refine aw_al0 M_top_45 ?_
        refine aw_gi M_top_46 (wx_o4 hW) ?_
        rw [upA_eq]
        refine aw_zne M_top_49 (fun h49 => ?_) (fun h49 => ?_)
        · skip
          exact absurd rfl h49
        · skip
          refine aw_il2 M_top_52 ?_
          refine aw_go M_top_53 ?_
          refine aw_reti M_top_57 (Or.inl rfl) ?_
          exact h0 htm v hv hv2 hk
      · skip
        omega
    · skip
      exact absurd htm (iz h26)
  show aw l E M_top (d + 3) 0 [some (rV (2 * T + 269)), some (iV k), none, none, none, none, none] [] (S, g, u) P
  refine aw_al0 M_top_0 ?_
  refine aw_gi M_top_1 (wx_o4 hW) ?_
  rw [e9]
  refine aw_zeq M_top_4 (fun h4 => ?_) (fun h4 => ?_)
  · skip
    refine aw_c M_top_19 ?_
    exact hX _ (iz h4)
  · skip
    refine aw_il1 M_top_7 ?_
    refine aw_zlt M_top_8 (fun h8 => ?_) (fun h8 => ?_)
    · skip
      refine aw_c M_top_19 ?_
      exact hY (nz h4) (by omega)
    · skip
      refine aw_al0 M_top_11 ?_
      refine aw_il1 M_top_12 ?_
      refine aw_V1 M_top_13 rfl rfl rfl (wx_o4 hW) ?_
      have htm : tm := nz h4
      refine c_M_topAt (d := d) hW hS.1.1 hw2 (hS.2.2.2.2.2.1 htm).2.1 (fun v z1 z2 z3 => aw_go M_top_16 (hZ htm v z1 z2 z3)) (fun z => aw_go M_top_16 (hY htm z))
theorem c_M_cov_in {k : Nat} {τ : Tz} {any : Int} (hW : WX S Pn T) (h1 : g (2 * T + 269) 1 = (Pn : Int)) (hs : τ.1 ≤ 200) (hR : RM Pn T g τ) (hk : k < τ.1) (hwn : ∀ p, p < Pn → g (2 * T + 273) p = wn p) (hK : ∀ x4 : Option aA, aw l E M_covered d 91 [some (rV (2 * T + 269)), some (iV any), some (iV (k : Int)), some (iV (tf (bl Pn wn (τ.2.1 k)))), x4, none, none] [] (S, g, u) P) : ∀ (m p : Nat), Pn - p < m → p ≤ Pn → aw l E M_covered d 44 [some (rV (2 * T + 269)), some (iV any), some (iV (k : Int)), some (iV (tf (bl p wn (τ.2.1 k)))), some (iV (p : Int)), none, none] [] (S, g, u) P := by
  intro m
  have hp6 := wx_P hW
  induction m with
  | zero => intro p h; omega
  | succ m ih =>
    intro p hm hp
    have e1 : p < Pn → g (2 * T + 275) (6 * k + p) = τ.2.1 k p := fun h => hR.1 k hk p h
    have e2 : p < Pn → g (2 * T + 273) p = wn p := hwn p
    refine aw_il4 M_covered_44 ?_
    refine aw_al0 M_covered_46 ?_
    refine aw_gi M_covered_47 (wx_o4 hW) ?_
    refine aw_cge M_covered_50 (fun h50 => ?_) (fun h50 => ?_)
    · skip
      have e : p = Pn := by omega
      subst e
      exact hK _
    · skip
      refine aw_il3 M_covered_53 ?_
      refine aw_zeq M_covered_54 (fun h54 => ?_) (fun h54 => ?_)
      · skip
        refine aw_c M_covered_83 ?_
        refine aw_is3 M_covered_84 ?_
        refine aw_ip4 M_covered_85 (by omega) ?_
        refine aw_go M_covered_88 ?_
        have hk2 := ih (p + 1) (by omega) (by omega)
        rw [show tf (bl (p + 1) wn (τ.2.1 k)) = 0 from cI_n (fun z => iz h54 (fun r hr => z r (by omega)))] at hk2
        exact hk2
      · skip
        refine aw_al0 M_covered_57 ?_
        refine aw_gr (wx_r4_6 hW) M_covered_58 (wx_o4 hW) ?_
        refine aw_il4 M_covered_61 ?_
        refine aw_ia M_covered_63 (wx_a_mwanted hW) (by first | rfl | assumption) (by omega) ?_
        rw [e2 (by omega)]
        refine aw_al0 M_covered_64 ?_
        refine aw_gr (wx_r4_11 hW) M_covered_65 (wx_o4 hW) ?_
        refine aw_c M_covered_68 ?_
        refine aw_il2 M_covered_70 ?_
        refine aw_mul M_covered_71 (by constructor <;> omega) ?_
        refine aw_il4 M_covered_72 ?_
        refine aw_add M_covered_74 (by constructor <;> omega) ?_
        refine aw_ia M_covered_75 (wx_a_mmarks hW) (show 6 * (k : Int) + (p : Int) = ((6 * k + p : Nat) : Int) by omega) (by omega) ?_
        rw [e1 (by omega)]
        refine aw_cgt M_covered_76 (fun h76 => ?_) (fun h76 => ?_)
        · skip
          refine aw_c M_covered_83 ?_
          refine aw_is3 M_covered_84 ?_
          refine aw_ip4 M_covered_85 (by omega) ?_
          refine aw_go M_covered_88 ?_
          have hk2 := ih (p + 1) (by omega) (by omega)
          rw [show tf (bl (p + 1) wn (τ.2.1 k)) = 0 from cI_n (fun z => by have := z p (by omega); omega)] at hk2
          exact hk2
        · skip
          refine aw_c M_covered_79 ?_
          refine aw_go M_covered_80 ?_
          refine aw_is3 M_covered_84 ?_
          refine aw_ip4 M_covered_85 (by omega) ?_
          refine aw_go M_covered_88 ?_
          have hk2 := ih (p + 1) (by omega) (by omega)
          rw [show tf (bl (p + 1) wn (τ.2.1 k)) = 1 from cI_p (fun r hr => by
            by_cases e : r = p
            · subst e; omega
            · exact nz h54 r (by omega))] at hk2
          exact hk2
theorem c_M_cov_lp {τ : Tz} (hW : WX S Pn T) (h1 : g (2 * T + 269) 1 = (Pn : Int)) (hs : τ.1 ≤ 200) (hR : RM Pn T g τ) (ht : g (2 * T + 269) 0 = 0) (hwn : ∀ p, p < Pn → g (2 * T + 273) p = wn p) (hP : P (.inl (some (iV (tf (cvT Pn τ wn))))) (S, g, u)) : ∀ (m k : Nat) (x3 x4 : Option aA), τ.1 - k < m → k ≤ τ.1 → (∀ r, r < k → ¬ bl Pn wn (τ.2.1 r)) → aw l E M_covered d 20 [some (rV (2 * T + 269)), some (iV 0), some (iV (k : Int)), x3, x4, none, none] [] (S, g, u) P := by
  intro m
  have hp6 := wx_P hW
  have e10 := hR.2.2.2.2
  induction m with
  | zero => intro k x3 x4 h; omega
  | succ m ih =>
    intro k x3 x4 hm hk hi
    refine aw_il2 M_covered_20 ?_
    refine aw_al0 M_covered_21 ?_
    refine aw_gi M_covered_22 (wx_o4 hW) ?_
    refine aw_cge M_covered_25 (fun h25 => ?_) (fun h25 => ?_)
    · skip
      rw [show tf (cvT Pn τ wn) = 0 from cI_n (fun ⟨r, z1, z2⟩ => hi r (by omega) z2)] at hP
      refine aw_il1 M_covered_99 ?_
      exact aw_reti M_covered_100 (Or.inr ⟨rfl, Or.inl rfl⟩) hP
    · skip
      refine aw_al0 M_covered_28 ?_
      refine aw_gi M_covered_29 (wx_o4 hW) ?_
      refine aw_zne M_covered_32 (fun h32 => ?_) (fun h32 => ?_)
      · skip
        exact absurd ht h32
      · skip
        refine aw_il1 M_covered_35 ?_
        refine aw_zne M_covered_36 (fun h36 => ?_) (fun h36 => ?_)
        · skip
          exact absurd rfl h36
        · skip
          refine aw_c M_covered_39 ?_
          refine aw_is3 M_covered_40 ?_
          refine aw_c M_covered_41 ?_
          refine aw_is4 M_covered_42 ?_
          have hk0 : k < τ.1 := by omega
          have hq := c_M_cov_in (l := l) (E := E) (d := d) (u := u) (P := P) (any := 0) hW h1 hs hR hk0 hwn (fun x4 => ?_) (Pn + 1) 0 (by omega) (by omega)
          · rw [show tf (bl 0 wn (τ.2.1 k)) = 1 from cI_p (fun r hr => absurd hr (Nat.not_lt_zero r))] at hq
            exact hq
          · by_cases hc : bl Pn wn (τ.2.1 k)
            · rw [show tf (bl Pn wn (τ.2.1 k)) = 1 from cI_p hc]
              rw [show tf (cvT Pn τ wn) = 1 from cI_p ⟨k, hk0, hc⟩] at hP
              refine aw_il3 M_covered_91 ?_
              refine aw_is1 M_covered_92 ?_
              refine aw_ip2 M_covered_93 (by omega) ?_
              refine aw_go M_covered_96 ?_
              refine aw_il2 M_covered_20 ?_
              refine aw_al0 M_covered_21 ?_
              refine aw_gi M_covered_22 (wx_o4 hW) ?_
              refine aw_cge M_covered_25 (fun q25 => ?_) (fun q25 => ?_)
              · skip
                refine aw_il1 M_covered_99 ?_
                refine aw_reti M_covered_100 (Or.inr ⟨rfl, (by first | exact Or.inl rfl | exact Or.inr rfl | assumption)⟩) ?_
                exact hP
              · skip
                refine aw_al0 M_covered_28 ?_
                refine aw_gi M_covered_29 (wx_o4 hW) ?_
                refine aw_zne M_covered_32 (fun q32 => ?_) (fun q32 => ?_)
                · skip
                  refine aw_il1 M_covered_99 ?_
                  refine aw_reti M_covered_100 (Or.inr ⟨rfl, (by first | exact Or.inl rfl | exact Or.inr rfl | assumption)⟩) ?_
                  exact hP
                · skip
                  refine aw_il1 M_covered_35 ?_
                  refine aw_zne M_covered_36 (fun q36 => ?_) (fun q36 => ?_)
                  · skip
                    refine aw_il1 M_covered_99 ?_
                    refine aw_reti M_covered_100 (Or.inr ⟨rfl, (by first | exact Or.inl rfl | exact Or.inr rfl | assumption)⟩) ?_
                    exact hP
                  · skip
                    exact absurd q36 (by decide)
            · rw [show tf (bl Pn wn (τ.2.1 k)) = 0 from cI_n hc]
              refine aw_il3 M_covered_91 ?_
              refine aw_is1 M_covered_92 ?_
              refine aw_ip2 M_covered_93 (by omega) ?_
              refine aw_go M_covered_96 ?_
              exact ih (k + 1) _ _ (by omega) (by omega) (fun r hr => by
                by_cases e : r = k
                · rw [e]; exact hc
                · exact hi r (by omega))
theorem c_M_covered (hW : WX S Pn T) (hS : MS Pn T g nd gv fs wn pr fi tm gm) (hB : BX Pn T nd gv fs) (h0 : tm → P (.inl (some (iV (tf (cvT Pn (grT Pn T nd gv fs 200).2 wn))))) (S, upA g (2 * T + 269) 0 0, u)) (h1 : ¬ tm → P (.inl (some (iV (0)))) (S, upA g (2 * T + 269) 0 1, u)) : Sp l E M_covered d [rV (2 * T + 269)] (S, g, u) P := by
  have hp6 := wx_P hW
  have hT8 := wx_T hW
  have hw := BX_wt hB 200
  have hw2 := hw.2.1
  have e9 : g (2 * T + 269) 9 = tf tm := hS.2.2.2.1
  show aw l E M_covered d 0 [some (rV (2 * T + 269)), none, none, none, none, none, none] [] (S, g, u) P
  refine aw_al0 M_covered_0 ?_
  refine aw_al0 M_covered_1 ?_
  refine aw_gi M_covered_2 (wx_o4 hW) ?_
  rw [e9]
  refine aw_zeq M_covered_5 (fun h5 => ?_) (fun h5 => ?_)
  · skip
    refine aw_c M_covered_12 ?_
    refine aw_pi M_covered_13 (wx_o4 hW) ?_
    refine aw_c M_covered_16 ?_
    refine aw_is1 M_covered_17 ?_
    refine aw_c M_covered_18 ?_
    refine aw_is2 M_covered_19 ?_
    have hd : (upA g (2 * T + 269) 0 1) (2 * T + 269) 0 ≠ 0 := by rw [upA_eq]; omega
    have hf := h1 (iz h5)
    refine aw_il2 M_covered_20 ?_
    refine aw_al0 M_covered_21 ?_
    refine aw_gi M_covered_22 (wx_o4 hW) ?_
    refine aw_cge M_covered_25 (fun q25 => ?_) (fun q25 => ?_)
    · skip
      refine aw_il1 M_covered_99 ?_
      refine aw_reti M_covered_100 (Or.inr ⟨rfl, (by first | exact Or.inl rfl | exact Or.inr rfl | assumption)⟩) ?_
      exact hf
    · skip
      refine aw_al0 M_covered_28 ?_
      refine aw_gi M_covered_29 (wx_o4 hW) ?_
      refine aw_zne M_covered_32 (fun q32 => ?_) (fun q32 => ?_)
      · skip
        refine aw_il1 M_covered_99 ?_
        refine aw_reti M_covered_100 (Or.inr ⟨rfl, (by first | exact Or.inl rfl | exact Or.inr rfl | assumption)⟩) ?_
        exact hf
      · skip
        exact absurd q32 hd
  · skip
    refine aw_c M_covered_8 ?_
    refine aw_go M_covered_9 ?_
    refine aw_pi M_covered_13 (wx_o4 hW) ?_
    refine aw_c M_covered_16 ?_
    refine aw_is1 M_covered_17 ?_
    refine aw_c M_covered_18 ?_
    refine aw_is2 M_covered_19 ?_
    have htm : tm := nz h5
    have hRt := RM_fr (g' := upA g (2 * T + 269) 0 0) (hS.2.2.2.2.2.1 htm).2.1 (fun x y z => upA_ne (by omega))
    exact c_M_cov_lp hW ((upA_ne (by omega)).trans hS.1.1) hw2 hRt (upA_eq _ _ _ _) (fun p hp => (upA_ne (by omega)).trans (hS.2.1 p hp).1) (h0 htm) ((grT Pn T nd gv fs 200).2.1 + 1) 0 none none (by omega) (by omega) (fun r hr => absurd hr (Nat.not_lt_zero r))
theorem c_M_lives_lp {t : Nat} {τ : Tz} (hW : WX S Pn T) (h1 : g (2 * T + 269) 1 = (Pn : Int)) (hs : τ.1 ≤ 200) (hR : RM Pn T g τ) (ht : g (2 * T + 269) 0 = 0) (hN : NM Pn T g nd gv fs) (htT : t < T) (hP : P (.inl (some (iV (tf (cvT Pn τ (nd t)))))) (S, g, u)) : ∀ (m k : Nat), τ.1 - k < m → k ≤ τ.1 → (∀ r, r < k → ¬ bl Pn (nd t) (τ.2.1 r)) → aw l E M_lives (d + 1) 32 [some (rV (2 * T + 269)), some (iV (t : Int)), some (iV 0), some (iV (k : Int)), none, none, none] [] (S, g, u) P := by
  intro m
  have hp6 := wx_P hW
  have e10 := hR.2.2.2.2
  induction m with
  | zero => intro k h; omega
  | succ m ih =>
    intro k hm hk hi
    have hb : k < τ.1 → (bl Pn (rwN T g t) (rwM T g k) ↔ bl Pn (nd t) (τ.2.1 k)) := fun h => blC (fun p hp => (hN.2.2.1 t htT p hp).1) (hR.1 k h)
    refine aw_il3 M_lives_32 ?_
    refine aw_al0 M_lives_33 ?_
    refine aw_gi M_lives_34 (wx_o4 hW) ?_
    refine aw_cge M_lives_37 (fun h37 => ?_) (fun h37 => ?_)
    · skip
      rw [show tf (cvT Pn τ (nd t)) = 0 from cI_n (fun ⟨r, z1, z2⟩ => hi r (by omega) z2)] at hP
      refine aw_il2 M_lives_64 ?_
      exact aw_reti M_lives_65 (Or.inr ⟨rfl, Or.inl rfl⟩) hP
    · skip
      refine aw_al0 M_lives_40 ?_
      refine aw_gi M_lives_41 (wx_o4 hW) ?_
      refine aw_zne M_lives_44 (fun h44 => ?_) (fun h44 => ?_)
      · skip
        exact absurd ht h44
      · skip
        refine aw_il2 M_lives_47 ?_
        refine aw_zne M_lives_48 (fun h48 => ?_) (fun h48 => ?_)
        · skip
          exact absurd rfl h48
        · skip
          refine aw_al0 M_lives_51 ?_
          refine aw_il3 M_lives_52 ?_
          refine aw_il1 M_lives_53 ?_
          refine aw_V2 M_lives_54 rfl rfl rfl rfl (wx_o4 hW) ?_
          refine c_M_isEnabled (d := d) hW h1 (by omega) (by omega) ?_
          show aw _ _ _ _ _ _ _ _ _
          refine aw_is2 M_lives_57 ?_
          refine aw_ip3 M_lives_58 (by omega) ?_
          refine aw_go M_lives_61 ?_
          by_cases hc : bl Pn (rwN T g t) (rwM T g k)
          · rw [show tf (bl Pn (rwN T g t) (rwM T g k)) = 1 from cI_p hc]
            rw [show tf (cvT Pn τ (nd t)) = 1 from cI_p ⟨k, by omega, (hb (by omega)).mp hc⟩] at hP
            refine aw_il3 M_lives_32 ?_
            refine aw_al0 M_lives_33 ?_
            refine aw_gi M_lives_34 (wx_o4 hW) ?_
            refine aw_cge M_lives_37 (fun q37 => ?_) (fun q37 => ?_)
            · skip
              refine aw_il2 M_lives_64 ?_
              refine aw_reti M_lives_65 (Or.inr ⟨rfl, (by first | exact Or.inl rfl | exact Or.inr rfl | assumption)⟩) ?_
              exact hP
            · skip
              refine aw_al0 M_lives_40 ?_
              refine aw_gi M_lives_41 (wx_o4 hW) ?_
              refine aw_zne M_lives_44 (fun q44 => ?_) (fun q44 => ?_)
              · skip
                refine aw_il2 M_lives_64 ?_
                refine aw_reti M_lives_65 (Or.inr ⟨rfl, (by first | exact Or.inl rfl | exact Or.inr rfl | assumption)⟩) ?_
                exact hP
              · skip
                refine aw_il2 M_lives_47 ?_
                refine aw_zne M_lives_48 (fun q48 => ?_) (fun q48 => ?_)
                · skip
                  refine aw_il2 M_lives_64 ?_
                  refine aw_reti M_lives_65 (Or.inr ⟨rfl, (by first | exact Or.inl rfl | exact Or.inr rfl | assumption)⟩) ?_
                  exact hP
                · skip
                  exact absurd q48 (by decide)
          · rw [show tf (bl Pn (rwN T g t) (rwM T g k)) = 0 from cI_n hc]
            exact ih (k + 1) (by omega) (by omega) (fun r hr => by
              by_cases e : r = k
              · rw [e]; exact fun z => hc ((hb (by omega)).mpr z)
              · exact hi r (by omega))
theorem c_M_lives {t : Int} (hW : WX S Pn T) (hS : MS Pn T g nd gv fs wn pr fi tm gm) (hB : BX Pn T nd gv fs) (h0 : tm → ∀ t' : Nat, t = (t' : Int) → t' < T → P (.inl (some (iV (tf (cvT Pn (grT Pn T nd gv fs 200).2 (nd t')))))) (S, upA g (2 * T + 269) 0 0, u)) (h1 : ¬ tm → P (.inl (some (iV (0)))) (S, upA g (2 * T + 269) 0 1, u)) (h2 : tm → ¬ (0 ≤ t ∧ t < (T : Int)) → P (.inl (some (iV (0)))) (S, upA g (2 * T + 269) 0 2, u)) : Sp l E M_lives (d + 1) [rV (2 * T + 269), iV t] (S, g, u) P := by
  have hp6 := wx_P hW
  have hT8 := wx_T hW
  have hw := BX_wt hB 200
  have hw2 := hw.2.1
  have e9 : g (2 * T + 269) 9 = tf tm := hS.2.2.2.1
  have hX : ∀ g' : aG, g' (2 * T + 269) 0 ≠ 0 → P (.inl (some (iV 0))) (S, g', u) → aw l E M_lives (d + 1) 32 [some (rV (2 * T + 269)), some (iV t), some (iV 0), some (iV 0), none, none, none] [] (S, g', u) P := by
    intro g' hd hf
    refine aw_il3 M_lives_32 ?_
    refine aw_al0 M_lives_33 ?_
    refine aw_gi M_lives_34 (wx_o4 hW) ?_
    refine aw_cge M_lives_37 (fun h37 => ?_) (fun h37 => ?_)
    · skip
      refine aw_il2 M_lives_64 ?_
      refine aw_reti M_lives_65 (Or.inr ⟨rfl, (by first | exact Or.inl rfl | exact Or.inr rfl | assumption)⟩) ?_
      exact hf
    · skip
      refine aw_al0 M_lives_40 ?_
      refine aw_gi M_lives_41 (wx_o4 hW) ?_
      refine aw_zne M_lives_44 (fun h44 => ?_) (fun h44 => ?_)
      · skip
        refine aw_il2 M_lives_64 ?_
        refine aw_reti M_lives_65 (Or.inr ⟨rfl, (by first | exact Or.inl rfl | exact Or.inr rfl | assumption)⟩) ?_
        exact hf
      · skip
        exact absurd h44 hd
  show aw l E M_lives (d + 1) 0 [some (rV (2 * T + 269)), some (iV t), none, none, none, none, none] [] (S, g, u) P
  refine aw_al0 M_lives_0 ?_
  refine aw_al0 M_lives_1 ?_
  refine aw_gi M_lives_2 (wx_o4 hW) ?_
  rw [e9]
  refine aw_zne M_lives_5 (fun h5 => ?_) (fun h5 => ?_)
  · skip
    have htm : tm := nz h5
    refine aw_al0 M_lives_12 ?_
    refine aw_il1 M_lives_13 ?_
    refine aw_V1 M_lives_14 rfl rfl rfl (wx_o4 hW) ?_
    refine c_M_isTransition hW hS.1.2.1 ?_
    show aw _ _ _ _ _ _ _ _ _
    refine aw_zne M_lives_17 (fun h17 => ?_) (fun h17 => ?_)
    · skip
      refine aw_c M_lives_24 ?_
      refine aw_pi M_lives_25 (wx_o4 hW) ?_
      refine aw_c M_lives_28 ?_
      refine aw_is2 M_lives_29 ?_
      refine aw_c M_lives_30 ?_
      refine aw_is3 M_lives_31 ?_
      have ht := nz h17
      have hRt := RM_fr (g' := upA g (2 * T + 269) 0 0) (hS.2.2.2.2.2.1 htm).2.1 (fun x y z => upA_ne (by omega))
      obtain ⟨t', rfl⟩ := Int.eq_ofNat_of_zero_le (show 0 ≤ t by omega)
      exact c_M_lives_lp (d := d) hW ((upA_ne (by omega)).trans hS.1.1) hw2 hRt (upA_eq _ _ _ _) (NM_fr hS.1 (fun x y z => upA_ne (by omega))) (by omega) (h0 htm t' rfl (by omega)) ((grT Pn T nd gv fs 200).2.1 + 1) 0 (by omega) (by omega) (fun r hr => absurd hr (Nat.not_lt_zero r))
    · skip
      refine aw_c M_lives_20 ?_
      refine aw_go M_lives_21 ?_
      refine aw_pi M_lives_25 (wx_o4 hW) ?_
      refine aw_c M_lives_28 ?_
      refine aw_is2 M_lives_29 ?_
      refine aw_c M_lives_30 ?_
      refine aw_is3 M_lives_31 ?_
      exact hX _ (by rw [upA_eq]; omega) (h2 htm (iz h17))
  · skip
    refine aw_c M_lives_8 ?_
    refine aw_go M_lives_9 ?_
    refine aw_pi M_lives_25 (wx_o4 hW) ?_
    refine aw_c M_lives_28 ?_
    refine aw_is2 M_lives_29 ?_
    refine aw_c M_lives_30 ?_
    refine aw_is3 M_lives_31 ?_
    exact hX _ (by rw [upA_eq]; omega) (h1 (iz h5))
theorem c_M_dead_in {k : Nat} {τ : Tz} (hW : WX S Pn T) (h1 : g (2 * T + 269) 1 = (Pn : Int)) (hs : τ.1 ≤ 200) (hR : RM Pn T g τ) (hN : NM Pn T g nd gv fs) (hk : k < τ.1) (hK : ∀ x3 : Option aA, aw l E M_dead (d + 1) 70 [some (rV (2 * T + 269)), some (iV (k : Int)), some (iV (tf (¬ suT Pn T nd τ k))), x3, none, none, none] [] (S, g, u) P) : ∀ (m t : Nat), T - t < m → t ≤ T → aw l E M_dead (d + 1) 37 [some (rV (2 * T + 269)), some (iV (k : Int)), some (iV (tf (¬ suT Pn t nd τ k))), some (iV (t : Int)), none, none, none] [] (S, g, u) P := by
  intro m
  have hp6 := wx_P hW
  have hT8 := wx_T hW
  have e2 := hN.2.1
  induction m with
  | zero => intro t h; omega
  | succ m ih =>
    intro t hm ht
    have hb : t < T → (bl Pn (rwN T g t) (rwM T g k) ↔ bl Pn (nd t) (τ.2.1 k)) := fun h => blC (fun p hp => (hN.2.2.1 t h p hp).1) (hR.1 k hk)
    refine aw_il3 M_dead_37 ?_
    refine aw_al0 M_dead_38 ?_
    refine aw_gi M_dead_39 (wx_o4 hW) ?_
    refine aw_cge M_dead_42 (fun h42 => ?_) (fun h42 => ?_)
    · skip
      have e : t = T := by omega
      subst e
      exact hK _
    · skip
      refine aw_il2 M_dead_45 ?_
      refine aw_zne M_dead_46 (fun h46 => ?_) (fun h46 => ?_)
      · skip
        refine aw_c M_dead_58 ?_
        refine aw_go M_dead_59 ?_
        refine aw_is2 M_dead_63 ?_
        refine aw_ip3 M_dead_64 (by omega) ?_
        refine aw_go M_dead_67 ?_
        have hk2 := ih (t + 1) (by omega) (by omega)
        rw [show tf (¬ suT Pn (t + 1) nd τ k) = 1 from cI_p (fun z => nz h46 (fun s hs => z s (by omega)))] at hk2
        exact hk2
      · skip
        refine aw_al0 M_dead_49 ?_
        refine aw_il1 M_dead_50 ?_
        refine aw_il3 M_dead_51 ?_
        refine aw_V2 M_dead_52 rfl rfl rfl rfl (wx_o4 hW) ?_
        refine c_M_isEnabled (d := d) hW h1 (by omega) (by omega) ?_
        show aw _ _ _ _ _ _ _ _ _
        refine aw_zeq M_dead_55 (fun h55 => ?_) (fun h55 => ?_)
        · skip
          refine aw_c M_dead_62 ?_
          refine aw_is2 M_dead_63 ?_
          refine aw_ip3 M_dead_64 (by omega) ?_
          refine aw_go M_dead_67 ?_
          have hk2 := ih (t + 1) (by omega) (by omega)
          rw [show tf (¬ suT Pn (t + 1) nd τ k) = 0 from cI_n (fun z => z (fun s hs => by
            by_cases e : s = t
            · rw [e]; exact fun q => iz h55 ((hb (by omega)).mpr q)
            · exact Classical.not_not.mp (iz h46) s (by omega)))] at hk2
          exact hk2
        · skip
          refine aw_c M_dead_58 ?_
          refine aw_go M_dead_59 ?_
          refine aw_is2 M_dead_63 ?_
          refine aw_ip3 M_dead_64 (by omega) ?_
          refine aw_go M_dead_67 ?_
          have hk2 := ih (t + 1) (by omega) (by omega)
          rw [show tf (¬ suT Pn (t + 1) nd τ k) = 1 from cI_p (fun z => z t (by omega) ((hb (by omega)).mp (nz h55)))] at hk2
          exact hk2
theorem c_M_dead_lp {τ : Tz} (hW : WX S Pn T) (h1 : g (2 * T + 269) 1 = (Pn : Int)) (hs : τ.1 ≤ 200) (hR : RM Pn T g τ) (ht : g (2 * T + 269) 0 = 0) (hN : NM Pn T g nd gv fs) : ∀ (s k : Nat) (x2 x3 : Option aA), k + s = τ.1 → P (.inl (some (iV (fnd (suT Pn T nd τ) s k)))) (S, g, u) → aw l E M_dead (d + 1) 18 [some (rV (2 * T + 269)), some (iV (k : Int)), x2, x3, none, none, none] [] (S, g, u) P := by
  intro s
  have hp6 := wx_P hW
  have e10 := hR.2.2.2.2
  induction s with
  | zero =>
    intro k x2 x3 hk hP
    refine aw_il1 M_dead_18 ?_
    refine aw_al0 M_dead_19 ?_
    refine aw_gi M_dead_20 (wx_o4 hW) ?_
    refine aw_cge M_dead_23 (fun h23 => ?_) (fun h23 => ?_)
    · skip
      refine aw_al0 M_dead_82 ?_
      refine aw_gi M_dead_83 (wx_o4 hW) ?_
      refine aw_zne M_dead_86 (fun h86 => ?_) (fun h86 => ?_)
      · skip
        exact absurd ht h86
      · skip
        refine aw_c M_dead_89 ?_
        refine aw_go M_dead_91 ?_
        refine aw_reti M_dead_95 (Or.inl rfl) ?_
        exact hP
    · skip
      omega
  | succ s ih =>
    intro k x2 x3 hk hP
    refine aw_il1 M_dead_18 ?_
    refine aw_al0 M_dead_19 ?_
    refine aw_gi M_dead_20 (wx_o4 hW) ?_
    refine aw_cge M_dead_23 (fun h23 => ?_) (fun h23 => ?_)
    · skip
      omega
    · skip
      refine aw_al0 M_dead_26 ?_
      refine aw_gi M_dead_27 (wx_o4 hW) ?_
      refine aw_zne M_dead_30 (fun h30 => ?_) (fun h30 => ?_)
      · skip
        exact absurd ht h30
      · skip
        refine aw_c M_dead_33 ?_
        refine aw_is2 M_dead_34 ?_
        refine aw_c M_dead_35 ?_
        refine aw_is3 M_dead_36 ?_
        have hk0 : k < τ.1 := by omega
        have hq := c_M_dead_in (l := l) (E := E) (d := d) (u := u) (P := P) hW h1 hs hR hN hk0 (fun x3 => ?_) (T + 1) 0 (by omega) (by omega)
        · rw [show tf (¬ suT Pn 0 nd τ k) = 0 from cI_n (fun z => z (fun r hr => absurd hr (Nat.not_lt_zero r)))] at hq
          exact hq
        · by_cases hc : suT Pn T nd τ k
          · rw [show tf (¬ suT Pn T nd τ k) = 0 from cI_n (fun z => z hc)]
            rw [show fnd (suT Pn T nd τ) (s + 1) k = (k : Int) from cI_p hc] at hP
            refine aw_il2 M_dead_70 ?_
            refine aw_zne M_dead_71 (fun h71 => ?_) (fun h71 => ?_)
            · skip
              exact absurd rfl h71
            · skip
              refine aw_il1 M_dead_74 ?_
              refine aw_reti M_dead_75 (Or.inl rfl) ?_
              exact hP
          · rw [show tf (¬ suT Pn T nd τ k) = 1 from cI_p hc]
            rw [show fnd (suT Pn T nd τ) (s + 1) k = fnd (suT Pn T nd τ) s (k + 1) from cI_n hc] at hP
            refine aw_il2 M_dead_70 ?_
            refine aw_zne M_dead_71 (fun h71 => ?_) (fun h71 => ?_)
            · skip
              refine aw_ip1 M_dead_76 (by omega) ?_
              refine aw_go M_dead_79 ?_
              exact ih (k + 1) _ _ (by omega) hP
            · skip
              exact absurd h71 (by decide)
theorem c_M_dead (hW : WX S Pn T) (hS : MS Pn T g nd gv fs wn pr fi tm gm) (hB : BX Pn T nd gv fs) (h0 : tm → P (.inl (some (iV (fnd (suT Pn T nd (grT Pn T nd gv fs 200).2) (grT Pn T nd gv fs 200).2.1 0)))) (S, upA g (2 * T + 269) 0 0, u)) (h1 : ¬ tm → P (.inl (some (iV (0)))) (S, upA g (2 * T + 269) 0 1, u)) : Sp l E M_dead (d + 1) [rV (2 * T + 269)] (S, g, u) P := by
  have hp6 := wx_P hW
  have hT8 := wx_T hW
  have hw := BX_wt hB 200
  have hw2 := hw.2.1
  have e9 : g (2 * T + 269) 9 = tf tm := hS.2.2.2.1
  show aw l E M_dead (d + 1) 0 [some (rV (2 * T + 269)), none, none, none, none, none, none] [] (S, g, u) P
  refine aw_al0 M_dead_0 ?_
  refine aw_al0 M_dead_1 ?_
  refine aw_gi M_dead_2 (wx_o4 hW) ?_
  rw [e9]
  refine aw_zeq M_dead_5 (fun h5 => ?_) (fun h5 => ?_)
  · skip
    refine aw_c M_dead_12 ?_
    refine aw_pi M_dead_13 (wx_o4 hW) ?_
    refine aw_c M_dead_16 ?_
    refine aw_is1 M_dead_17 ?_
    have hd : (upA g (2 * T + 269) 0 1) (2 * T + 269) 0 ≠ 0 := by rw [upA_eq]; omega
    have hf := h1 (iz h5)
    refine aw_il1 M_dead_18 ?_
    refine aw_al0 M_dead_19 ?_
    refine aw_gi M_dead_20 (wx_o4 hW) ?_
    refine aw_cge M_dead_23 (fun q23 => ?_) (fun q23 => ?_)
    · skip
      refine aw_al0 M_dead_82 ?_
      refine aw_gi M_dead_83 (wx_o4 hW) ?_
      refine aw_zne M_dead_86 (fun q86 => ?_) (fun q86 => ?_)
      · skip
        refine aw_c M_dead_94 ?_
        refine aw_reti M_dead_95 (Or.inl rfl) ?_
        exact hf
      · skip
        exact absurd q86 hd
    · skip
      refine aw_al0 M_dead_26 ?_
      refine aw_gi M_dead_27 (wx_o4 hW) ?_
      refine aw_zne M_dead_30 (fun q30 => ?_) (fun q30 => ?_)
      · skip
        refine aw_al0 M_dead_82 ?_
        refine aw_gi M_dead_83 (wx_o4 hW) ?_
        refine aw_zne M_dead_86 (fun q86 => ?_) (fun q86 => ?_)
        · skip
          refine aw_c M_dead_94 ?_
          refine aw_reti M_dead_95 (Or.inl rfl) ?_
          exact hf
        · skip
          exact absurd q86 hd
      · skip
        exact absurd q30 hd
  · skip
    refine aw_c M_dead_8 ?_
    refine aw_go M_dead_9 ?_
    refine aw_pi M_dead_13 (wx_o4 hW) ?_
    refine aw_c M_dead_16 ?_
    refine aw_is1 M_dead_17 ?_
    have htm : tm := nz h5
    have hRt := RM_fr (g' := upA g (2 * T + 269) 0 0) (hS.2.2.2.2.2.1 htm).2.1 (fun x y z => upA_ne (by omega))
    exact c_M_dead_lp (d := d) hW ((upA_ne (by omega)).trans hS.1.1) hw2 hRt (upA_eq _ _ _ _) (NM_fr hS.1 (fun x y z => upA_ne (by omega))) (grT Pn T nd gv fs 200).2.1 0 none none (by omega) (h0 htm)
end NF
