section NE
variable {l : Launch} {E : aE} {d : Nat} {S : aS} {g : aG} {u : aU} {P : aP} {Pn T : Nat} {nd gv : Nat → Nat → Int} {fs wn pr : Nat → Int} {fi : Nat} {tm gm : Prop}
theorem c_M_isNode {i : Int} {N : Nat} (hW : WX S Pn T) (hl : g (2 * T + 269) 10 = (N : Int)) (hP : P (.inl (some (iV (if 0 ≤ i ∧ i < (N : Int) then 1 else 0)))) (S, g, u)) : Sp l E M_isNode d [rV (2 * T + 269), iV i] (S, g, u) P := by
  show aw l E M_isNode d 0 [some (rV (2 * T + 269)), some (iV i), none, none, none, none, none] [] (S, g, u) P
  refine aw_il1 M_isNode_0 ?_
  refine aw_zlt M_isNode_1 (fun h1 => ?_) (fun h1 => ?_)
  · skip
    refine aw_c M_isNode_16 ?_
    refine aw_reti M_isNode_17 (Or.inr ⟨rfl, (by first | exact Or.inl rfl | exact Or.inr rfl | assumption)⟩) ?_
    exact pF (by omega) hP
  · skip
    refine aw_il1 M_isNode_4 ?_
    refine aw_al0 M_isNode_5 ?_
    refine aw_gi M_isNode_6 (wx_o4 hW) ?_
    refine aw_cge M_isNode_9 (fun h9 => ?_) (fun h9 => ?_)
    · skip
      refine aw_c M_isNode_16 ?_
      refine aw_reti M_isNode_17 (Or.inr ⟨rfl, (by first | exact Or.inl rfl | exact Or.inr rfl | assumption)⟩) ?_
      exact pF (by omega) hP
    · skip
      refine aw_c M_isNode_12 ?_
      refine aw_go M_isNode_13 ?_
      refine aw_reti M_isNode_17 (Or.inr ⟨rfl, (by first | exact Or.inl rfl | exact Or.inr rfl | assumption)⟩) ?_
      exact pT (by omega) hP
theorem c_M_told {i : Int} (hP : P (.inl (some (iV (if i = 1000000000 then -1 else i)))) (S, g, u)) : Sp l E M_told d [iV i] (S, g, u) P := by
  show aw l E M_told d 0 [some (iV i), none, none, none, none, none, none] [] (S, g, u) P
  refine aw_il0 M_told_0 ?_
  refine aw_c M_told_1 ?_
  refine aw_cne M_told_3 (fun h3 => ?_) (fun h3 => ?_)
  · skip
    refine aw_il0 M_told_10 ?_
    refine aw_reti M_told_11 (Or.inl rfl) ?_
    rw [if_neg h3] at hP
    exact hP
  · skip
    refine aw_c M_told_6 ?_
    refine aw_go M_told_7 ?_
    refine aw_reti M_told_11 (Or.inl rfl) ?_
    rw [if_pos h3] at hP
    exact hP
theorem c_M_count {n p : Int} (hW : WX S Pn T) (hS : MS Pn T g nd gv fs wn pr fi tm gm) (hB : BX Pn T nd gv fs) (h0 : tm → ∀ n' p' : Nat, n = (n' : Int) → p = (p' : Int) → n' < (grT Pn T nd gv fs 200).2.1 → p' < Pn → P (.inl (some (iV (if (grT Pn T nd gv fs 200).2.2.1 n' p' = 1000000000 then -1 else (grT Pn T nd gv fs 200).2.2.1 n' p')))) (S, upA g (2 * T + 269) 0 0, u)) (h1 : ¬ tm → P (.inl (some (iV (0)))) (S, upA g (2 * T + 269) 0 1, u)) (h2 : tm → ¬ (0 ≤ n ∧ n < ((grT Pn T nd gv fs 200).2.1 : Int)) ∨ ¬ (0 ≤ p ∧ p < (Pn : Int)) → P (.inl (some (iV (0)))) (S, upA g (2 * T + 269) 0 2, u)) : Sp l E M_count (d + 1) [rV (2 * T + 269), iV n, iV p] (S, g, u) P := by
  have hp6 := wx_P hW
  have hT8 := wx_T hW
  have hw := BX_wt hB 200
  have hw2 := hw.2.1
  have e9 : g (2 * T + 269) 9 = tf tm := hS.2.2.2.1
  show aw l E M_count (d + 1) 0 [some (rV (2 * T + 269)), some (iV n), some (iV p), none, none, none, none] [] (S, g, u) P
  refine aw_al0 M_count_0 ?_
  refine aw_al0 M_count_1 ?_
  refine aw_gi M_count_2 (wx_o4 hW) ?_
  rw [e9]
  refine aw_zne M_count_5 (fun h5 => ?_) (fun h5 => ?_)
  · skip
    have htm : tm := nz h5
    have e10 := (hS.2.2.2.2.2.1 htm).2.1.2.2.2.2
    refine aw_al0 M_count_12 ?_
    refine aw_il1 M_count_13 ?_
    refine aw_V1 M_count_14 rfl rfl rfl (wx_o4 hW) ?_
    refine c_M_isNode hW e10 ?_
    show aw _ _ _ _ _ _ _ _ _
    refine aw_zeq M_count_17 (fun h17 => ?_) (fun h17 => ?_)
    · skip
      refine aw_c M_count_28 ?_
      refine aw_go M_count_29 ?_
      refine aw_pi M_count_33 (wx_o4 hW) ?_
      refine aw_al0 M_count_36 ?_
      refine aw_gi M_count_37 (wx_o4 hW) ?_
      rw [upA_eq]
      refine aw_zne M_count_40 (fun h40 => ?_) (fun h40 => ?_)
      · skip
        refine aw_c M_count_60 ?_
        refine aw_reti M_count_61 (Or.inl rfl) ?_
        exact h2 htm (Or.inl (iz h17))
      · skip
        omega
    · skip
      refine aw_al0 M_count_20 ?_
      refine aw_il2 M_count_21 ?_
      refine aw_V1 M_count_22 rfl rfl rfl (wx_o4 hW) ?_
      refine c_M_isPlace hW hS.1.1 ?_
      show aw _ _ _ _ _ _ _ _ _
      refine aw_zne M_count_25 (fun h25 => ?_) (fun h25 => ?_)
      · skip
        refine aw_c M_count_32 ?_
        refine aw_pi M_count_33 (wx_o4 hW) ?_
        refine aw_al0 M_count_36 ?_
        refine aw_gi M_count_37 (wx_o4 hW) ?_
        rw [upA_eq]
        refine aw_zne M_count_40 (fun h40 => ?_) (fun h40 => ?_)
        · skip
          exact absurd rfl h40
        · skip
          have hn := nz h17
          have hp := nz h25
          have hRt := RM_fr (g' := upA g (2 * T + 269) 0 0) (hS.2.2.2.2.2.1 htm).2.1 (fun x y z => upA_ne (by omega))
          obtain ⟨n', rfl⟩ := Int.eq_ofNat_of_zero_le (show 0 ≤ n by omega)
          obtain ⟨p', rfl⟩ := Int.eq_ofNat_of_zero_le (show 0 ≤ p by omega)
          have e5 : (upA g (2 * T + 269) 0 0) (2 * T + 275) (6 * n' + p') = (grT Pn T nd gv fs 200).2.2.1 n' p' := hRt.1 n' (by omega) p' (by omega)
          refine aw_al0 M_count_43 ?_
          refine aw_gr (wx_r4_11 hW) M_count_44 (wx_o4 hW) ?_
          refine aw_c M_count_47 ?_
          refine aw_il1 M_count_49 ?_
          refine aw_mul M_count_50 (by constructor <;> omega) ?_
          refine aw_il2 M_count_51 ?_
          refine aw_add M_count_52 (by constructor <;> omega) ?_
          refine aw_ia M_count_53 (wx_a_mmarks hW) (show 6 * (n' : Int) + (p' : Int) = ((6 * n' + p' : Nat) : Int) by omega) (by omega) ?_
          rw [e5]
          refine aw_S1 M_count_54 rfl rfl rfl ?_
          refine c_M_told ?_
          show aw _ _ _ _ _ _ _ _ _
          refine aw_go M_count_57 ?_
          refine aw_reti M_count_61 (Or.inl rfl) ?_
          exact h0 htm n' p' rfl rfl (by omega) (by omega)
      · skip
        refine aw_c M_count_28 ?_
        refine aw_go M_count_29 ?_
        refine aw_pi M_count_33 (wx_o4 hW) ?_
        refine aw_al0 M_count_36 ?_
        refine aw_gi M_count_37 (wx_o4 hW) ?_
        rw [upA_eq]
        refine aw_zne M_count_40 (fun h40 => ?_) (fun h40 => ?_)
        · skip
          refine aw_c M_count_60 ?_
          refine aw_reti M_count_61 (Or.inl rfl) ?_
          exact h2 htm (Or.inr (iz h25))
        · skip
          omega
  · skip
    refine aw_c M_count_8 ?_
    refine aw_go M_count_9 ?_
    refine aw_pi M_count_33 (wx_o4 hW) ?_
    refine aw_al0 M_count_36 ?_
    refine aw_gi M_count_37 (wx_o4 hW) ?_
    rw [upA_eq]
    refine aw_zne M_count_40 (fun h40 => ?_) (fun h40 => ?_)
    · skip
      refine aw_c M_count_60 ?_
      refine aw_reti M_count_61 (Or.inl rfl) ?_
      exact h1 (iz h5)
    · skip
      omega
theorem tq_M {g : aG} {τ : Tz} {z : Int} (hR : RMz Pn T g τ z) {n : Nat} (hn : n < τ.1) : g (2 * T + 276) n = tq τ n 0 ∧ g (2 * T + 277) n = tq τ n 1 := by
  show g (2 * T + 276) n = (if n = 0 then -2 else (τ.2.2.1 n : Int)) ∧ g (2 * T + 277) n = (if n = 0 then -2 else (τ.2.2.2.1 n : Int))
  by_cases e : n = 0
  · rw [if_pos e, if_pos e, e]; exact ⟨hR.2.1, hR.2.2.1⟩
  · rw [if_neg e, if_neg e]; exact hR.2.2.2.1 n (by omega) hn
theorem c_M_node {n k : Int} (hW : WX S Pn T) (hS : MS Pn T g nd gv fs wn pr fi tm gm) (hB : BX Pn T nd gv fs) (h0 : tm → ∀ n' k' : Nat, n = (n' : Int) → k = (k' : Int) → n' < (grT Pn T nd gv fs 200).2.1 → k' < 3 → P (.inl (some (iV (tq (grT Pn T nd gv fs 200).2 n' k')))) (S, upA g (2 * T + 269) 0 0, u)) (h1 : ¬ tm → P (.inl (some (iV (0)))) (S, upA g (2 * T + 269) 0 1, u)) (h2 : tm → ¬ (0 ≤ n ∧ n < ((grT Pn T nd gv fs 200).2.1 : Int)) → P (.inl (some (iV (0)))) (S, upA g (2 * T + 269) 0 2, u)) (h3 : tm → (0 ≤ n ∧ n < ((grT Pn T nd gv fs 200).2.1 : Int)) → ¬ (0 ≤ k ∧ k < 3) → P (.inl (some (iV (0)))) (S, upA g (2 * T + 269) 0 3, u)) : Sp l E M_node (d + 1) [rV (2 * T + 269), iV n, iV k] (S, g, u) P := by
  have hp6 := wx_P hW
  have hT8 := wx_T hW
  have hw := BX_wt hB 200
  have hw2 := hw.2.1
  have e9 : g (2 * T + 269) 9 = tf tm := hS.2.2.2.1
  show aw l E M_node (d + 1) 0 [some (rV (2 * T + 269)), some (iV n), some (iV k), none, none, none, none] [] (S, g, u) P
  refine aw_al0 M_node_0 ?_
  refine aw_al0 M_node_1 ?_
  refine aw_gi M_node_2 (wx_o4 hW) ?_
  rw [e9]
  refine aw_zne M_node_5 (fun h5 => ?_) (fun h5 => ?_)
  · skip
    have htm : tm := nz h5
    have e10 := (hS.2.2.2.2.2.1 htm).2.1.2.2.2.2
    refine aw_al0 M_node_12 ?_
    refine aw_il1 M_node_13 ?_
    refine aw_V1 M_node_14 rfl rfl rfl (wx_o4 hW) ?_
    refine c_M_isNode hW e10 ?_
    show aw _ _ _ _ _ _ _ _ _
    refine aw_zne M_node_17 (fun h17 => ?_) (fun h17 => ?_)
    · skip
      refine aw_il2 M_node_24 ?_
      refine aw_zlt M_node_25 (fun h25 => ?_) (fun h25 => ?_)
      · skip
        refine aw_c M_node_33 ?_
        refine aw_go M_node_34 ?_
        refine aw_pi M_node_38 (wx_o4 hW) ?_
        refine aw_al0 M_node_41 ?_
        refine aw_gi M_node_42 (wx_o4 hW) ?_
        rw [upA_eq]
        refine aw_zle M_node_45 (fun h45 => ?_) (fun h45 => ?_)
        · skip
          omega
        · skip
          refine aw_c M_node_48 ?_
          refine aw_reti M_node_49 (Or.inl rfl) ?_
          exact h3 htm (nz h17) (by omega)
      · skip
        refine aw_il2 M_node_28 ?_
        refine aw_c M_node_29 ?_
        refine aw_cle M_node_30 (fun h30 => ?_) (fun h30 => ?_)
        · skip
          refine aw_c M_node_37 ?_
          refine aw_pi M_node_38 (wx_o4 hW) ?_
          refine aw_al0 M_node_41 ?_
          refine aw_gi M_node_42 (wx_o4 hW) ?_
          rw [upA_eq]
          refine aw_zle M_node_45 (fun h45 => ?_) (fun h45 => ?_)
          · skip
            have hn := nz h17
            have hRt := RM_fr (g' := upA g (2 * T + 269) 0 0) (hS.2.2.2.2.2.1 htm).2.1 (fun x y z => upA_ne (by omega))
            obtain ⟨n', rfl⟩ := Int.eq_ofNat_of_zero_le (show 0 ≤ n by omega)
            obtain ⟨q1, q2⟩ := tq_M (n := n') hRt (by omega)
            have q3 : (upA g (2 * T + 269) 0 0) (2 * T + 278) n' = tf ((grT Pn T nd gv fs 200).2.2.2.2.2.2 n') := (upA_ne (by omega)).trans ((hS.2.2.2.2.2.1 htm).2.2 n' (by omega))
            have hk0 : ∀ k' : Nat, k = (k' : Int) → k' < 3 → P (.inl (some (iV (tq (grT Pn T nd gv fs 200).2 n' k')))) (S, upA g (2 * T + 269) 0 0, u) := fun k' e h => h0 htm n' k' rfl e (by omega) h
            refine aw_il2 M_node_50 ?_
            refine aw_zne M_node_51 (fun h51 => ?_) (fun h51 => ?_)
            · skip
              refine aw_il2 M_node_63 ?_
              refine aw_c M_node_64 ?_
              refine aw_cne M_node_65 (fun h65 => ?_) (fun h65 => ?_)
              · skip
                refine aw_al0 M_node_77 ?_
                refine aw_gr (wx_r4_14 hW) M_node_78 (wx_o4 hW) ?_
                refine aw_il1 M_node_81 ?_
                refine aw_za M_node_82 (wx_a_mleaves hW) (by first | rfl | assumption) (by omega) ?_
                rw [q3]
                refine aw_zeq M_node_83 (fun h83 => ?_) (fun h83 => ?_)
                · skip
                  refine aw_c M_node_90 ?_
                  refine aw_reti M_node_91 (Or.inl rfl) ?_
                  have hc := hk0 2 (by omega) (by omega)
                  have hx : ¬ (grT Pn T nd gv fs 200).2.2.2.2.2.2 n' := iz h83
                  rw [show tq (grT Pn T nd gv fs 200).2 n' 2 = 0 from cI_n hx] at hc
                  exact hc
                · skip
                  refine aw_c M_node_86 ?_
                  refine aw_go M_node_87 ?_
                  refine aw_reti M_node_91 (Or.inl rfl) ?_
                  have hc := hk0 2 (by omega) (by omega)
                  have hx : (grT Pn T nd gv fs 200).2.2.2.2.2.2 n' := nz h83
                  rw [show tq (grT Pn T nd gv fs 200).2 n' 2 = 1 from cI_p hx] at hc
                  exact hc
              · skip
                refine aw_al0 M_node_68 ?_
                refine aw_gr (wx_r4_13 hW) M_node_69 (wx_o4 hW) ?_
                refine aw_il1 M_node_72 ?_
                refine aw_ia M_node_73 (wx_a_mby hW) (by first | rfl | assumption) (by omega) ?_
                rw [q2]
                refine aw_go M_node_74 ?_
                refine aw_reti M_node_91 (Or.inl rfl) ?_
                exact hk0 1 (by omega) (by omega)
            · skip
              refine aw_al0 M_node_54 ?_
              refine aw_gr (wx_r4_12 hW) M_node_55 (wx_o4 hW) ?_
              refine aw_il1 M_node_58 ?_
              refine aw_ia M_node_59 (wx_a_mparents hW) (by first | rfl | assumption) (by omega) ?_
              rw [q1]
              refine aw_go M_node_60 ?_
              refine aw_reti M_node_91 (Or.inl rfl) ?_
              exact hk0 0 (by omega) (by omega)
          · skip
            refine aw_c M_node_48 ?_
            refine aw_reti M_node_49 (Or.inl rfl) ?_
            omega
        · skip
          refine aw_c M_node_33 ?_
          refine aw_go M_node_34 ?_
          refine aw_pi M_node_38 (wx_o4 hW) ?_
          refine aw_al0 M_node_41 ?_
          refine aw_gi M_node_42 (wx_o4 hW) ?_
          rw [upA_eq]
          refine aw_zle M_node_45 (fun h45 => ?_) (fun h45 => ?_)
          · skip
            omega
          · skip
            refine aw_c M_node_48 ?_
            refine aw_reti M_node_49 (Or.inl rfl) ?_
            exact h3 htm (nz h17) (by omega)
    · skip
      refine aw_c M_node_20 ?_
      refine aw_go M_node_21 ?_
      refine aw_pi M_node_38 (wx_o4 hW) ?_
      refine aw_al0 M_node_41 ?_
      refine aw_gi M_node_42 (wx_o4 hW) ?_
      rw [upA_eq]
      refine aw_zle M_node_45 (fun h45 => ?_) (fun h45 => ?_)
      · skip
        omega
      · skip
        refine aw_c M_node_48 ?_
        refine aw_reti M_node_49 (Or.inl rfl) ?_
        exact h2 htm (iz h17)
  · skip
    refine aw_c M_node_8 ?_
    refine aw_go M_node_9 ?_
    refine aw_pi M_node_38 (wx_o4 hW) ?_
    refine aw_al0 M_node_41 ?_
    refine aw_gi M_node_42 (wx_o4 hW) ?_
    rw [upA_eq]
    refine aw_zle M_node_45 (fun h45 => ?_) (fun h45 => ?_)
    · skip
      omega
    · skip
      refine aw_c M_node_48 ?_
      refine aw_reti M_node_49 (Or.inl rfl) ?_
      exact h1 (iz h5)
theorem c_M_depth_lp {n : Nat} {τ : Tz} {zz : Int} (hW : WX S Pn T) (hw : WT Pn τ) (hR : RMz Pn T g τ zz) (hn : n < τ.1) (hP : P (.inl (some (iV (τ.2.2.2.2.1 n : Int)))) (S, g, u)) : ∀ (r c a : Nat), a < τ.1 → τ.2.2.2.2.1 a = r → c + r = τ.2.2.2.2.1 n → aw l E M_depth d 4 [some (rV (2 * T + 269)), some (iV (n : Int)), some (iV (c : Int)), some (iV (a : Int)), none, none, none] [] (S, g, u) P := by
  intro r
  have ht2 := hw.2.1
  have hdn := WT_dp hw n hn
  induction r with
  | zero =>
    intro c a ha hd hc
    have ha0 : a = 0 := WT_0 hw ha hd
    have ec : (c : Int) = (τ.2.2.2.2.1 n : Int) := by omega
    refine aw_il3 M_depth_4 ?_
    refine aw_zle M_depth_5 (fun h5 => ?_) (fun h5 => ?_)
    · skip
      refine aw_il2 M_depth_21 ?_
      refine aw_reti M_depth_22 (Or.inl rfl) ?_
      rw [ec]
      exact hP
    · skip
      omega
  | succ r ih =>
    intro c a ha hd hc
    have ha0 : 0 < a := by
      rcases Nat.eq_zero_or_pos a with z | z
      · rw [z, hw.2.2.1] at hd; omega
      · exact z
    obtain ⟨z1, z2⟩ := hw.2.2.2.1 a ha0 ha
    have e6 : g (2 * T + 276) a = (τ.2.2.1 a : Int) := (hR.2.2.2.1 a ha0 ha).1
    refine aw_il3 M_depth_4 ?_
    refine aw_zle M_depth_5 (fun h5 => ?_) (fun h5 => ?_)
    · skip
      omega
    · skip
      refine aw_ip2 M_depth_8 (by omega) ?_
      refine aw_al0 M_depth_11 ?_
      refine aw_gr (wx_r4_12 hW) M_depth_12 (wx_o4 hW) ?_
      refine aw_il3 M_depth_15 ?_
      refine aw_ia M_depth_16 (wx_a_mparents hW) (by first | rfl | assumption) (by omega) ?_
      rw [e6]
      refine aw_is3 M_depth_17 ?_
      refine aw_go M_depth_18 ?_
      exact ih (c + 1) (τ.2.2.1 a) (by omega) (by omega) (by omega)
theorem c_M_depth {n : Nat} {τ : Tz} {zz : Int} (hW : WX S Pn T) (hw : WT Pn τ) (hR : RMz Pn T g τ zz) (hn : n < τ.1) (hP : P (.inl (some (iV (τ.2.2.2.2.1 n : Int)))) (S, g, u)) : Sp l E M_depth d [rV (2 * T + 269), iV (n : Int)] (S, g, u) P := by
  show aw l E M_depth d 0 [some (rV (2 * T + 269)), some (iV (n : Int)), none, none, none, none, none] [] (S, g, u) P
  refine aw_c M_depth_0 ?_
  refine aw_is2 M_depth_1 ?_
  refine aw_il1 M_depth_2 ?_
  refine aw_is3 M_depth_3 ?_
  exact c_M_depth_lp hW hw hR hn hP (τ.2.2.2.2.1 n) 0 n hn rfl (by omega)
theorem c_M_path_lp {n i N : Nat} {τ : Tz} {zz : Int} (hW : WX S Pn T) (hw : WT Pn τ) (hR : RMz Pn T g τ zz) (hi : i ≤ 1000) {v : Nat} (hP : P (.inl (some (iV (v : Int)))) (S, g, u)) : ∀ (r b : Nat), b < τ.1 → τ.2.2.2.2.1 b = i + 1 + r → τ.2.2.2.1 (upT τ.2.2.1 r b) = v → aw l E M_path (d + 1) 78 [some (rV (2 * T + 269)), some (iV (n : Int)), some (iV (i : Int)), some (iV (N : Int)), some (iV (b : Int)), some (iV ((i + r : Nat) : Int)), none] [] (S, g, u) P := by
  intro r
  have ht2 := hw.2.1
  induction r with
  | zero =>
    intro b hb hd hv
    have hb0 : 0 < b := by
      rcases Nat.eq_zero_or_pos b with z | z
      · rw [z, hw.2.2.1] at hd; omega
      · exact z
    have e7 : g (2 * T + 277) b = (v : Int) := by
      rw [← hv]; exact (hR.2.2.2.1 b hb0 hb).2
    refine aw_il5 M_path_78 ?_
    refine aw_il2 M_path_80 ?_
    refine aw_cle M_path_81 (fun h81 => ?_) (fun h81 => ?_)
    · skip
      refine aw_al0 M_path_99 ?_
      refine aw_gr (wx_r4_13 hW) M_path_100 (wx_o4 hW) ?_
      refine aw_il4 M_path_103 ?_
      refine aw_ia M_path_105 (wx_a_mby hW) (by first | rfl | assumption) (by omega) ?_
      rw [e7]
      refine aw_reti M_path_106 (Or.inl rfl) ?_
      exact hP
    · skip
      omega
  | succ r ih =>
    intro b hb hd hv
    have hb0 : 0 < b := by
      rcases Nat.eq_zero_or_pos b with z | z
      · rw [z, hw.2.2.1] at hd; omega
      · exact z
    have hdb := WT_dp hw b hb
    obtain ⟨z1, z2⟩ := hw.2.2.2.1 b hb0 hb
    have e6 : g (2 * T + 276) b = (τ.2.2.1 b : Int) := (hR.2.2.2.1 b hb0 hb).1
    have ek : ((i + (r + 1) : Nat) : Int) + -1 = ((i + r : Nat) : Int) := by omega
    refine aw_il5 M_path_78 ?_
    refine aw_il2 M_path_80 ?_
    refine aw_cle M_path_81 (fun h81 => ?_) (fun h81 => ?_)
    · skip
      omega
    · skip
      refine aw_al0 M_path_84 ?_
      refine aw_gr (wx_r4_12 hW) M_path_85 (wx_o4 hW) ?_
      refine aw_il4 M_path_88 ?_
      refine aw_ia M_path_90 (wx_a_mparents hW) (by first | rfl | assumption) (by omega) ?_
      rw [e6]
      refine aw_is4 M_path_91 ?_
      refine aw_in5 M_path_93 (by constructor <;> omega) ?_
      refine aw_go M_path_96 ?_
      rw [ek]
      exact ih (τ.2.2.1 b) (by omega) (by omega) hv
theorem c_M_path {n i : Int} (hW : WX S Pn T) (hS : MS Pn T g nd gv fs wn pr fi tm gm) (hB : BX Pn T nd gv fs) (h0 : tm → ∀ n' i' : Nat, n = (n' : Int) → i = (i' : Int) → n' < (grT Pn T nd gv fs 200).2.1 → i' < (grT Pn T nd gv fs 200).2.2.2.2.2.1 n' → P (.inl (some (iV (((grT Pn T nd gv fs 200).2.2.2.2.1 (upT (grT Pn T nd gv fs 200).2.2.2.1 ((grT Pn T nd gv fs 200).2.2.2.2.2.1 n' - (i' + 1)) n') : Int))))) (S, upA g (2 * T + 269) 0 0, u)) (h1 : ¬ tm → P (.inl (some (iV (0)))) (S, upA g (2 * T + 269) 0 1, u)) (h2 : tm → ¬ (0 ≤ n ∧ n < ((grT Pn T nd gv fs 200).2.1 : Int)) → P (.inl (some (iV (0)))) (S, upA g (2 * T + 269) 0 2, u)) (h3 : tm → ∀ n' : Nat, n = (n' : Int) → n' < (grT Pn T nd gv fs 200).2.1 → ¬ (0 ≤ i ∧ i < ((grT Pn T nd gv fs 200).2.2.2.2.2.1 n' : Int)) → P (.inl (some (iV (0)))) (S, upA g (2 * T + 269) 0 2, u)) : Sp l E M_path (d + 1) [rV (2 * T + 269), iV n, iV i] (S, g, u) P := by
  have hp6 := wx_P hW
  have hT8 := wx_T hW
  have hw := BX_wt hB 200
  have hw2 := hw.2.1
  have e9 : g (2 * T + 269) 9 = tf tm := hS.2.2.2.1
  have uu : ∀ z : Int, upA (upA g (2 * T + 269) 0 0) (2 * T + 269) 0 z = upA g (2 * T + 269) 0 z := fun z => by
    funext x y
    unfold upA
    by_cases h : x = 2 * T + 269 ∧ y = 0
    · rw [if_pos h, if_pos h]
    · rw [if_neg h, if_neg h, if_neg h]
  show aw l E M_path (d + 1) 0 [some (rV (2 * T + 269)), some (iV n), some (iV i), none, none, none, none] [] (S, g, u) P
  refine aw_al0 M_path_0 ?_
  refine aw_al0 M_path_1 ?_
  refine aw_gi M_path_2 (wx_o4 hW) ?_
  rw [e9]
  refine aw_zne M_path_5 (fun h5 => ?_) (fun h5 => ?_)
  · skip
    have htm : tm := nz h5
    have e10 := (hS.2.2.2.2.2.1 htm).2.1.2.2.2.2
    refine aw_al0 M_path_12 ?_
    refine aw_il1 M_path_13 ?_
    refine aw_V1 M_path_14 rfl rfl rfl (wx_o4 hW) ?_
    refine c_M_isNode hW e10 ?_
    show aw _ _ _ _ _ _ _ _ _
    refine aw_zne M_path_17 (fun h17 => ?_) (fun h17 => ?_)
    · skip
      refine aw_c M_path_24 ?_
      refine aw_pi M_path_25 (wx_o4 hW) ?_
      refine aw_al0 M_path_28 ?_
      refine aw_gi M_path_29 (wx_o4 hW) ?_
      rw [upA_eq]
      refine aw_zle M_path_32 (fun h32 => ?_) (fun h32 => ?_)
      · skip
        have hn := nz h17
        have hRt := RM_fr (g' := upA g (2 * T + 269) 0 0) (hS.2.2.2.2.2.1 htm).2.1 (fun x y z => upA_ne (by omega))
        obtain ⟨n', rfl⟩ := Int.eq_ofNat_of_zero_le (show 0 ≤ n by omega)
        have hdn := WT_dp hw n' (by omega)
        refine aw_al0 M_path_37 ?_
        refine aw_il1 M_path_38 ?_
        refine aw_V1 M_path_39 rfl rfl rfl (wx_o4 hW) ?_
        refine c_M_depth hW hw hRt (by omega) ?_
        show aw _ _ _ _ _ _ _ _ _
        refine aw_is3 M_path_42 ?_
        refine aw_al0 M_path_43 ?_
        refine aw_il2 M_path_44 ?_
        refine aw_zlt M_path_45 (fun h45 => ?_) (fun h45 => ?_)
        · skip
          refine aw_c M_path_53 ?_
          refine aw_go M_path_54 ?_
          refine aw_pi M_path_58 (wx_o4 hW) ?_
          rw [uu]
          refine aw_al0 M_path_61 ?_
          refine aw_gi M_path_62 (wx_o4 hW) ?_
          rw [upA_eq]
          refine aw_zle M_path_65 (fun h65 => ?_) (fun h65 => ?_)
          · skip
            omega
          · skip
            refine aw_c M_path_68 ?_
            refine aw_reti M_path_69 (Or.inl rfl) ?_
            exact h3 htm n' rfl (by omega) (by omega)
        · skip
          refine aw_il2 M_path_48 ?_
          refine aw_il3 M_path_49 ?_
          refine aw_clt M_path_50 (fun h50 => ?_) (fun h50 => ?_)
          · skip
            refine aw_c M_path_57 ?_
            refine aw_pi M_path_58 (wx_o4 hW) ?_
            rw [uu]
            refine aw_al0 M_path_61 ?_
            refine aw_gi M_path_62 (wx_o4 hW) ?_
            rw [upA_eq]
            refine aw_zle M_path_65 (fun h65 => ?_) (fun h65 => ?_)
            · skip
              obtain ⟨i', rfl⟩ := Int.eq_ofNat_of_zero_le (show 0 ≤ i by omega)
              refine aw_il1 M_path_70 ?_
              refine aw_is4 M_path_71 ?_
              refine aw_il3 M_path_73 ?_
              refine aw_c M_path_74 ?_
              refine aw_sub M_path_75 (by constructor <;> omega) ?_
              refine aw_is5 M_path_76 ?_
              rw [show ((grT Pn T nd gv fs 200).2.2.2.2.2.1 n' : Int) - 1 = ((i' + ((grT Pn T nd gv fs 200).2.2.2.2.2.1 n' - (i' + 1)) : Nat) : Int) by omega]
              exact c_M_path_lp (d := d) hW hw hRt (by omega) (h0 htm n' i' rfl rfl (by omega) (by omega)) ((grT Pn T nd gv fs 200).2.2.2.2.2.1 n' - (i' + 1)) n' (by omega) (by omega) rfl
            · skip
              refine aw_c M_path_68 ?_
              refine aw_reti M_path_69 (Or.inl rfl) ?_
              omega
          · skip
            refine aw_c M_path_53 ?_
            refine aw_go M_path_54 ?_
            refine aw_pi M_path_58 (wx_o4 hW) ?_
            rw [uu]
            refine aw_al0 M_path_61 ?_
            refine aw_gi M_path_62 (wx_o4 hW) ?_
            rw [upA_eq]
            refine aw_zle M_path_65 (fun h65 => ?_) (fun h65 => ?_)
            · skip
              omega
            · skip
              refine aw_c M_path_68 ?_
              refine aw_reti M_path_69 (Or.inl rfl) ?_
              exact h3 htm n' rfl (by omega) (by omega)
      · skip
        refine aw_c M_path_35 ?_
        refine aw_reti M_path_36 (Or.inl rfl) ?_
        omega
    · skip
      refine aw_c M_path_20 ?_
      refine aw_go M_path_21 ?_
      refine aw_pi M_path_25 (wx_o4 hW) ?_
      refine aw_al0 M_path_28 ?_
      refine aw_gi M_path_29 (wx_o4 hW) ?_
      rw [upA_eq]
      refine aw_zle M_path_32 (fun h32 => ?_) (fun h32 => ?_)
      · skip
        omega
      · skip
        refine aw_c M_path_35 ?_
        refine aw_reti M_path_36 (Or.inl rfl) ?_
        exact h2 htm (iz h17)
  · skip
    refine aw_c M_path_8 ?_
    refine aw_go M_path_9 ?_
    refine aw_pi M_path_25 (wx_o4 hW) ?_
    refine aw_al0 M_path_28 ?_
    refine aw_gi M_path_29 (wx_o4 hW) ?_
    rw [upA_eq]
    refine aw_zle M_path_32 (fun h32 => ?_) (fun h32 => ?_)
    · skip
      omega
    · skip
      refine aw_c M_path_35 ?_
      refine aw_reti M_path_36 (Or.inl rfl) ?_
      exact h1 (iz h5)
theorem mxT_rg {τ : Tz} (hw : WT Pn τ) {p : Nat} (hp : p < Pn) : ∀ k, k ≤ τ.1 → 0 ≤ mxT τ p k ∧ mxT τ p k ≤ 1000000000
  | 0, _ => ⟨Int.le_refl _, by show (0 : Int) ≤ _; omega⟩
  | k + 1, h => by
    have h1 := mxT_rg hw hp k (by omega)
    have h2 := hw.2.2.2.2 k (by omega) p hp
    have h3 := hw.2.1
    show 0 ≤ (if mxT τ p k < τ.2.1 k p then τ.2.1 k p else mxT τ p k) ∧ (if mxT τ p k < τ.2.1 k p then τ.2.1 k p else mxT τ p k) ≤ 1000000000
    split <;> omega
theorem c_M_bound_lp {p : Nat} {τ : Tz} (hW : WX S Pn T) (hw : WT Pn τ) (hR : RM Pn T g τ) (hp : p < Pn) (ht : g (2 * T + 269) 0 = 0) (hP : P (.inl (some (iV (if mxT τ p τ.1 = 1000000000 then -1 else mxT τ p τ.1)))) (S, g, u)) : ∀ (m k : Nat), τ.1 - k < m → k ≤ τ.1 → aw l E M_bound (d + 1) 32 [some (rV (2 * T + 269)), some (iV (p : Int)), some (iV (mxT τ p k)), some (iV ((k : Int))), none, none, none] [] (S, g, u) P := by
  intro m
  have hp6 := wx_P hW
  have ht2 := hw.2.1
  have e10 := hR.2.2.2.2
  induction m with
  | zero => intro k h; omega
  | succ m ih =>
    intro k hm hk
    have hb := mxT_rg hw hp k hk
    have e5 : k < τ.1 → g (2 * T + 275) (6 * k + p) = τ.2.1 k p := fun h => hR.1 k h p hp
    refine aw_il3 M_bound_32 ?_
    refine aw_al0 M_bound_33 ?_
    refine aw_gi M_bound_34 (wx_o4 hW) ?_
    refine aw_cge M_bound_37 (fun h37 => ?_) (fun h37 => ?_)
    · skip
      have e : k = τ.1 := by omega
      subst e
      refine aw_il2 M_bound_84 ?_
      refine aw_S1 M_bound_85 rfl rfl rfl ?_
      refine c_M_told ?_
      show aw _ _ _ _ _ _ _ _ _
      refine aw_reti M_bound_88 (Or.inl rfl) ?_
      exact hP
    · skip
      refine aw_al0 M_bound_40 ?_
      refine aw_gi M_bound_41 (wx_o4 hW) ?_
      refine aw_zne M_bound_44 (fun h44 => ?_) (fun h44 => ?_)
      · skip
        exact absurd ht h44
      · skip
        refine aw_al0 M_bound_47 ?_
        refine aw_gr (wx_r4_11 hW) M_bound_48 (wx_o4 hW) ?_
        refine aw_c M_bound_51 ?_
        refine aw_il3 M_bound_53 ?_
        refine aw_mul M_bound_54 (by constructor <;> omega) ?_
        refine aw_il1 M_bound_55 ?_
        refine aw_add M_bound_56 (by constructor <;> omega) ?_
        refine aw_ia M_bound_57 (wx_a_mmarks hW) (show 6 * (k : Int) + (p : Int) = ((6 * k + p : Nat) : Int) by omega) (by omega) ?_
        rw [e5 (by omega)]
        refine aw_il2 M_bound_58 ?_
        refine aw_cle M_bound_59 (fun h59 => ?_) (fun h59 => ?_)
        · skip
          refine aw_il2 M_bound_76 ?_
          refine aw_is2 M_bound_77 ?_
          refine aw_ip3 M_bound_78 (by omega) ?_
          refine aw_go M_bound_81 ?_
          have hk2 := ih (k + 1) (by omega) (by omega)
          rw [show mxT τ p (k + 1) = mxT τ p k from if_neg (by omega)] at hk2
          exact hk2
        · skip
          refine aw_al0 M_bound_62 ?_
          refine aw_gr (wx_r4_11 hW) M_bound_63 (wx_o4 hW) ?_
          refine aw_c M_bound_66 ?_
          refine aw_il3 M_bound_68 ?_
          refine aw_mul M_bound_69 (by constructor <;> omega) ?_
          refine aw_il1 M_bound_70 ?_
          refine aw_add M_bound_71 (by constructor <;> omega) ?_
          refine aw_ia M_bound_72 (wx_a_mmarks hW) (show 6 * (k : Int) + (p : Int) = ((6 * k + p : Nat) : Int) by omega) (by omega) ?_
          rw [e5 (by omega)]
          refine aw_go M_bound_73 ?_
          refine aw_is2 M_bound_77 ?_
          refine aw_ip3 M_bound_78 (by omega) ?_
          refine aw_go M_bound_81 ?_
          have hk2 := ih (k + 1) (by omega) (by omega)
          rw [show mxT τ p (k + 1) = τ.2.1 k p from if_pos (by omega)] at hk2
          exact hk2
theorem c_M_bound_x {p th : Int} (hW : WX S Pn T) (ht : g (2 * T + 269) 0 = th) (h0 : th ≠ 0) (hP : P (.inl (some (iV 0))) (S, g, u)) : aw l E M_bound (d + 1) 32 [some (rV (2 * T + 269)), some (iV p), some (iV 0), some (iV 0), none, none, none] [] (S, g, u) P := by
  have hq : aw l E M_bound (d + 1) 84 [some (rV (2 * T + 269)), some (iV p), some (iV 0), some (iV 0), none, none, none] [] (S, g, u) P := by
    refine aw_il2 M_bound_84 ?_
    refine aw_S1 M_bound_85 rfl rfl rfl ?_
    refine c_M_told ?_
    show aw _ _ _ _ _ _ _ _ _
    refine aw_reti M_bound_88 (Or.inl rfl) ?_
    exact hP
  refine aw_il3 M_bound_32 ?_
  refine aw_al0 M_bound_33 ?_
  refine aw_gi M_bound_34 (wx_o4 hW) ?_
  refine aw_cge M_bound_37 (fun h37 => ?_) (fun h37 => ?_)
  · skip
    exact hq
  · skip
    refine aw_al0 M_bound_40 ?_
    refine aw_gi M_bound_41 (wx_o4 hW) ?_
    refine aw_zne M_bound_44 (fun h44 => ?_) (fun h44 => ?_)
    · skip
      exact hq
    · skip
      omega
theorem c_M_bound {p : Int} (hW : WX S Pn T) (hS : MS Pn T g nd gv fs wn pr fi tm gm) (hB : BX Pn T nd gv fs) (h0 : tm → ∀ p' : Nat, p = (p' : Int) → p' < Pn → P (.inl (some (iV (if mxT (grT Pn T nd gv fs 200).2 p' (grT Pn T nd gv fs 200).2.1 = 1000000000 then -1 else mxT (grT Pn T nd gv fs 200).2 p' (grT Pn T nd gv fs 200).2.1)))) (S, upA g (2 * T + 269) 0 0, u)) (h1 : ¬ tm → P (.inl (some (iV (0)))) (S, upA g (2 * T + 269) 0 1, u)) (h2 : tm → ¬ (0 ≤ p ∧ p < (Pn : Int)) → P (.inl (some (iV (0)))) (S, upA g (2 * T + 269) 0 2, u)) : Sp l E M_bound (d + 1) [rV (2 * T + 269), iV p] (S, g, u) P := by
  have hp6 := wx_P hW
  have hT8 := wx_T hW
  have hw := BX_wt hB 200
  have hw2 := hw.2.1
  have e9 : g (2 * T + 269) 9 = tf tm := hS.2.2.2.1
  show aw l E M_bound (d + 1) 0 [some (rV (2 * T + 269)), some (iV p), none, none, none, none, none] [] (S, g, u) P
  refine aw_al0 M_bound_0 ?_
  refine aw_al0 M_bound_1 ?_
  refine aw_gi M_bound_2 (wx_o4 hW) ?_
  rw [e9]
  refine aw_zne M_bound_5 (fun h5 => ?_) (fun h5 => ?_)
  · skip
    have htm : tm := nz h5
    refine aw_al0 M_bound_12 ?_
    refine aw_il1 M_bound_13 ?_
    refine aw_V1 M_bound_14 rfl rfl rfl (wx_o4 hW) ?_
    refine c_M_isPlace hW hS.1.1 ?_
    show aw _ _ _ _ _ _ _ _ _
    refine aw_zne M_bound_17 (fun h17 => ?_) (fun h17 => ?_)
    · skip
      refine aw_c M_bound_24 ?_
      refine aw_pi M_bound_25 (wx_o4 hW) ?_
      refine aw_c M_bound_28 ?_
      refine aw_is2 M_bound_29 ?_
      refine aw_c M_bound_30 ?_
      refine aw_is3 M_bound_31 ?_
      have hp := nz h17
      have hRt := RM_fr (g' := upA g (2 * T + 269) 0 0) (hS.2.2.2.2.2.1 htm).2.1 (fun x y z => upA_ne (by omega))
      obtain ⟨p', rfl⟩ := Int.eq_ofNat_of_zero_le (show 0 ≤ p by omega)
      exact c_M_bound_lp (d := d) hW hw hRt (by omega) (upA_eq _ _ _ _) (h0 htm p' rfl (by omega)) ((grT Pn T nd gv fs 200).2.1 + 1) 0 (by omega) (by omega)
    · skip
      refine aw_c M_bound_20 ?_
      refine aw_go M_bound_21 ?_
      refine aw_pi M_bound_25 (wx_o4 hW) ?_
      refine aw_c M_bound_28 ?_
      refine aw_is2 M_bound_29 ?_
      refine aw_c M_bound_30 ?_
      refine aw_is3 M_bound_31 ?_
      exact c_M_bound_x hW (upA_eq _ _ _ _) (by omega) (h2 htm (iz h17))
  · skip
    refine aw_c M_bound_8 ?_
    refine aw_go M_bound_9 ?_
    refine aw_pi M_bound_25 (wx_o4 hW) ?_
    refine aw_c M_bound_28 ?_
    refine aw_is2 M_bound_29 ?_
    refine aw_c M_bound_30 ?_
    refine aw_is3 M_bound_31 ?_
    exact c_M_bound_x hW (upA_eq _ _ _ _) (by omega) (h1 (iz h5))
end NE
