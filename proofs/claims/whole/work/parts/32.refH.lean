section NH
variable {l : Launch} {E : aE} {d : Nat} {S : aS} {g : aG} {u : aU} {P : aP} {Pn T : Nat} {nd gv : Nat → Nat → Int} {fs wn pr : Nat → Int} {fi : Nat} {tm gm : Prop}
theorem c_M_goal_lp {k p : Int} {γ : Tz} (hW : WX S Pn T) (hs : γ.1 ≤ 48) (hR : RN Pn T g γ) (h15 : g (2 * T + 269) 15 = 1) (hK : ∀ (x n j : Int), ((x = -1 ∧ ∀ r, r < γ.1 → ¬ (¬ γ.2.2.2.2.2 r ∧ k = (kcG γ r : Int))) ∨ ∃ r : Nat, r < γ.1 ∧ (¬ γ.2.2.2.2.2 r ∧ k = (kcG γ r : Int)) ∧ x = (r : Int)) → aw l E M_goal (d + 1) 74 [some (rV (2 * T + 269)), some (iV k), some (iV p), some (iV x), some (iV n), some (iV j), none] [] (S, g, u) P) : ∀ (m j : Nat) (x : Int), γ.1 - j < m → j ≤ γ.1 → ((x = -1 ∧ ∀ r, r < j → ¬ (¬ γ.2.2.2.2.2 r ∧ k = (kcG γ r : Int))) ∨ ∃ r : Nat, r < j ∧ (¬ γ.2.2.2.2.2 r ∧ k = (kcG γ r : Int)) ∧ x = (r : Int)) → aw l E M_goal (d + 1) 8 [some (rV (2 * T + 269)), some (iV k), some (iV p), some (iV x), some (iV (kcG γ j : Int)), some (iV (j : Int)), none] [] (S, g, u) P := by
  intro m
  have e16 := hR.2.2.2.2
  induction m with
  | zero => intro j x h; omega
  | succ m ih =>
    intro j x hm hj hi
    have hkc := kcG_le γ j
    have eg : j < γ.1 → g (2 * T + 282) j = tf (γ.2.2.2.2.2 j) := fun h => hR.2.2.2.1 j h
    have keep : ¬ (¬ γ.2.2.2.2.2 j ∧ k = (kcG γ j : Int)) → ((x = -1 ∧ ∀ r, r < (j + 1) → ¬ (¬ γ.2.2.2.2.2 r ∧ k = (kcG γ r : Int))) ∨ ∃ r : Nat, r < (j + 1) ∧ (¬ γ.2.2.2.2.2 r ∧ k = (kcG γ r : Int)) ∧ x = (r : Int)) := fun hc => by
      rcases hi with ⟨z1, z2⟩ | ⟨r, z1, z2, z3⟩
      · refine Or.inl ⟨z1, fun r hr => ?_⟩
        by_cases e : r = j
        · rw [e]; exact hc
        · exact z2 r (by omega)
      · exact Or.inr ⟨r, by omega, z2, z3⟩
    have k0 : γ.2.2.2.2.2 j → kcG γ (j + 1) = kcG γ j := fun h => by
      show kcG γ j + cI (γ.2.2.2.2.2 j) 0 1 = _
      rw [cI_p h]; rfl
    have k1 : ¬ γ.2.2.2.2.2 j → kcG γ (j + 1) = kcG γ j + 1 := fun h => by
      show kcG γ j + cI (γ.2.2.2.2.2 j) 0 1 = _
      rw [cI_n h]
    refine aw_il5 M_goal_8 ?_
    refine aw_al0 M_goal_10 ?_
    refine aw_gi M_goal_11 (wx_o4 hW) ?_
    refine aw_cge M_goal_14 (fun h14 => ?_) (fun h14 => ?_)
    · skip
      have e : j = γ.1 := by omega
      subst e
      exact hK _ _ _ hi
    · skip
      refine aw_al0 M_goal_17 ?_
      refine aw_gi M_goal_18 (wx_o4 hW) ?_
      refine aw_zeq M_goal_21 (fun h21 => ?_) (fun h21 => ?_)
      · skip
        omega
      · skip
        refine aw_al0 M_goal_24 ?_
        refine aw_gr (wx_r4_20 hW) M_goal_25 (wx_o4 hW) ?_
        refine aw_il5 M_goal_28 ?_
        refine aw_za M_goal_30 (wx_a_mgiven hW) (by first | rfl | assumption) (by omega) ?_
        rw [eg (by omega)]
        refine aw_zne M_goal_31 (fun h31 => ?_) (fun h31 => ?_)
        · skip
          refine aw_il3 M_goal_45 ?_
          refine aw_is3 M_goal_46 ?_
          refine aw_al0 M_goal_47 ?_
          refine aw_gr (wx_r4_20 hW) M_goal_48 (wx_o4 hW) ?_
          refine aw_il5 M_goal_51 ?_
          refine aw_za M_goal_53 (wx_a_mgiven hW) (by first | rfl | assumption) (by omega) ?_
          rw [eg (by omega)]
          refine aw_zeq M_goal_54 (fun h54 => ?_) (fun h54 => ?_)
          · skip
            refine aw_il4 M_goal_62 ?_
            refine aw_c M_goal_64 ?_
            refine aw_add M_goal_65 (by constructor <;> omega) ?_
            refine aw_is4 M_goal_66 ?_
            refine aw_ip5 M_goal_68 (by omega) ?_
            refine aw_go M_goal_71 ?_
            exact absurd (nz h31) (iz h54)
          · skip
            refine aw_il4 M_goal_57 ?_
            refine aw_go M_goal_59 ?_
            refine aw_is4 M_goal_66 ?_
            refine aw_ip5 M_goal_68 (by omega) ?_
            refine aw_go M_goal_71 ?_
            have hk2 := ih (j + 1) _ (by clear hi keep; omega) (by clear hi keep; omega) (keep (fun z => z.1 (nz h31)))
            rw [k0 (nz h31)] at hk2
            exact hk2
        · skip
          refine aw_il4 M_goal_34 ?_
          refine aw_il1 M_goal_36 ?_
          refine aw_cne M_goal_37 (fun h37 => ?_) (fun h37 => ?_)
          · skip
            refine aw_il3 M_goal_45 ?_
            refine aw_is3 M_goal_46 ?_
            refine aw_al0 M_goal_47 ?_
            refine aw_gr (wx_r4_20 hW) M_goal_48 (wx_o4 hW) ?_
            refine aw_il5 M_goal_51 ?_
            refine aw_za M_goal_53 (wx_a_mgiven hW) (by first | rfl | assumption) (by omega) ?_
            rw [eg (by omega)]
            refine aw_zeq M_goal_54 (fun h54 => ?_) (fun h54 => ?_)
            · skip
              refine aw_il4 M_goal_62 ?_
              refine aw_c M_goal_64 ?_
              refine aw_add M_goal_65 (by constructor <;> omega) ?_
              refine aw_is4 M_goal_66 ?_
              refine aw_ip5 M_goal_68 (by omega) ?_
              refine aw_go M_goal_71 ?_
              have hk2 := ih (j + 1) _ (by clear hi keep; omega) (by clear hi keep; omega) (keep (fun z => h37 z.2.symm))
              rw [k1 (iz h31)] at hk2
              exact hk2
            · skip
              refine aw_il4 M_goal_57 ?_
              refine aw_go M_goal_59 ?_
              refine aw_is4 M_goal_66 ?_
              refine aw_ip5 M_goal_68 (by omega) ?_
              refine aw_go M_goal_71 ?_
              exact absurd (nz h54) (iz h31)
          · skip
            refine aw_il5 M_goal_40 ?_
            refine aw_go M_goal_42 ?_
            refine aw_is3 M_goal_46 ?_
            refine aw_al0 M_goal_47 ?_
            refine aw_gr (wx_r4_20 hW) M_goal_48 (wx_o4 hW) ?_
            refine aw_il5 M_goal_51 ?_
            refine aw_za M_goal_53 (wx_a_mgiven hW) (by first | rfl | assumption) (by omega) ?_
            rw [eg (by omega)]
            refine aw_zeq M_goal_54 (fun h54 => ?_) (fun h54 => ?_)
            · skip
              refine aw_il4 M_goal_62 ?_
              refine aw_c M_goal_64 ?_
              refine aw_add M_goal_65 (by constructor <;> omega) ?_
              refine aw_is4 M_goal_66 ?_
              refine aw_ip5 M_goal_68 (by omega) ?_
              refine aw_go M_goal_71 ?_
              have hk2 := ih (j + 1) _ (by clear hi keep; omega) (by clear hi keep; omega) (Or.inr ⟨j, Nat.lt_succ_self j, ⟨iz h31, h37.symm⟩, rfl⟩)
              rw [k1 (iz h31)] at hk2
              exact hk2
            · skip
              refine aw_il4 M_goal_57 ?_
              refine aw_go M_goal_59 ?_
              refine aw_is4 M_goal_66 ?_
              refine aw_ip5 M_goal_68 (by omega) ?_
              refine aw_go M_goal_71 ?_
              exact absurd (nz h54) (iz h31)
theorem c_M_goal {k p : Int} (hW : WX S Pn T) (hS : MS Pn T g nd gv fs wn pr fi tm gm) (hB : BX Pn T nd gv fs) (hwn : ∀ p, p < Pn → 0 ≤ wn p ∧ wn p ≤ 100) (h0 : gm → ∀ j p' : Nat, p = (p' : Int) → fnd (fun j => ¬ (gtG Pn T nd gv wn 48).2.2.2.2.2.2 j ∧ k = (kcG (gtG Pn T nd gv wn 48).2 j : Int)) (gtG Pn T nd gv wn 48).2.1 0 = (j : Int) → j < (gtG Pn T nd gv wn 48).2.1 → p' < Pn → P (.inl (some (iV ((gtG Pn T nd gv wn 48).2.2.1 j p')))) (S, upA g (2 * T + 269) 0 0, u)) (h1 : ¬ gm → P (.inl (some (iV (0)))) (S, upA g (2 * T + 269) 0 1, u)) (h2 : gm → fnd (fun j => ¬ (gtG Pn T nd gv wn 48).2.2.2.2.2.2 j ∧ k = (kcG (gtG Pn T nd gv wn 48).2 j : Int)) (gtG Pn T nd gv wn 48).2.1 0 = -2 ∨ ¬ (0 ≤ p ∧ p < (Pn : Int)) → P (.inl (some (iV (0)))) (S, upA g (2 * T + 269) 0 2, u)) : Sp l E M_goal (d + 1) [rV (2 * T + 269), iV k, iV p] (S, g, u) P := by
  have hp6 := wx_P hW
  have hT8 := wx_T hW
  have hw : WG Pn (gtG Pn T nd gv wn 48).2 := BX_wg hB hwn 48
  have hw2 := hw.2.1
  have e15 : g (2 * T + 269) 15 = tf gm := hS.2.2.2.2.1
  by_cases hgm : gm
  · have hRg := (hS.2.2.2.2.2.2 hgm).2
    have h15 : g (2 * T + 269) 15 = 1 := e15.trans (cI_p hgm)
    have hK : ∀ (x n j : Int), ((fnd (fun j => ¬ (gtG Pn T nd gv wn 48).2.2.2.2.2.2 j ∧ k = (kcG (gtG Pn T nd gv wn 48).2 j : Int)) (gtG Pn T nd gv wn 48).2.1 0 = -2 ∧ x = -1) ∨ ∃ r : Nat, r < (gtG Pn T nd gv wn 48).2.1 ∧ fnd (fun j => ¬ (gtG Pn T nd gv wn 48).2.2.2.2.2.2 j ∧ k = (kcG (gtG Pn T nd gv wn 48).2 j : Int)) (gtG Pn T nd gv wn 48).2.1 0 = (r : Int) ∧ x = (r : Int)) → aw l E M_goal (d + 1) 74 [some (rV (2 * T + 269)), some (iV k), some (iV p), some (iV x), some (iV n), some (iV j), none] [] (S, g, u) P := by
      intro x n j hx
      refine aw_al0 M_goal_74 ?_
      refine aw_al0 M_goal_75 ?_
      refine aw_gi M_goal_76 (wx_o4 hW) ?_
      rw [h15]
      refine aw_zne M_goal_79 (fun h79 => ?_) (fun h79 => ?_)
      · skip
        refine aw_il3 M_goal_86 ?_
        refine aw_zlt M_goal_87 (fun h87 => ?_) (fun h87 => ?_)
        · skip
          refine aw_c M_goal_98 ?_
          refine aw_go M_goal_99 ?_
          refine aw_pi M_goal_103 (wx_o4 hW) ?_
          refine aw_al0 M_goal_106 ?_
          refine aw_gi M_goal_107 (wx_o4 hW) ?_
          rw [upA_eq]
          refine aw_zne M_goal_110 (fun h110 => ?_) (fun h110 => ?_)
          · skip
            refine aw_c M_goal_127 ?_
            refine aw_reti M_goal_128 (Or.inl rfl) ?_
            rcases hx with ⟨z1, z2⟩ | ⟨r, z1, z2, z3⟩
            · exact h2 hgm (Or.inl z1)
            · omega
          · skip
            omega
        · skip
          refine aw_al0 M_goal_90 ?_
          refine aw_il2 M_goal_91 ?_
          refine aw_V1 M_goal_92 rfl rfl rfl (wx_o4 hW) ?_
          refine c_M_isPlace hW hS.1.1 ?_
          show aw _ _ _ _ _ _ _ _ _
          refine aw_zne M_goal_95 (fun h95 => ?_) (fun h95 => ?_)
          · skip
            refine aw_c M_goal_102 ?_
            refine aw_pi M_goal_103 (wx_o4 hW) ?_
            refine aw_al0 M_goal_106 ?_
            refine aw_gi M_goal_107 (wx_o4 hW) ?_
            rw [upA_eq]
            refine aw_zne M_goal_110 (fun h110 => ?_) (fun h110 => ?_)
            · skip
              exact absurd rfl h110
            · skip
              have hp := nz h95
              obtain ⟨p', rfl⟩ := Int.eq_ofNat_of_zero_le (show 0 ≤ p by omega)
              have hRe : RN Pn T (upA g (2 * T + 269) 0 0) (gtG Pn T nd gv wn 48).2 := RN_fr hRg (fun x y z => upA_ne (by omega))
              rcases hx with ⟨z1, z2⟩ | ⟨r, z1, z2, rfl⟩
              · omega
              · have e5 : (upA g (2 * T + 269) 0 0) (2 * T + 279) (6 * r + p') = (gtG Pn T nd gv wn 48).2.2.1 r p' := hRe.1 r z1 p' (by omega)
                refine aw_al0 M_goal_113 ?_
                refine aw_gr (wx_r4_17 hW) M_goal_114 (wx_o4 hW) ?_
                refine aw_c M_goal_117 ?_
                refine aw_il3 M_goal_119 ?_
                refine aw_mul M_goal_120 (by constructor <;> omega) ?_
                refine aw_il2 M_goal_121 ?_
                refine aw_add M_goal_122 (by constructor <;> omega) ?_
                refine aw_ia M_goal_123 (wx_a_mgoalMarks hW) (show 6 * (r : Int) + (p' : Int) = ((6 * r + p' : Nat) : Int) by omega) (by omega) ?_
                rw [e5]
                refine aw_go M_goal_124 ?_
                refine aw_reti M_goal_128 (Or.inl rfl) ?_
                exact h0 hgm r p' rfl z2 z1 (by omega)
          · skip
            refine aw_c M_goal_98 ?_
            refine aw_go M_goal_99 ?_
            refine aw_pi M_goal_103 (wx_o4 hW) ?_
            refine aw_al0 M_goal_106 ?_
            refine aw_gi M_goal_107 (wx_o4 hW) ?_
            rw [upA_eq]
            refine aw_zne M_goal_110 (fun h110 => ?_) (fun h110 => ?_)
            · skip
              refine aw_c M_goal_127 ?_
              refine aw_reti M_goal_128 (Or.inl rfl) ?_
              exact h2 hgm (Or.inr (iz h95))
            · skip
              omega
      · skip
        omega
    show aw l E M_goal (d + 1) 0 [some (rV (2 * T + 269)), some (iV k), some (iV p), none, none, none, none] [] (S, g, u) P
    refine aw_c M_goal_0 ?_
    refine aw_is3 M_goal_1 ?_
    refine aw_c M_goal_2 ?_
    refine aw_is4 M_goal_3 ?_
    refine aw_c M_goal_5 ?_
    refine aw_is5 M_goal_6 ?_
    refine c_M_goal_lp (d := d) (γ := (gtG Pn T nd gv wn 48).2) hW hw2 hRg h15 (fun x n j hi => hK x n j ?_) ((gtG Pn T nd gv wn 48).2.1 + 1) 0 (-1) (by omega) (by omega) (Or.inl ⟨rfl, fun r hr => absurd hr (Nat.not_lt_zero r)⟩)
    rcases fnd_spec (fun j => ¬ (gtG Pn T nd gv wn 48).2.2.2.2.2.2 j ∧ k = (kcG (gtG Pn T nd gv wn 48).2 j : Int)) (gtG Pn T nd gv wn 48).2.1 0 with ⟨f1, f2⟩ | ⟨v, f1, f2, f3, f4, f5⟩
    · rcases hi with ⟨z1, z2⟩ | ⟨r, z1, z2, z3⟩
      · exact Or.inl ⟨f1, z1⟩
      · exact absurd z2 (f2 r (by omega) (by omega))
    · rcases hi with ⟨z1, z2⟩ | ⟨r, z1, z2, z3⟩
      · exact absurd f3 (z2 v (by omega))
      · have e : v = r := by
          rcases Nat.lt_trichotomy v r with q | q | q
          · have := kcG_lt f3.1 r q
            have f3' : k = (kcG (gtG Pn T nd gv wn 48).2 v : Int) := f3.2
            have z2' : k = (kcG (gtG Pn T nd gv wn 48).2 r : Int) := z2.2
            omega
          · exact q
          · exact absurd z2 (f5 r (by omega) q)
        exact Or.inr ⟨r, z1, by rw [f4, e], z3⟩
  · have h15 : g (2 * T + 269) 15 = 0 := e15.trans (cI_n hgm)
    show aw l E M_goal (d + 1) 0 [some (rV (2 * T + 269)), some (iV k), some (iV p), none, none, none, none] [] (S, g, u) P
    refine aw_c M_goal_0 ?_
    refine aw_is3 M_goal_1 ?_
    refine aw_c M_goal_2 ?_
    refine aw_is4 M_goal_3 ?_
    refine aw_c M_goal_5 ?_
    refine aw_is5 M_goal_6 ?_
    refine aw_il5 M_goal_8 ?_
    refine aw_al0 M_goal_10 ?_
    refine aw_gi M_goal_11 (wx_o4 hW) ?_
    refine aw_cge M_goal_14 (fun h14 => ?_) (fun h14 => ?_)
    · skip
      refine aw_al0 M_goal_74 ?_
      refine aw_al0 M_goal_75 ?_
      refine aw_gi M_goal_76 (wx_o4 hW) ?_
      refine aw_zne M_goal_79 (fun h79 => ?_) (fun h79 => ?_)
      · skip
        omega
      · skip
        refine aw_c M_goal_82 ?_
        refine aw_go M_goal_83 ?_
        refine aw_pi M_goal_103 (wx_o4 hW) ?_
        refine aw_al0 M_goal_106 ?_
        refine aw_gi M_goal_107 (wx_o4 hW) ?_
        rw [upA_eq]
        refine aw_zne M_goal_110 (fun h110 => ?_) (fun h110 => ?_)
        · skip
          refine aw_c M_goal_127 ?_
          refine aw_reti M_goal_128 (Or.inl rfl) ?_
          exact h1 hgm
        · skip
          omega
    · skip
      refine aw_al0 M_goal_17 ?_
      refine aw_gi M_goal_18 (wx_o4 hW) ?_
      refine aw_zeq M_goal_21 (fun h21 => ?_) (fun h21 => ?_)
      · skip
        refine aw_al0 M_goal_74 ?_
        refine aw_al0 M_goal_75 ?_
        refine aw_gi M_goal_76 (wx_o4 hW) ?_
        refine aw_zne M_goal_79 (fun h79 => ?_) (fun h79 => ?_)
        · skip
          omega
        · skip
          refine aw_c M_goal_82 ?_
          refine aw_go M_goal_83 ?_
          refine aw_pi M_goal_103 (wx_o4 hW) ?_
          refine aw_al0 M_goal_106 ?_
          refine aw_gi M_goal_107 (wx_o4 hW) ?_
          rw [upA_eq]
          refine aw_zne M_goal_110 (fun h110 => ?_) (fun h110 => ?_)
          · skip
            refine aw_c M_goal_127 ?_
            refine aw_reti M_goal_128 (Or.inl rfl) ?_
            exact h1 hgm
          · skip
            omega
      · skip
        omega
theorem c_M_fg_in {k : Nat} {γ : Tz} (hW : WX S Pn T) (h1 : g (2 * T + 269) 1 = (Pn : Int)) (hs : γ.1 ≤ 48) (hR : RN Pn T g γ) (hk : k < γ.1) (hfs : ∀ p, p < Pn → g (2 * T + 272) p = fs p) (hK : ∀ x3 : Option aA, aw l E M_firstGoal d 58 [some (rV (2 * T + 269)), some (iV (k : Int)), some (iV (tf (bl Pn (γ.2.1 k) fs))), x3, none, none, none] [] (S, g, u) P) : ∀ (m p : Nat), Pn - p < m → p ≤ Pn → aw l E M_firstGoal d 14 [some (rV (2 * T + 269)), some (iV (k : Int)), some (iV (tf (bl p (γ.2.1 k) fs))), some (iV (p : Int)), none, none, none] [] (S, g, u) P := by
  intro m
  have hp6 := wx_P hW
  induction m with
  | zero => intro p h; omega
  | succ m ih =>
    intro p hm hp
    have e1 : p < Pn → g (2 * T + 279) (6 * k + p) = γ.2.1 k p := fun h => hR.1 k hk p h
    have e2 : p < Pn → g (2 * T + 272) p = fs p := hfs p
    refine aw_il3 M_firstGoal_14 ?_
    refine aw_al0 M_firstGoal_15 ?_
    refine aw_gi M_firstGoal_16 (wx_o4 hW) ?_
    refine aw_cge M_firstGoal_19 (fun h19 => ?_) (fun h19 => ?_)
    · skip
      have e : p = Pn := by omega
      subst e
      exact hK _
    · skip
      refine aw_il2 M_firstGoal_22 ?_
      refine aw_zeq M_firstGoal_23 (fun h23 => ?_) (fun h23 => ?_)
      · skip
        refine aw_c M_firstGoal_50 ?_
        refine aw_is2 M_firstGoal_51 ?_
        refine aw_ip3 M_firstGoal_52 (by omega) ?_
        refine aw_go M_firstGoal_55 ?_
        have hk2 := ih (p + 1) (by omega) (by omega)
        rw [show tf (bl (p + 1) (γ.2.1 k) fs) = 0 from cI_n (fun z => iz h23 (fun r hr => z r (by omega)))] at hk2
        exact hk2
      · skip
        refine aw_al0 M_firstGoal_26 ?_
        refine aw_gr (wx_r4_17 hW) M_firstGoal_27 (wx_o4 hW) ?_
        refine aw_c M_firstGoal_30 ?_
        refine aw_il1 M_firstGoal_32 ?_
        refine aw_mul M_firstGoal_33 (by constructor <;> omega) ?_
        refine aw_il3 M_firstGoal_34 ?_
        refine aw_add M_firstGoal_35 (by constructor <;> omega) ?_
        refine aw_ia M_firstGoal_36 (wx_a_mgoalMarks hW) (show 6 * (k : Int) + (p : Int) = ((6 * k + p : Nat) : Int) by omega) (by omega) ?_
        rw [e1 (by omega)]
        refine aw_al0 M_firstGoal_37 ?_
        refine aw_gr (wx_r4_5 hW) M_firstGoal_38 (wx_o4 hW) ?_
        refine aw_il3 M_firstGoal_41 ?_
        refine aw_ia M_firstGoal_42 (wx_a_mstarts hW) (by first | rfl | assumption) (by omega) ?_
        rw [e2 (by omega)]
        refine aw_cgt M_firstGoal_43 (fun h43 => ?_) (fun h43 => ?_)
        · skip
          refine aw_c M_firstGoal_50 ?_
          refine aw_is2 M_firstGoal_51 ?_
          refine aw_ip3 M_firstGoal_52 (by omega) ?_
          refine aw_go M_firstGoal_55 ?_
          have hk2 := ih (p + 1) (by omega) (by omega)
          rw [show tf (bl (p + 1) (γ.2.1 k) fs) = 0 from cI_n (fun z => by have := z p (by omega); omega)] at hk2
          exact hk2
        · skip
          refine aw_c M_firstGoal_46 ?_
          refine aw_go M_firstGoal_47 ?_
          refine aw_is2 M_firstGoal_51 ?_
          refine aw_ip3 M_firstGoal_52 (by omega) ?_
          refine aw_go M_firstGoal_55 ?_
          have hk2 := ih (p + 1) (by omega) (by omega)
          rw [show tf (bl (p + 1) (γ.2.1 k) fs) = 1 from cI_p (fun r hr => by
            by_cases e : r = p
            · subst e; omega
            · exact nz h23 r (by omega))] at hk2
          exact hk2
theorem c_M_fg_lp {γ : Tz} (hW : WX S Pn T) (h1 : g (2 * T + 269) 1 = (Pn : Int)) (hs : γ.1 ≤ 48) (hR : RN Pn T g γ) (hfs : ∀ p, p < Pn → g (2 * T + 272) p = fs p) : ∀ (s k : Nat) (x2 x3 : Option aA), k + s = γ.1 → P (.inl (some (iV (if fnd (fun j => bl Pn (γ.2.1 j) fs) s k = -2 then -1 else fnd (fun j => bl Pn (γ.2.1 j) fs) s k)))) (S, g, u) → aw l E M_firstGoal d 2 [some (rV (2 * T + 269)), some (iV (k : Int)), x2, x3, none, none, none] [] (S, g, u) P := by
  intro s
  have hp6 := wx_P hW
  have e16 := hR.2.2.2.2
  induction s with
  | zero =>
    intro k x2 x3 hk hP
    refine aw_il1 M_firstGoal_2 ?_
    refine aw_al0 M_firstGoal_3 ?_
    refine aw_gi M_firstGoal_4 (wx_o4 hW) ?_
    refine aw_cge M_firstGoal_7 (fun h7 => ?_) (fun h7 => ?_)
    · skip
      refine aw_c M_firstGoal_70 ?_
      refine aw_reti M_firstGoal_71 (Or.inl rfl) ?_
      exact hP
    · skip
      omega
  | succ s ih =>
    intro k x2 x3 hk hP
    refine aw_il1 M_firstGoal_2 ?_
    refine aw_al0 M_firstGoal_3 ?_
    refine aw_gi M_firstGoal_4 (wx_o4 hW) ?_
    refine aw_cge M_firstGoal_7 (fun h7 => ?_) (fun h7 => ?_)
    · skip
      omega
    · skip
      refine aw_c M_firstGoal_10 ?_
      refine aw_is2 M_firstGoal_11 ?_
      refine aw_c M_firstGoal_12 ?_
      refine aw_is3 M_firstGoal_13 ?_
      have hk0 : k < γ.1 := by omega
      have hq := c_M_fg_in (l := l) (E := E) (d := d) (u := u) (P := P) hW h1 hs hR hk0 hfs (fun x3 => ?_) (Pn + 1) 0 (by omega) (by omega)
      · rw [show tf (bl 0 (γ.2.1 k) fs) = 1 from cI_p (fun r hr => absurd hr (Nat.not_lt_zero r))] at hq
        exact hq
      · by_cases hc : bl Pn (γ.2.1 k) fs
        · rw [show tf (bl Pn (γ.2.1 k) fs) = 1 from cI_p hc]
          rw [show fnd (fun j => bl Pn (γ.2.1 j) fs) (s + 1) k = (k : Int) from cI_p hc, if_neg (by omega)] at hP
          refine aw_il2 M_firstGoal_58 ?_
          refine aw_zeq M_firstGoal_59 (fun h59 => ?_) (fun h59 => ?_)
          · skip
            exact absurd h59 (by decide)
          · skip
            refine aw_il1 M_firstGoal_62 ?_
            refine aw_reti M_firstGoal_63 (Or.inl rfl) ?_
            exact hP
        · rw [show tf (bl Pn (γ.2.1 k) fs) = 0 from cI_n hc]
          rw [show fnd (fun j => bl Pn (γ.2.1 j) fs) (s + 1) k = fnd (fun j => bl Pn (γ.2.1 j) fs) s (k + 1) from cI_n hc] at hP
          refine aw_il2 M_firstGoal_58 ?_
          refine aw_zeq M_firstGoal_59 (fun h59 => ?_) (fun h59 => ?_)
          · skip
            refine aw_ip1 M_firstGoal_64 (by omega) ?_
            refine aw_go M_firstGoal_67 ?_
            exact ih (k + 1) _ _ (by omega) hP
          · skip
            exact absurd rfl h59
theorem c_M_firstGoal {γ : Tz} (hW : WX S Pn T) (h1 : g (2 * T + 269) 1 = (Pn : Int)) (hs : γ.1 ≤ 48) (hR : RN Pn T g γ) (hfs : ∀ p, p < Pn → g (2 * T + 272) p = fs p) (h0 : ∀ j : Nat, fnd (fun j => bl Pn (γ.2.1 j) fs) γ.1 0 = (j : Int) → j < γ.1 → P (.inl (some (iV (j : Int)))) (S, g, u)) (h2 : fnd (fun j => bl Pn (γ.2.1 j) fs) γ.1 0 = -2 → P (.inl (some (iV (-1)))) (S, g, u)) : Sp l E M_firstGoal d [rV (2 * T + 269)] (S, g, u) P := by
  show aw l E M_firstGoal d 0 [some (rV (2 * T + 269)), none, none, none, none, none, none] [] (S, g, u) P
  refine aw_c M_firstGoal_0 ?_
  refine aw_is1 M_firstGoal_1 ?_
  refine c_M_fg_lp hW h1 hs hR hfs γ.1 0 none none (by omega) ?_
  rcases fnd_spec (fun j => bl Pn (γ.2.1 j) fs) γ.1 0 with ⟨f1, f2⟩ | ⟨v, f1, f2, f3, f4, f5⟩
  · rw [if_pos f1]; exact h2 f1
  · rw [if_neg (by omega), f4]; exact h0 v f4 (by omega)
theorem WG_0 {P : Nat} {τ : Tz} (h : WG P τ) {n : Nat} (hn : n < τ.1) (hd : τ.2.2.2.2.1 n = 0) : n = 0 := by
  by_cases h0 : n = 0
  · exact h0
  · have := (h.2.2.2.1 n (by omega) hn).2
    omega
theorem c_M_length_lp {n N : Nat} {γ : Tz} (hW : WX S Pn T) (hw : WG Pn γ) (hR : RN Pn T g γ) (hN : N ≤ 48) (hP : P (.inl (some (iV (N : Int)))) (S, g, u)) : ∀ (r c a : Nat), a < γ.1 → γ.2.2.2.2.1 a = r → c + r = N → aw l E M_length d 44 [some (rV (2 * T + 269)), some (iV (n : Int)), some (iV (c : Int)), some (iV (a : Int)), none, none, none] [] (S, g, u) P := by
  intro r
  have ht2 := hw.2.1
  induction r with
  | zero =>
    intro c a ha hd hc
    have ha0 : a = 0 := WG_0 hw ha hd
    have ec : (c : Int) = (N : Int) := by omega
    refine aw_il3 M_length_44 ?_
    refine aw_zle M_length_45 (fun h45 => ?_) (fun h45 => ?_)
    · skip
      refine aw_il2 M_length_61 ?_
      refine aw_reti M_length_62 (Or.inl rfl) ?_
      rw [ec]
      exact hP
    · skip
      omega
  | succ r ih =>
    intro c a ha hd hc
    have ha0 : 0 < a := by
      rcases Nat.eq_zero_or_pos a with z | z
      · rw [z, hw.2.2.1] at hd; omega
      · exact z
    obtain ⟨z1, z2⟩ := hw.2.2.2.1 a ha0 ha
    have e6 : g (2 * T + 280) a = (γ.2.2.1 a : Int) := (hR.2.2.1 a ha0 ha).1
    refine aw_il3 M_length_44 ?_
    refine aw_zle M_length_45 (fun h45 => ?_) (fun h45 => ?_)
    · skip
      omega
    · skip
      refine aw_ip2 M_length_48 (by omega) ?_
      refine aw_al0 M_length_51 ?_
      refine aw_gr (wx_r4_18 hW) M_length_52 (wx_o4 hW) ?_
      refine aw_il3 M_length_55 ?_
      refine aw_ia M_length_56 (wx_a_mgoalParents hW) (by first | rfl | assumption) (by omega) ?_
      rw [e6]
      refine aw_is3 M_length_57 ?_
      refine aw_go M_length_58 ?_
      exact ih (c + 1) (γ.2.2.1 a) (by omega) (by omega) (by omega)
theorem c_M_length (hW : WX S Pn T) (hS : MS Pn T g nd gv fs wn pr fi tm gm) (hB : BX Pn T nd gv fs) (hwn : ∀ p, p < Pn → 0 ≤ wn p ∧ wn p ≤ 100) (h0 : gm → ∀ j : Nat, fnd (fun j => bl Pn ((gtG Pn T nd gv wn 48).2.2.1 j) fs) (gtG Pn T nd gv wn 48).2.1 0 = (j : Int) → j < (gtG Pn T nd gv wn 48).2.1 → P (.inl (some (iV (((gtG Pn T nd gv wn 48).2.2.2.2.2.1 j : Int))))) (S, upA g (2 * T + 269) 0 0, u)) (h1 : ¬ gm → P (.inl (some (iV (0)))) (S, upA g (2 * T + 269) 0 1, u)) (h2 : gm → fnd (fun j => bl Pn ((gtG Pn T nd gv wn 48).2.2.1 j) fs) (gtG Pn T nd gv wn 48).2.1 0 = -2 → P (.inl (some (iV (0)))) (S, upA g (2 * T + 269) 0 2, u)) : Sp l E M_length (d + 1) [rV (2 * T + 269)] (S, g, u) P := by
  have hp6 := wx_P hW
  have hT8 := wx_T hW
  have hw : WG Pn (gtG Pn T nd gv wn 48).2 := BX_wg hB hwn 48
  have hw2 := hw.2.1
  have e15 : g (2 * T + 269) 15 = tf gm := hS.2.2.2.2.1
  have hX : ¬ gm → aw l E M_length (d + 1) 15 [some (rV (2 * T + 269)), none, none, none, none, none, none] [iV (-1)] (S, g, u) P := by
    intro hgm
    refine aw_is1 M_length_15 ?_
    refine aw_al0 M_length_16 ?_
    refine aw_al0 M_length_17 ?_
    refine aw_gi M_length_18 (wx_o4 hW) ?_
    rw [e15]
    refine aw_zne M_length_21 (fun h21 => ?_) (fun h21 => ?_)
    · skip
      exact absurd (nz h21) hgm
    · skip
      refine aw_c M_length_24 ?_
      refine aw_go M_length_25 ?_
      refine aw_pi M_length_37 (wx_o4 hW) ?_
      refine aw_c M_length_40 ?_
      refine aw_is2 M_length_41 ?_
      refine aw_il1 M_length_42 ?_
      refine aw_is3 M_length_43 ?_
      refine aw_il3 M_length_44 ?_
      refine aw_zle M_length_45 (fun h45 => ?_) (fun h45 => ?_)
      · skip
        refine aw_il2 M_length_61 ?_
        refine aw_reti M_length_62 (Or.inl rfl) ?_
        exact h1 hgm
      · skip
        omega
  have hY : gm → fnd (fun j => bl Pn ((gtG Pn T nd gv wn 48).2.2.1 j) fs) (gtG Pn T nd gv wn 48).2.1 0 = -2 → aw l E M_length (d + 1) 15 [some (rV (2 * T + 269)), none, none, none, none, none, none] [iV (-1)] (S, g, u) P := by
    intro hgm hf
    refine aw_is1 M_length_15 ?_
    refine aw_al0 M_length_16 ?_
    refine aw_al0 M_length_17 ?_
    refine aw_gi M_length_18 (wx_o4 hW) ?_
    rw [e15]
    refine aw_zne M_length_21 (fun h21 => ?_) (fun h21 => ?_)
    · skip
      refine aw_il1 M_length_28 ?_
      refine aw_zge M_length_29 (fun h29 => ?_) (fun h29 => ?_)
      · skip
        omega
      · skip
        refine aw_c M_length_32 ?_
        refine aw_go M_length_33 ?_
        refine aw_pi M_length_37 (wx_o4 hW) ?_
        refine aw_c M_length_40 ?_
        refine aw_is2 M_length_41 ?_
        refine aw_il1 M_length_42 ?_
        refine aw_is3 M_length_43 ?_
        refine aw_il3 M_length_44 ?_
        refine aw_zle M_length_45 (fun h45 => ?_) (fun h45 => ?_)
        · skip
          refine aw_il2 M_length_61 ?_
          refine aw_reti M_length_62 (Or.inl rfl) ?_
          exact h2 hgm hf
        · skip
          omega
    · skip
      exact absurd hgm (iz h21)
  have hZ : gm → ∀ j : Nat, fnd (fun j => bl Pn ((gtG Pn T nd gv wn 48).2.2.1 j) fs) (gtG Pn T nd gv wn 48).2.1 0 = (j : Int) → j < (gtG Pn T nd gv wn 48).2.1 → aw l E M_length (d + 1) 15 [some (rV (2 * T + 269)), none, none, none, none, none, none] [iV (j : Int)] (S, g, u) P := by
    intro hgm j hf hj
    have hdj := WG_dp hw j hj
    have hRe : RN Pn T (upA g (2 * T + 269) 0 0) (gtG Pn T nd gv wn 48).2 := RN_fr (hS.2.2.2.2.2.2 hgm).2 (fun x y z => upA_ne (by omega))
    refine aw_is1 M_length_15 ?_
    refine aw_al0 M_length_16 ?_
    refine aw_al0 M_length_17 ?_
    refine aw_gi M_length_18 (wx_o4 hW) ?_
    rw [e15]
    refine aw_zne M_length_21 (fun h21 => ?_) (fun h21 => ?_)
    · skip
      refine aw_il1 M_length_28 ?_
      refine aw_zge M_length_29 (fun h29 => ?_) (fun h29 => ?_)
      · skip
        refine aw_c M_length_36 ?_
        refine aw_pi M_length_37 (wx_o4 hW) ?_
        refine aw_c M_length_40 ?_
        refine aw_is2 M_length_41 ?_
        refine aw_il1 M_length_42 ?_
        refine aw_is3 M_length_43 ?_
        exact c_M_length_lp hW hw hRe (by omega) (h0 hgm j hf hj) ((gtG Pn T nd gv wn 48).2.2.2.2.2.1 j) 0 j hj rfl (by omega)
      · skip
        omega
    · skip
      exact absurd hgm (iz h21)
  show aw l E M_length (d + 1) 0 [some (rV (2 * T + 269)), none, none, none, none, none, none] [] (S, g, u) P
  refine aw_al0 M_length_0 ?_
  refine aw_gi M_length_1 (wx_o4 hW) ?_
  rw [e15]
  refine aw_zeq M_length_4 (fun h4 => ?_) (fun h4 => ?_)
  · skip
    refine aw_c M_length_14 ?_
    exact hX (iz h4)
  · skip
    refine aw_al0 M_length_7 ?_
    refine aw_V0 M_length_8 rfl rfl (wx_o4 hW) ?_
    have hgm : gm := nz h4
    refine c_M_firstGoal (d := d) (γ := (gtG Pn T nd gv wn 48).2) (fs := fs) hW hS.1.1 hw2 (hS.2.2.2.2.2.2 hgm).2 hS.1.2.2.2 (fun j z1 z2 => aw_go M_length_11 (hZ hgm j z1 z2)) (fun z => aw_go M_length_11 (hY hgm z))
theorem c_M_way_lp {i n : Int} {γ : Tz} (hW : WX S Pn T) (hw : WG Pn γ) (hR : RN Pn T g γ) (ht : g (2 * T + 269) 0 = 0) : ∀ (r c a : Nat), a < γ.1 → γ.2.2.2.2.1 a = r → c + r ≤ 48 → (∀ s, s < r → i = ((c + s : Nat) : Int) → P (.inl (some (iV (γ.2.2.2.1 (upT γ.2.2.1 s a) : Int)))) (S, g, u)) → (i < (c : Int) ∨ ((c + r : Nat) : Int) ≤ i → P (.inl (some (iV 0))) (S, upA g (2 * T + 269) 0 3, u)) → aw l E M_way (d + 1) 45 [some (rV (2 * T + 269)), some (iV i), some (iV n), some (iV (c : Int)), some (iV (a : Int)), none, none] [] (S, g, u) P := by
  intro r
  have ht2 := hw.2.1
  induction r with
  | zero =>
    intro c a ha hd hc h0 h3
    have ha0 : a = 0 := WG_0 hw ha hd
    refine aw_il4 M_way_45 ?_
    refine aw_zle M_way_47 (fun h47 => ?_) (fun h47 => ?_)
    · skip
      refine aw_al0 M_way_78 ?_
      refine aw_al0 M_way_79 ?_
      refine aw_gi M_way_80 (wx_o4 hW) ?_
      refine aw_zne M_way_83 (fun h83 => ?_) (fun h83 => ?_)
      · skip
        exact absurd ht h83
      · skip
        refine aw_c M_way_86 ?_
        refine aw_go M_way_87 ?_
        refine aw_pi M_way_94 (wx_o4 hW) ?_
        refine aw_c M_way_97 ?_
        refine aw_reti M_way_98 (Or.inl rfl) ?_
        exact h3 (by omega)
    · skip
      omega
  | succ r ih =>
    intro c a ha hd hc h0 h3
    have ha0 : 0 < a := by
      rcases Nat.eq_zero_or_pos a with z | z
      · rw [z, hw.2.2.1] at hd; omega
      · exact z
    obtain ⟨z1, z2⟩ := hw.2.2.2.1 a ha0 ha
    have e6 : g (2 * T + 280) a = (γ.2.2.1 a : Int) := (hR.2.2.1 a ha0 ha).1
    have e7 : g (2 * T + 281) a = (γ.2.2.2.1 a : Int) := (hR.2.2.1 a ha0 ha).2
    refine aw_il4 M_way_45 ?_
    refine aw_zle M_way_47 (fun h47 => ?_) (fun h47 => ?_)
    · skip
      omega
    · skip
      refine aw_il3 M_way_50 ?_
      refine aw_il1 M_way_51 ?_
      refine aw_cne M_way_52 (fun h52 => ?_) (fun h52 => ?_)
      · skip
        refine aw_ip3 M_way_63 (by omega) ?_
        refine aw_al0 M_way_66 ?_
        refine aw_gr (wx_r4_18 hW) M_way_67 (wx_o4 hW) ?_
        refine aw_il4 M_way_70 ?_
        refine aw_ia M_way_72 (wx_a_mgoalParents hW) (by first | rfl | assumption) (by omega) ?_
        rw [e6]
        refine aw_is4 M_way_73 ?_
        refine aw_go M_way_75 ?_
        exact ih (c + 1) (γ.2.2.1 a) (by omega) (by omega) (by omega) (fun s hs hi => h0 (s + 1) (by omega) (by omega)) (fun hi => h3 (by omega))
      · skip
        refine aw_al0 M_way_55 ?_
        refine aw_gr (wx_r4_19 hW) M_way_56 (wx_o4 hW) ?_
        refine aw_il4 M_way_59 ?_
        refine aw_ia M_way_61 (wx_a_mgoalBy hW) (by first | rfl | assumption) (by omega) ?_
        rw [e7]
        refine aw_reti M_way_62 (Or.inl rfl) ?_
        exact h0 0 (by omega) (by omega)
theorem c_M_way {i : Int} (hW : WX S Pn T) (hS : MS Pn T g nd gv fs wn pr fi tm gm) (hB : BX Pn T nd gv fs) (hwn : ∀ p, p < Pn → 0 ≤ wn p ∧ wn p ≤ 100) (h0 : gm → ∀ j i' : Nat, i = (i' : Int) → fnd (fun j => bl Pn ((gtG Pn T nd gv wn 48).2.2.1 j) fs) (gtG Pn T nd gv wn 48).2.1 0 = (j : Int) → j < (gtG Pn T nd gv wn 48).2.1 → i' < (gtG Pn T nd gv wn 48).2.2.2.2.2.1 j → P (.inl (some (iV (((gtG Pn T nd gv wn 48).2.2.2.2.1 (upT (gtG Pn T nd gv wn 48).2.2.2.1 i' j) : Int))))) (S, upA g (2 * T + 269) 0 0, u)) (h1 : ¬ gm → P (.inl (some (iV (0)))) (S, upA g (2 * T + 269) 0 1, u)) (h2 : gm → fnd (fun j => bl Pn ((gtG Pn T nd gv wn 48).2.2.1 j) fs) (gtG Pn T nd gv wn 48).2.1 0 = -2 → P (.inl (some (iV (0)))) (S, upA g (2 * T + 269) 0 2, u)) (h3 : gm → ∀ j : Nat, fnd (fun j => bl Pn ((gtG Pn T nd gv wn 48).2.2.1 j) fs) (gtG Pn T nd gv wn 48).2.1 0 = (j : Int) → j < (gtG Pn T nd gv wn 48).2.1 → ¬ (0 ≤ i ∧ i < ((gtG Pn T nd gv wn 48).2.2.2.2.2.1 j : Int)) → P (.inl (some (iV (0)))) (S, upA g (2 * T + 269) 0 3, u)) : Sp l E M_way (d + 1) [rV (2 * T + 269), iV i] (S, g, u) P := by
  have hp6 := wx_P hW
  have hT8 := wx_T hW
  have hw : WG Pn (gtG Pn T nd gv wn 48).2 := BX_wg hB hwn 48
  have hw2 := hw.2.1
  have e15 : g (2 * T + 269) 15 = tf gm := hS.2.2.2.2.1
  have hX : ¬ gm → aw l E M_way (d + 1) 15 [some (rV (2 * T + 269)), some (iV i), none, none, none, none, none] [iV (-1)] (S, g, u) P := by
    intro hgm
    refine aw_is2 M_way_15 ?_
    refine aw_al0 M_way_16 ?_
    refine aw_al0 M_way_17 ?_
    refine aw_gi M_way_18 (wx_o4 hW) ?_
    rw [e15]
    refine aw_zne M_way_21 (fun h21 => ?_) (fun h21 => ?_)
    · skip
      exact absurd (nz h21) hgm
    · skip
      refine aw_c M_way_24 ?_
      refine aw_go M_way_25 ?_
      refine aw_pi M_way_37 (wx_o4 hW) ?_
      refine aw_c M_way_40 ?_
      refine aw_is3 M_way_41 ?_
      refine aw_il2 M_way_42 ?_
      refine aw_is4 M_way_43 ?_
      refine aw_il4 M_way_45 ?_
      refine aw_zle M_way_47 (fun h47 => ?_) (fun h47 => ?_)
      · skip
        refine aw_al0 M_way_78 ?_
        refine aw_al0 M_way_79 ?_
        refine aw_gi M_way_80 (wx_o4 hW) ?_
        rw [upA_eq]
        refine aw_zne M_way_83 (fun h83 => ?_) (fun h83 => ?_)
        · skip
          refine aw_al0 M_way_90 ?_
          refine aw_gi M_way_91 (wx_o4 hW) ?_
          refine aw_pi M_way_94 (wx_o4 hW) ?_
          refine aw_c M_way_97 ?_
          refine aw_reti M_way_98 (Or.inl rfl) ?_
          rw [upA_eq, upA_up]
          exact h1 hgm
        · skip
          omega
      · skip
        omega
  have hY : gm → fnd (fun j => bl Pn ((gtG Pn T nd gv wn 48).2.2.1 j) fs) (gtG Pn T nd gv wn 48).2.1 0 = -2 → aw l E M_way (d + 1) 15 [some (rV (2 * T + 269)), some (iV i), none, none, none, none, none] [iV (-1)] (S, g, u) P := by
    intro hgm hf
    refine aw_is2 M_way_15 ?_
    refine aw_al0 M_way_16 ?_
    refine aw_al0 M_way_17 ?_
    refine aw_gi M_way_18 (wx_o4 hW) ?_
    rw [e15]
    refine aw_zne M_way_21 (fun h21 => ?_) (fun h21 => ?_)
    · skip
      refine aw_il2 M_way_28 ?_
      refine aw_zge M_way_29 (fun h29 => ?_) (fun h29 => ?_)
      · skip
        omega
      · skip
        refine aw_c M_way_32 ?_
        refine aw_go M_way_33 ?_
        refine aw_pi M_way_37 (wx_o4 hW) ?_
        refine aw_c M_way_40 ?_
        refine aw_is3 M_way_41 ?_
        refine aw_il2 M_way_42 ?_
        refine aw_is4 M_way_43 ?_
        refine aw_il4 M_way_45 ?_
        refine aw_zle M_way_47 (fun h47 => ?_) (fun h47 => ?_)
        · skip
          refine aw_al0 M_way_78 ?_
          refine aw_al0 M_way_79 ?_
          refine aw_gi M_way_80 (wx_o4 hW) ?_
          rw [upA_eq]
          refine aw_zne M_way_83 (fun h83 => ?_) (fun h83 => ?_)
          · skip
            refine aw_al0 M_way_90 ?_
            refine aw_gi M_way_91 (wx_o4 hW) ?_
            refine aw_pi M_way_94 (wx_o4 hW) ?_
            refine aw_c M_way_97 ?_
            refine aw_reti M_way_98 (Or.inl rfl) ?_
            rw [upA_eq, upA_up]
            exact h2 hgm hf
          · skip
            omega
        · skip
          omega
    · skip
      exact absurd hgm (iz h21)
  have hZ : gm → ∀ j : Nat, fnd (fun j => bl Pn ((gtG Pn T nd gv wn 48).2.2.1 j) fs) (gtG Pn T nd gv wn 48).2.1 0 = (j : Int) → j < (gtG Pn T nd gv wn 48).2.1 → aw l E M_way (d + 1) 15 [some (rV (2 * T + 269)), some (iV i), none, none, none, none, none] [iV (j : Int)] (S, g, u) P := by
    intro hgm j hf hj
    have hdj := WG_dp hw j hj
    have hRe : RN Pn T (upA g (2 * T + 269) 0 0) (gtG Pn T nd gv wn 48).2 := RN_fr (hS.2.2.2.2.2.2 hgm).2 (fun x y z => upA_ne (by omega))
    refine aw_is2 M_way_15 ?_
    refine aw_al0 M_way_16 ?_
    refine aw_al0 M_way_17 ?_
    refine aw_gi M_way_18 (wx_o4 hW) ?_
    rw [e15]
    refine aw_zne M_way_21 (fun h21 => ?_) (fun h21 => ?_)
    · skip
      refine aw_il2 M_way_28 ?_
      refine aw_zge M_way_29 (fun h29 => ?_) (fun h29 => ?_)
      · skip
        refine aw_c M_way_36 ?_
        refine aw_pi M_way_37 (wx_o4 hW) ?_
        refine aw_c M_way_40 ?_
        refine aw_is3 M_way_41 ?_
        refine aw_il2 M_way_42 ?_
        refine aw_is4 M_way_43 ?_
        exact c_M_way_lp (d := d) hW hw hRe (upA_eq _ _ _ _) ((gtG Pn T nd gv wn 48).2.2.2.2.2.1 j) 0 j hj rfl (by omega) (fun s hs hi => h0 hgm j s (by omega) hf hj hs) (fun hi => by rw [upA_up]; exact h3 hgm j hf hj (by omega))
      · skip
        omega
    · skip
      exact absurd hgm (iz h21)
  show aw l E M_way (d + 1) 0 [some (rV (2 * T + 269)), some (iV i), none, none, none, none, none] [] (S, g, u) P
  refine aw_al0 M_way_0 ?_
  refine aw_gi M_way_1 (wx_o4 hW) ?_
  rw [e15]
  refine aw_zeq M_way_4 (fun h4 => ?_) (fun h4 => ?_)
  · skip
    refine aw_c M_way_14 ?_
    exact hX (iz h4)
  · skip
    refine aw_al0 M_way_7 ?_
    refine aw_V0 M_way_8 rfl rfl (wx_o4 hW) ?_
    have hgm : gm := nz h4
    refine c_M_firstGoal (d := d) (γ := (gtG Pn T nd gv wn 48).2) (fs := fs) hW hS.1.1 hw2 (hS.2.2.2.2.2.2 hgm).2 hS.1.2.2.2 (fun j z1 z2 => aw_go M_way_11 (hZ hgm j z1 z2)) (fun z => aw_go M_way_11 (hY hgm z))
end NH
