section NG
variable {l : Launch} {E : aE} {d : Nat} {S : aS} {g : aG} {u : aU} {P : aP} {Pn T : Nat} {nd gv : Nat → Nat → Int} {fs wn pr : Nat → Int} {fi : Nat} {tm gm : Prop}
/-- nothing but the reference's goals has changed -/
def FQ (T : Nat) (g g' : aG) : Prop := ∀ x y, x ≠ 2 * T + 279 → x ≠ 2 * T + 280 → x ≠ 2 * T + 281 → x ≠ 2 * T + 282 → ¬ (x = 2 * T + 269 ∧ y = 16) → g' x y = g x y
theorem FQ.tr {T : Nat} {g g' g'' : aG} (h : FQ T g g') (h' : FQ T g' g'') : FQ T g g'' := fun x y z1 z2 z3 z4 z5 => (h' x y z1 z2 z3 z4 z5).trans (h x y z1 z2 z3 z4 z5)
theorem NM_FQ {g' : aG} (h : NM Pn T g nd gv fs) (hF : FQ T g g') : NM Pn T g' nd gv fs := NM_fr h (fun x y z => hF x y (by omega) (by omega) (by omega) (by omega) (by omega))
theorem upA_up {g : aG} {i j : Nat} {x y : Int} : upA (upA g i j x) i j y = upA g i j y := by
  funext a b
  unfold upA
  by_cases h : a = i ∧ b = j
  · rw [if_pos h, if_pos h]
  · rw [if_neg h, if_neg h, if_neg h]
theorem RN_fr2 {g' : aG} {γ : Tz} (h : RN Pn T g γ) (h1 : 1 ≤ γ.1) (hp6 : Pn ≤ 6) (hg : ∀ x y, ((x = 2 * T + 279 ∧ y < 6 * γ.1) ∨ ((x = 2 * T + 280 ∨ x = 2 * T + 281 ∨ x = 2 * T + 282) ∧ y < γ.1) ∨ (x = 2 * T + 269 ∧ y = 16)) → g' x y = g x y) : RN Pn T g' γ := by
  obtain ⟨r1, r2, r4, r5, r6⟩ := h
  refine ⟨fun n hn p hp => (hg _ _ (by omega)).trans (r1 n hn p hp), (hg _ _ (by omega)).trans r2, fun n h0 hn => ?_, fun n hn => (hg _ _ (by omega)).trans (r5 n hn), (hg _ _ (by omega)).trans r6⟩
  obtain ⟨z1, z2⟩ := r4 n h0 hn
  exact ⟨(hg _ _ (by omega)).trans z1, (hg _ _ (by omega)).trans z2⟩
theorem c_M_mk3 {k t : Nat} {γ : Tz} {x4 x5 : Option aA} (hW : WX S Pn T) (hN : NM Pn T g nd gv fs) (hB : BX Pn T nd gv fs) (hw : WG Pn γ) (hR : RN Pn T g γ) (hk : k < γ.1) (ht : t < T) (hkn : ¬ knG Pn γ (cdG nd gv γ k t)) (h1 : ¬ knG Pn γ (cdG nd gv γ k t) → ∀ g', RN Pn T g' (adG Pn γ k t (cdG nd gv γ k t)) → FQ T g g' → P (.inl (some (iV 1))) (S, g', u)) {g' : aG} (hq : (∀ x y, ¬ (x = 2 * T + 279 ∧ 6 * γ.1 ≤ y) → g' x y = g x y)) (hv : (∀ r, r < Pn → g' (2 * T + 279) (6 * γ.1 + r) = (cdG nd gv γ k t) r)) : ∀ (m j : Nat) (g2 : aG), γ.1 - j < m → j ≤ γ.1 → (∀ x y, x ≠ 2 * T + 282 → g2 x y = g' x y) → (∀ r, r < j → g2 (2 * T + 282) r = tf (γ.2.2.2.2.2 r ∨ bl Pn (cdG nd gv γ k t) (γ.2.1 r))) → (∀ r, j ≤ r → g2 (2 * T + 282) r = g' (2 * T + 282) r) → aw l E M_makeGoal (d + 1) 124 [some (rV (2 * T + 269)), some (iV (k : Int)), some (iV (t : Int)), some (iV (j : Int)), x4, x5, none] [] (S, g2, u) P := by
  intro m
  have hp6 := wx_P hW
  have hT8 := wx_T hW
  have hs1 := hw.1
  have hs2 := hw.2.1
  induction m with
  | zero => intro j g2 h; omega
  | succ m ih =>
    intro j g2 hm hj hF h6 h7
    have e16 : g2 (2 * T + 269) 16 = (γ.1 : Int) := (hF _ _ (by omega)).trans ((hq _ _ (by omega)).trans hR.2.2.2.2)
    have e1 : g2 (2 * T + 269) 1 = (Pn : Int) := (hF _ _ (by omega)).trans ((hq _ _ (by omega)).trans hN.1)
    have eg : j < γ.1 → g2 (2 * T + 282) j = tf (γ.2.2.2.2.2 j) := fun h => (h7 j (Nat.le_refl _)).trans ((hq _ _ (by omega)).trans (hR.2.2.2.1 j h))
    have hb : j < γ.1 → (bl Pn (rwQ T g2 γ.1) (rwQ T g2 j) ↔ bl Pn (cdG nd gv γ k t) (γ.2.1 j)) := fun h => blC (fun p hp => (hF _ _ (by omega)).trans (hv p hp)) (fun p hp => (hF _ _ (by omega)).trans ((hq _ _ (by omega)).trans (hR.1 j h p hp)))
    have hgo : ∀ z : Int, z = tf (γ.2.2.2.2.2 j ∨ bl Pn (cdG nd gv γ k t) (γ.2.1 j)) → j < γ.1 → aw l E M_makeGoal (d + 1) 124 [some (rV (2 * T + 269)), some (iV (k : Int)), some (iV (t : Int)), some (iV ((j : Int) + 1)), x4, x5, none] [] (S, upA g2 (2 * T + 282) j z, u) P := by
      intro z hz hjl
      refine ih (j + 1) _ (by omega) (by omega) (fun x y hx => (upA_ne (by omega)).trans (hF x y hx)) (fun r hr => ?_) (fun r hr => (upA_ne (by omega)).trans (h7 r (by omega)))
      by_cases e : r = j
      · rw [e, upA_eq, hz]
      · rw [upA_ne (by omega)]; exact h6 r (by omega)
    refine aw_il3 M_makeGoal_124 ?_
    refine aw_al0 M_makeGoal_125 ?_
    refine aw_gi M_makeGoal_126 (wx_o4 hW) ?_
    refine aw_cge M_makeGoal_129 (fun h129 => ?_) (fun h129 => ?_)
    · skip
      refine aw_al0 M_makeGoal_170 ?_
      refine aw_gr (wx_r4_18 hW) M_makeGoal_171 (wx_o4 hW) ?_
      refine aw_al0 M_makeGoal_174 ?_
      refine aw_gi M_makeGoal_175 (wx_o4 hW) ?_
      refine aw_il1 M_makeGoal_178 ?_
      refine aw_iast M_makeGoal_179 (wx_a_mgoalParents hW) (show g2 (2 * T + 269) 16 = ((γ.1 : Nat) : Int) from e16) (by omega) ?_
      refine aw_al0 M_makeGoal_180 ?_
      refine aw_gr (wx_r4_19 hW) M_makeGoal_181 (wx_o4 hW) ?_
      refine aw_al0 M_makeGoal_184 ?_
      refine aw_gi M_makeGoal_185 (wx_o4 hW) ?_
      refine aw_il2 M_makeGoal_188 ?_
      refine aw_iast M_makeGoal_189 (wx_a_mgoalBy hW) ((upA_ne (by omega)).trans e16) (by omega) ?_
      refine aw_al0 M_makeGoal_190 ?_
      refine aw_gr (wx_r4_20 hW) M_makeGoal_191 (wx_o4 hW) ?_
      refine aw_al0 M_makeGoal_194 ?_
      refine aw_gi M_makeGoal_195 (wx_o4 hW) ?_
      refine aw_c M_makeGoal_198 ?_
      refine aw_zast M_makeGoal_199 (wx_a_mgiven hW) ((upA_ne (by omega)).trans ((upA_ne (by omega)).trans e16)) (by omega) (by first | exact Or.inl rfl | exact Or.inr rfl | assumption) ?_
      refine aw_al0 M_makeGoal_200 ?_
      refine aw_dup M_makeGoal_201 ?_
      refine aw_gi M_makeGoal_202 (wx_o4 hW) ?_
      rw [show (upA (upA (upA g2 (2 * T + 280) γ.1 (k : Int)) (2 * T + 281) γ.1 (t : Int)) (2 * T + 282) γ.1 0) (2 * T + 269) 16 = (γ.1 : Int) from (upA_ne (by omega)).trans ((upA_ne (by omega)).trans ((upA_ne (by omega)).trans e16))]
      refine aw_c M_makeGoal_205 ?_
      refine aw_add M_makeGoal_206 (by constructor <;> omega) ?_
      refine aw_pi M_makeGoal_207 (wx_o4 hW) ?_
      refine aw_c M_makeGoal_210 ?_
      refine aw_reti M_makeGoal_211 (Or.inr ⟨rfl, (by first | exact Or.inl rfl | exact Or.inr rfl | assumption)⟩) ?_
      have ej : j = γ.1 := by omega
      have q2 : ∀ x y, ¬ (x = 2 * T + 269 ∧ y = 16) → ¬ (x = 2 * T + 280 ∧ y = γ.1) → ¬ (x = 2 * T + 281 ∧ y = γ.1) → ¬ (x = 2 * T + 282 ∧ y = γ.1) → (upA (upA (upA (upA g2 (2 * T + 280) γ.1 (k : Int)) (2 * T + 281) γ.1 (t : Int)) (2 * T + 282) γ.1 0) (2 * T + 269) 16 ((γ.1 : Int) + 1)) x y = g2 x y := fun x y z1 z2 z3 z4 => by
        rw [upA_ne z1, upA_ne z4, upA_ne z3, upA_ne z2]
      refine h1 hkn _ ⟨fun n hn p hp => ?_, ?_, fun n z0 hn => ?_, fun n hn => ?_, ?_⟩ (fun x y z1 z2 z3 z4 z5 => ?_)
      · have hn' : n < γ.1 + 1 := hn
        rw [q2 _ _ (by omega) (by omega) (by omega) (by omega), hF _ _ (by omega)]
        show _ = (if n = γ.1 then cdG nd gv γ k t else γ.2.1 n) p
        by_cases e : n = γ.1
        · rw [if_pos e, e]; exact hv p hp
        · rw [if_neg e, hq _ _ (by omega)]; exact hR.1 n (by omega) p hp
      · rw [q2 _ _ (by omega) (by omega) (by omega) (by omega), hF _ _ (by omega), hq _ _ (by omega)]; exact hR.2.1
      · have hn' : n < γ.1 + 1 := hn
        show _ = (((if n = γ.1 then k else γ.2.2.1 n) : Nat) : Int) ∧ _ = (((if n = γ.1 then t else γ.2.2.2.1 n) : Nat) : Int)
        by_cases e : n = γ.1
        · rw [if_pos e, if_pos e, e]
          constructor
          · rw [upA_ne (by omega), upA_ne (by omega), upA_ne (by omega), upA_eq]
          · rw [upA_ne (by omega), upA_ne (by omega), upA_eq]
        · rw [if_neg e, if_neg e, q2 _ _ (by omega) (by omega) (by omega) (by omega), q2 _ _ (by omega) (by omega) (by omega) (by omega), hF _ _ (by omega), hF _ _ (by omega), hq _ _ (by omega), hq _ _ (by omega)]
          exact hR.2.2.1 n z0 (by omega)
      · have hn' : n < γ.1 + 1 := hn
        show _ = tf (if n = γ.1 then False else (γ.2.2.2.2.2 n ∨ bl Pn (cdG nd gv γ k t) (γ.2.1 n)))
        by_cases e : n = γ.1
        · rw [if_pos e, e, upA_ne (by omega), upA_eq]; exact (cI_n id).symm
        · rw [if_neg e, q2 _ _ (by omega) (by omega) (by omega) (by omega)]; exact h6 n (by omega)
      · rw [upA_eq]
        show (γ.1 : Int) + 1 = ((γ.1 + 1 : Nat) : Int)
        omega
      · rw [q2 _ _ (by omega) (by omega) (by omega) (by omega), hF _ _ (by omega), hq _ _ (by omega)]
    · skip
      refine aw_al0 M_makeGoal_132 ?_
      refine aw_gr (wx_r4_20 hW) M_makeGoal_133 (wx_o4 hW) ?_
      refine aw_il3 M_makeGoal_136 ?_
      refine aw_al0 M_makeGoal_137 ?_
      refine aw_gr (wx_r4_20 hW) M_makeGoal_138 (wx_o4 hW) ?_
      refine aw_il3 M_makeGoal_141 ?_
      refine aw_za M_makeGoal_142 (wx_a_mgiven hW) (by first | rfl | assumption) (by omega) ?_
      rw [eg (by omega)]
      refine aw_zne M_makeGoal_143 (fun h143 => ?_) (fun h143 => ?_)
      · skip
        refine aw_c M_makeGoal_158 ?_
        refine aw_go M_makeGoal_159 ?_
        refine aw_zast M_makeGoal_163 (wx_a_mgiven hW) (by first | rfl | assumption) (by omega) (by first | exact Or.inl rfl | exact Or.inr rfl) ?_
        refine aw_ip3 M_makeGoal_164 (by omega) ?_
        refine aw_go M_makeGoal_167 ?_
        exact hgo 1 (cI_p (Or.inl (nz h143))).symm (by omega)
      · skip
        refine aw_al0 M_makeGoal_146 ?_
        refine aw_al0 M_makeGoal_147 ?_
        refine aw_gi M_makeGoal_148 (wx_o4 hW) ?_
        rw [e16]
        refine aw_il3 M_makeGoal_151 ?_
        refine aw_V2 M_makeGoal_152 rfl rfl rfl rfl (wx_o4 hW) ?_
        refine c_M_isGoalBelow (d := d) hW e1 (by omega) (by omega) ?_
        show aw _ _ _ _ _ _ _ _ _
        refine aw_zeq M_makeGoal_155 (fun h155 => ?_) (fun h155 => ?_)
        · skip
          refine aw_c M_makeGoal_162 ?_
          refine aw_zast M_makeGoal_163 (wx_a_mgiven hW) (by first | rfl | assumption) (by omega) (by first | exact Or.inl rfl | exact Or.inr rfl) ?_
          refine aw_ip3 M_makeGoal_164 (by omega) ?_
          refine aw_go M_makeGoal_167 ?_
          exact hgo 0 (cI_n (fun z => z.elim (iz h143) (fun f => iz h155 ((hb (by omega)).mpr f)))).symm (by omega)
        · skip
          refine aw_c M_makeGoal_158 ?_
          refine aw_go M_makeGoal_159 ?_
          refine aw_zast M_makeGoal_163 (wx_a_mgiven hW) (by first | rfl | assumption) (by omega) (by first | exact Or.inl rfl | exact Or.inr rfl) ?_
          refine aw_ip3 M_makeGoal_164 (by omega) ?_
          refine aw_go M_makeGoal_167 ?_
          exact hgo 1 (cI_p (Or.inr ((hb (by omega)).mp (nz h155)))).symm (by omega)
theorem c_M_mk2 {k t : Nat} {γ : Tz} {x4 x5 : Option aA} (hW : WX S Pn T) (hN : NM Pn T g nd gv fs) (hB : BX Pn T nd gv fs) (hw : WG Pn γ) (hR : RN Pn T g γ) (hk : k < γ.1) (ht : t < T) (h0 : knG Pn γ (cdG nd gv γ k t) → ∀ g', RN Pn T g' γ → FQ T g g' → P (.inl (some (iV 0))) (S, g', u)) (h1 : ¬ knG Pn γ (cdG nd gv γ k t) → ∀ g', RN Pn T g' (adG Pn γ k t (cdG nd gv γ k t)) → FQ T g g' → P (.inl (some (iV 1))) (S, g', u)) {g' : aG} (hq : (∀ x y, ¬ (x = 2 * T + 279 ∧ 6 * γ.1 ≤ y) → g' x y = g x y)) (hv : (∀ r, r < Pn → g' (2 * T + 279) (6 * γ.1 + r) = (cdG nd gv γ k t) r)) : ∀ (m j : Nat), γ.1 - j < m → j ≤ γ.1 → (∀ r, r < j → ¬ (¬ γ.2.2.2.2.2 r ∧ bl Pn (γ.2.1 r) (cdG nd gv γ k t))) → aw l E M_makeGoal (d + 1) 85 [some (rV (2 * T + 269)), some (iV (k : Int)), some (iV (t : Int)), some (iV (j : Int)), x4, x5, none] [] (S, g', u) P := by
  intro m
  have hp6 := wx_P hW
  have hT8 := wx_T hW
  have hs1 := hw.1
  have hs2 := hw.2.1
  have e16 : g' (2 * T + 269) 16 = (γ.1 : Int) := (hq _ _ (by omega)).trans hR.2.2.2.2
  have e1 : g' (2 * T + 269) 1 = (Pn : Int) := (hq _ _ (by omega)).trans hN.1
  induction m with
  | zero => intro j h; omega
  | succ m ih =>
    intro j hm hj hi
    have eg : j < γ.1 → g' (2 * T + 282) j = tf (γ.2.2.2.2.2 j) := fun h => (hq _ _ (by omega)).trans (hR.2.2.2.1 j h)
    have hb : j < γ.1 → (bl Pn (rwQ T g' j) (rwQ T g' γ.1) ↔ bl Pn (γ.2.1 j) (cdG nd gv γ k t)) := fun h => blC (fun p hp => (hq _ _ (by omega)).trans (hR.1 j h p hp)) (fun p hp => hv p hp)
    refine aw_il3 M_makeGoal_85 ?_
    refine aw_al0 M_makeGoal_86 ?_
    refine aw_gi M_makeGoal_87 (wx_o4 hW) ?_
    refine aw_cge M_makeGoal_90 (fun h90 => ?_) (fun h90 => ?_)
    · skip
      refine aw_c M_makeGoal_122 ?_
      refine aw_is3 M_makeGoal_123 ?_
      exact c_M_mk3 hW hN hB hw hR hk ht (fun ⟨r, z1, z2⟩ => hi r (by omega) z2) h1 hq hv (γ.1 + 1) 0 g' (by omega) (by omega) (fun x y z => rfl) (fun r hr => absurd hr (Nat.not_lt_zero r)) (fun r hr => rfl)
    · skip
      refine aw_al0 M_makeGoal_93 ?_
      refine aw_gr (wx_r4_20 hW) M_makeGoal_94 (wx_o4 hW) ?_
      refine aw_il3 M_makeGoal_97 ?_
      refine aw_za M_makeGoal_98 (wx_a_mgiven hW) (by first | rfl | assumption) (by omega) ?_
      rw [eg (by omega)]
      refine aw_zne M_makeGoal_99 (fun h99 => ?_) (fun h99 => ?_)
      · skip
        refine aw_ip3 M_makeGoal_116 (by omega) ?_
        refine aw_go M_makeGoal_119 ?_
        exact ih (j + 1) (by omega) (by omega) (fun r hr z => by
          by_cases e : r = j
          · rw [e] at z; exact z.1 (nz h99)
          · exact hi r (by omega) z)
      · skip
        refine aw_al0 M_makeGoal_102 ?_
        refine aw_il3 M_makeGoal_103 ?_
        refine aw_al0 M_makeGoal_104 ?_
        refine aw_gi M_makeGoal_105 (wx_o4 hW) ?_
        rw [e16]
        refine aw_V2 M_makeGoal_108 rfl rfl rfl rfl (wx_o4 hW) ?_
        refine c_M_isGoalBelow (d := d) hW e1 (by omega) (by omega) ?_
        show aw _ _ _ _ _ _ _ _ _
        refine aw_zeq M_makeGoal_111 (fun h111 => ?_) (fun h111 => ?_)
        · skip
          refine aw_ip3 M_makeGoal_116 (by omega) ?_
          refine aw_go M_makeGoal_119 ?_
          exact ih (j + 1) (by omega) (by omega) (fun r hr z => by
            by_cases e : r = j
            · rw [e] at z; exact iz h111 ((hb (by omega)).mpr z.2)
            · exact hi r (by omega) z)
        · skip
          refine aw_c M_makeGoal_114 ?_
          refine aw_reti M_makeGoal_115 (Or.inr ⟨rfl, (by first | exact Or.inl rfl | exact Or.inr rfl | assumption)⟩) ?_
          exact h0 ⟨j, by omega, iz h99, (hb (by omega)).mp (nz h111)⟩ g' (RN_fr2 hR hs1 hp6.2 (fun x y z => hq _ _ (by omega))) (fun x y z1 z2 z3 z4 z5 => hq _ _ (by omega))
theorem c_M_mk1 {k t : Nat} {γ : Tz} (hW : WX S Pn T) (hN : NM Pn T g nd gv fs) (hB : BX Pn T nd gv fs) (hw : WG Pn γ) (hR : RN Pn T g γ) (hk : k < γ.1) (ht : t < T) (h0 : knG Pn γ (cdG nd gv γ k t) → ∀ g', RN Pn T g' γ → FQ T g g' → P (.inl (some (iV 0))) (S, g', u)) (h1 : ¬ knG Pn γ (cdG nd gv γ k t) → ∀ g', RN Pn T g' (adG Pn γ k t (cdG nd gv γ k t)) → FQ T g g' → P (.inl (some (iV 1))) (S, g', u)) : ∀ (m p : Nat) (g' : aG) (x4 x5 : Option aA), Pn - p < m → p ≤ Pn → (∀ x y, ¬ (x = 2 * T + 279 ∧ 6 * γ.1 ≤ y) → g' x y = g x y) → (∀ r, r < p → g' (2 * T + 279) (6 * γ.1 + r) = (cdG nd gv γ k t) r) → aw l E M_makeGoal (d + 1) 2 [some (rV (2 * T + 269)), some (iV (k : Int)), some (iV (t : Int)), some (iV (p : Int)), x4, x5, none] [] (S, g', u) P := by
  intro m
  have hp6 := wx_P hW
  have hT8 := wx_T hW
  have hs1 := hw.1
  have hs2 := hw.2.1
  induction m with
  | zero => intro p g' x4 x5 h; omega
  | succ m ih =>
    intro p g' x4 x5 hm hp hq hv
    have e16 : g' (2 * T + 269) 16 = (γ.1 : Int) := (hq _ _ (by omega)).trans hR.2.2.2.2
    have e1 : g' (2 * T + 269) 1 = (Pn : Int) := (hq _ _ (by omega)).trans hN.1
    have e2 : p < Pn → g' (2 * T + 270) (6 * t + p) = nd t p := fun h => (hq _ _ (by omega)).trans (hN.2.2.1 t ht p h).1
    have e3 : p < Pn → g' (2 * T + 271) (6 * t + p) = gv t p := fun h => (hq _ _ (by omega)).trans (hN.2.2.1 t ht p h).2
    have e4 : p < Pn → g' (2 * T + 279) (6 * k + p) = γ.2.1 k p := fun h => (hq _ _ (by omega)).trans (hR.1 k hk p h)
    have b1 := fun h => hB.1 t ht p h
    have b2 := fun h => hw.2.2.2.2 k hk p h
    have hgo : ∀ (z : Int) (x4 x5 : Option aA), z = mb (γ.2.1 k p) (nd t p) (gv t p) → p < Pn → aw l E M_makeGoal (d + 1) 2 [some (rV (2 * T + 269)), some (iV (k : Int)), some (iV (t : Int)), some (iV ((p : Int) + 1)), x4, x5, none] [] (S, upA g' (2 * T + 279) (6 * γ.1 + p) z, u) P := by
      intro z x4 x5 hz hpl
      refine ih (p + 1) _ _ _ (by omega) (by omega) (fun x y hx => (upA_ne (by omega)).trans (hq x y hx)) (fun r hr => ?_)
      by_cases e : r = p
      · rw [e, upA_eq, hz]; rfl
      · rw [upA_ne (by omega)]; exact hv r (by omega)
    refine aw_il3 M_makeGoal_2 ?_
    refine aw_al0 M_makeGoal_3 ?_
    refine aw_gi M_makeGoal_4 (wx_o4 hW) ?_
    refine aw_cge M_makeGoal_7 (fun h7 => ?_) (fun h7 => ?_)
    · skip
      refine aw_c M_makeGoal_83 ?_
      refine aw_is3 M_makeGoal_84 ?_
      have e : p = Pn := by omega
      subst e
      exact c_M_mk2 hW hN hB hw hR hk ht h0 h1 hq hv (γ.1 + 1) 0 (by omega) (by omega) (fun r hr => absurd hr (Nat.not_lt_zero r))
    · skip
      obtain ⟨c1, c2, c3, c4⟩ := b1 (by omega)
      obtain ⟨c5, c6⟩ := b2 (by omega)
      refine aw_al0 M_makeGoal_10 ?_
      refine aw_gr (wx_r4_3 hW) M_makeGoal_11 (wx_o4 hW) ?_
      refine aw_c M_makeGoal_14 ?_
      refine aw_il2 M_makeGoal_16 ?_
      refine aw_mul M_makeGoal_17 (by constructor <;> omega) ?_
      refine aw_il3 M_makeGoal_18 ?_
      refine aw_add M_makeGoal_19 (by constructor <;> omega) ?_
      refine aw_ia M_makeGoal_20 (wx_a_mneeds hW) (show 6 * (t : Int) + (p : Int) = ((6 * t + p : Nat) : Int) by omega) (by omega) ?_
      rw [e2 (by omega)]
      refine aw_is4 M_makeGoal_21 ?_
      refine aw_al0 M_makeGoal_23 ?_
      refine aw_gr (wx_r4_17 hW) M_makeGoal_24 (wx_o4 hW) ?_
      refine aw_c M_makeGoal_27 ?_
      refine aw_il1 M_makeGoal_29 ?_
      refine aw_mul M_makeGoal_30 (by constructor <;> omega) ?_
      refine aw_il3 M_makeGoal_31 ?_
      refine aw_add M_makeGoal_32 (by constructor <;> omega) ?_
      refine aw_ia M_makeGoal_33 (wx_a_mgoalMarks hW) (show 6 * (k : Int) + (p : Int) = ((6 * k + p : Nat) : Int) by omega) (by omega) ?_
      rw [e4 (by omega)]
      refine aw_al0 M_makeGoal_34 ?_
      refine aw_gr (wx_r4_4 hW) M_makeGoal_35 (wx_o4 hW) ?_
      refine aw_c M_makeGoal_38 ?_
      refine aw_il2 M_makeGoal_40 ?_
      refine aw_mul M_makeGoal_41 (by constructor <;> omega) ?_
      refine aw_il3 M_makeGoal_42 ?_
      refine aw_add M_makeGoal_43 (by constructor <;> omega) ?_
      refine aw_ia M_makeGoal_44 (wx_a_mgives hW) (show 6 * (t : Int) + (p : Int) = ((6 * t + p : Nat) : Int) by omega) (by omega) ?_
      rw [e3 (by omega)]
      refine aw_sub M_makeGoal_45 (by constructor <;> omega) ?_
      refine aw_is5 M_makeGoal_46 ?_
      refine aw_al0 M_makeGoal_48 ?_
      refine aw_gr (wx_r4_17 hW) M_makeGoal_49 (wx_o4 hW) ?_
      refine aw_c M_makeGoal_52 ?_
      refine aw_al0 M_makeGoal_54 ?_
      refine aw_gi M_makeGoal_55 (wx_o4 hW) ?_
      rw [e16]
      refine aw_mul M_makeGoal_58 (by constructor <;> omega) ?_
      refine aw_il3 M_makeGoal_59 ?_
      refine aw_add M_makeGoal_60 (by constructor <;> omega) ?_
      refine aw_il5 M_makeGoal_61 ?_
      refine aw_zle M_makeGoal_63 (fun h63 => ?_) (fun h63 => ?_)
      · skip
        refine aw_il4 M_makeGoal_74 ?_
        refine aw_iast M_makeGoal_76 (wx_a_mgoalMarks hW) (show 6 * (γ.1 : Int) + (p : Int) = ((6 * γ.1 + p : Nat) : Int) by omega) (by omega) ?_
        refine aw_ip3 M_makeGoal_77 (by omega) ?_
        refine aw_go M_makeGoal_80 ?_
        exact hgo _ _ _ (if_neg (by omega)).symm (by omega)
      · skip
        refine aw_il5 M_makeGoal_66 ?_
        refine aw_il4 M_makeGoal_68 ?_
        refine aw_add M_makeGoal_70 (by constructor <;> omega) ?_
        refine aw_go M_makeGoal_71 ?_
        refine aw_iast M_makeGoal_76 (wx_a_mgoalMarks hW) (show 6 * (γ.1 : Int) + (p : Int) = ((6 * γ.1 + p : Nat) : Int) by omega) (by omega) ?_
        refine aw_ip3 M_makeGoal_77 (by omega) ?_
        refine aw_go M_makeGoal_80 ?_
        exact hgo _ _ _ (if_pos (by omega)).symm (by omega)
theorem c_M_makeGoal {k t : Nat} {γ : Tz} (hW : WX S Pn T) (hN : NM Pn T g nd gv fs) (hB : BX Pn T nd gv fs) (hw : WG Pn γ) (hR : RN Pn T g γ) (hk : k < γ.1) (ht : t < T) (h0 : knG Pn γ (cdG nd gv γ k t) → ∀ g', RN Pn T g' γ → FQ T g g' → P (.inl (some (iV 0))) (S, g', u)) (h1 : ¬ knG Pn γ (cdG nd gv γ k t) → ∀ g', RN Pn T g' (adG Pn γ k t (cdG nd gv γ k t)) → FQ T g g' → P (.inl (some (iV 1))) (S, g', u)) : Sp l E M_makeGoal (d + 1) [rV (2 * T + 269), iV (k : Int), iV (t : Int)] (S, g, u) P := by
  show aw l E M_makeGoal (d + 1) 0 [some (rV (2 * T + 269)), some (iV (k : Int)), some (iV (t : Int)), none, none, none, none] [] (S, g, u) P
  refine aw_c M_makeGoal_0 ?_
  refine aw_is3 M_makeGoal_1 ?_
  exact c_M_mk1 hW hN hB hw hR hk ht h0 h1 (Pn + 1) 0 g none none (by omega) (by omega) (fun x y _ => rfl) (fun r hr => absurd hr (Nat.not_lt_zero r))
theorem c_M_back_0 {k : Int} {x2 x3 x4 : Option aA} {g' : aG} (hW : WX S Pn T) (hS : MS Pn T g nd gv fs wn pr fi tm gm) (h0 : (gtG Pn T nd gv wn 48).1 = true → ∀ g', MS Pn T g' nd gv fs wn pr fi tm True → g' (2 * T + 269) 0 = 0 → FM T g g' → P (.inl (some (iV (kcG (gtG Pn T nd gv wn 48).2 (gtG Pn T nd gv wn 48).2.1 : Int)))) (S, g', u)) (h1 : (gtG Pn T nd gv wn 48).1 = false → ∀ g', MS Pn T g' nd gv fs wn pr fi tm False → g' (2 * T + 269) 0 = 1 → FM T g g' → P (.inl (some (iV 0))) (S, g', u)) (hF : FQ T g g') (h16 : g' (2 * T + 269) 16 = 49) (hf : (gtG Pn T nd gv wn 48).1 = false) : aw l E M_back (d + 2) 125 [some (rV (2 * T + 269)), some (iV (k : Int)), x2, x3, x4, none, none] [] (S, g', u) P := by
  obtain ⟨s1, s2, s3, s4, s5, s6, s7⟩ := hS
  refine aw_al0 M_back_125 ?_
  refine aw_al0 M_back_126 ?_
  refine aw_gi M_back_127 (wx_o4 hW) ?_
  refine aw_c M_back_130 ?_
  refine aw_cgt M_back_132 (fun h132 => ?_) (fun h132 => ?_)
  · skip
    refine aw_c M_back_139 ?_
    refine aw_pz M_back_140 (wx_o4 hW) (by first | exact Or.inl rfl | exact Or.inr rfl | assumption) ?_
    refine aw_al0 M_back_143 ?_
    refine aw_al0 M_back_144 ?_
    refine aw_gi M_back_145 (wx_o4 hW) ?_
    refine aw_zeq M_back_148 (fun h148 => ?_) (fun h148 => ?_)
    · skip
      refine aw_c M_back_155 ?_
      refine aw_pi M_back_156 (wx_o4 hW) ?_
      refine aw_c M_back_159 ?_
      refine aw_is1 M_back_160 ?_
      refine aw_c M_back_161 ?_
      refine aw_is2 M_back_162 ?_
      refine aw_il2 M_back_163 ?_
      refine aw_al0 M_back_164 ?_
      refine aw_gi M_back_165 (wx_o4 hW) ?_
      refine aw_cge M_back_168 (fun h168 => ?_) (fun h168 => ?_)
      · skip
        refine aw_il1 M_back_201 ?_
        refine aw_reti M_back_202 (Or.inl rfl) ?_
        have q : ∀ x y, ¬ (x = 2 * T + 269 ∧ (y = 0 ∨ y = 15 ∨ y = 16)) → x ≠ 2 * T + 279 → x ≠ 2 * T + 280 → x ≠ 2 * T + 281 → x ≠ 2 * T + 282 → (upA (upA g' (2 * T + 269) 15 0) (2 * T + 269) 0 1) x y = g x y := fun x y z1 z2 z3 z4 z5 => by
          rw [upA_ne (by omega), upA_ne (by omega)]; exact hF x y z2 z3 z4 z5 (by omega)
        exact h1 hf _ ⟨NM_fr s1 (fun x y z => (q x y (by omega) (by omega) (by omega) (by omega) (by omega))), fun p hp => ⟨(q _ _ (by omega) (by omega) (by omega) (by omega) (by omega)).trans (s2 p hp).1, (q _ _ (by omega) (by omega) (by omega) (by omega) (by omega)).trans (s2 p hp).2⟩, (q _ _ (by omega) (by omega) (by omega) (by omega) (by omega)).trans s3, (q _ _ (by omega) (by omega) (by omega) (by omega) (by omega)).trans s4, ((upA_ne (by omega)).trans (upA_eq _ _ _ _)).trans (cI_n id).symm, fun z => ⟨(s6 z).1, RM_fr (s6 z).2.1 (fun x y z => (q x y (by omega) (by omega) (by omega) (by omega) (by omega))), fun n hn => (q _ _ (by omega) (by omega) (by omega) (by omega) (by omega)).trans ((s6 z).2.2 n hn)⟩, fun z => z.elim⟩ (upA_eq _ _ _ _) (fun x y z => (q x y (by omega) (by omega) (by omega) (by omega) (by omega)))
      · skip
        refine aw_al0 M_back_171 ?_
        refine aw_gi M_back_172 (wx_o4 hW) ?_
        refine aw_zeq M_back_175 (fun h175 => ?_) (fun h175 => ?_)
        · skip
          refine aw_il1 M_back_201 ?_
          refine aw_reti M_back_202 (Or.inl rfl) ?_
          have q : ∀ x y, ¬ (x = 2 * T + 269 ∧ (y = 0 ∨ y = 15 ∨ y = 16)) → x ≠ 2 * T + 279 → x ≠ 2 * T + 280 → x ≠ 2 * T + 281 → x ≠ 2 * T + 282 → (upA (upA g' (2 * T + 269) 15 0) (2 * T + 269) 0 1) x y = g x y := fun x y z1 z2 z3 z4 z5 => by
            rw [upA_ne (by omega), upA_ne (by omega)]; exact hF x y z2 z3 z4 z5 (by omega)
          exact h1 hf _ ⟨NM_fr s1 (fun x y z => (q x y (by omega) (by omega) (by omega) (by omega) (by omega))), fun p hp => ⟨(q _ _ (by omega) (by omega) (by omega) (by omega) (by omega)).trans (s2 p hp).1, (q _ _ (by omega) (by omega) (by omega) (by omega) (by omega)).trans (s2 p hp).2⟩, (q _ _ (by omega) (by omega) (by omega) (by omega) (by omega)).trans s3, (q _ _ (by omega) (by omega) (by omega) (by omega) (by omega)).trans s4, ((upA_ne (by omega)).trans (upA_eq _ _ _ _)).trans (cI_n id).symm, fun z => ⟨(s6 z).1, RM_fr (s6 z).2.1 (fun x y z => (q x y (by omega) (by omega) (by omega) (by omega) (by omega))), fun n hn => (q _ _ (by omega) (by omega) (by omega) (by omega) (by omega)).trans ((s6 z).2.2 n hn)⟩, fun z => z.elim⟩ (upA_eq _ _ _ _) (fun x y z => (q x y (by omega) (by omega) (by omega) (by omega) (by omega)))
        · skip
          exact absurd ((upA_ne (by omega)).trans (upA_eq _ _ _ _)) h175
    · skip
      exact absurd (upA_eq _ _ _ _) h148
  · skip
    omega
theorem c_M_back_cnt {γ : Tz} (hW : WX S Pn T) (hs : γ.1 ≤ 48) (hR : RN Pn T g γ) (h15 : g (2 * T + 269) 15 = 1) (hP : P (.inl (some (iV (kcG γ γ.1 : Int)))) (S, g, u)) : ∀ (m k : Nat) (x3 x4 : Option aA), γ.1 - k < m → k ≤ γ.1 → aw l E M_back d 163 [some (rV (2 * T + 269)), some (iV (kcG γ k : Int)), some (iV (k : Int)), x3, x4, none, none] [] (S, g, u) P := by
  intro m
  have e16 := hR.2.2.2.2
  induction m with
  | zero => intro k x3 x4 h; omega
  | succ m ih =>
    intro k x3 x4 hm hk
    have hkc := kcG_le γ k
    have eg : k < γ.1 → g (2 * T + 282) k = tf (γ.2.2.2.2.2 k) := fun h => hR.2.2.2.1 k h
    refine aw_il2 M_back_163 ?_
    refine aw_al0 M_back_164 ?_
    refine aw_gi M_back_165 (wx_o4 hW) ?_
    refine aw_cge M_back_168 (fun h168 => ?_) (fun h168 => ?_)
    · skip
      have e : k = γ.1 := by omega
      subst e
      refine aw_il1 M_back_201 ?_
      exact aw_reti M_back_202 (Or.inl rfl) hP
    · skip
      refine aw_al0 M_back_171 ?_
      refine aw_gi M_back_172 (wx_o4 hW) ?_
      refine aw_zeq M_back_175 (fun h175 => ?_) (fun h175 => ?_)
      · skip
        omega
      · skip
        refine aw_al0 M_back_178 ?_
        refine aw_gr (wx_r4_20 hW) M_back_179 (wx_o4 hW) ?_
        refine aw_il2 M_back_182 ?_
        refine aw_za M_back_183 (wx_a_mgiven hW) (by first | rfl | assumption) (by omega) ?_
        rw [eg (by omega)]
        refine aw_zeq M_back_184 (fun h184 => ?_) (fun h184 => ?_)
        · skip
          refine aw_il1 M_back_191 ?_
          refine aw_c M_back_192 ?_
          refine aw_add M_back_193 (by constructor <;> omega) ?_
          refine aw_is1 M_back_194 ?_
          refine aw_ip2 M_back_195 (by omega) ?_
          refine aw_go M_back_198 ?_
          have hk2 := ih (k + 1) x3 x4 (by omega) (by omega)
          rw [show kcG γ (k + 1) = kcG γ k + 1 from by show kcG γ k + cI (γ.2.2.2.2.2 k) 0 1 = _; rw [cI_n (iz h184)]] at hk2
          exact hk2
        · skip
          refine aw_il1 M_back_187 ?_
          refine aw_go M_back_188 ?_
          refine aw_is1 M_back_194 ?_
          refine aw_ip2 M_back_195 (by omega) ?_
          refine aw_go M_back_198 ?_
          have hk2 := ih (k + 1) x3 x4 (by omega) (by omega)
          rw [show kcG γ (k + 1) = kcG γ k from by show kcG γ k + cI (γ.2.2.2.2.2 k) 0 1 = _; rw [cI_p (nz h184)]; rfl] at hk2
          exact hk2
theorem c_M_back_1 {k : Int} {x2 x3 x4 : Option aA} {g' : aG} (hW : WX S Pn T) (hS : MS Pn T g nd gv fs wn pr fi tm gm) (h0 : (gtG Pn T nd gv wn 48).1 = true → ∀ g', MS Pn T g' nd gv fs wn pr fi tm True → g' (2 * T + 269) 0 = 0 → FM T g g' → P (.inl (some (iV (kcG (gtG Pn T nd gv wn 48).2 (gtG Pn T nd gv wn 48).2.1 : Int)))) (S, g', u)) (h1 : (gtG Pn T nd gv wn 48).1 = false → ∀ g', MS Pn T g' nd gv fs wn pr fi tm False → g' (2 * T + 269) 0 = 1 → FM T g g' → P (.inl (some (iV 0))) (S, g', u)) (hF : FQ T g g') (hR : RN Pn T g' (gtG Pn T nd gv wn 48).2) (hs : (gtG Pn T nd gv wn 48).2.1 ≤ 48) (hf : (gtG Pn T nd gv wn 48).1 = true) : aw l E M_back (d + 2) 125 [some (rV (2 * T + 269)), some (iV (k : Int)), x2, x3, x4, none, none] [] (S, g', u) P := by
  obtain ⟨s1, s2, s3, s4, s5, s6, s7⟩ := hS
  have h16 := hR.2.2.2.2
  refine aw_al0 M_back_125 ?_
  refine aw_al0 M_back_126 ?_
  refine aw_gi M_back_127 (wx_o4 hW) ?_
  refine aw_c M_back_130 ?_
  refine aw_cgt M_back_132 (fun h132 => ?_) (fun h132 => ?_)
  · skip
    omega
  · skip
    refine aw_c M_back_135 ?_
    refine aw_go M_back_136 ?_
    refine aw_pz M_back_140 (wx_o4 hW) (by first | exact Or.inl rfl | exact Or.inr rfl | assumption) ?_
    refine aw_al0 M_back_143 ?_
    refine aw_al0 M_back_144 ?_
    refine aw_gi M_back_145 (wx_o4 hW) ?_
    refine aw_zeq M_back_148 (fun h148 => ?_) (fun h148 => ?_)
    · skip
      exact absurd (h148.symm.trans (upA_eq _ _ _ _)) (by decide)
    · skip
      refine aw_c M_back_151 ?_
      refine aw_go M_back_152 ?_
      refine aw_pi M_back_156 (wx_o4 hW) ?_
      refine aw_c M_back_159 ?_
      refine aw_is1 M_back_160 ?_
      refine aw_c M_back_161 ?_
      refine aw_is2 M_back_162 ?_
      have q : ∀ x y, ¬ (x = 2 * T + 269 ∧ (y = 0 ∨ y = 15 ∨ y = 16)) → x ≠ 2 * T + 279 → x ≠ 2 * T + 280 → x ≠ 2 * T + 281 → x ≠ 2 * T + 282 → (upA (upA g' (2 * T + 269) 15 1) (2 * T + 269) 0 0) x y = g x y := fun x y z1 z2 z3 z4 z5 => by
        rw [upA_ne (by omega), upA_ne (by omega)]; exact hF x y z2 z3 z4 z5 (by omega)
      have q2 : ∀ x y, ¬ (x = 2 * T + 269 ∧ (y = 0 ∨ y = 15)) → (upA (upA g' (2 * T + 269) 15 1) (2 * T + 269) 0 0) x y = g' x y := fun x y z => by
        rw [upA_ne (by omega), upA_ne (by omega)]
      have hRe : RN Pn T (upA (upA g' (2 * T + 269) 15 1) (2 * T + 269) 0 0) (gtG Pn T nd gv wn 48).2 := RN_fr hR (fun x y z => q2 x y (by omega))
      exact c_M_back_cnt hW hs hRe ((upA_ne (by omega)).trans (upA_eq _ _ _ _)) (h0 hf _ ⟨NM_fr s1 (fun x y z => (q x y (by omega) (by omega) (by omega) (by omega) (by omega))), fun p hp => ⟨(q _ _ (by omega) (by omega) (by omega) (by omega) (by omega)).trans (s2 p hp).1, (q _ _ (by omega) (by omega) (by omega) (by omega) (by omega)).trans (s2 p hp).2⟩, (q _ _ (by omega) (by omega) (by omega) (by omega) (by omega)).trans s3, (q _ _ (by omega) (by omega) (by omega) (by omega) (by omega)).trans s4, ((upA_ne (by omega)).trans (upA_eq _ _ _ _)).trans (cI_p trivial).symm, fun z => ⟨(s6 z).1, RM_fr (s6 z).2.1 (fun x y z => (q x y (by omega) (by omega) (by omega) (by omega) (by omega))), fun n hn => (q _ _ (by omega) (by omega) (by omega) (by omega) (by omega)).trans ((s6 z).2.2 n hn)⟩, fun z => ⟨hf, hRe⟩⟩ (upA_eq _ _ _ _) (fun x y z => (q x y (by omega) (by omega) (by omega) (by omega) (by omega)))) ((gtG Pn T nd gv wn 48).2.1 + 1) 0 _ _ (by omega) (by omega)
theorem c_M_back_in {k : Nat} {γ : Tz} (hW : WX S Pn T) (hN : NM Pn T g nd gv fs) (hB : BX Pn T nd gv fs) (hw : WG Pn γ) (hk : k < γ.1)
    (h0 : (bkG Pn nd gv γ k T).1 = true → ∀ g' x2 x3 x4, RN Pn T g' (bkG Pn nd gv γ k T).2 → FQ T g g' → aw l E M_back (d + 2) 50 [some (rV (2 * T + 269)), some (iV (k + 1 : Int)), x2, x3, x4, none, none] [] (S, g', u) P)
    (h1 : (bkG Pn nd gv γ k T).1 = false → ∀ g' x2 x3 x4, FQ T g g' → g' (2 * T + 269) 16 = 49 → aw l E M_back (d + 2) 50 [some (rV (2 * T + 269)), some (iV (k + 1 : Int)), x2, x3, x4, none, none] [] (S, g', u) P) : ∀ (m t : Nat) (g' : aG) (x4 : Option aA), T - t < m → t ≤ T → (bkG Pn nd gv γ k t).1 = true → RN Pn T g' (bkG Pn nd gv γ k t).2 → FQ T g g' → aw l E M_back (d + 2) 84 [some (rV (2 * T + 269)), some (iV (k : Int)), some (iV 1), some (iV (t : Int)), x4, none, none] [] (S, g', u) P := by
  intro m
  have hp6 := wx_P hW
  have hT8 := wx_T hW
  induction m with
  | zero => intro t g' x4 h; omega
  | succ m ih =>
    intro t g' x4 hm ht hok hR hF
    obtain ⟨hwb, hsb⟩ := WG_bk (P := Pn) (nd := nd) (gv := gv) (γ := γ) (n := k) hw hk t (fun s hs p hp => ⟨(hB.1 s (by omega) p hp).1, (hB.1 s (by omega) p hp).2.1⟩) (fun s hs p hp => ⟨(hB.1 s (by omega) p hp).2.2.1, (hB.1 s (by omega) p hp).2.2.2⟩)
    have h2b := hwb.2.1
    have hs1 := hw.2.1
    have hN' := NM_FQ hN hF
    have e2 : g' (2 * T + 269) 2 = (T : Int) := hN'.2.1
    have e16 : g' (2 * T + 269) 16 = ((bkG Pn nd gv γ k t).2.1 : Int) := hR.2.2.2.2
    refine aw_il3 M_back_84 ?_
    refine aw_al0 M_back_85 ?_
    refine aw_gi M_back_86 (wx_o4 hW) ?_
    refine aw_cge M_back_89 (fun h89 => ?_) (fun h89 => ?_)
    · skip
      have e : t = T := by omega
      subst e
      refine aw_ip1 M_back_119 (by omega) ?_
      refine aw_go M_back_122 ?_
      exact h0 hok g' _ _ _ hR hF
    · skip
      refine aw_il2 M_back_92 ?_
      refine aw_zeq M_back_93 (fun h93 => ?_) (fun h93 => ?_)
      · skip
        exact absurd h93 (by decide)
      · skip
        refine aw_al0 M_back_96 ?_
        refine aw_gi M_back_97 (wx_o4 hW) ?_
        refine aw_c M_back_100 ?_
        refine aw_cgt M_back_102 (fun h102 => ?_) (fun h102 => ?_)
        · skip
          omega
        · skip
          refine aw_al0 M_back_105 ?_
          refine aw_il1 M_back_106 ?_
          refine aw_il3 M_back_107 ?_
          refine aw_V2 M_back_108 rfl rfl rfl rfl (wx_o4 hW) ?_
          refine c_M_makeGoal (d := d) hW hN' hB hwb hR (by omega) (by omega) (fun hkn g2 hR2 hF2 => ?_) (fun hkn g2 hR2 hF2 => ?_)
          · have e : bkG Pn nd gv γ k (t + 1) = bkG Pn nd gv γ k t := cI_n (fun z => z.2 hkn)
            refine aw_is4 M_back_111 ?_
            refine aw_ip3 M_back_113 (by omega) ?_
            refine aw_go M_back_116 ?_
            exact ih (t + 1) g2 _ (by omega) (by omega) (by rw [e]; exact hok) (by rw [e]; exact hR2) (hF.tr hF2)
          · refine aw_is4 M_back_111 ?_
            refine aw_ip3 M_back_113 (by omega) ?_
            refine aw_go M_back_116 ?_
            have hF3 := hF.tr hF2
            by_cases hs : (bkG Pn nd gv γ k t).2.1 = 48
            · have e : bkG Pn nd gv γ k (t + 1) = (false, (bkG Pn nd gv γ k t).2) := (cI_p ⟨hok, hkn⟩).trans (cI_p hs)
              have hf : (bkG Pn nd gv γ k (t + 1)).1 = false := by rw [e]
              have hff : (bkG Pn nd gv γ k T).1 = false := by
                have h9 := bk_false (P := Pn) (nd := nd) (gv := gv) (τ := γ) (n := k) (k := t + 1) hf (T - (t + 1))
                rw [show t + 1 + (T - (t + 1)) = T by omega] at h9
                rw [h9]; exact hf
              have e49 : g2 (2 * T + 269) 16 = 49 := hR2.2.2.2.2.trans (show (((bkG Pn nd gv γ k t).2.1 + 1 : Nat) : Int) = 49 by omega)
              have e2b : g2 (2 * T + 269) 2 = (T : Int) := (NM_FQ hN hF3).2.1
              have hq : aw l E M_back (d + 2) 119 [some (rV (2 * T + 269)), some (iV (k : Int)), some (iV 1), some (iV ((t : Int) + 1)), some (iV 1), none, none] [] (S, g2, u) P := by
                refine aw_ip1 M_back_119 (by omega) ?_
                refine aw_go M_back_122 ?_
                exact h1 hff g2 _ _ _ hF3 e49
              refine aw_il3 M_back_84 ?_
              refine aw_al0 M_back_85 ?_
              refine aw_gi M_back_86 (wx_o4 hW) ?_
              refine aw_cge M_back_89 (fun q89 => ?_) (fun q89 => ?_)
              · skip
                exact hq
              · skip
                refine aw_il2 M_back_92 ?_
                refine aw_zeq M_back_93 (fun q93 => ?_) (fun q93 => ?_)
                · skip
                  exact hq
                · skip
                  refine aw_al0 M_back_96 ?_
                  refine aw_gi M_back_97 (wx_o4 hW) ?_
                  refine aw_c M_back_100 ?_
                  refine aw_cgt M_back_102 (fun q102 => ?_) (fun q102 => ?_)
                  · skip
                    exact hq
                  · skip
                    omega
            · have e : bkG Pn nd gv γ k (t + 1) = (true, adG Pn (bkG Pn nd gv γ k t).2 k t (cdG nd gv (bkG Pn nd gv γ k t).2 k t)) := (cI_p ⟨hok, hkn⟩).trans (cI_n hs)
              exact ih (t + 1) g2 _ (by omega) (by omega) (by rw [e]) (by rw [e]; exact hR2) hF3
theorem c_M_back_lp (hW : WX S Pn T) (hS : MS Pn T g nd gv fs wn pr fi tm gm) (hB : BX Pn T nd gv fs) (hwn : ∀ p, p < Pn → 0 ≤ wn p ∧ wn p ≤ 100) (h0 : (gtG Pn T nd gv wn 48).1 = true → ∀ g', MS Pn T g' nd gv fs wn pr fi tm True → g' (2 * T + 269) 0 = 0 → FM T g g' → P (.inl (some (iV (kcG (gtG Pn T nd gv wn 48).2 (gtG Pn T nd gv wn 48).2.1 : Int)))) (S, g', u)) (h1 : (gtG Pn T nd gv wn 48).1 = false → ∀ g', MS Pn T g' nd gv fs wn pr fi tm False → g' (2 * T + 269) 0 = 1 → FM T g g' → P (.inl (some (iV 0))) (S, g', u)) : ∀ (m k : Nat) (g' : aG) (x2 x3 x4 : Option aA), 49 - k < m → k ≤ 48 → (gtG Pn T nd gv wn k).1 = true → RN Pn T g' (gtG Pn T nd gv wn k).2 → FQ T g g' → aw l E M_back (d + 2) 50 [some (rV (2 * T + 269)), some (iV (k : Int)), x2, x3, x4, none, none] [] (S, g', u) P := by
  intro m
  have hp6 := wx_P hW
  have hT8 := wx_T hW
  have hwg : ∀ k, WG Pn (gtG Pn T nd gv wn k).2 := BX_wg hB hwn
  induction m with
  | zero => intro k g' x2 x3 x4 h; omega
  | succ m ih =>
    intro k g' x2 x3 x4 hm hk hok hR hF
    have hw := hwg k
    have hw2 := hw.2.1
    have hN' := NM_FQ hS.1 hF
    have e2 : g' (2 * T + 269) 2 = (T : Int) := hN'.2.1
    have e16 : g' (2 * T + 269) 16 = ((gtG Pn T nd gv wn k).2.1 : Int) := hR.2.2.2.2
    have eg : k < (gtG Pn T nd gv wn k).2.1 → g' (2 * T + 282) k = tf ((gtG Pn T nd gv wn k).2.2.2.2.2.2 k) := fun h => hR.2.2.2.1 k h
    refine aw_il1 M_back_50 ?_
    refine aw_al0 M_back_51 ?_
    refine aw_gi M_back_52 (wx_o4 hW) ?_
    refine aw_cge M_back_55 (fun h55 => ?_) (fun h55 => ?_)
    · skip
      have e : gtG Pn T nd gv wn 48 = gtG Pn T nd gv wn k := by
        have h9 := gt_false (P := Pn) (T := T) (nd := nd) (gv := gv) (wn := wn) (k := k) (Or.inr (by omega)) (48 - k)
        rw [show k + (48 - k) = 48 by omega] at h9
        exact h9
      exact c_M_back_1 hW hS h0 h1 hF (by rw [e]; exact hR) (by rw [e]; exact hw2) (by rw [e]; exact hok)
    · skip
      refine aw_al0 M_back_58 ?_
      refine aw_gi M_back_59 (wx_o4 hW) ?_
      refine aw_c M_back_62 ?_
      refine aw_cgt M_back_64 (fun h64 => ?_) (fun h64 => ?_)
      · skip
        omega
      · skip
        refine aw_al0 M_back_67 ?_
        refine aw_gr (wx_r4_20 hW) M_back_68 (wx_o4 hW) ?_
        refine aw_il1 M_back_71 ?_
        refine aw_za M_back_72 (wx_a_mgiven hW) (by first | rfl | assumption) (by omega) ?_
        rw [eg (by omega)]
        refine aw_zne M_back_73 (fun h73 => ?_) (fun h73 => ?_)
        · skip
          refine aw_c M_back_80 ?_
          refine aw_is2 M_back_81 ?_
          refine aw_c M_back_82 ?_
          refine aw_is3 M_back_83 ?_
          have hr : (gtG Pn T nd gv wn k).2.2.2.2.2.2 k := nz h73
          have e : gtG Pn T nd gv wn (k + 1) = gtG Pn T nd gv wn k := cI_n (fun z => z.2.2 hr)
          have hq : aw l E M_back (d + 2) 119 [some (rV (2 * T + 269)), some (iV (k : Int)), some (iV 0), some (iV ((0 : Nat) : Int)), x4, none, none] [] (S, g', u) P := by
            refine aw_ip1 M_back_119 (by omega) ?_
            refine aw_go M_back_122 ?_
            exact ih (k + 1) g' _ _ _ (by omega) (by omega) (by rw [e]; exact hok) (by rw [e]; exact hR) hF
          refine aw_il3 M_back_84 ?_
          refine aw_al0 M_back_85 ?_
          refine aw_gi M_back_86 (wx_o4 hW) ?_
          refine aw_cge M_back_89 (fun q89 => ?_) (fun q89 => ?_)
          · skip
            exact hq
          · skip
            refine aw_il2 M_back_92 ?_
            refine aw_zeq M_back_93 (fun q93 => ?_) (fun q93 => ?_)
            · skip
              exact hq
            · skip
              exact absurd rfl q93
        · skip
          refine aw_c M_back_76 ?_
          refine aw_go M_back_77 ?_
          refine aw_is2 M_back_81 ?_
          refine aw_c M_back_82 ?_
          refine aw_is3 M_back_83 ?_
          have hr : ¬ (gtG Pn T nd gv wn k).2.2.2.2.2.2 k := iz h73
          have e : gtG Pn T nd gv wn (k + 1) = bkG Pn nd gv (gtG Pn T nd gv wn k).2 k T := cI_p ⟨hok, by omega, hr⟩
          refine c_M_back_in (d := d) (γ := (gtG Pn T nd gv wn k).2) hW hN' hB hw (by omega) (fun ht g2 y2 y3 y4 hR2 hF2 => ?_) (fun ht g2 y2 y3 y4 hF2 h49 => ?_) (T + 1) 0 g' _ (by omega) (by omega) rfl hR (fun x y _ _ _ _ _ => rfl)
          · exact ih (k + 1) g2 _ _ _ (by omega) (by omega) (by rw [e]; exact ht) (by rw [e]; exact hR2) (hF.tr hF2)
          · have hfa : (gtG Pn T nd gv wn (k + 1)).1 = false := by rw [e]; exact ht
            have e2 : gtG Pn T nd gv wn 48 = gtG Pn T nd gv wn (k + 1) := by
              have h9 := gt_false (P := Pn) (T := T) (nd := nd) (gv := gv) (wn := wn) (k := k + 1) (Or.inl hfa) (48 - (k + 1))
              rw [show k + 1 + (48 - (k + 1)) = 48 by omega] at h9
              exact h9
            have hq : aw l E M_back (d + 2) 125 [some (rV (2 * T + 269)), some (iV (k + 1 : Int)), y2, y3, y4, none, none] [] (S, g2, u) P := c_M_back_0 hW hS h0 h1 (hF.tr hF2) h49 (by rw [e2]; exact hfa)
            refine aw_il1 M_back_50 ?_
            refine aw_al0 M_back_51 ?_
            refine aw_gi M_back_52 (wx_o4 hW) ?_
            refine aw_cge M_back_55 (fun q55 => ?_) (fun q55 => ?_)
            · skip
              exact hq
            · skip
              refine aw_al0 M_back_58 ?_
              refine aw_gi M_back_59 (wx_o4 hW) ?_
              refine aw_c M_back_62 ?_
              refine aw_cgt M_back_64 (fun q64 => ?_) (fun q64 => ?_)
              · skip
                exact hq
              · skip
                omega
theorem c_M_back_in0 (hW : WX S Pn T) (hS : MS Pn T g nd gv fs wn pr fi tm gm) (hB : BX Pn T nd gv fs) (hwn : ∀ p, p < Pn → 0 ≤ wn p ∧ wn p ≤ 100) (h0 : (gtG Pn T nd gv wn 48).1 = true → ∀ g', MS Pn T g' nd gv fs wn pr fi tm True → g' (2 * T + 269) 0 = 0 → FM T g g' → P (.inl (some (iV (kcG (gtG Pn T nd gv wn 48).2 (gtG Pn T nd gv wn 48).2.1 : Int)))) (S, g', u)) (h1 : (gtG Pn T nd gv wn 48).1 = false → ∀ g', MS Pn T g' nd gv fs wn pr fi tm False → g' (2 * T + 269) 0 = 1 → FM T g g' → P (.inl (some (iV 0))) (S, g', u)) : ∀ (m p : Nat) (g' : aG), Pn - p < m → p ≤ Pn → FQ T g g' → g' (2 * T + 269) 16 = 1 → g' (2 * T + 280) 0 = -2 → g' (2 * T + 282) 0 = 0 → (∀ r, r < p → g' (2 * T + 279) r = wn r) → aw l E M_back (d + 2) 22 [some (rV (2 * T + 269)), some (iV (p : Int)), none, none, none, none, none] [] (S, g', u) P := by
  intro m
  have hp6 := wx_P hW
  have hT8 := wx_T hW
  induction m with
  | zero => intro p g' h; omega
  | succ m ih =>
    intro p g' hm hp hF a1 a2 a3 a4
    have hN' := NM_FQ hS.1 hF
    have e1 := hN'.1
    have e2 : p < Pn → g' (2 * T + 273) p = wn p := fun h => (hF _ _ (by omega) (by omega) (by omega) (by omega) (by omega)).trans (hS.2.1 p h).1
    refine aw_il1 M_back_22 ?_
    refine aw_al0 M_back_23 ?_
    refine aw_gi M_back_24 (wx_o4 hW) ?_
    refine aw_cge M_back_27 (fun h27 => ?_) (fun h27 => ?_)
    · skip
      refine aw_c M_back_48 ?_
      refine aw_is1 M_back_49 ?_
      have e : p = Pn := by omega
      subst e
      exact c_M_back_lp hW hS hB hwn h0 h1 50 0 g' none none none (by omega) (by omega) rfl ⟨fun n hn r hr => by
        have hn' : n < 1 := hn
        rw [show n = 0 by omega, show 6 * 0 + r = r by omega]; exact a4 r hr, a2, fun n z1 z2 => by
        have hn' : n < 1 := z2
        omega, fun n z2 => by
        have hn' : n < 1 := z2
        rw [show n = 0 by omega, a3]; exact (cI_n id).symm, a1⟩ hF
    · skip
      refine aw_al0 M_back_30 ?_
      refine aw_gr (wx_r4_17 hW) M_back_31 (wx_o4 hW) ?_
      refine aw_il1 M_back_34 ?_
      refine aw_al0 M_back_35 ?_
      refine aw_gr (wx_r4_6 hW) M_back_36 (wx_o4 hW) ?_
      refine aw_il1 M_back_39 ?_
      refine aw_ia M_back_40 (wx_a_mwanted hW) (by first | rfl | assumption) (by omega) ?_
      rw [e2 (by omega)]
      refine aw_iast M_back_41 (wx_a_mgoalMarks hW) (by first | rfl | assumption) (by omega) ?_
      refine aw_ip1 M_back_42 (by omega) ?_
      refine aw_go M_back_45 ?_
      refine ih (p + 1) _ (by omega) (by omega) (hF.tr (fun x y z1 z2 z3 z4 z5 => upA_ne (fun z => z1 z.1))) ((upA_ne (by omega)).trans a1) ((upA_ne (by omega)).trans a2) ((upA_ne (by omega)).trans a3) (fun r hr => ?_)
      by_cases e : r = p
      · rw [e, upA_eq]
      · rw [upA_ne (by omega)]; exact a4 r (by omega)
theorem c_M_back (hW : WX S Pn T) (hS : MS Pn T g nd gv fs wn pr fi tm gm) (hB : BX Pn T nd gv fs) (hwn : ∀ p, p < Pn → 0 ≤ wn p ∧ wn p ≤ 100) (h0 : (gtG Pn T nd gv wn 48).1 = true → ∀ g', MS Pn T g' nd gv fs wn pr fi tm True → g' (2 * T + 269) 0 = 0 → FM T g g' → P (.inl (some (iV (kcG (gtG Pn T nd gv wn 48).2 (gtG Pn T nd gv wn 48).2.1 : Int)))) (S, g', u)) (h1 : (gtG Pn T nd gv wn 48).1 = false → ∀ g', MS Pn T g' nd gv fs wn pr fi tm False → g' (2 * T + 269) 0 = 1 → FM T g g' → P (.inl (some (iV 0))) (S, g', u)) : Sp l E M_back (d + 2) [rV (2 * T + 269)] (S, g, u) P := by
  show aw l E M_back (d + 2) 0 [some (rV (2 * T + 269)), none, none, none, none, none, none] [] (S, g, u) P
  refine aw_al0 M_back_0 ?_
  refine aw_c M_back_1 ?_
  refine aw_pi M_back_2 (wx_o4 hW) ?_
  refine aw_al0 M_back_5 ?_
  refine aw_gr (wx_r4_20 hW) M_back_6 (wx_o4 hW) ?_
  refine aw_c M_back_9 ?_
  refine aw_c M_back_10 ?_
  refine aw_zast M_back_11 (wx_a_mgiven hW) (show (0 : Int) = ((0 : Nat) : Int) from rfl) (by omega) (by first | exact Or.inl rfl | exact Or.inr rfl | assumption) ?_
  refine aw_al0 M_back_12 ?_
  refine aw_gr (wx_r4_18 hW) M_back_13 (wx_o4 hW) ?_
  refine aw_c M_back_16 ?_
  refine aw_c M_back_17 ?_
  refine aw_iast M_back_19 (wx_a_mgoalParents hW) (show (0 : Int) = ((0 : Nat) : Int) from rfl) (by omega) ?_
  refine aw_c M_back_20 ?_
  refine aw_is1 M_back_21 ?_
  refine c_M_back_in0 hW hS hB hwn h0 h1 (Pn + 1) 0 _ (by omega) (by omega) (fun x y z1 z2 z3 z4 z5 => ?_) ?_ ?_ ?_ (fun r hr => absurd hr (Nat.not_lt_zero r))
  · rw [upA_ne (by omega), upA_ne (by omega), upA_ne (by omega)]
  · rw [upA_ne (by omega), upA_ne (by omega), upA_eq]
  · rw [upA_eq]
  · rw [upA_ne (by omega), upA_eq]
end NG
