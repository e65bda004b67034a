section MO
variable {l : Launch} {E : aE} {d : Nat} {S : aS} {g : aG} {u : aU} {P : aP} {Pn T : Nat} {nd gv : Nat → Nat → Int} {fs wn pr : Nat → Int} {fi : Nat} {tm gm : Prop} {a b : Nat}
/-- the class's object holds these -/
def XS (Pn T : Nat) (g : aG) (nd gv : Nat → Nat → Int) (fs wn pr : Nat → Int) (fi : Nat) (tm gm : Prop) : Prop :=
  NX Pn T g nd gv fs ∧ BX Pn T nd gv fs ∧ (∀ p, p < Pn → g (2 * T + 267) p = wn p ∧ 0 ≤ wn p ∧ wn p ≤ 100) ∧ (∀ p, p < Pn → g (2 * T + 268) p = pr p ∧ 0 ≤ pr p ∧ pr p ≤ 100 + 9 * fi) ∧ g 0 5 = (fi : Int) ∧ g (2 * T + 5) 9 = tf tm ∧ g (2 * T + 212) 8 = tf gm ∧
  (tm → (grT Pn T nd gv fs 200).1 = true ∧ TX Pn T g (grT Pn T nd gv fs 200).2) ∧ (gm → (gtG Pn T nd gv wn 48).1 = true ∧ RG Pn T g (gtG Pn T nd gv wn 48).2)
/-- the class's cells alone have changed -/
def FX (T : Nat) (g g' : aG) : Prop := ∀ x y, 2 * T + 269 ≤ x → g' x y = g x y
def up1 (f : Nat → Int) (p : Nat) (x : Int) : Nat → Int := fun r => if r = p then x else f r
theorem TX_fr {g' : aG} {τ : Tz} (h : TX Pn T g τ) (hg : ∀ x y, 2 * T + 5 ≤ x → x < 2 * T + 212 → ¬ (x = 2 * T + 5 ∧ y = 9) → g' x y = g x y) (hs : τ.1 ≤ 200) : TX Pn T g' τ := by
  obtain ⟨⟨r1, r2, r3, r4, r5, r6⟩, h2, h3, h4⟩ := h
  refine ⟨⟨fun n hn p hp => (hg _ _ (by omega) (by omega) (by omega)).trans (r1 n hn p hp), (hg _ _ (by omega) (by omega) (by omega)).trans r2, (hg _ _ (by omega) (by omega) (by omega)).trans r3, fun n h0 hn => ?_, fun n hn => (hg _ _ (by omega) (by omega) (by omega)).trans (r5 n hn), (hg _ _ (by omega) (by omega) (by omega)).trans r6⟩, fun n hn => (hg _ _ (by omega) (by omega) (by omega)).trans (h2 n hn), (hg _ _ (by omega) (by omega) (by omega)).trans h3, fun v hv hv2 => (hg _ _ (by omega) (by omega) (by omega)).trans (h4 v hv hv2)⟩
  obtain ⟨z1, z2⟩ := r4 n h0 hn
  exact ⟨(hg _ _ (by omega) (by omega) (by omega)).trans z1, (hg _ _ (by omega) (by omega) (by omega)).trans z2⟩
theorem RG_fr {g' : aG} {γ : Tz} (h : RG Pn T g γ) (hg : ∀ x y, 2 * T + 212 ≤ x → x < 2 * T + 267 → ¬ (x = 2 * T + 212 ∧ y = 8) → g' x y = g x y) (hs : γ.1 ≤ 48) : RG Pn T g' γ := by
  obtain ⟨r1, r2, r3, r4, r5⟩ := h
  refine ⟨fun k hk p hp => (hg _ _ (by omega) (by omega) (by omega)).trans (r1 k hk p hp), fun k h0 hk => ?_, fun k hk => (hg _ _ (by omega) (by omega) (by omega)).trans (r3 k hk), fun k hk => (hg _ _ (by omega) (by omega) (by omega)).trans (r4 k hk), (hg _ _ (by omega) (by omega) (by omega)).trans r5⟩
  obtain ⟨z1, z2⟩ := r2 k h0 hk
  exact ⟨(hg _ _ (by omega) (by omega) (by omega)).trans z1, (hg _ _ (by omega) (by omega) (by omega)).trans z2⟩
theorem BX_wt (hB : BX Pn T nd gv fs) (k : Nat) : WT Pn (grT Pn T nd gv fs k).2 := WT_gr hB.2 (fun t ht p hp => (hB.1 t ht p hp).1) (fun t ht p hp => ⟨(hB.1 t ht p hp).2.2.1, (hB.1 t ht p hp).2.2.2⟩) k
theorem BX_wg (hB : BX Pn T nd gv fs) (hw : ∀ p, p < Pn → 0 ≤ wn p ∧ wn p ≤ 100) (k : Nat) : WG Pn (gtG Pn T nd gv wn k).2 := WG_gt hw (fun t ht p hp => ⟨(hB.1 t ht p hp).1, (hB.1 t ht p hp).2.1⟩) (fun t ht p hp => ⟨(hB.1 t ht p hp).2.2.1, (hB.1 t ht p hp).2.2.2⟩) k
theorem XS_lo {g' : aG} (h : XS Pn T g nd gv fs wn pr fi tm gm) (hT : 1 ≤ T) (hg : ∀ x y, x < 2 * T + 269 → g' x y = g x y) : XS Pn T g' nd gv fs wn pr fi tm gm := by
  obtain ⟨h1, h2, h3, h4, h5, h6, h7, h8, h9⟩ := h
  refine ⟨NX_lo h1 hT (fun x y h => hg x y (by omega)), h2, fun p hp => ⟨(hg _ _ (by omega)).trans (h3 p hp).1, (h3 p hp).2⟩, fun p hp => ⟨(hg _ _ (by omega)).trans (h4 p hp).1, (h4 p hp).2⟩, (hg _ _ (by omega)).trans h5, (hg _ _ (by omega)).trans h6, (hg _ _ (by omega)).trans h7, fun z => ⟨(h8 z).1, TX_fr (h8 z).2 (fun x y a1 a2 _ => hg x y (by omega)) (BX_wt h2 200).2.1⟩, fun z => ⟨(h9 z).1, RG_fr (h9 z).2 (fun x y a1 a2 _ => hg x y (by omega)) (BX_wg h2 (fun p hp => (h3 p hp).2) 48).2.1⟩⟩
theorem fnd_spec (c : Nat → Prop) : ∀ s k, (fnd c s k = -2 ∧ ∀ j, k ≤ j → j < k + s → ¬ c j) ∨ ∃ j, k ≤ j ∧ j < k + s ∧ c j ∧ fnd c s k = (j : Int) ∧ ∀ i, k ≤ i → i < j → ¬ c i
  | 0, k => Or.inl ⟨rfl, fun j h1 h2 => by omega⟩
  | s + 1, k => by
    by_cases hc : c k
    · exact Or.inr ⟨k, Nat.le_refl _, by omega, hc, cI_p hc, fun i h1 h2 => by omega⟩
    · have e : fnd c (s + 1) k = fnd c s (k + 1) := cI_n hc
      rw [e]
      rcases fnd_spec c s (k + 1) with ⟨h1, h2⟩ | ⟨j, h1, h2, h3, h4, h5⟩
      · refine Or.inl ⟨h1, fun j h3 h4 => ?_⟩
        by_cases ej : j = k
        · rw [ej]; exact hc
        · exact h2 j (by omega) (by omega)
      · refine Or.inr ⟨j, by omega, by omega, h3, h4, fun i h6 h7 => ?_⟩
        by_cases ej : i = k
        · rw [ej]; exact hc
        · exact h5 i (by omega) h7
theorem ctT_ex (P : Nat) (τ : Tz) (k : Nat) : ∀ s, k < ctT P τ s → ∃ v, v < s ∧ tpT P τ v ∧ ctT P τ v = k
  | 0, h => by have h' : k < 0 := h; omega
  | s + 1, h => by
    have h' : k < ctT P τ s + cI (tpT P τ s) 1 0 := h
    by_cases hlt : k < ctT P τ s
    · obtain ⟨v, h1, h2, h3⟩ := ctT_ex P τ k s hlt
      exact ⟨v, by omega, h2, h3⟩
    · by_cases ht : tpT P τ s
      · rw [cI_p ht] at h'
        exact ⟨s, by omega, ht, by omega⟩
      · rw [cI_n ht] at h'
        omega
theorem c_checkTransition {i : Int} (hW : WX S Pn T) (hX : XS Pn T g nd gv fs wn pr fi tm gm) (ha : 1 ≤ a) (hb : 6 ≤ b) (hd : 6 ≤ d) (h1 : 0 ≤ i → i < (T : Int) → P (.inl none) (S, g, a, b, false)) (h2 : ¬ (0 ≤ i ∧ i < (T : Int)) → P (.inr xIO) (S, g, a - 1, b - 6, false)) : Sp l E O_checkTransition (d + 1) [rV 0, iV i] (S, g, a, b, false) P := by
  have e := hX.1.2.1
  show aw l E O_checkTransition (d + 1) 0 [some (rV 0), some (iV i), none, none, none, none, none] [] (S, g, a, b, false) P
  refine aw_il1 O_checkTransition_0 ?_
  refine aw_al0 O_checkTransition_1 ?_
  refine aw_gr (wx_r3_0 hW) O_checkTransition_2 (wx_o3 hW) ?_
  refine aw_gi O_checkTransition_5 (wx_o1 hW) ?_
  refine aw_S2 O_checkTransition_8 rfl rfl rfl rfl ?_
  refine c_checkIndex hd ha hb (fun k1 k2 => ?_) (fun k3 => h2 (by rw [e] at k3; exact k3))
  show aw _ _ _ _ _ _ _ _ _
  refine aw_retv O_checkTransition_11 rfl ?_
  exact h1 k1 (by rw [e] at k2; exact k2)
theorem c_checkPlace {i : Int} (hW : WX S Pn T) (hX : XS Pn T g nd gv fs wn pr fi tm gm) (ha : 1 ≤ a) (hb : 6 ≤ b) (hd : 6 ≤ d) (h1 : 0 ≤ i → i < (Pn : Int) → P (.inl none) (S, g, a, b, false)) (h2 : ¬ (0 ≤ i ∧ i < (Pn : Int)) → P (.inr xIO) (S, g, a - 1, b - 6, false)) : Sp l E O_checkPlace (d + 1) [rV 0, iV i] (S, g, a, b, false) P := by
  have e := hX.1.1
  show aw l E O_checkPlace (d + 1) 0 [some (rV 0), some (iV i), none, none, none, none, none] [] (S, g, a, b, false) P
  refine aw_il1 O_checkPlace_0 ?_
  refine aw_al0 O_checkPlace_1 ?_
  refine aw_gr (wx_r3_0 hW) O_checkPlace_2 (wx_o3 hW) ?_
  refine aw_gi O_checkPlace_5 (wx_o1 hW) ?_
  refine aw_S2 O_checkPlace_8 rfl rfl rfl rfl ?_
  refine c_checkIndex hd ha hb (fun k1 k2 => ?_) (fun k3 => h2 (by rw [e] at k3; exact k3))
  show aw _ _ _ _ _ _ _ _ _
  refine aw_retv O_checkPlace_11 rfl ?_
  exact h1 k1 (by rw [e] at k2; exact k2)
theorem c_checkNode {i : Int} {sz : Nat} (hW : WX S Pn T) (hsz : g (2 * T + 5) 7 = (sz : Int)) (ha : 1 ≤ a) (hb : 6 ≤ b) (hd : 6 ≤ d) (h1 : 0 ≤ i → i < (sz : Int) → P (.inl none) (S, g, a, b, false)) (h2 : ¬ (0 ≤ i ∧ i < (sz : Int)) → P (.inr xIO) (S, g, a - 1, b - 6, false)) : Sp l E O_checkNode (d + 1) [rV 0, iV i] (S, g, a, b, false) P := by
  show aw l E O_checkNode (d + 1) 0 [some (rV 0), some (iV i), none, none, none, none, none] [] (S, g, a, b, false) P
  refine aw_il1 O_checkNode_0 ?_
  refine aw_al0 O_checkNode_1 ?_
  refine aw_gr (wx_r3_1 hW) O_checkNode_2 (wx_o3 hW) ?_
  refine aw_gi O_checkNode_5 (wx_o2 hW) ?_
  refine aw_S2 O_checkNode_8 rfl rfl rfl rfl ?_
  refine c_checkIndex hd ha hb (fun k1 k2 => ?_) (fun k3 => h2 (by rw [hsz] at k3; exact k3))
  show aw _ _ _ _ _ _ _ _ _
  refine aw_retv O_checkNode_11 rfl ?_
  exact h1 k1 (by rw [hsz] at k2; exact k2)
theorem c_checkTree (hW : WX S Pn T) (hX : XS Pn T g nd gv fs wn pr fi tm gm) (ha : 1 ≤ a) (hb : 6 ≤ b) (hd : 6 ≤ d) (h1 : tm → P (.inl none) (S, g, a, b, false)) (h2 : ¬ tm → P (.inr xIS) (S, g, a - 1, b - 6, false)) : Sp l E O_checkTree d [rV 0] (S, g, a, b, false) P := by
  have e := hX.2.2.2.2.2.1
  show aw l E O_checkTree d 0 [some (rV 0), none, none, none, none, none, none] [] (S, g, a, b, false) P
  refine aw_al0 O_checkTree_0 ?_
  refine aw_gr (wx_r3_1 hW) O_checkTree_1 (wx_o3 hW) ?_
  refine aw_gi O_checkTree_4 (wx_o2 hW) ?_
  rw [e]
  refine aw_zne O_checkTree_7 (fun h7 => ?_) (fun h7 => ?_)
  · skip
    refine aw_retv O_checkTree_20 rfl ?_
    exact h1 (nz h7)
  · skip
    refine aw_throw O_checkTree_10 (by omega) (Nat.le_of_ble_eq_true rfl) (by omega) (by omega) ?_
    exact h2 (iz h7)
theorem c_checkGoals (hW : WX S Pn T) (hX : XS Pn T g nd gv fs wn pr fi tm gm) (ha : 1 ≤ a) (hb : 6 ≤ b) (hd : 6 ≤ d) (h1 : gm → P (.inl none) (S, g, a, b, false)) (h2 : ¬ gm → P (.inr xIS) (S, g, a - 1, b - 6, false)) : Sp l E O_checkGoals d [rV 0] (S, g, a, b, false) P := by
  have e := hX.2.2.2.2.2.2.1
  show aw l E O_checkGoals d 0 [some (rV 0), none, none, none, none, none, none] [] (S, g, a, b, false) P
  refine aw_al0 O_checkGoals_0 ?_
  refine aw_gr (wx_r3_2 hW) O_checkGoals_1 (wx_o3 hW) ?_
  refine aw_gi O_checkGoals_4 (wx_o0 hW) ?_
  rw [e]
  refine aw_zne O_checkGoals_7 (fun h7 => ?_) (fun h7 => ?_)
  · skip
    refine aw_retv O_checkGoals_20 rfl ?_
    exact h1 (nz h7)
  · skip
    refine aw_throw O_checkGoals_10 (by omega) (Nat.le_of_ble_eq_true rfl) (by omega) (by omega) ?_
    exact h2 (iz h7)
theorem c_forget (hW : WX S Pn T) (hP : P (.inl none) (S, upA (upA g (2 * T + 5) 9 0) (2 * T + 212) 8 0, u)) : Sp l E O_forgetTreeAndGoals d [rV 0] (S, g, u) P := by
  show aw l E O_forgetTreeAndGoals d 0 [some (rV 0), none, none, none, none, none, none] [] (S, g, u) P
  refine aw_al0 O_forgetTreeAndGoals_0 ?_
  refine aw_gr (wx_r3_1 hW) O_forgetTreeAndGoals_1 (wx_o3 hW) ?_
  refine aw_c O_forgetTreeAndGoals_4 ?_
  refine aw_pz O_forgetTreeAndGoals_5 (wx_o2 hW) (by first | exact Or.inl rfl | exact Or.inr rfl | assumption) ?_
  refine aw_al0 O_forgetTreeAndGoals_8 ?_
  refine aw_gr (wx_r3_2 hW) O_forgetTreeAndGoals_9 (wx_o3 hW) ?_
  refine aw_c O_forgetTreeAndGoals_12 ?_
  refine aw_pz O_forgetTreeAndGoals_13 (wx_o0 hW) (by first | exact Or.inl rfl | exact Or.inr rfl | assumption) ?_
  refine aw_retv O_forgetTreeAndGoals_16 rfl ?_
  exact hP
theorem c_returnToStart (hW : WX S Pn T) (h10 : g 1 0 = (Pn : Int)) (hd : 1 ≤ d) (hP : P (.inl none) (S, upA (cpA g (2 * T + 4) (2 * T + 268) Pn) 0 5 0, a, b, false)) : Sp l E O_returnToStart d [rV 0] (S, g, a, b, false) P := by
  show aw l E O_returnToStart d 0 [some (rV 0), none, none, none, none, none, none] [] (S, g, a, b, false) P
  refine aw_al0 O_returnToStart_0 ?_
  refine aw_gr (wx_r3_0 hW) O_returnToStart_1 (wx_o3 hW) ?_
  refine aw_gr (wx_r1_4 hW) O_returnToStart_4 (wx_o1 hW) ?_
  refine aw_c O_returnToStart_7 ?_
  refine aw_al0 O_returnToStart_8 ?_
  refine aw_gr (wx_r3_4 hW) O_returnToStart_9 (wx_o3 hW) ?_
  refine aw_c O_returnToStart_12 ?_
  refine aw_al0 O_returnToStart_13 ?_
  refine aw_gr (wx_r3_0 hW) O_returnToStart_14 (wx_o3 hW) ?_
  refine aw_gi O_returnToStart_17 (wx_o1 hW) ?_
  refine aw_cp O_returnToStart_20 (by omega) rfl (wx_a_first hW) (wx_a_xpre hW) h10 (Nat.le_refl _) (Nat.le_refl _) ?_
  refine aw_al0 O_returnToStart_23 ?_
  refine aw_c O_returnToStart_24 ?_
  refine aw_pi O_returnToStart_25 (wx_o3 hW) ?_
  refine aw_retv O_returnToStart_28 rfl ?_
  exact hP
theorem c_arc {t p nn ng : Int} (hW : WX S Pn T) (hX : XS Pn T g nd gv fs wn pr fi tm gm) (ha : 1 ≤ a) (hb : 6 ≤ b)
    (h0 : ∀ t' p' : Nat, t = (t' : Int) → p = (p' : Int) → t' < T → p' < Pn → 0 ≤ nn → nn ≤ 9 → 0 ≤ ng → ng ≤ 9 → ∀ g', XS Pn T g' (upA nd t' p' nn) (upA gv t' p' ng) fs wn pr fi False False → FX T g g' → P (.inl (some (iV (ng - nn)))) (S, g', a, b, false))
    (h1 : ¬ (0 ≤ t ∧ t < (T : Int)) ∨ ¬ (0 ≤ p ∧ p < (Pn : Int)) → P (.inr xIO) (S, g, a - 1, b - 6, false)) (h2 : (0 ≤ t ∧ t < (T : Int)) → (0 ≤ p ∧ p < (Pn : Int)) → ¬ (0 ≤ nn ∧ nn ≤ 9) ∨ ¬ (0 ≤ ng ∧ ng ≤ 9) → P (.inr xIA) (S, g, a - 1, b - 6, false)) : Sp l E O_arc 10 [rV 0, iV t, iV p, iV nn, iV ng] (S, g, a, b, false) P := by
  have hT8 := wx_T hW
  have hp6 := wx_P hW
  show aw l E O_arc 10 0 [some (rV 0), some (iV t), some (iV p), some (iV nn), some (iV ng), none, none] [] (S, g, a, b, false) P
  refine aw_al0 O_arc_0 ?_
  refine aw_il1 O_arc_1 ?_
  refine aw_V1 O_arc_2 rfl rfl rfl (wx_o3 hW) ?_
  refine c_checkTransition hW hX ha hb (by omega) (fun k1 k2 => ?_) (fun k => h1 (Or.inl k))
  show aw _ _ _ _ _ _ _ _ _
  refine aw_al0 O_arc_5 ?_
  refine aw_il2 O_arc_6 ?_
  refine aw_V1 O_arc_7 rfl rfl rfl (wx_o3 hW) ?_
  refine c_checkPlace hW hX ha hb (by omega) (fun k3 k4 => ?_) (fun k => h1 (Or.inr k))
  show aw _ _ _ _ _ _ _ _ _
  refine aw_il3 O_arc_10 ?_
  refine aw_c O_arc_11 ?_
  refine aw_S2 O_arc_13 rfl rfl rfl rfl ?_
  refine c_checkNumber (by omega) ha hb (fun k5 k6 => ?_) (fun k => h2 ⟨k1, k2⟩ ⟨k3, k4⟩ (Or.inl k))
  show aw _ _ _ _ _ _ _ _ _
  refine aw_il4 O_arc_16 ?_
  refine aw_c O_arc_18 ?_
  refine aw_S2 O_arc_20 rfl rfl rfl rfl ?_
  refine c_checkNumber (by omega) ha hb (fun k7 k8 => ?_) (fun k => h2 ⟨k1, k2⟩ ⟨k3, k4⟩ (Or.inr k))
  show aw _ _ _ _ _ _ _ _ _
  obtain ⟨t', rfl⟩ := Int.eq_ofNat_of_zero_le k1
  obtain ⟨p', rfl⟩ := Int.eq_ofNat_of_zero_le k3
  refine aw_al0 O_arc_23 ?_
  refine aw_gr (wx_r3_0 hW) O_arc_24 (wx_o3 hW) ?_
  refine aw_gr (wx_r1_2 hW) O_arc_27 (wx_o1 hW) ?_
  refine aw_il1 O_arc_30 ?_
  refine aw_aa O_arc_31 (wx_a_needs hW) (by first | rfl | assumption) (by omega) (wx_rr_needs hW (by omega)) ?_
  refine aw_il2 O_arc_32 ?_
  refine aw_il3 O_arc_33 ?_
  refine aw_iast O_arc_34 (wx_ra_needs hW (by omega)) (by first | rfl | assumption) (by omega) ?_
  refine aw_al0 O_arc_35 ?_
  refine aw_gr (wx_r3_0 hW) O_arc_36 (wx_o3 hW) ?_
  refine aw_gr (wx_r1_3 hW) O_arc_39 (wx_o1 hW) ?_
  refine aw_il1 O_arc_42 ?_
  refine aw_aa O_arc_43 (wx_a_gives hW) (by first | rfl | assumption) (by omega) (wx_rr_gives hW (by omega)) ?_
  refine aw_il2 O_arc_44 ?_
  refine aw_il4 O_arc_45 ?_
  refine aw_iast O_arc_47 (wx_ra_gives hW (by omega)) (by first | rfl | assumption) (by omega) ?_
  refine aw_al0 O_arc_48 ?_
  refine aw_V0 O_arc_49 rfl rfl (wx_o3 hW) ?_
  refine c_forget hW ?_
  show aw _ _ _ _ _ _ _ _ _
  refine aw_il4 O_arc_52 ?_
  refine aw_il3 O_arc_54 ?_
  refine aw_sub O_arc_55 (by constructor <;> omega) ?_
  refine aw_reti O_arc_56 (Or.inl rfl) ?_
  obtain ⟨x1, x2, x3, x4, x5, x6, x7, x8, x9⟩ := hX
  refine h0 t' p' rfl rfl (by omega) (by omega) k5 k6 k7 k8 _ ⟨⟨?_, ?_, fun s hs r hr => ?_, fun r hr => ?_⟩, ⟨fun s hs r hr => ?_, x2.2⟩, fun r hr => ?_, fun r hr => ?_, ?_, ?_, ?_, fun z => z.elim, fun z => z.elim⟩ (fun x y h => ?_)
  · rw [upA_ne (by omega), upA_ne (by omega), upA_ne (by omega), upA_ne (by omega)]; exact x1.1
  · rw [upA_ne (by omega), upA_ne (by omega), upA_ne (by omega), upA_ne (by omega)]; exact x1.2.1
  · obtain ⟨z1, z2⟩ := x1.2.2.1 s hs r hr
    by_cases e : s = t' ∧ r = p'
    · obtain ⟨rfl, rfl⟩ := e
      constructor
      · rw [upA_ne (by omega), upA_ne (by omega), upA_ne (by omega), upA_eq, upA_eq]
      · rw [upA_ne (by omega), upA_ne (by omega), upA_eq, upA_eq]
    · constructor
      · rw [upA_ne (by omega), upA_ne (by omega), upA_ne (by omega), upA_ne (by omega), upA_ne e]; exact z1
      · rw [upA_ne (by omega), upA_ne (by omega), upA_ne (by omega), upA_ne (by omega), upA_ne e]; exact z2
  · rw [upA_ne (by omega), upA_ne (by omega), upA_ne (by omega), upA_ne (by omega)]; exact x1.2.2.2 r hr
  · have z := x2.1 s hs r hr
    by_cases e : s = t' ∧ r = p'
    · obtain ⟨rfl, rfl⟩ := e
      rw [upA_eq, upA_eq]
      omega
    · rw [upA_ne e, upA_ne e]
      exact z
  · rw [upA_ne (by omega), upA_ne (by omega), upA_ne (by omega), upA_ne (by omega)]; exact x3 r hr
  · rw [upA_ne (by omega), upA_ne (by omega), upA_ne (by omega), upA_ne (by omega)]; exact x4 r hr
  · rw [upA_ne (by omega), upA_ne (by omega), upA_ne (by omega), upA_ne (by omega)]; exact x5
  · rw [upA_ne (by omega), upA_eq]; exact (cI_n id).symm
  · rw [upA_eq]; exact (cI_n id).symm
  · rw [upA_ne (by omega), upA_ne (by omega), upA_ne (by omega), upA_ne (by omega)]
end MO
