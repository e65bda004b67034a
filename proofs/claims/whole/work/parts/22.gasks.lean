section MH
variable {l : Launch} {E : aE} {d : Nat} {S : aS} {g : aG} {u : aU} {P : aP} {Pn T : Nat}
theorem c_keptCount_lp {γ : Tz} (hW : WX S Pn T) (hs : γ.1 ≤ 48) (hR : RG Pn T g γ) (hP : P (.inl (some (iV (kcG γ γ.1 : Int)))) (S, g, u)) : ∀ (m k : Nat), γ.1 - k < m → k ≤ γ.1 → aw l E G_keptCount d 4 [some (rV (2 * T + 212)), some (iV (kcG γ k : Int)), some (iV (k : Int)), none, none, none, none] [] (S, g, u) P := by
  intro m
  have hsz : g (2 * T + 212) 7 = (γ.1 : Int) := hR.2.2.2.2
  induction m with
  | zero => intro k h; omega
  | succ m ih =>
    intro k hm hk
    have hkc := kcG_le γ k
    have hgu : k < γ.1 → g (2 * T + 216) k = tf (γ.2.2.2.2.2 k) := fun h => hR.2.2.2.1 k h
    refine aw_il2 G_keptCount_4 ?_
    refine aw_al0 G_keptCount_5 ?_
    refine aw_gi G_keptCount_6 (wx_o0 hW) ?_
    refine aw_cge G_keptCount_9 (fun h9 => ?_) (fun h9 => ?_)
    · skip
      refine aw_il1 G_keptCount_30 ?_
      refine aw_reti G_keptCount_31 (Or.inl rfl) ?_
      have e : k = γ.1 := by omega
      subst e
      exact hP
    · skip
      refine aw_al0 G_keptCount_12 ?_
      refine aw_gr (wx_r0_5 hW) G_keptCount_13 (wx_o0 hW) ?_
      refine aw_il2 G_keptCount_16 ?_
      refine aw_za G_keptCount_17 (wx_a_ggiv hW) (by first | rfl | assumption) (by omega) ?_
      rw [hgu (by omega)]
      refine aw_zne G_keptCount_18 (fun h18 => ?_) (fun h18 => ?_)
      · skip
        refine aw_ip2 G_keptCount_24 (by omega) ?_
        refine aw_go G_keptCount_27 ?_
        have e : kcG γ (k + 1) = kcG γ k := by
          show kcG γ k + cI (γ.2.2.2.2.2 k) 0 1 = _
          rw [cI_p (nz h18)]; rfl
        have hk2 := ih (k + 1) (by omega) (by omega)
        rw [e] at hk2
        exact hk2
      · skip
        refine aw_ip1 G_keptCount_21 (by omega) ?_
        refine aw_ip2 G_keptCount_24 (by omega) ?_
        refine aw_go G_keptCount_27 ?_
        have e : kcG γ (k + 1) = kcG γ k + 1 := by
          show kcG γ k + cI (γ.2.2.2.2.2 k) 0 1 = _
          rw [cI_n (iz h18)]
        have hk2 := ih (k + 1) (by omega) (by omega)
        rw [e] at hk2
        exact hk2
theorem c_keptCount {γ : Tz} (hW : WX S Pn T) (hs : γ.1 ≤ 48) (hR : RG Pn T g γ) (hP : P (.inl (some (iV (kcG γ γ.1 : Int)))) (S, g, u)) : Sp l E G_keptCount d [rV (2 * T + 212)] (S, g, u) P := by
  show aw l E G_keptCount d 0 [some (rV (2 * T + 212)), none, none, none, none, none, none] [] (S, g, u) P
  refine aw_c G_keptCount_0 ?_
  refine aw_is1 G_keptCount_1 ?_
  refine aw_c G_keptCount_2 ?_
  refine aw_is2 G_keptCount_3 ?_
  exact c_keptCount_lp hW hs hR hP (γ.1 + 1) 0 (by omega) (by omega)
theorem c_kept_lp {x : Int} {γ : Tz} (hW : WX S Pn T) (hs : γ.1 ≤ 48) (hR : RG Pn T g γ) (hx : okI x) : ∀ (s j : Nat), j + s = γ.1 → P (.inl (some (iV (fnd (fun j => ¬ γ.2.2.2.2.2 j ∧ x = (kcG γ j : Int)) s j)))) (S, g, u) → aw l E G_kept d 4 [some (rV (2 * T + 212)), some (iV x), some (iV (wr (x - (kcG γ j : Int)))), some (iV (j : Int)), none, none, none] [] (S, g, u) P := by
  intro s
  have hsz : g (2 * T + 212) 7 = (γ.1 : Int) := hR.2.2.2.2
  induction s with
  | zero =>
    intro j hj hP
    refine aw_il3 G_kept_4 ?_
    refine aw_al0 G_kept_5 ?_
    refine aw_gi G_kept_6 (wx_o0 hW) ?_
    refine aw_cge G_kept_9 (fun h9 => ?_) (fun h9 => ?_)
    · skip
      refine aw_c G_kept_36 ?_
      refine aw_reti G_kept_38 (Or.inl rfl) ?_
      exact hP
    · skip
      omega
  | succ s ih =>
    intro j hj hP
    have hkc := kcG_le γ j
    have hgu : g (2 * T + 216) j = tf (γ.2.2.2.2.2 j) := hR.2.2.2.1 j (by omega)
    have hw0 : wr (x - (kcG γ j : Int)) = 0 ↔ x - (kcG γ j : Int) = 0 := wr_0 (by omega) (by omega)
    refine aw_il3 G_kept_4 ?_
    refine aw_al0 G_kept_5 ?_
    refine aw_gi G_kept_6 (wx_o0 hW) ?_
    refine aw_cge G_kept_9 (fun h9 => ?_) (fun h9 => ?_)
    · skip
      omega
    · skip
      refine aw_al0 G_kept_12 ?_
      refine aw_gr (wx_r0_5 hW) G_kept_13 (wx_o0 hW) ?_
      refine aw_il3 G_kept_16 ?_
      refine aw_za G_kept_17 (wx_a_ggiv hW) (by first | rfl | assumption) (by omega) ?_
      rw [hgu]
      refine aw_zne G_kept_18 (fun h18 => ?_) (fun h18 => ?_)
      · skip
        refine aw_ip3 G_kept_30 (by omega) ?_
        refine aw_go G_kept_33 ?_
        have e : kcG γ (j + 1) = kcG γ j := by
          show kcG γ j + cI (γ.2.2.2.2.2 j) 0 1 = _
          rw [cI_p (nz h18)]; rfl
        rw [show fnd (fun j => ¬ γ.2.2.2.2.2 j ∧ x = (kcG γ j : Int)) (s + 1) j = fnd (fun j => ¬ γ.2.2.2.2.2 j ∧ x = (kcG γ j : Int)) s (j + 1) from cI_n (fun z => z.1 (nz h18))] at hP
        have hk2 := ih (j + 1) (by omega) hP
        rw [e] at hk2
        exact hk2
      · skip
        refine aw_il2 G_kept_21 ?_
        refine aw_zne G_kept_22 (fun h22 => ?_) (fun h22 => ?_)
        · skip
          refine aw_inw2 G_kept_27 ?_
          refine aw_ip3 G_kept_30 (by omega) ?_
          refine aw_go G_kept_33 ?_
          have e : kcG γ (j + 1) = kcG γ j + 1 := by
            show kcG γ j + cI (γ.2.2.2.2.2 j) 0 1 = _
            rw [cI_n (iz h18)]
          rw [show fnd (fun j => ¬ γ.2.2.2.2.2 j ∧ x = (kcG γ j : Int)) (s + 1) j = fnd (fun j => ¬ γ.2.2.2.2.2 j ∧ x = (kcG γ j : Int)) s (j + 1) from cI_n (fun z => h22 (hw0.mpr (by have := z.2; omega)))] at hP
          have hk2 := ih (j + 1) (by omega) hP
          rw [e, show x - ((kcG γ j + 1 : Nat) : Int) = x - (kcG γ j : Int) - 1 by omega, ← wr_s] at hk2
          exact hk2
        · skip
          refine aw_il3 G_kept_25 ?_
          refine aw_reti G_kept_26 (Or.inl rfl) ?_
          rw [show fnd (fun j => ¬ γ.2.2.2.2.2 j ∧ x = (kcG γ j : Int)) (s + 1) j = (j : Int) from cI_p ⟨iz h18, by have := hw0.mp h22; omega⟩] at hP
          exact hP
theorem c_kept {x : Int} {γ : Tz} (hW : WX S Pn T) (hs : γ.1 ≤ 48) (hR : RG Pn T g γ) (hx : okI x) (hP : P (.inl (some (iV (fnd (fun j => ¬ γ.2.2.2.2.2 j ∧ x = (kcG γ j : Int)) γ.1 0)))) (S, g, u)) : Sp l E G_kept d [rV (2 * T + 212), iV x] (S, g, u) P := by
  show aw l E G_kept d 0 [some (rV (2 * T + 212)), some (iV x), none, none, none, none, none] [] (S, g, u) P
  refine aw_il1 G_kept_0 ?_
  refine aw_is2 G_kept_1 ?_
  refine aw_c G_kept_2 ?_
  refine aw_is3 G_kept_3 ?_
  have hk := c_kept_lp (l := l) (E := E) (d := d) (u := u) hW hs hR hx γ.1 0 (by omega) hP
  rw [show x - (kcG γ 0 : Int) = x by show x - 0 = x; omega, wr_id hx] at hk
  exact hk
theorem c_firstBelow_lp {i : Nat} {γ : Tz} {f : Nat → Int} (hW : WX S Pn T) (hs : γ.1 ≤ 48) (hR : RG Pn T g γ) (hi : hasA S i 0 Pn) (hf : ∀ p, p < Pn → g i p = f p) : ∀ (s j : Nat), j + s = γ.1 → P (.inl (some (iV (fnd (fun j => bl Pn (γ.2.1 j) f) s j)))) (S, g, u) → aw l E G_firstBelow (d + 1) 2 [some (rV (2 * T + 212)), some (rV i), some (iV (j : Int)), none, none, none, none] [] (S, g, u) P := by
  intro s
  have hp6 := wx_P hW
  have hsz : g (2 * T + 212) 7 = (γ.1 : Int) := hR.2.2.2.2
  induction s with
  | zero =>
    intro j hj hP
    refine aw_il2 G_firstBelow_2 ?_
    refine aw_al0 G_firstBelow_3 ?_
    refine aw_gi G_firstBelow_4 (wx_o0 hW) ?_
    refine aw_cge G_firstBelow_7 (fun h7 => ?_) (fun h7 => ?_)
    · skip
      refine aw_c G_firstBelow_31 ?_
      refine aw_reti G_firstBelow_33 (Or.inl rfl) ?_
      exact hP
    · skip
      omega
  | succ s ih =>
    intro j hj hP
    have hb : bl Pn (g (2 * T + 218 + j)) (g i) ↔ bl Pn (γ.2.1 j) f := blC (hR.1 j (by omega)) hf
    refine aw_il2 G_firstBelow_2 ?_
    refine aw_al0 G_firstBelow_3 ?_
    refine aw_gi G_firstBelow_4 (wx_o0 hW) ?_
    refine aw_cge G_firstBelow_7 (fun h7 => ?_) (fun h7 => ?_)
    · skip
      omega
    · skip
      refine aw_al0 G_firstBelow_10 ?_
      refine aw_gr (wx_r0_1 hW) G_firstBelow_11 (wx_o0 hW) ?_
      refine aw_il2 G_firstBelow_14 ?_
      refine aw_aa G_firstBelow_15 (wx_a_gmarks hW) (by first | rfl | assumption) (by omega) (wx_rr_gmarks hW (by omega)) ?_
      refine aw_al1 G_firstBelow_16 ?_
      refine aw_S2 G_firstBelow_17 rfl rfl rfl rfl ?_
      refine c_isBelow (wx_ra_gmarks hW (by omega)) hi (by omega) ?_
      show aw _ _ _ _ _ _ _ _ _
      refine aw_zeq G_firstBelow_20 (fun h20 => ?_) (fun h20 => ?_)
      · skip
        refine aw_ip2 G_firstBelow_25 (by omega) ?_
        refine aw_go G_firstBelow_28 ?_
        rw [show fnd (fun j => bl Pn (γ.2.1 j) f) (s + 1) j = fnd (fun j => bl Pn (γ.2.1 j) f) s (j + 1) from cI_n (fun z => iz h20 (hb.mpr z))] at hP
        exact ih (j + 1) (by omega) hP
      · skip
        refine aw_il2 G_firstBelow_23 ?_
        refine aw_reti G_firstBelow_24 (Or.inl rfl) ?_
        rw [show fnd (fun j => bl Pn (γ.2.1 j) f) (s + 1) j = (j : Int) from cI_p (hb.mp (nz h20))] at hP
        exact hP
theorem c_firstBelow {i : Nat} {γ : Tz} {f : Nat → Int} (hW : WX S Pn T) (hs : γ.1 ≤ 48) (hR : RG Pn T g γ) (hi : hasA S i 0 Pn) (hf : ∀ p, p < Pn → g i p = f p) (hP : P (.inl (some (iV (fnd (fun j => bl Pn (γ.2.1 j) f) γ.1 0)))) (S, g, u)) : Sp l E G_firstBelow (d + 1) [rV (2 * T + 212), rV i] (S, g, u) P := by
  show aw l E G_firstBelow (d + 1) 0 [some (rV (2 * T + 212)), some (rV i), none, none, none, none, none] [] (S, g, u) P
  refine aw_c G_firstBelow_0 ?_
  refine aw_is2 G_firstBelow_1 ?_
  exact c_firstBelow_lp hW hs hR hi hf γ.1 0 (by omega) hP
theorem c_stepFrom_lp {n i : Nat} {γ : Tz} (hW : WX S Pn T) (hw : WG Pn γ) (hR : RG Pn T g γ) (hi : i ≤ 1000) {v : Nat} (hP : P (.inl (some (iV (v : Int)))) (S, g, u)) : ∀ (r b s : Nat), s + r = i → b < γ.1 → r < γ.2.2.2.2.1 b → γ.2.2.2.1 (upT γ.2.2.1 r b) = v → aw l E G_stepFrom d 5 [some (rV (2 * T + 212)), some (iV (n : Int)), some (iV (i : Int)), some (iV (b : Int)), some (iV (s : Int)), none, none] [] (S, g, u) P := by
  intro r
  have ht2 := hw.2.1
  induction r with
  | zero =>
    intro b s hs hb hd hv
    have hb0 : 0 < b := by
      rcases Nat.eq_zero_or_pos b with z | z
      · rw [z, hw.2.2.1] at hd; omega
      · exact z
    refine aw_il4 G_stepFrom_5 ?_
    refine aw_il2 G_stepFrom_7 ?_
    refine aw_cge G_stepFrom_8 (fun h8 => ?_) (fun h8 => ?_)
    · skip
      refine aw_al0 G_stepFrom_24 ?_
      refine aw_gr (wx_r0_3 hW) G_stepFrom_25 (wx_o0 hW) ?_
      refine aw_il3 G_stepFrom_28 ?_
      refine aw_ia G_stepFrom_29 (wx_a_gtra hW) (by first | rfl | assumption) (by omega) ?_
      refine aw_reti G_stepFrom_30 (Or.inl rfl) ?_
      rw [(hR.2.1 b hb0 hb).2, show γ.2.2.2.1 b = v from hv]
      exact hP
    · skip
      omega
  | succ r ih =>
    intro b s hs hb hd hv
    have hb0 : 0 < b := by
      rcases Nat.eq_zero_or_pos b with z | z
      · rw [z, hw.2.2.1] at hd; omega
      · exact z
    obtain ⟨z1, z2⟩ := hw.2.2.2.1 b hb0 hb
    have e6 := (hR.2.1 b hb0 hb).1
    refine aw_il4 G_stepFrom_5 ?_
    refine aw_il2 G_stepFrom_7 ?_
    refine aw_cge G_stepFrom_8 (fun h8 => ?_) (fun h8 => ?_)
    · skip
      omega
    · skip
      refine aw_al0 G_stepFrom_11 ?_
      refine aw_gr (wx_r0_2 hW) G_stepFrom_12 (wx_o0 hW) ?_
      refine aw_il3 G_stepFrom_15 ?_
      refine aw_ia G_stepFrom_16 (wx_a_gnex hW) (by first | rfl | assumption) (by omega) ?_
      refine aw_is3 G_stepFrom_17 ?_
      refine aw_ip4 G_stepFrom_18 (by omega) ?_
      refine aw_go G_stepFrom_21 ?_
      rw [e6]
      exact ih (γ.2.2.1 b) (s + 1) (by omega) (by omega) (by omega) hv
theorem c_stepFrom {n i : Nat} {γ : Tz} (hW : WX S Pn T) (hw : WG Pn γ) (hR : RG Pn T g γ) (hn : n < γ.1) (hi : i < γ.2.2.2.2.1 n) (hP : P (.inl (some (iV (γ.2.2.2.1 (upT γ.2.2.1 i n) : Int)))) (S, g, u)) : Sp l E G_stepFrom d [rV (2 * T + 212), iV (n : Int), iV (i : Int)] (S, g, u) P := by
  have ht2 := hw.2.1
  have hdn := WG_dp hw n hn
  show aw l E G_stepFrom d 0 [some (rV (2 * T + 212)), some (iV (n : Int)), some (iV (i : Int)), none, none, none, none] [] (S, g, u) P
  refine aw_il1 G_stepFrom_0 ?_
  refine aw_is3 G_stepFrom_1 ?_
  refine aw_c G_stepFrom_2 ?_
  refine aw_is4 G_stepFrom_3 ?_
  exact c_stepFrom_lp hW hw hR (by omega) hP i n 0 (by omega) hn hi rfl
end MH
