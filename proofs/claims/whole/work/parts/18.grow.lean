section MV
variable {l : Launch} {E : aE} {d : Nat} {S : aS} {g : aG} {u : aU} {P : aP} {Pn T : Nat} {nd gv : Nat → Nat → Int} {fs : Nat → Int}
theorem c_Tplant {a b : Nat} (hW : WX S Pn T) (hN : NX Pn T g nd gv fs) (hB : BX Pn T nd gv fs) (hd : 1 ≤ d) (hP : ∀ g', RC Pn T g' (plT fs) → FT T g g' → P (.inl none) (S, g', a, b, false)) : Sp l E T_plant d [rV (2 * T + 5)] (S, g, a, b, false) P := by
  have hp6 := wx_P hW
  have hT8 := wx_T hW
  show aw l E T_plant d 0 [some (rV (2 * T + 5)), none, none, none, none, none, none] [] (S, g, a, b, false) P
  refine aw_al0 T_plant_0 ?_
  refine aw_gr (wx_r2_0 hW) T_plant_1 (wx_o2 hW) ?_
  refine aw_gr (wx_r1_4 hW) T_plant_4 (wx_o1 hW) ?_
  refine aw_c T_plant_7 ?_
  refine aw_al0 T_plant_8 ?_
  refine aw_gr (wx_r2_1 hW) T_plant_9 (wx_o2 hW) ?_
  refine aw_c T_plant_12 ?_
  refine aw_aa T_plant_13 (wx_a_tmarks hW) (show (0 : Int) = ((0 : Nat) : Int) from rfl) (by omega) (wx_rr_tmarks hW (by omega)) ?_
  refine aw_c T_plant_14 ?_
  refine aw_al0 T_plant_15 ?_
  refine aw_gr (wx_r2_0 hW) T_plant_16 (wx_o2 hW) ?_
  refine aw_gi T_plant_19 (wx_o1 hW) ?_
  refine aw_cp T_plant_22 (by omega) rfl (wx_a_first hW) (wx_ra_tmarks hW (by omega)) hN.1 (Nat.le_refl _) (Nat.le_refl _) ?_
  refine aw_al0 T_plant_25 ?_
  refine aw_gr (wx_r2_2 hW) T_plant_26 (wx_o2 hW) ?_
  refine aw_c T_plant_29 ?_
  refine aw_c T_plant_30 ?_
  refine aw_iast T_plant_32 (wx_a_tpar hW) (show (0 : Int) = ((0 : Nat) : Int) from rfl) (by omega) ?_
  refine aw_al0 T_plant_33 ?_
  refine aw_gr (wx_r2_3 hW) T_plant_34 (wx_o2 hW) ?_
  refine aw_c T_plant_37 ?_
  refine aw_c T_plant_38 ?_
  refine aw_iast T_plant_40 (wx_a_ttra hW) (show (0 : Int) = ((0 : Nat) : Int) from rfl) (by omega) ?_
  refine aw_al0 T_plant_41 ?_
  refine aw_gr (wx_r2_4 hW) T_plant_42 (wx_o2 hW) ?_
  refine aw_c T_plant_45 ?_
  refine aw_c T_plant_46 ?_
  refine aw_iast T_plant_47 (wx_a_tdep hW) (show (0 : Int) = ((0 : Nat) : Int) from rfl) (by omega) ?_
  refine aw_al0 T_plant_48 ?_
  refine aw_c T_plant_49 ?_
  refine aw_pi T_plant_50 (wx_o2 hW) ?_
  refine aw_retv T_plant_53 rfl ?_
  refine hP _ ⟨fun n hn p hp => ?_, ?_, ?_, fun n h0 hn => ?_, fun n hn => ?_, ?_⟩ (fun c e hce => ?_)
  · have hn' : n < 1 := hn
    rw [upA_ne (by omega), upA_ne (by omega), upA_ne (by omega), upA_ne (by omega), show n = 0 by omega]
    exact (if_pos ⟨rfl, hp⟩).trans (hN.2.2.2 p hp)
  · rw [upA_ne (by omega), upA_ne (by omega), upA_ne (by omega), upA_eq]
  · rw [upA_ne (by omega), upA_ne (by omega), upA_eq]
  · have hn' : n < 1 := hn
    omega
  · have hn' : n < 1 := hn
    rw [upA_ne (by omega), show n = 0 by omega, upA_eq]; rfl
  · rw [upA_eq]; rfl
  · rw [upA_ne (by omega), upA_ne (by omega), upA_ne (by omega), upA_ne (by omega)]
    exact if_neg (by omega)
/-- a node that no other is above (of like ones the first) -/
def tpT (P : Nat) (τ : Tz) (n : Nat) : Prop := ∀ m, m < τ.1 → m ≠ n → bl P (τ.2.1 n) (τ.2.1 m) → n < m ∧ bl P (τ.2.1 m) (τ.2.1 n)
noncomputable def ctT (P : Nat) (τ : Tz) : Nat → Nat
  | 0 => 0
  | k + 1 => ctT P τ k + cI (tpT P τ k) 1 0
theorem ctT_le (P : Nat) (τ : Tz) : ∀ k, ctT P τ k ≤ k
  | 0 => Nat.le_refl _
  | k + 1 => by
    have := ctT_le P τ k
    show ctT P τ k + cI (tpT P τ k) 1 0 ≤ k + 1
    by_cases h : tpT P τ k
    · rw [cI_p h]; omega
    · rw [cI_n h]; omega
theorem c_isPeak_lp {n : Nat} {τ : Tz} (hW : WX S Pn T) (hR : RC Pn T g τ) (hs : τ.1 ≤ 200) (hn : n < τ.1) (hP : P (.inl (some (iV (tf (tpT Pn τ n))))) (S, g, u)) : ∀ (m k : Nat), τ.1 - k < m → k ≤ τ.1 → (∀ r, r < k → r ≠ n → bl Pn (τ.2.1 n) (τ.2.1 r) → n < r ∧ bl Pn (τ.2.1 r) (τ.2.1 n)) → aw l E T_isPeak (d + 1) 2 [some (rV (2 * T + 5)), some (iV (n : Int)), some (iV (k : Int)), none, none, none, none] [] (S, g, u) P ∧ ∀ x3, aw l E T_isPeak (d + 1) 2 [some (rV (2 * T + 5)), some (iV (n : Int)), some (iV (k : Int)), x3, none, none, none] [] (S, g, u) P := by
  intro m
  have hp6 := wx_P hW
  have hsz : g (2 * T + 5) 7 = (τ.1 : Int) := hR.2.2.2.2.2
  suffices h : ∀ k, τ.1 - k < m → k ≤ τ.1 → (∀ r, r < k → r ≠ n → bl Pn (τ.2.1 n) (τ.2.1 r) → n < r ∧ bl Pn (τ.2.1 r) (τ.2.1 n)) → ∀ x3, aw l E T_isPeak (d + 1) 2 [some (rV (2 * T + 5)), some (iV (n : Int)), some (iV (k : Int)), x3, none, none, none] [] (S, g, u) P from fun k a b c => ⟨h k a b c none, h k a b c⟩
  induction m with
  | zero => intro k h; omega
  | succ m ih =>
    intro k hm hk hi x3
    have hb1 : k < τ.1 → (bl Pn (g (2 * T + 12 + n)) (g (2 * T + 12 + k)) ↔ bl Pn (τ.2.1 n) (τ.2.1 k)) := fun h => blC (hR.1 n hn) (hR.1 k h)
    have hb2 : k < τ.1 → (bl Pn (g (2 * T + 12 + k)) (g (2 * T + 12 + n)) ↔ bl Pn (τ.2.1 k) (τ.2.1 n)) := fun h => blC (hR.1 k h) (hR.1 n hn)
    refine aw_il2 T_isPeak_2 ?_
    refine aw_al0 T_isPeak_3 ?_
    refine aw_gi T_isPeak_4 (wx_o2 hW) ?_
    refine aw_cge T_isPeak_7 (fun h7 => ?_) (fun h7 => ?_)
    · skip
      refine aw_c T_isPeak_74 ?_
      refine aw_reti T_isPeak_75 (Or.inr ⟨rfl, (by first | exact Or.inl rfl | exact Or.inr rfl | assumption)⟩) ?_
      rw [show tf (tpT Pn τ n) = 1 from cI_p (fun r hr => hi r (by omega))] at hP
      exact hP
    · skip
      refine aw_il2 T_isPeak_10 ?_
      refine aw_il1 T_isPeak_11 ?_
      refine aw_ceq T_isPeak_12 (fun h12 => ?_) (fun h12 => ?_)
      · skip
        refine aw_ip2 T_isPeak_68 (by omega) ?_
        refine aw_go T_isPeak_71 ?_
        exact ih (k + 1) (by omega) (by omega) (fun r hr hne hbl => by
          by_cases e : r = k
          · subst e
            omega
          · exact hi r (by omega) hne hbl) _
      · skip
        refine aw_al0 T_isPeak_15 ?_
        refine aw_gr (wx_r2_1 hW) T_isPeak_16 (wx_o2 hW) ?_
        refine aw_il1 T_isPeak_19 ?_
        refine aw_aa T_isPeak_20 (wx_a_tmarks hW) (by first | rfl | assumption) (by omega) (wx_rr_tmarks hW (by omega)) ?_
        refine aw_al0 T_isPeak_21 ?_
        refine aw_gr (wx_r2_1 hW) T_isPeak_22 (wx_o2 hW) ?_
        refine aw_il2 T_isPeak_25 ?_
        refine aw_aa T_isPeak_26 (wx_a_tmarks hW) (by first | rfl | assumption) (by omega) (wx_rr_tmarks hW (by omega)) ?_
        refine aw_S2 T_isPeak_27 rfl rfl rfl rfl ?_
        refine c_isBelow (wx_ra_tmarks hW (by omega)) (wx_ra_tmarks hW (by omega)) (by omega) ?_
        show aw _ _ _ _ _ _ _ _ _
        refine aw_zeq T_isPeak_30 (fun h30 => ?_) (fun h30 => ?_)
        · skip
          refine aw_ip2 T_isPeak_68 (by omega) ?_
          refine aw_go T_isPeak_71 ?_
          exact ih (k + 1) (by omega) (by omega) (fun r hr hne hbl => by
            by_cases e : r = k
            · subst e
              exact absurd ((hb1 (by omega)).mpr hbl) (iz h30)
            · exact hi r (by omega) hne hbl) _
        · skip
          refine aw_il2 T_isPeak_33 ?_
          refine aw_il1 T_isPeak_34 ?_
          refine aw_cle T_isPeak_35 (fun h35 => ?_) (fun h35 => ?_)
          · skip
            refine aw_c T_isPeak_60 ?_
            refine aw_is3 T_isPeak_61 ?_
            refine aw_il3 T_isPeak_62 ?_
            refine aw_zne T_isPeak_63 (fun h63 => ?_) (fun h63 => ?_)
            · skip
              refine aw_ip2 T_isPeak_68 (by omega) ?_
              refine aw_go T_isPeak_71 ?_
              exact absurd rfl h63
            · skip
              refine aw_c T_isPeak_66 ?_
              refine aw_reti T_isPeak_67 (Or.inr ⟨rfl, (by first | exact Or.inl rfl | exact Or.inr rfl | assumption)⟩) ?_
              rw [show tf (tpT Pn τ n) = 0 from cI_n (fun z => by have := (z k (by omega) (by omega) ((hb1 (by omega)).mp (nz h30))).1; omega)] at hP
              exact hP
          · skip
            refine aw_al0 T_isPeak_38 ?_
            refine aw_gr (wx_r2_1 hW) T_isPeak_39 (wx_o2 hW) ?_
            refine aw_il2 T_isPeak_42 ?_
            refine aw_aa T_isPeak_43 (wx_a_tmarks hW) (by first | rfl | assumption) (by omega) (wx_rr_tmarks hW (by omega)) ?_
            refine aw_al0 T_isPeak_44 ?_
            refine aw_gr (wx_r2_1 hW) T_isPeak_45 (wx_o2 hW) ?_
            refine aw_il1 T_isPeak_48 ?_
            refine aw_aa T_isPeak_49 (wx_a_tmarks hW) (by first | rfl | assumption) (by omega) (wx_rr_tmarks hW (by omega)) ?_
            refine aw_S2 T_isPeak_50 rfl rfl rfl rfl ?_
            refine c_isBelow (wx_ra_tmarks hW (by omega)) (wx_ra_tmarks hW (by omega)) (by omega) ?_
            show aw _ _ _ _ _ _ _ _ _
            refine aw_zeq T_isPeak_53 (fun h53 => ?_) (fun h53 => ?_)
            · skip
              refine aw_c T_isPeak_60 ?_
              refine aw_is3 T_isPeak_61 ?_
              refine aw_il3 T_isPeak_62 ?_
              refine aw_zne T_isPeak_63 (fun h63 => ?_) (fun h63 => ?_)
              · skip
                refine aw_ip2 T_isPeak_68 (by omega) ?_
                refine aw_go T_isPeak_71 ?_
                exact absurd rfl h63
              · skip
                refine aw_c T_isPeak_66 ?_
                refine aw_reti T_isPeak_67 (Or.inr ⟨rfl, (by first | exact Or.inl rfl | exact Or.inr rfl | assumption)⟩) ?_
                rw [show tf (tpT Pn τ n) = 0 from cI_n (fun z => iz h53 ((hb2 (by omega)).mpr (z k (by omega) (by omega) ((hb1 (by omega)).mp (nz h30))).2))] at hP
                exact hP
            · skip
              refine aw_c T_isPeak_56 ?_
              refine aw_go T_isPeak_57 ?_
              refine aw_is3 T_isPeak_61 ?_
              refine aw_il3 T_isPeak_62 ?_
              refine aw_zne T_isPeak_63 (fun h63 => ?_) (fun h63 => ?_)
              · skip
                refine aw_ip2 T_isPeak_68 (by omega) ?_
                refine aw_go T_isPeak_71 ?_
                exact ih (k + 1) (by omega) (by omega) (fun r hr hne hbl => by
                  by_cases e : r = k
                  · subst e
                    exact ⟨by omega, (hb2 (by omega)).mp (nz h53)⟩
                  · exact hi r (by omega) hne hbl) _
              · skip
                refine aw_c T_isPeak_66 ?_
                refine aw_reti T_isPeak_67 (Or.inr ⟨rfl, (by first | exact Or.inl rfl | exact Or.inr rfl | assumption)⟩) ?_
                omega
theorem c_isPeak {n : Nat} {τ : Tz} (hW : WX S Pn T) (hR : RC Pn T g τ) (hs : τ.1 ≤ 200) (hn : n < τ.1) (hP : P (.inl (some (iV (tf (tpT Pn τ n))))) (S, g, u)) : Sp l E T_isPeak (d + 1) [rV (2 * T + 5), iV (n : Int)] (S, g, u) P := by
  show aw l E T_isPeak (d + 1) 0 [some (rV (2 * T + 5)), some (iV (n : Int)), none, none, none, none, none] [] (S, g, u) P
  refine aw_c T_isPeak_0 ?_
  refine aw_is2 T_isPeak_1 ?_
  exact (c_isPeak_lp hW hR hs hn hP (τ.1 + 1) 0 (by omega) (by omega) (fun r hr => absurd hr (Nat.not_lt_zero r))).1
/-- nothing but the peaks has changed -/
def FP (T : Nat) (g g' : aG) : Prop := ∀ a b, ¬ (a = 2 * T + 5 ∧ b = 8) → a ≠ 2 * T + 10 → g' a b = g a b
theorem RC_FP {g' : aG} {τ : Tz} (h : RC Pn T g τ) (hF : FP T g g') : RC Pn T g' τ := by
  obtain ⟨r1, r2, r3, r4, r5, r6⟩ := h
  refine ⟨fun n hn p hp => (hF _ _ (by omega) (by omega)).trans (r1 n hn p hp), (hF _ _ (by omega) (by omega)).trans r2, (hF _ _ (by omega) (by omega)).trans r3, fun n h0 hn => ?_, fun n hn => (hF _ _ (by omega) (by omega)).trans (r5 n hn), (hF _ _ (by omega) (by omega)).trans r6⟩
  obtain ⟨z1, z2⟩ := r4 n h0 hn
  exact ⟨(hF _ _ (by omega) (by omega)).trans z1, (hF _ _ (by omega) (by omega)).trans z2⟩
def PK (Pn T : Nat) (g : aG) (τ : Tz) (k : Nat) : Prop := g (2 * T + 5) 8 = (ctT Pn τ k : Int) ∧ ∀ v, v < k → tpT Pn τ v → g (2 * T + 10) (ctT Pn τ v) = (v : Int)
theorem ctT_lt {P : Nat} {τ : Tz} {v : Nat} (hv : tpT P τ v) : ∀ k, v < k → ctT P τ v < ctT P τ k
  | 0, h => by omega
  | k + 1, h => by
    show ctT P τ v < ctT P τ k + cI (tpT P τ k) 1 0
    by_cases e : v = k
    · subst e; rw [cI_p hv]; omega
    · have := ctT_lt hv k (by omega)
      omega
theorem c_findPeaks_lp {τ : Tz} (hW : WX S Pn T) (hR : RC Pn T g τ) (hs : τ.1 ≤ 200) (hP : ∀ g', PK Pn T g' τ τ.1 → FP T g g' → P (.inl none) (S, g', u)) : ∀ (m k : Nat) (g' : aG), τ.1 - k < m → k ≤ τ.1 → PK Pn T g' τ k → FP T g g' → aw l E T_findPeaks (d + 2) 7 [some (rV (2 * T + 5)), some (iV (k : Int)), none, none, none, none, none] [] (S, g', u) P := by
  intro m
  induction m with
  | zero => intro k g' h; omega
  | succ m ih =>
    intro k g' hm hk hK hF
    have hR' := RC_FP hR hF
    have hsz : g' (2 * T + 5) 7 = (τ.1 : Int) := hR'.2.2.2.2.2
    have hct := ctT_le Pn τ k
    have h8 : g' (2 * T + 5) 8 = (ctT Pn τ k : Int) := hK.1
    refine aw_il1 T_findPeaks_7 ?_
    refine aw_al0 T_findPeaks_8 ?_
    refine aw_gi T_findPeaks_9 (wx_o2 hW) ?_
    refine aw_cge T_findPeaks_12 (fun h12 => ?_) (fun h12 => ?_)
    · skip
      refine aw_retv T_findPeaks_49 rfl ?_
      have e : k = τ.1 := by omega
      subst e
      exact hP g' hK hF
    · skip
      refine aw_al0 T_findPeaks_15 ?_
      refine aw_il1 T_findPeaks_16 ?_
      refine aw_V1 T_findPeaks_17 rfl rfl rfl (wx_o2 hW) ?_
      refine c_isPeak hW hR' hs (by omega) ?_
      show aw _ _ _ _ _ _ _ _ _
      refine aw_zeq T_findPeaks_20 (fun h20 => ?_) (fun h20 => ?_)
      · skip
        refine aw_ip1 T_findPeaks_43 (by omega) ?_
        refine aw_go T_findPeaks_46 ?_
        have hno : ¬ tpT Pn τ k := iz h20
        refine ih (k + 1) g' (by omega) (by omega) ⟨?_, fun v hv hv2 => ?_⟩ hF
        · rw [h8]
          show (ctT Pn τ k : Int) = ((ctT Pn τ k + cI (tpT Pn τ k) 1 0 : Nat) : Int)
          rw [cI_n hno]; rfl
        · exact hK.2 v (by have : v ≠ k := fun e => hno (by rw [← e]; exact hv2)
                           omega) hv2
      · skip
        refine aw_al0 T_findPeaks_23 ?_
        refine aw_gr (wx_r2_6 hW) T_findPeaks_24 (wx_o2 hW) ?_
        refine aw_al0 T_findPeaks_27 ?_
        refine aw_gi T_findPeaks_28 (wx_o2 hW) ?_
        refine aw_il1 T_findPeaks_31 ?_
        refine aw_iast T_findPeaks_32 (wx_a_tpea hW) (by first | rfl | assumption) (by omega) ?_
        have e58 : upA g' (2 * T + 10) (ctT Pn τ k) (k : Int) (2 * T + 5) 8 = (ctT Pn τ k : Int) := (upA_ne (by omega)).trans h8
        refine aw_al0 T_findPeaks_33 ?_
        refine aw_dup T_findPeaks_34 ?_
        refine aw_gi T_findPeaks_35 (wx_o2 hW) ?_
        refine aw_c T_findPeaks_38 ?_
        refine aw_add T_findPeaks_39 (by constructor <;> omega) ?_
        refine aw_pi T_findPeaks_40 (wx_o2 hW) ?_
        refine aw_ip1 T_findPeaks_43 (by omega) ?_
        refine aw_go T_findPeaks_46 ?_
        have hyes : tpT Pn τ k := nz h20
        refine ih (k + 1) _ (by omega) (by omega) ⟨?_, fun v hv hv2 => ?_⟩ (fun a b h1 h2 => ?_)
        · rw [upA_eq, e58]
          show (ctT Pn τ k : Int) + 1 = ((ctT Pn τ k + cI (tpT Pn τ k) 1 0 : Nat) : Int)
          rw [cI_p hyes]; rfl
        · rw [upA_ne (by omega)]
          by_cases e : v = k
          · subst e; rw [upA_eq]
          · have hlt := ctT_lt hv2 k (by omega)
            rw [upA_ne (by omega)]
            exact hK.2 v (by omega) hv2
        · rw [upA_ne h1, upA_ne (fun z => h2 z.1)]
          exact hF a b h1 h2
theorem c_findPeaks {τ : Tz} (hW : WX S Pn T) (hR : RC Pn T g τ) (hs : τ.1 ≤ 200) (hP : ∀ g', PK Pn T g' τ τ.1 → FP T g g' → P (.inl none) (S, g', u)) : Sp l E T_findPeaks (d + 2) [rV (2 * T + 5)] (S, g, u) P := by
  show aw l E T_findPeaks (d + 2) 0 [some (rV (2 * T + 5)), none, none, none, none, none, none] [] (S, g, u) P
  refine aw_al0 T_findPeaks_0 ?_
  refine aw_c T_findPeaks_1 ?_
  refine aw_pi T_findPeaks_2 (wx_o2 hW) ?_
  refine aw_c T_findPeaks_5 ?_
  refine aw_is1 T_findPeaks_6 ?_
  exact c_findPeaks_lp hW hR hs hP (τ.1 + 1) 0 _ (by omega) (by omega) ⟨upA_eq _ _ _ _, fun v hv => absurd hv (Nat.not_lt_zero v)⟩ (fun a b h1 h2 => upA_ne h1)
theorem br_lf {P : Nat} {nd gv : Nat → Nat → Int} {τ : Tz} {n : Nat} : ∀ k, (brT P nd gv τ n k).2.2.2.2.2.2 = τ.2.2.2.2.2
  | 0 => rfl
  | k + 1 => by
    have h := br_lf (P := P) (τ := τ) (n := n) (nd := nd) (gv := gv) k
    show (cI _ _ _ : Bool × Tz).2.2.2.2.2.2 = _
    by_cases hc : (brT P nd gv τ n k).1 = true ∧ bl P (nd k) ((brT P nd gv τ n k).2.2.1 n)
    · rw [cI_p hc]
      by_cases hs : (brT P nd gv τ n k).2.1 = 200
      · rw [cI_p hs]; exact h
      · rw [cI_n hs]; exact h
    · rw [cI_n hc]; exact h
/-- the class's tree stands and is τ -/
def TX (Pn T : Nat) (g : aG) (τ : Tz) : Prop := RC Pn T g τ ∧ (∀ n, n < τ.1 → g (2 * T + 9) n = tf (τ.2.2.2.2.2 n)) ∧ PK Pn T g τ τ.1
def FG (T : Nat) (g g' : aG) : Prop := ∀ a b, (a < 2 * T + 5 ∨ (a = 2 * T + 5 ∧ b ≠ 7) ∨ a = 2 * T + 10 ∨ 2 * T + 212 ≤ a) → g' a b = g a b
theorem FG.tr {T : Nat} {g g' g'' : aG} (h : FG T g g') (h' : FG T g' g'') : FG T g g'' := fun a b z => (h' a b z).trans (h a b z)
theorem FG.ofT {T : Nat} {g g' : aG} (h : FT T g g') : FG T g g' := fun a b z => h a b (by omega)
theorem c_grow_end0 {a b k : Nat} {g' : aG} (hP : (∀ g', (∀ a b, (a < 2 * T + 5 ∨ 2 * T + 212 ≤ a) → g' a b = g a b) → (((grT Pn T nd gv fs 200).1 = true ∧ TX Pn T g' (grT Pn T nd gv fs 200).2 ∧ g' (2 * T + 5) 9 = 1) ∨ ((grT Pn T nd gv fs 200).1 = false ∧ g' (2 * T + 5) 9 = 0)) → P (.inl none) (S, g', a, b, false))) (hF : FG T (upA g (2 * T + 5) 9 0) g') (hok : (grT Pn T nd gv fs 200).1 = false) : aw l E T_grow (d + 5) 72 [some (rV (2 * T + 5)), some (iV 0), some (iV (k : Int)), none, none, none, none] [] (S, g', a, b, false) P := by
  refine aw_il1 T_grow_72 ?_
  refine aw_zeq T_grow_73 (fun h73 => ?_) (fun h73 => ?_)
  · skip
    refine aw_retv T_grow_85 rfl ?_
    refine hP g' (fun c e h => (hF c e (by omega)).trans (upA_ne (by omega))) (Or.inr ⟨hok, ?_⟩)
    exact (hF _ _ (by omega)).trans (upA_eq _ _ _ _)
  · skip
    omega
theorem c_grow_end1 {a b k : Nat} {g' : aG} (hW : WX S Pn T) (hP : (∀ g', (∀ a b, (a < 2 * T + 5 ∨ 2 * T + 212 ≤ a) → g' a b = g a b) → (((grT Pn T nd gv fs 200).1 = true ∧ TX Pn T g' (grT Pn T nd gv fs 200).2 ∧ g' (2 * T + 5) 9 = 1) ∨ ((grT Pn T nd gv fs 200).1 = false ∧ g' (2 * T + 5) 9 = 0)) → P (.inl none) (S, g', a, b, false))) (hF : FG T (upA g (2 * T + 5) 9 0) g') (hok : (grT Pn T nd gv fs 200).1 = true) (hw : WT Pn (grT Pn T nd gv fs 200).2) (hR : RC Pn T g' (grT Pn T nd gv fs 200).2) (hlf : ∀ n, n < (grT Pn T nd gv fs 200).2.1 → g' (2 * T + 9) n = tf ((grT Pn T nd gv fs 200).2.2.2.2.2.2 n)) : aw l E T_grow (d + 5) 72 [some (rV (2 * T + 5)), some (iV 1), some (iV (k : Int)), none, none, none, none] [] (S, g', a, b, false) P := by
  refine aw_il1 T_grow_72 ?_
  refine aw_zeq T_grow_73 (fun h73 => ?_) (fun h73 => ?_)
  · skip
    refine aw_retv T_grow_85 rfl ?_
    omega
  · skip
    refine aw_al0 T_grow_76 ?_
    refine aw_V0 T_grow_77 rfl rfl (wx_o2 hW) ?_
    refine c_findPeaks (d := d + 2) hW hR hw.2.1 (fun g2 hK hF2 => ?_)
    show aw _ _ _ _ _ _ _ _ _
    refine aw_al0 T_grow_80 ?_
    refine aw_c T_grow_81 ?_
    refine aw_pz T_grow_82 (wx_o2 hW) (by first | exact Or.inl rfl | exact Or.inr rfl | assumption) ?_
    refine aw_retv T_grow_85 rfl ?_
    refine hP _ (fun c e h => ?_) (Or.inl ⟨hok, ⟨⟨fun n hn p hp => ?_, ?_, ?_, fun n h0 hn => ?_, fun n hn => ?_, ?_⟩, fun n hn => ?_, ⟨?_, fun v hv hv2 => ?_⟩⟩, upA_eq _ _ _ _⟩)
    · rw [upA_ne (by omega), hF2 c e (by omega) (by omega)]
      exact (hF c e (by omega)).trans (upA_ne (by omega))
    · rw [upA_ne (by omega)]; exact (RC_FP hR hF2).1 n hn p hp
    · rw [upA_ne (by omega)]; exact (RC_FP hR hF2).2.1
    · rw [upA_ne (by omega)]; exact (RC_FP hR hF2).2.2.1
    · rw [upA_ne (by omega), upA_ne (by omega)]; exact (RC_FP hR hF2).2.2.2.1 n h0 hn
    · rw [upA_ne (by omega)]; exact (RC_FP hR hF2).2.2.2.2.1 n hn
    · rw [upA_ne (by omega)]; exact (RC_FP hR hF2).2.2.2.2.2
    · rw [upA_ne (by omega), hF2 _ _ (by omega) (by omega)]; exact hlf n hn
    · rw [upA_ne (by omega)]; exact hK.1
    · rw [upA_ne (by omega)]; exact hK.2 v hv hv2
theorem c_grow_lp {a b : Nat} (hW : WX S Pn T) (hN : NX Pn T g nd gv fs) (hB : BX Pn T nd gv fs) (hP : (∀ g', (∀ a b, (a < 2 * T + 5 ∨ 2 * T + 212 ≤ a) → g' a b = g a b) → (((grT Pn T nd gv fs 200).1 = true ∧ TX Pn T g' (grT Pn T nd gv fs 200).2 ∧ g' (2 * T + 5) 9 = 1) ∨ ((grT Pn T nd gv fs 200).1 = false ∧ g' (2 * T + 5) 9 = 0)) → P (.inl none) (S, g', a, b, false))) : ∀ (m k : Nat) (g' : aG), 200 - k < m → k ≤ 200 → (grT Pn T nd gv fs k).1 = true → RC Pn T g' (grT Pn T nd gv fs k).2 → (∀ n, n < k → n < (grT Pn T nd gv fs k).2.1 → g' (2 * T + 9) n = tf ((grT Pn T nd gv fs k).2.2.2.2.2.2 n)) → FG T (upA g (2 * T + 5) 9 0) g' → aw l E T_grow (d + 5) 13 [some (rV (2 * T + 5)), some (iV 1), some (iV (k : Int)), none, none, none, none] [] (S, g', a, b, false) P := by
  intro m
  have hp6 := wx_P hW
  have hT8 := wx_T hW
  have hwg : ∀ k, WT Pn (grT Pn T nd gv fs k).2 := WT_gr hB.2 (fun t ht p hp => (hB.1 t ht p hp).1) (fun t ht p hp => ⟨(hB.1 t ht p hp).2.2.1, (hB.1 t ht p hp).2.2.2⟩)
  induction m with
  | zero => intro k g' h; omega
  | succ m ih =>
    intro k g' hm hk hok hR hlf hF
    have hw := hwg k
    have hsz : g' (2 * T + 5) 7 = ((grT Pn T nd gv fs k).2.1 : Int) := hR.2.2.2.2.2
    have hend : (grT Pn T nd gv fs k).2.1 ≤ k ∨ k = 200 → grT Pn T nd gv fs 200 = grT Pn T nd gv fs k := fun h => by
      rcases h with h | h
      · have := gr_false (P := Pn) (T := T) (nd := nd) (gv := gv) (first := fs) (k := k) (Or.inr h) (200 - k)
        rw [show k + (200 - k) = 200 by omega] at this
        exact this
      · rw [h]
    refine aw_il1 T_grow_13 ?_
    refine aw_zeq T_grow_14 (fun h14 => ?_) (fun h14 => ?_)
    · skip
      omega
    · skip
      refine aw_il2 T_grow_17 ?_
      refine aw_al0 T_grow_18 ?_
      refine aw_gi T_grow_19 (wx_o2 hW) ?_
      refine aw_cge T_grow_22 (fun h22 => ?_) (fun h22 => ?_)
      · skip
        have e := hend (by omega)
        exact c_grow_end1 hW hP hF (by rw [e]; exact hok) (by rw [e]; exact hw) (by rw [e]; exact hR) (fun n hn => by rw [e] at hn ⊢; exact hlf n (by have := hw.2.1; omega) hn)
      · skip
        refine aw_il2 T_grow_25 ?_
        refine aw_c T_grow_26 ?_
        refine aw_cge T_grow_29 (fun h29 => ?_) (fun h29 => ?_)
        · skip
          have e := hend (by omega)
          exact c_grow_end1 hW hP hF (by rw [e]; exact hok) (by rw [e]; exact hw) (by rw [e]; exact hR) (fun n hn => by rw [e] at hn ⊢; exact hlf n (by have := hw.2.1; omega) hn)
        · skip
          refine aw_al0 T_grow_32 ?_
          refine aw_gr (wx_r2_5 hW) T_grow_33 (wx_o2 hW) ?_
          refine aw_il2 T_grow_36 ?_
          refine aw_al0 T_grow_37 ?_
          refine aw_il2 T_grow_38 ?_
          refine aw_V1 T_grow_39 rfl rfl rfl (wx_o2 hW) ?_
          refine c_rep (d := d + 2) hW hw hR (by omega) ?_
          show aw _ _ _ _ _ _ _ _ _
          refine aw_zast T_grow_42 (wx_a_tlea hW) (by first | rfl | assumption) (by omega) (tf01 _) ?_
          refine aw_al0 T_grow_43 ?_
          refine aw_gr (wx_r2_5 hW) T_grow_44 (wx_o2 hW) ?_
          refine aw_il2 T_grow_47 ?_
          refine aw_za T_grow_48 (wx_a_tlea hW) (by first | rfl | assumption) (by omega) ?_
          have hFL : FG T g' (upA g' (2 * T + 9) k (tf (repT Pn (grT Pn T nd gv fs k).2 k))) := fun c e h => upA_ne (by omega)
          have hRL : RC Pn T (upA g' (2 * T + 9) k (tf (repT Pn (grT Pn T nd gv fs k).2 k))) (lfT Pn (grT Pn T nd gv fs k).2 k) := by
            obtain ⟨r1, r2, r3, r4, r5, r6⟩ := hR
            refine ⟨fun n hn p hp => (upA_ne (by omega)).trans (r1 n hn p hp), (upA_ne (by omega)).trans r2, (upA_ne (by omega)).trans r3, fun n h0 hn => ?_, fun n hn => (upA_ne (by omega)).trans (r5 n hn), (upA_ne (by omega)).trans r6⟩
            obtain ⟨z1, z2⟩ := r4 n h0 hn
            exact ⟨(upA_ne (by omega)).trans z1, (upA_ne (by omega)).trans z2⟩
          have hll : ∀ n, n < k + 1 → n < (grT Pn T nd gv fs k).2.1 → (upA g' (2 * T + 9) k (tf (repT Pn (grT Pn T nd gv fs k).2 k))) (2 * T + 9) n = tf ((lfT Pn (grT Pn T nd gv fs k).2 k).2.2.2.2.2 n) := fun n h1 h2 => by
            show _ = tf (if n = k then repT Pn (grT Pn T nd gv fs k).2 k else (grT Pn T nd gv fs k).2.2.2.2.2.2 n)
            by_cases e : n = k
            · subst e; rw [upA_eq, if_pos rfl]
            · rw [upA_ne (by omega), if_neg e]; exact hlf n (by omega) h2
          have hNL : NX Pn T (upA g' (2 * T + 9) k (tf (repT Pn (grT Pn T nd gv fs k).2 k))) nd gv fs := NX_lo hN (by omega) (fun c e h => (upA_ne (by omega)).trans ((hF c e (Or.inl h)).trans (upA_ne (by omega))))
          rw [upA_eq] 
          refine aw_zne T_grow_49 (fun h49 => ?_) (fun h49 => ?_)
          · skip
            refine aw_c T_grow_60 ?_
            refine aw_go T_grow_61 ?_
            refine aw_is1 T_grow_65 ?_
            refine aw_ip2 T_grow_66 (by omega) ?_
            refine aw_go T_grow_69 ?_
            have hr : repT Pn (grT Pn T nd gv fs k).2 k := nz h49
            have e : grT Pn T nd gv fs (k + 1) = (true, lfT Pn (grT Pn T nd gv fs k).2 k) := (cI_p ⟨hok, by omega⟩).trans (cI_p hr)
            exact ih (k + 1) _ (by omega) (by omega) (by rw [e]) (by rw [e]; exact hRL) (fun n h1 h2 => by rw [e] at h2 ⊢; exact hll n h1 h2) (hF.tr hFL)
          · skip
            refine aw_al0 T_grow_52 ?_
            refine aw_il2 T_grow_53 ?_
            refine aw_V1 T_grow_54 rfl rfl rfl (wx_o2 hW) ?_
            refine c_branch (d := d) hW hNL hB (τ := lfT Pn (grT Pn T nd gv fs k).2 k) hw hRL (show k < (grT Pn T nd gv fs k).2.1 by omega) (fun g2 hR2 hF2 => ?_)
            show aw _ _ _ _ _ _ _ _ _
            refine aw_zeq T_grow_57 (fun h57 => ?_) (fun h57 => ?_)
            · skip
              refine aw_c T_grow_64 ?_
              refine aw_is1 T_grow_65 ?_
              refine aw_ip2 T_grow_66 (by omega) ?_
              refine aw_go T_grow_69 ?_
              have e : grT Pn T nd gv fs (k + 1) = brT Pn nd gv (lfT Pn (grT Pn T nd gv fs k).2 k) k T := (cI_p ⟨hok, by omega⟩).trans (cI_n (iz h49))
              have hfa : (grT Pn T nd gv fs (k + 1)).1 = false := by
                rw [e]
                cases hb : (brT Pn nd gv (lfT Pn (grT Pn T nd gv fs k).2 k) k T).1 with
                | false => rfl
                | true => exact absurd hb (iz h57)
              have e2 : grT Pn T nd gv fs 200 = grT Pn T nd gv fs (k + 1) := by
                have := gr_false (P := Pn) (T := T) (nd := nd) (gv := gv) (first := fs) (k := k + 1) (Or.inl hfa) (200 - (k + 1))
                rw [show k + 1 + (200 - (k + 1)) = 200 by omega] at this
                exact this
              refine aw_il1 T_grow_13 ?_
              refine aw_zeq T_grow_14 (fun _ => ?_) (fun z => absurd rfl z)
              exact c_grow_end0 hP ((hF.tr hFL).tr (FG.ofT hF2)) (by rw [e2]; exact hfa)
            · skip
              refine aw_c T_grow_60 ?_
              refine aw_go T_grow_61 ?_
              refine aw_is1 T_grow_65 ?_
              refine aw_ip2 T_grow_66 (by omega) ?_
              refine aw_go T_grow_69 ?_
              have e : grT Pn T nd gv fs (k + 1) = brT Pn nd gv (lfT Pn (grT Pn T nd gv fs k).2 k) k T := (cI_p ⟨hok, by omega⟩).trans (cI_n (iz h49))
              refine ih (k + 1) g2 (by omega) (by omega) (by rw [e]; exact nz h57) (by rw [e]; exact hR2) (fun n h1 h2 => ?_) ((hF.tr hFL).tr (FG.ofT hF2))
              rw [e] at h2 ⊢
              rw [br_lf, hF2 _ _ (by omega)]
              by_cases hnn : n < (grT Pn T nd gv fs k).2.1
              · exact hll n h1 hnn
              · omega
theorem c_grow {a b : Nat} (hW : WX S Pn T) (hN : NX Pn T g nd gv fs) (hB : BX Pn T nd gv fs) (hP : (∀ g', (∀ a b, (a < 2 * T + 5 ∨ 2 * T + 212 ≤ a) → g' a b = g a b) → (((grT Pn T nd gv fs 200).1 = true ∧ TX Pn T g' (grT Pn T nd gv fs 200).2 ∧ g' (2 * T + 5) 9 = 1) ∨ ((grT Pn T nd gv fs 200).1 = false ∧ g' (2 * T + 5) 9 = 0)) → P (.inl none) (S, g', a, b, false))) : Sp l E T_grow (d + 5) [rV (2 * T + 5)] (S, g, a, b, false) P := by
  have hT8 := wx_T hW
  have hN0 : NX Pn T (upA g (2 * T + 5) 9 0) nd gv fs := NX_lo hN (by omega) (fun c e h => upA_ne (by omega))
  show aw l E T_grow (d + 5) 0 [some (rV (2 * T + 5)), none, none, none, none, none, none] [] (S, g, a, b, false) P
  refine aw_al0 T_grow_0 ?_
  refine aw_c T_grow_1 ?_
  refine aw_pz T_grow_2 (wx_o2 hW) (by first | exact Or.inl rfl | exact Or.inr rfl | assumption) ?_
  refine aw_al0 T_grow_5 ?_
  refine aw_V0 T_grow_6 rfl rfl (wx_o2 hW) ?_
  refine c_Tplant (d := d + 4) hW hN0 hB (by omega) (fun g1 hR1 hF1 => ?_)
  show aw _ _ _ _ _ _ _ _ _
  refine aw_c T_grow_9 ?_
  refine aw_is1 T_grow_10 ?_
  refine aw_c T_grow_11 ?_
  refine aw_is2 T_grow_12 ?_
  exact c_grow_lp hW hN hB hP 201 0 g1 (by omega) (by omega) rfl hR1 (fun n h => absurd h (Nat.not_lt_zero n)) (FG.ofT hF1)
end MV
