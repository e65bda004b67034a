section MG
variable {l : Launch} {E : aE} {d : Nat} {S : aS} {g : aG} {u : aU} {P : aP} {Pn T : Nat} {nd gv : Nat → Nat → Int} {fs : Nat → Int}
/-- the class's goal cells hold γ -/
def RGz (Pn T : Nat) (g : aG) (γ : Tz) (z : Int) : Prop := (∀ n, n < γ.1 → ∀ p, p < Pn → g (2 * T + 218 + n) p = γ.2.1 n p) ∧ (∀ n, 0 < n → n < γ.1 → g (2 * T + 213) n = (γ.2.2.1 n : Int) ∧ g (2 * T + 214) n = (γ.2.2.2.1 n : Int)) ∧ (∀ n, n < γ.1 → g (2 * T + 215) n = (γ.2.2.2.2.1 n : Int)) ∧ (∀ n, n < γ.1 → g (2 * T + 216) n = tf (γ.2.2.2.2.2 n)) ∧ g (2 * T + 212) 7 = z
abbrev RG (Pn T : Nat) (g : aG) (γ : Tz) : Prop := RGz Pn T g γ (γ.1 : Int)
/-- nothing but goals has changed -/
def FL (T : Nat) (g g' : aG) : Prop := ∀ a b, (a < 2 * T + 212 ∨ (a = 2 * T + 212 ∧ b ≠ 7) ∨ 2 * T + 267 ≤ a) → g' a b = g a b
theorem FL.rf (T : Nat) (g : aG) : FL T g g := fun _ _ _ => rfl
theorem FL.tr {T : Nat} {g g' g'' : aG} (h : FL T g g') (h' : FL T g' g'') : FL T g g'' := fun a b z => (h' a b z).trans (h a b z)
theorem mbk_ne {g : aG} {fr to n v k a b : Nat} (h : a ≠ to) : mbk g fr to n v k a b = g a b := if_neg (fun z => h z.1)
theorem c_isKnown_lp {i : Nat} {γ : Tz} {c : Nat → Int} (hW : WX S Pn T) (hs : γ.1 ≤ 48) (hR : RG Pn T g γ) (hi : hasA S i 0 Pn) (hc : ∀ p, p < Pn → g i p = c p) (hP : P (.inl (some (iV (tf (knG Pn γ c))))) (S, g, u)) : ∀ (m k : Nat), γ.1 - k < m → k ≤ γ.1 → (∀ r, r < k → ¬ (¬ γ.2.2.2.2.2 r ∧ bl Pn (γ.2.1 r) c)) → aw l E G_isKnown (d + 1) 2 [some (rV (2 * T + 212)), some (rV i), some (iV (k : Int)), none, none, none, none] [] (S, g, u) P := by
  intro m
  have hp6 := wx_P hW
  have hsz : g (2 * T + 212) 7 = (γ.1 : Int) := hR.2.2.2.2
  induction m with
  | zero => intro k h; omega
  | succ m ih =>
    intro k hm hk hno
    have hb : k < γ.1 → (bl Pn (g (2 * T + 218 + k)) (g i) ↔ bl Pn (γ.2.1 k) c) := fun h => blC (hR.1 k h) hc
    have hgu : k < γ.1 → g (2 * T + 216) k = tf (γ.2.2.2.2.2 k) := fun h => hR.2.2.2.1 k h
    refine aw_il2 G_isKnown_2 ?_
    refine aw_al0 G_isKnown_3 ?_
    refine aw_gi G_isKnown_4 (wx_o0 hW) ?_
    refine aw_cge G_isKnown_7 (fun h7 => ?_) (fun h7 => ?_)
    · skip
      refine aw_c G_isKnown_40 ?_
      refine aw_reti G_isKnown_41 (Or.inr ⟨rfl, (by first | exact Or.inl rfl | exact Or.inr rfl | assumption)⟩) ?_
      rw [show tf (knG Pn γ c) = 0 from cI_n (fun ⟨r, z1, z2⟩ => hno r (by omega) z2)] at hP
      exact hP
    · skip
      refine aw_al0 G_isKnown_10 ?_
      refine aw_gr (wx_r0_5 hW) G_isKnown_11 (wx_o0 hW) ?_
      refine aw_il2 G_isKnown_14 ?_
      refine aw_za G_isKnown_15 (wx_a_ggiv hW) (by first | rfl | assumption) (by omega) ?_
      rw [hgu (by omega)]
      refine aw_zne G_isKnown_16 (fun h16 => ?_) (fun h16 => ?_)
      · skip
        refine aw_ip2 G_isKnown_34 (by omega) ?_
        refine aw_go G_isKnown_37 ?_
        exact ih (k + 1) (by omega) (by omega) (fun r hr => by
          by_cases e : r = k
          · subst e
            exact fun z => z.1 (nz h16)
          · exact hno r (by omega))
      · skip
        refine aw_al0 G_isKnown_19 ?_
        refine aw_gr (wx_r0_1 hW) G_isKnown_20 (wx_o0 hW) ?_
        refine aw_il2 G_isKnown_23 ?_
        refine aw_aa G_isKnown_24 (wx_a_gmarks hW) (by first | rfl | assumption) (by omega) (wx_rr_gmarks hW (by omega)) ?_
        refine aw_al1 G_isKnown_25 ?_
        refine aw_S2 G_isKnown_26 rfl rfl rfl rfl ?_
        refine c_isBelow (wx_ra_gmarks hW (by omega)) hi (by omega) ?_
        show aw _ _ _ _ _ _ _ _ _
        refine aw_zeq G_isKnown_29 (fun h29 => ?_) (fun h29 => ?_)
        · skip
          refine aw_ip2 G_isKnown_34 (by omega) ?_
          refine aw_go G_isKnown_37 ?_
          exact ih (k + 1) (by omega) (by omega) (fun r hr => by
            by_cases e : r = k
            · subst e
              exact fun z => iz h29 ((hb (by omega)).mpr z.2)
            · exact hno r (by omega))
        · skip
          refine aw_c G_isKnown_32 ?_
          refine aw_reti G_isKnown_33 (Or.inr ⟨rfl, (by first | exact Or.inl rfl | exact Or.inr rfl | assumption)⟩) ?_
          rw [show tf (knG Pn γ c) = 1 from cI_p ⟨k, by omega, iz h16, (hb (by omega)).mp (nz h29)⟩] at hP
          exact hP
theorem c_isKnown {i : Nat} {γ : Tz} {c : Nat → Int} (hW : WX S Pn T) (hs : γ.1 ≤ 48) (hR : RG Pn T g γ) (hi : hasA S i 0 Pn) (hc : ∀ p, p < Pn → g i p = c p) (hP : P (.inl (some (iV (tf (knG Pn γ c))))) (S, g, u)) : Sp l E G_isKnown (d + 1) [rV (2 * T + 212), rV i] (S, g, u) P := by
  show aw l E G_isKnown (d + 1) 0 [some (rV (2 * T + 212)), some (rV i), none, none, none, none, none] [] (S, g, u) P
  refine aw_c G_isKnown_0 ?_
  refine aw_is2 G_isKnown_1 ?_
  exact c_isKnown_lp hW hs hR hi hc hP (γ.1 + 1) 0 (by omega) (by omega) (fun r hr => absurd hr (Nat.not_lt_zero r))
/-- of the first k goals those above the candidate are given up -/
noncomputable def guk (Pn T : Nat) (g : aG) (k : Nat) : aG := fun a b => cI (a = 2 * T + 216 ∧ b < k ∧ bl Pn (g (2 * T + 266)) (g (2 * T + 218 + b))) 1 (g a b)
theorem guk_0 (Pn T : Nat) (g : aG) : guk Pn T g 0 = g := by
  funext a b
  exact cI_n (fun z => absurd z.2.1 (Nat.not_lt_zero b))
theorem guk_ne {g : aG} {k a b : Nat} (h : a ≠ 2 * T + 216) : guk Pn T g k a b = g a b := cI_n (fun z => h z.1)
theorem guk_f {g : aG} {k a : Nat} (h : a ≠ 2 * T + 216) : guk Pn T g k a = g a := funext fun b => guk_ne h
theorem guk_s {g : aG} {k : Nat} (h : bl Pn (g (2 * T + 266)) (g (2 * T + 218 + k))) : upA (guk Pn T g k) (2 * T + 216) k 1 = guk Pn T g (k + 1) := by
  funext a b
  unfold upA
  by_cases hc : a = 2 * T + 216 ∧ b = k
  · obtain ⟨rfl, rfl⟩ := hc
    rw [if_pos ⟨rfl, rfl⟩]
    exact (cI_p ⟨rfl, by omega, h⟩).symm
  · rw [if_neg hc]
    unfold guk
    have e : (a = 2 * T + 216 ∧ b < k ∧ bl Pn (g (2 * T + 266)) (g (2 * T + 218 + b))) ↔ (a = 2 * T + 216 ∧ b < k + 1 ∧ bl Pn (g (2 * T + 266)) (g (2 * T + 218 + b))) := by
      constructor
      · rintro ⟨h1, h2, h3⟩; exact ⟨h1, by omega, h3⟩
      · rintro ⟨h1, h2, h3⟩; exact ⟨h1, by have : b ≠ k := fun e => hc ⟨h1, e⟩; omega, h3⟩
    rw [propext e]
theorem guk_n {g : aG} {k : Nat} (h : ¬ bl Pn (g (2 * T + 266)) (g (2 * T + 218 + k))) : guk Pn T g (k + 1) = guk Pn T g k := by
  funext a b
  unfold guk
  have e : (a = 2 * T + 216 ∧ b < k + 1 ∧ bl Pn (g (2 * T + 266)) (g (2 * T + 218 + b))) ↔ (a = 2 * T + 216 ∧ b < k ∧ bl Pn (g (2 * T + 266)) (g (2 * T + 218 + b))) := by
    constructor
    · rintro ⟨h1, h2, h3⟩
      exact ⟨h1, by have : b ≠ k := fun e => h (by rw [← e]; exact h3); omega, h3⟩
    · rintro ⟨h1, h2, h3⟩; exact ⟨h1, by omega, h3⟩
  rw [propext e]
theorem cpA_ne {g : aG} {i j k a b : Nat} (h : a ≠ j) : cpA g i j k a b = g a b := if_neg (fun z => h z.1)
theorem c_addCand_2 {n t a b : Nat} {γ : Tz} {c : Nat → Int} (hW : WX S Pn T) (hN : NX Pn T g nd gv fs) (hd : 1 ≤ d) (hw : WG Pn γ) (hR : RG Pn T g γ) (hn : n < γ.1) (hs : γ.1 < 48) (hc : ∀ p, p < Pn → g (2 * T + 266) p = c p) (hP : ∀ g', RG Pn T g' (adG Pn γ n t c) → FL T g g' → P (.inl none) (S, g', a, b, false)) : aw l E G_addCandidate d 39 [some (rV (2 * T + 212)), some (iV (n : Int)), some (iV (t : Int)), some (iV (γ.1 : Int)), none, none, none] [] (S, guk Pn T g γ.1, a, b, false) P := by
  have hp6 := wx_P hW
  have hT8 := wx_T hW
  obtain ⟨r1, r2, r3, r4, r5⟩ := hR
  have hsz : guk Pn T g γ.1 (2 * T + 212) 7 = (γ.1 : Int) := (guk_ne (by omega)).trans r5
  have h10 : guk Pn T g γ.1 1 0 = (Pn : Int) := (guk_ne (by omega)).trans hN.1
  have hdn := WG_dp hw n hn
  refine aw_al0 G_addCandidate_39 ?_
  refine aw_gr (wx_r0_6 hW) G_addCandidate_40 (wx_o0 hW) ?_
  refine aw_c G_addCandidate_43 ?_
  refine aw_al0 G_addCandidate_44 ?_
  refine aw_gr (wx_r0_1 hW) G_addCandidate_45 (wx_o0 hW) ?_
  refine aw_al0 G_addCandidate_48 ?_
  refine aw_gi G_addCandidate_49 (wx_o0 hW) ?_
  refine aw_aa G_addCandidate_52 (wx_a_gmarks hW) (by first | rfl | assumption) (by omega) (wx_rr_gmarks hW (by omega)) ?_
  refine aw_c G_addCandidate_53 ?_
  refine aw_al0 G_addCandidate_54 ?_
  refine aw_gr (wx_r0_0 hW) G_addCandidate_55 (wx_o0 hW) ?_
  refine aw_gi G_addCandidate_58 (wx_o1 hW) ?_
  refine aw_cp G_addCandidate_61 (by omega) rfl (wx_a_gcan hW) (wx_ra_gmarks hW (by omega)) h10 (Nat.le_refl _) (Nat.le_refl _) ?_
  have q1 : ∀ x y, x ≠ 2 * T + 218 + γ.1 → x ≠ 2 * T + 216 → (cpA (guk Pn T g γ.1) (2 * T + 266) (2 * T + 218 + γ.1) Pn) x y = g x y := fun x y h1 h2 => (cpA_ne h1).trans (guk_ne h2)
  have q2 : ∀ p, p < Pn → (cpA (guk Pn T g γ.1) (2 * T + 266) (2 * T + 218 + γ.1) Pn) (2 * T + 218 + γ.1) p = c p := fun p hp => (if_pos ⟨rfl, hp⟩).trans ((guk_ne (by omega)).trans (hc p hp))
  have q3 : ∀ k, k < γ.1 → (cpA (guk Pn T g γ.1) (2 * T + 266) (2 * T + 218 + γ.1) Pn) (2 * T + 216) k = tf (γ.2.2.2.2.2 k ∨ bl Pn c (γ.2.1 k)) := fun k hk => by
    rw [cpA_ne (by omega)]
    have hb : bl Pn (g (2 * T + 266)) (g (2 * T + 218 + k)) ↔ bl Pn c (γ.2.1 k) := blC hc (r1 k hk)
    by_cases z : bl Pn c (γ.2.1 k)
    · rw [show tf (γ.2.2.2.2.2 k ∨ bl Pn c (γ.2.1 k)) = 1 from cI_p (Or.inr z)]
      exact cI_p ⟨rfl, hk, hb.mpr z⟩
    · rw [show guk Pn T g γ.1 (2 * T + 216) k = g (2 * T + 216) k from cI_n (fun y => z (hb.mp y.2.2)), r4 k hk]
      exact tfE ⟨Or.inl, fun y => y.elim id (fun f => absurd f z)⟩
  have hs64 : (cpA (guk Pn T g γ.1) (2 * T + 266) (2 * T + 218 + γ.1) Pn) (2 * T + 212) 7 = (γ.1 : Int) := (q1 _ _ (by omega) (by omega)).trans r5
  generalize cpA (guk Pn T g γ.1) (2 * T + 266) (2 * T + 218 + γ.1) Pn = G at q1 q2 q3 hs64 ⊢
  refine aw_al0 G_addCandidate_64 ?_
  refine aw_gr (wx_r0_2 hW) G_addCandidate_65 (wx_o0 hW) ?_
  refine aw_al0 G_addCandidate_68 ?_
  refine aw_gi G_addCandidate_69 (wx_o0 hW) ?_
  refine aw_il1 G_addCandidate_72 ?_
  refine aw_iast G_addCandidate_73 (wx_a_gnex hW) (by first | rfl | assumption) (by omega) ?_
  have s74 : (upA G (2 * T + 213) γ.1 (n : Int)) (2 * T + 212) 7 = (γ.1 : Int) := (upA_ne (by omega)).trans hs64
  refine aw_al0 G_addCandidate_74 ?_
  refine aw_gr (wx_r0_3 hW) G_addCandidate_75 (wx_o0 hW) ?_
  refine aw_al0 G_addCandidate_78 ?_
  refine aw_gi G_addCandidate_79 (wx_o0 hW) ?_
  refine aw_il2 G_addCandidate_82 ?_
  refine aw_iast G_addCandidate_83 (wx_a_gtra hW) (by first | rfl | assumption) (by omega) ?_
  have s84 : (upA (upA G (2 * T + 213) γ.1 (n : Int)) (2 * T + 214) γ.1 (t : Int)) (2 * T + 212) 7 = (γ.1 : Int) := (upA_ne (by omega)).trans s74
  have e15 : (upA (upA G (2 * T + 213) γ.1 (n : Int)) (2 * T + 214) γ.1 (t : Int)) (2 * T + 215) n = (γ.2.2.2.2.1 n : Int) := by
    rw [upA_ne (by omega), upA_ne (by omega), q1 _ _ (by omega) (by omega)]; exact r3 n hn
  refine aw_al0 G_addCandidate_84 ?_
  refine aw_gr (wx_r0_4 hW) G_addCandidate_85 (wx_o0 hW) ?_
  refine aw_al0 G_addCandidate_88 ?_
  refine aw_gi G_addCandidate_89 (wx_o0 hW) ?_
  refine aw_al0 G_addCandidate_92 ?_
  refine aw_gr (wx_r0_4 hW) G_addCandidate_93 (wx_o0 hW) ?_
  refine aw_il1 G_addCandidate_96 ?_
  refine aw_ia G_addCandidate_97 (wx_a_gdep hW) (by first | rfl | assumption) (by omega) ?_
  refine aw_c G_addCandidate_98 ?_
  refine aw_add G_addCandidate_99 (by constructor <;> omega) ?_
  refine aw_iast G_addCandidate_100 (wx_a_gdep hW) (by first | rfl | assumption) (by omega) ?_
  have s101 : (upA (upA (upA G (2 * T + 213) γ.1 (n : Int)) (2 * T + 214) γ.1 (t : Int)) (2 * T + 215) γ.1 ((upA (upA G (2 * T + 213) γ.1 (n : Int)) (2 * T + 214) γ.1 (t : Int)) (2 * T + 215) n + 1)) (2 * T + 212) 7 = (γ.1 : Int) := (upA_ne (by omega)).trans s84
  refine aw_al0 G_addCandidate_101 ?_
  refine aw_gr (wx_r0_5 hW) G_addCandidate_102 (wx_o0 hW) ?_
  refine aw_al0 G_addCandidate_105 ?_
  refine aw_gi G_addCandidate_106 (wx_o0 hW) ?_
  refine aw_c G_addCandidate_109 ?_
  refine aw_zast G_addCandidate_110 (wx_a_ggiv hW) (by first | rfl | assumption) (by omega) (by first | exact Or.inl rfl | exact Or.inr rfl | assumption) ?_
  have s111 : (upA (upA (upA (upA G (2 * T + 213) γ.1 (n : Int)) (2 * T + 214) γ.1 (t : Int)) (2 * T + 215) γ.1 ((upA (upA G (2 * T + 213) γ.1 (n : Int)) (2 * T + 214) γ.1 (t : Int)) (2 * T + 215) n + 1)) (2 * T + 216) γ.1 0) (2 * T + 212) 7 = (γ.1 : Int) := (upA_ne (by omega)).trans s101
  refine aw_al0 G_addCandidate_111 ?_
  refine aw_dup G_addCandidate_112 ?_
  refine aw_gi G_addCandidate_113 (wx_o0 hW) ?_
  refine aw_c G_addCandidate_116 ?_
  refine aw_add G_addCandidate_117 (by constructor <;> omega) ?_
  refine aw_pi G_addCandidate_118 (wx_o0 hW) ?_
  refine aw_retv G_addCandidate_121 rfl ?_
  refine hP _ ⟨fun k hk p hp => ?_, fun k h0 hk => ?_, fun k hk => ?_, fun k hk => ?_, ?_⟩ (fun x y hxy => ?_)
  · have hk' : k < γ.1 + 1 := hk
    show _ = (if k = γ.1 then c else γ.2.1 k) p
    rw [upA_ne (by omega), upA_ne (by omega), upA_ne (by omega), upA_ne (by omega), upA_ne (by omega)]
    by_cases e : k = γ.1
    · rw [if_pos e, e]; exact q2 p hp
    · rw [if_neg e, q1 _ _ (by omega) (by omega)]; exact r1 k (by omega) p hp
  · have hk' : k < γ.1 + 1 := hk
    show _ = (((if k = γ.1 then n else γ.2.2.1 k : Nat)) : Int) ∧ _ = (((if k = γ.1 then t else γ.2.2.2.1 k : Nat)) : Int)
    by_cases e : k = γ.1
    · rw [if_pos e, if_pos e, e, upA_ne (by omega), upA_ne (by omega), upA_ne (by omega), upA_ne (by omega), upA_eq, upA_ne (by omega), upA_ne (by omega), upA_ne (by omega), upA_eq]
      exact ⟨rfl, rfl⟩
    · rw [if_neg e, if_neg e, upA_ne (by omega), upA_ne (by omega), upA_ne (by omega), upA_ne (by omega), upA_ne (by omega), q1 _ _ (by omega) (by omega), upA_ne (by omega), upA_ne (by omega), upA_ne (by omega), upA_ne (by omega), upA_ne (by omega), q1 _ _ (by omega) (by omega)]
      exact r2 k h0 (by omega)
  · have hk' : k < γ.1 + 1 := hk
    show _ = (((if k = γ.1 then γ.2.2.2.2.1 n + 1 else γ.2.2.2.2.1 k : Nat)) : Int)
    by_cases e : k = γ.1
    · rw [if_pos e, e, upA_ne (by omega), upA_ne (by omega), upA_eq, e15]; rfl
    · rw [if_neg e, upA_ne (by omega), upA_ne (by omega), upA_ne (by omega), upA_ne (by omega), upA_ne (by omega), q1 _ _ (by omega) (by omega)]
      exact r3 k (by omega)
  · have hk' : k < γ.1 + 1 := hk
    show _ = tf (if k = γ.1 then False else (γ.2.2.2.2.2 k ∨ bl Pn c (γ.2.1 k)))
    by_cases e : k = γ.1
    · rw [if_pos e, e, upA_ne (by omega), upA_eq]; exact (cI_n id).symm
    · rw [if_neg e, upA_ne (by omega), upA_ne (by omega), upA_ne (by omega), upA_ne (by omega), upA_ne (by omega)]
      exact q3 k (by omega)
  · rw [upA_eq, s111]; rfl
  · rw [upA_ne (by omega), upA_ne (by omega), upA_ne (by omega), upA_ne (by omega), upA_ne (by omega)]
    exact q1 _ _ (by omega) (by omega)
theorem c_addCand_lp {n t a b : Nat} {γ : Tz} {c : Nat → Int} (hW : WX S Pn T) (hN : NX Pn T g nd gv fs) (hw : WG Pn γ) (hR : RG Pn T g γ) (hn : n < γ.1) (hs : γ.1 < 48) (hc : ∀ p, p < Pn → g (2 * T + 266) p = c p) (hP : ∀ g', RG Pn T g' (adG Pn γ n t c) → FL T g g' → P (.inl none) (S, g', a, b, false)) : ∀ (m k : Nat), γ.1 - k < m → k ≤ γ.1 → aw l E G_addCandidate (d + 1) 2 [some (rV (2 * T + 212)), some (iV (n : Int)), some (iV (t : Int)), some (iV (k : Int)), none, none, none] [] (S, guk Pn T g k, a, b, false) P := by
  intro m
  have hp6 := wx_P hW
  induction m with
  | zero => intro k h; omega
  | succ m ih =>
    intro k hm hk
    have hsz : guk Pn T g k (2 * T + 212) 7 = (γ.1 : Int) := (guk_ne (by omega)).trans hR.2.2.2.2
    refine aw_il3 G_addCandidate_2 ?_
    refine aw_al0 G_addCandidate_3 ?_
    refine aw_gi G_addCandidate_4 (wx_o0 hW) ?_
    refine aw_cge G_addCandidate_7 (fun h7 => ?_) (fun h7 => ?_)
    · skip
      have e : k = γ.1 := by omega
      subst e
      exact c_addCand_2 hW hN (by omega) hw hR hn hs hc hP
    · skip
      refine aw_al0 G_addCandidate_10 ?_
      refine aw_gr (wx_r0_6 hW) G_addCandidate_11 (wx_o0 hW) ?_
      refine aw_al0 G_addCandidate_14 ?_
      refine aw_gr (wx_r0_1 hW) G_addCandidate_15 (wx_o0 hW) ?_
      refine aw_il3 G_addCandidate_18 ?_
      refine aw_aa G_addCandidate_19 (wx_a_gmarks hW) (by first | rfl | assumption) (by omega) (wx_rr_gmarks hW (by omega)) ?_
      refine aw_S2 G_addCandidate_20 rfl rfl rfl rfl ?_
      refine c_isBelow (wx_a_gcan hW) (wx_ra_gmarks hW (by omega)) (by omega) ?_
      show aw _ _ _ _ _ _ _ _ _
      rw [guk_f (by omega : 2 * T + 266 ≠ 2 * T + 216), guk_f (by omega : 2 * T + 218 + k ≠ 2 * T + 216)]
      refine aw_zeq G_addCandidate_23 (fun h23 => ?_) (fun h23 => ?_)
      · skip
        refine aw_ip3 G_addCandidate_33 (by omega) ?_
        refine aw_go G_addCandidate_36 ?_
        have hk2 := ih (k + 1) (by omega) (by omega)
        rw [guk_n (iz h23)] at hk2
        exact hk2
      · skip
        refine aw_al0 G_addCandidate_26 ?_
        refine aw_gr (wx_r0_5 hW) G_addCandidate_27 (wx_o0 hW) ?_
        refine aw_il3 G_addCandidate_30 ?_
        refine aw_c G_addCandidate_31 ?_
        refine aw_zast G_addCandidate_32 (wx_a_ggiv hW) (by first | rfl | assumption) (by omega) (by first | exact Or.inl rfl | exact Or.inr rfl | assumption) ?_
        refine aw_ip3 G_addCandidate_33 (by omega) ?_
        refine aw_go G_addCandidate_36 ?_
        rw [guk_s (nz h23)]
        exact ih (k + 1) (by omega) (by omega)
theorem c_addCand {n t a b : Nat} {γ : Tz} {c : Nat → Int} (hW : WX S Pn T) (hN : NX Pn T g nd gv fs) (hw : WG Pn γ) (hR : RG Pn T g γ) (hn : n < γ.1) (hs : γ.1 < 48) (hc : ∀ p, p < Pn → g (2 * T + 266) p = c p) (hP : ∀ g', RG Pn T g' (adG Pn γ n t c) → FL T g g' → P (.inl none) (S, g', a, b, false)) : Sp l E G_addCandidate (d + 1) [rV (2 * T + 212), iV (n : Int), iV (t : Int)] (S, g, a, b, false) P := by
  show aw l E G_addCandidate (d + 1) 0 [some (rV (2 * T + 212)), some (iV (n : Int)), some (iV (t : Int)), none, none, none, none] [] (S, g, a, b, false) P
  refine aw_c G_addCandidate_0 ?_
  refine aw_is3 G_addCandidate_1 ?_
  have hk := c_addCand_lp (l := l) (E := E) (d := d) (P := P) (t := t) hW hN hw hR hn hs hc hP (γ.1 + 1) 0 (by omega) (by omega)
  rw [guk_0] at hk
  exact hk
theorem c_goBack_lp {n a b : Nat} {γ : Tz} (hW : WX S Pn T) (hN : NX Pn T g nd gv fs) (hB : BX Pn T nd gv fs) (hw : WG Pn γ) (hn : n < γ.1) (hP : ∀ g', RG Pn T g' (bkG Pn nd gv γ n T).2 → FL T g g' → P (.inl (some (iV (tf ((bkG Pn nd gv γ n T).1 = true))))) (S, g', a, b, false)) : ∀ (m t : Nat) (g' : aG), T - t < m → t ≤ T → (bkG Pn nd gv γ n t).1 = true → RG Pn T g' (bkG Pn nd gv γ n t).2 → FL T g g' → aw l E G_goBack (d + 2) 2 [some (rV (2 * T + 212)), some (iV (n : Int)), some (iV (t : Int)), none, none, none, none] [] (S, g', a, b, false) P := by
  intro m
  have hp6 := wx_P hW
  have hT8 := wx_T hW
  induction m with
  | zero => intro t g' h; omega
  | succ m ih =>
    intro t g' hm ht hok hR hF
    have hN' : NX Pn T g' nd gv fs := NX_lo hN (by omega) (fun a b h => hF a b (Or.inl (by omega)))
    obtain ⟨hw', hle⟩ := WG_bk (nd := nd) (gv := gv) hw hn t (fun k hk p hp => ⟨(hB.1 k (by omega) p hp).1, (hB.1 k (by omega) p hp).2.1⟩) (fun k hk p hp => ⟨(hB.1 k (by omega) p hp).2.2.1, (hB.1 k (by omega) p hp).2.2.2⟩)
    have hn' : n < (bkG Pn nd gv γ n t).2.1 := by omega
    have h48 := hw'.2.1
    have e11 : g' 1 1 = (T : Int) := hN'.2.1
    have hb1 : ∀ p, p < Pn → 0 ≤ g' (2 * T + 218 + n) p ∧ g' (2 * T + 218 + n) p ≤ 1000000000 := fun p hp => by
      rw [hR.1 n hn' p hp]
      have := hw'.2.2.2.2 n hn' p hp
      omega
    have hb2 : t < T → ∀ p, p < Pn → 0 ≤ g' (3 + t) p ∧ g' (3 + t) p ≤ 9 := fun h p hp => by
      rw [(hN'.2.2.1 t h p hp).1]
      have := hB.1 t h p hp
      omega
    have hb3 : t < T → ∀ p, p < Pn → 0 ≤ g' (T + 4 + t) p ∧ g' (T + 4 + t) p ≤ 9 := fun h p hp => by
      rw [(hN'.2.2.1 t h p hp).2]
      have := hB.1 t h p hp
      omega
    refine aw_il2 G_goBack_2 ?_
    refine aw_al0 G_goBack_3 ?_
    refine aw_gr (wx_r0_0 hW) G_goBack_4 (wx_o0 hW) ?_
    refine aw_gi G_goBack_7 (wx_o1 hW) ?_
    refine aw_cge G_goBack_10 (fun h10 => ?_) (fun h10 => ?_)
    · skip
      refine aw_c G_goBack_65 ?_
      refine aw_reti G_goBack_66 (Or.inr ⟨rfl, (by first | exact Or.inl rfl | exact Or.inr rfl | assumption)⟩) ?_
      have e : t = T := by omega
      subst e
      have hk := hP g' hR hF
      rw [show tf ((bkG Pn nd gv γ n t).1 = true) = 1 from cI_p hok] at hk
      exact hk
    · skip
      refine aw_al0 G_goBack_13 ?_
      refine aw_gr (wx_r0_0 hW) G_goBack_14 (wx_o0 hW) ?_
      refine aw_al0 G_goBack_17 ?_
      refine aw_gr (wx_r0_1 hW) G_goBack_18 (wx_o0 hW) ?_
      refine aw_il1 G_goBack_21 ?_
      refine aw_aa G_goBack_22 (wx_a_gmarks hW) (by first | rfl | assumption) (by omega) (wx_rr_gmarks hW (by omega)) ?_
      refine aw_il2 G_goBack_23 ?_
      refine aw_al0 G_goBack_24 ?_
      refine aw_gr (wx_r0_6 hW) G_goBack_25 (wx_o0 hW) ?_
      refine aw_V3 G_goBack_28 rfl rfl rfl rfl rfl (wx_o1 hW) ?_
      refine c_moveBack hW (wx_ra_gmarks hW (by omega)) (wx_a_gcan hW) (by omega) (by omega) hN'.1 hb1 (hb2 (by omega)) (hb3 (by omega)) (by omega) ?_
      show aw _ _ _ _ _ _ _ _ _
      have htT : t < T := by omega
      have q1 : ∀ x y, x ≠ 2 * T + 266 → (mbk g' (2 * T + 218 + n) (2 * T + 266) (3 + t) (T + 4 + t) Pn) x y = g' x y := fun x y h => mbk_ne h
      have q2 : ∀ p, p < Pn → (mbk g' (2 * T + 218 + n) (2 * T + 266) (3 + t) (T + 4 + t) Pn) (2 * T + 266) p = cdG nd gv (bkG Pn nd gv γ n t).2 n t p := fun p hp => by
        rw [show (mbk g' (2 * T + 218 + n) (2 * T + 266) (3 + t) (T + 4 + t) Pn) (2 * T + 266) p = mb (g' (2 * T + 218 + n) p) (g' (3 + t) p) (g' (T + 4 + t) p) from if_pos ⟨rfl, hp⟩, hR.1 n hn' p hp, (hN'.2.2.1 t htT p hp).1, (hN'.2.2.1 t htT p hp).2]
        rfl
      generalize mbk g' (2 * T + 218 + n) (2 * T + 266) (3 + t) (T + 4 + t) Pn = G at q1 q2 ⊢
      have hF2 : FL T g' G := fun x y h => q1 x y (by omega)
      have hR2 : RG Pn T G (bkG Pn nd gv γ n t).2 := by
        obtain ⟨r1, r2, r3, r4, r5⟩ := hR
        refine ⟨fun k hk p hp => (q1 _ _ (by omega)).trans (r1 k hk p hp), fun k h0 hk => ?_, fun k hk => (q1 _ _ (by omega)).trans (r3 k hk), fun k hk => (q1 _ _ (by omega)).trans (r4 k hk), (q1 _ _ (by omega)).trans r5⟩
        obtain ⟨z1, z2⟩ := r2 k h0 hk
        exact ⟨(q1 _ _ (by omega)).trans z1, (q1 _ _ (by omega)).trans z2⟩
      have hsz : G (2 * T + 212) 7 = ((bkG Pn nd gv γ n t).2.1 : Int) := hR2.2.2.2.2
      have hN2 : NX Pn T G nd gv fs := NX_lo hN' (by omega) (fun x y h => q1 x y (by omega))
      refine aw_al0 G_goBack_31 ?_
      refine aw_al0 G_goBack_32 ?_
      refine aw_gr (wx_r0_6 hW) G_goBack_33 (wx_o0 hW) ?_
      refine aw_V1 G_goBack_36 rfl rfl rfl (wx_o0 hW) ?_
      refine c_isKnown hW h48 hR2 (wx_a_gcan hW) q2 ?_
      show aw _ _ _ _ _ _ _ _ _
      refine aw_zne G_goBack_39 (fun h39 => ?_) (fun h39 => ?_)
      · skip
        refine aw_ip2 G_goBack_59 (by omega) ?_
        refine aw_go G_goBack_62 ?_
        have e : bkG Pn nd gv γ n (t + 1) = bkG Pn nd gv γ n t := cI_n (fun z => z.2 (nz h39))
        exact ih (t + 1) G (by omega) (by omega) (by rw [e]; exact hok) (by rw [e]; exact hR2) (hF.tr hF2)
      · skip
        refine aw_al0 G_goBack_42 ?_
        refine aw_gi G_goBack_43 (wx_o0 hW) ?_
        refine aw_c G_goBack_46 ?_
        refine aw_cne G_goBack_48 (fun h48 => ?_) (fun h48 => ?_)
        · skip
          refine aw_al0 G_goBack_53 ?_
          refine aw_il1 G_goBack_54 ?_
          refine aw_il2 G_goBack_55 ?_
          refine aw_V2 G_goBack_56 rfl rfl rfl rfl (wx_o0 hW) ?_
          refine c_addCand hW hN2 hw' hR2 hn' (by omega) q2 (fun g3 hR3 hF3 => ?_)
          show aw _ _ _ _ _ _ _ _ _
          refine aw_ip2 G_goBack_59 (by omega) ?_
          refine aw_go G_goBack_62 ?_
          have e : bkG Pn nd gv γ n (t + 1) = (true, adG Pn (bkG Pn nd gv γ n t).2 n t (cdG nd gv (bkG Pn nd gv γ n t).2 n t)) := (cI_p ⟨hok, iz h39⟩).trans (cI_n (by omega))
          exact ih (t + 1) g3 (by omega) (by omega) (by rw [e]) (by rw [e]; exact hR3) ((hF.tr hF2).tr hF3)
        · skip
          refine aw_c G_goBack_51 ?_
          refine aw_reti G_goBack_52 (Or.inr ⟨rfl, (by first | exact Or.inl rfl | exact Or.inr rfl | assumption)⟩) ?_
          have e : bkG Pn nd gv γ n (t + 1) = (false, (bkG Pn nd gv γ n t).2) := (cI_p ⟨hok, iz h39⟩).trans (cI_p (by omega))
          have e2 : bkG Pn nd gv γ n T = (false, (bkG Pn nd gv γ n t).2) := by
            have := bk_false (P := Pn) (nd := nd) (gv := gv) (τ := γ) (n := n) (k := t + 1) (by rw [e]) (T - (t + 1))
            rw [show t + 1 + (T - (t + 1)) = T by omega] at this
            rw [this, e]
          have hk := hP G (by rw [e2]; exact hR2) (hF.tr hF2)
          rw [show tf ((bkG Pn nd gv γ n T).1 = true) = 0 from cI_n (by rw [e2]; exact fun z => by cases z)] at hk
          exact hk
theorem c_goBack {n a b : Nat} {γ : Tz} (hW : WX S Pn T) (hN : NX Pn T g nd gv fs) (hB : BX Pn T nd gv fs) (hw : WG Pn γ) (hR : RG Pn T g γ) (hn : n < γ.1) (hP : ∀ g', RG Pn T g' (bkG Pn nd gv γ n T).2 → FL T g g' → P (.inl (some (iV (tf ((bkG Pn nd gv γ n T).1 = true))))) (S, g', a, b, false)) : Sp l E G_goBack (d + 2) [rV (2 * T + 212), iV (n : Int)] (S, g, a, b, false) P := by
  show aw l E G_goBack (d + 2) 0 [some (rV (2 * T + 212)), some (iV (n : Int)), none, none, none, none, none] [] (S, g, a, b, false) P
  refine aw_c G_goBack_0 ?_
  refine aw_is2 G_goBack_1 ?_
  exact c_goBack_lp hW hN hB hw hn hP (T + 1) 0 g (by omega) (by omega) rfl hR (FL.rf T g)
theorem c_Gplant {i a b : Nat} {wn : Nat → Int} (hW : WX S Pn T) (hN : NX Pn T g nd gv fs) (hd : 1 ≤ d) (hi : hasA S i 0 Pn) (hwn : ∀ p, p < Pn → g i p = wn p) (hP : ∀ g', RG Pn T g' (plT wn) → FL T g g' → P (.inl none) (S, g', a, b, false)) : Sp l E G_plant d [rV (2 * T + 212), rV i] (S, g, a, b, false) P := by
  have hp6 := wx_P hW
  have hT8 := wx_T hW
  show aw l E G_plant d 0 [some (rV (2 * T + 212)), some (rV i), none, none, none, none, none] [] (S, g, a, b, false) P
  refine aw_al1 G_plant_0 ?_
  refine aw_c G_plant_1 ?_
  refine aw_al0 G_plant_2 ?_
  refine aw_gr (wx_r0_1 hW) G_plant_3 (wx_o0 hW) ?_
  refine aw_c G_plant_6 ?_
  refine aw_aa G_plant_7 (wx_a_gmarks hW) (show (0 : Int) = ((0 : Nat) : Int) from rfl) (by omega) (wx_rr_gmarks hW (by omega)) ?_
  refine aw_c G_plant_8 ?_
  refine aw_al0 G_plant_9 ?_
  refine aw_gr (wx_r0_0 hW) G_plant_10 (wx_o0 hW) ?_
  refine aw_gi G_plant_13 (wx_o1 hW) ?_
  refine aw_cp G_plant_16 (by omega) rfl hi (wx_ra_gmarks hW (by omega)) hN.1 (Nat.le_refl _) (Nat.le_refl _) ?_
  refine aw_al0 G_plant_19 ?_
  refine aw_gr (wx_r0_2 hW) G_plant_20 (wx_o0 hW) ?_
  refine aw_c G_plant_23 ?_
  refine aw_c G_plant_24 ?_
  refine aw_iast G_plant_26 (wx_a_gnex hW) (show (0 : Int) = ((0 : Nat) : Int) from rfl) (by omega) ?_
  refine aw_al0 G_plant_27 ?_
  refine aw_gr (wx_r0_3 hW) G_plant_28 (wx_o0 hW) ?_
  refine aw_c G_plant_31 ?_
  refine aw_c G_plant_32 ?_
  refine aw_iast G_plant_34 (wx_a_gtra hW) (show (0 : Int) = ((0 : Nat) : Int) from rfl) (by omega) ?_
  refine aw_al0 G_plant_35 ?_
  refine aw_gr (wx_r0_4 hW) G_plant_36 (wx_o0 hW) ?_
  refine aw_c G_plant_39 ?_
  refine aw_c G_plant_40 ?_
  refine aw_iast G_plant_41 (wx_a_gdep hW) (show (0 : Int) = ((0 : Nat) : Int) from rfl) (by omega) ?_
  refine aw_al0 G_plant_42 ?_
  refine aw_gr (wx_r0_5 hW) G_plant_43 (wx_o0 hW) ?_
  refine aw_c G_plant_46 ?_
  refine aw_c G_plant_47 ?_
  refine aw_zast G_plant_48 (wx_a_ggiv hW) (show (0 : Int) = ((0 : Nat) : Int) from rfl) (by omega) (by first | exact Or.inl rfl | exact Or.inr rfl | assumption) ?_
  refine aw_al0 G_plant_49 ?_
  refine aw_c G_plant_50 ?_
  refine aw_pi G_plant_51 (wx_o0 hW) ?_
  refine aw_retv G_plant_54 rfl ?_
  refine hP _ ⟨fun n hn p hp => ?_, fun n h0 hn => ?_, fun n hn => ?_, fun n hn => ?_, ?_⟩ (fun c e hce => ?_)
  · have hn' : n < 1 := hn
    rw [upA_ne (by omega), upA_ne (by omega), upA_ne (by omega), upA_ne (by omega), upA_ne (by omega), show n = 0 by omega]
    exact (if_pos ⟨rfl, hp⟩).trans (hwn p hp)
  · have hn' : n < 1 := hn
    omega
  · have hn' : n < 1 := hn
    rw [upA_ne (by omega), upA_ne (by omega), show n = 0 by omega, upA_eq]; rfl
  · have hn' : n < 1 := hn
    rw [upA_ne (by omega), show n = 0 by omega, upA_eq]; exact (cI_n id).symm
  · rw [upA_eq]; rfl
  · rw [upA_ne (by omega), upA_ne (by omega), upA_ne (by omega), upA_ne (by omega), upA_ne (by omega)]
    exact if_neg (by omega)
theorem RG_8 {γ : Tz} {z x : Int} (h : RGz Pn T g γ z) : RGz Pn T (upA g (2 * T + 212) 8 x) γ z := by
  obtain ⟨r1, r2, r3, r4, r5⟩ := h
  refine ⟨fun k hk p hp => (upA_ne (by omega)).trans (r1 k hk p hp), fun k h0 hk => ?_, fun k hk => (upA_ne (by omega)).trans (r3 k hk), fun k hk => (upA_ne (by omega)).trans (r4 k hk), (upA_ne (by omega)).trans r5⟩
  obtain ⟨z1, z2⟩ := r2 k h0 hk
  exact ⟨(upA_ne (by omega)).trans z1, (upA_ne (by omega)).trans z2⟩
theorem c_gather_e0 {i a b k : Nat} {wn : Nat → Int} {g' : aG} (hW : WX S Pn T) (hP : ∀ g', (∀ x y, (x < 2 * T + 212 ∨ 2 * T + 267 ≤ x) → g' x y = g x y) → (((gtG Pn T nd gv wn 48).1 = true ∧ RG Pn T g' (gtG Pn T nd gv wn 48).2 ∧ g' (2 * T + 212) 8 = 1) ∨ ((gtG Pn T nd gv wn 48).1 = false ∧ g' (2 * T + 212) 8 = 0)) → P (.inl none) (S, g', a, b, false)) (hF : FL T (upA g (2 * T + 212) 8 0) g') (hok : (gtG Pn T nd gv wn 48).1 = false) : aw l E G_gather (d + 3) 61 [some (rV (2 * T + 212)), some (rV i), some (iV 0), some (iV (k : Int)), none, none, none] [] (S, g', a, b, false) P := by
  refine aw_al0 G_gather_61 ?_
  refine aw_il2 G_gather_62 ?_
  refine aw_pz G_gather_63 (wx_o0 hW) (by first | exact Or.inl rfl | exact Or.inr rfl | assumption) ?_
  refine aw_retv G_gather_66 rfl ?_
  exact hP _ (fun x y h => (upA_ne (by omega)).trans ((hF x y (by omega)).trans (upA_ne (by omega)))) (Or.inr ⟨hok, upA_eq _ _ _ _⟩)
theorem c_gather_e1 {i a b k : Nat} {wn : Nat → Int} {g' : aG} (hW : WX S Pn T) (hP : ∀ g', (∀ x y, (x < 2 * T + 212 ∨ 2 * T + 267 ≤ x) → g' x y = g x y) → (((gtG Pn T nd gv wn 48).1 = true ∧ RG Pn T g' (gtG Pn T nd gv wn 48).2 ∧ g' (2 * T + 212) 8 = 1) ∨ ((gtG Pn T nd gv wn 48).1 = false ∧ g' (2 * T + 212) 8 = 0)) → P (.inl none) (S, g', a, b, false)) (hF : FL T (upA g (2 * T + 212) 8 0) g') (hok : (gtG Pn T nd gv wn 48).1 = true) (hR : RG Pn T g' (gtG Pn T nd gv wn 48).2) : aw l E G_gather (d + 3) 61 [some (rV (2 * T + 212)), some (rV i), some (iV 1), some (iV (k : Int)), none, none, none] [] (S, g', a, b, false) P := by
  refine aw_al0 G_gather_61 ?_
  refine aw_il2 G_gather_62 ?_
  refine aw_pz G_gather_63 (wx_o0 hW) (by first | exact Or.inl rfl | exact Or.inr rfl | assumption) ?_
  refine aw_retv G_gather_66 rfl ?_
  exact hP _ (fun x y h => (upA_ne (by omega)).trans ((hF x y (by omega)).trans (upA_ne (by omega)))) (Or.inl ⟨hok, RG_8 hR, upA_eq _ _ _ _⟩)
theorem c_gather_lp {i a b : Nat} {wn : Nat → Int} (hW : WX S Pn T) (hN : NX Pn T g nd gv fs) (hB : BX Pn T nd gv fs) (hB2 : ∀ p, p < Pn → 0 ≤ wn p ∧ wn p ≤ 100) (hP : ∀ g', (∀ x y, (x < 2 * T + 212 ∨ 2 * T + 267 ≤ x) → g' x y = g x y) → (((gtG Pn T nd gv wn 48).1 = true ∧ RG Pn T g' (gtG Pn T nd gv wn 48).2 ∧ g' (2 * T + 212) 8 = 1) ∨ ((gtG Pn T nd gv wn 48).1 = false ∧ g' (2 * T + 212) 8 = 0)) → P (.inl none) (S, g', a, b, false)) : ∀ (m k : Nat) (g' : aG), 48 - k < m → k ≤ 48 → (gtG Pn T nd gv wn k).1 = true → RG Pn T g' (gtG Pn T nd gv wn k).2 → FL T (upA g (2 * T + 212) 8 0) g' → aw l E G_gather (d + 3) 14 [some (rV (2 * T + 212)), some (rV i), some (iV 1), some (iV (k : Int)), none, none, none] [] (S, g', a, b, false) P := by
  intro m
  have hp6 := wx_P hW
  have hT8 := wx_T hW
  have hwg : ∀ k, WG Pn (gtG Pn T nd gv wn k).2 := WG_gt hB2 (fun t ht p hp => ⟨(hB.1 t ht p hp).1, (hB.1 t ht p hp).2.1⟩) (fun t ht p hp => ⟨(hB.1 t ht p hp).2.2.1, (hB.1 t ht p hp).2.2.2⟩)
  induction m with
  | zero => intro k g' h; omega
  | succ m ih =>
    intro k g' hm hk hok hR hF
    have hw := hwg k
    have h48 := hw.2.1
    have hsz : g' (2 * T + 212) 7 = ((gtG Pn T nd gv wn k).2.1 : Int) := hR.2.2.2.2
    have hN' : NX Pn T g' nd gv fs := NX_lo hN (by omega) (fun x y h => (hF x y (Or.inl (by omega))).trans (upA_ne (by omega)))
    have hgu : k < (gtG Pn T nd gv wn k).2.1 → g' (2 * T + 216) k = tf ((gtG Pn T nd gv wn k).2.2.2.2.2.2 k) := fun h => hR.2.2.2.1 k h
    have hend : (gtG Pn T nd gv wn k).2.1 ≤ k ∨ k = 48 → gtG Pn T nd gv wn 48 = gtG Pn T nd gv wn k := fun h => by
      rcases h with h | h
      · have := gt_false (P := Pn) (T := T) (nd := nd) (gv := gv) (wn := wn) (k := k) (Or.inr h) (48 - k)
        rw [show k + (48 - k) = 48 by omega] at this
        exact this
      · rw [h]
    refine aw_il2 G_gather_14 ?_
    refine aw_zeq G_gather_15 (fun h15 => ?_) (fun h15 => ?_)
    · skip
      omega
    · skip
      refine aw_il3 G_gather_18 ?_
      refine aw_al0 G_gather_19 ?_
      refine aw_gi G_gather_20 (wx_o0 hW) ?_
      refine aw_cge G_gather_23 (fun h23 => ?_) (fun h23 => ?_)
      · skip
        have e := hend (by omega)
        exact c_gather_e1 hW hP hF (by rw [e]; exact hok) (by rw [e]; exact hR)
      · skip
        refine aw_il3 G_gather_26 ?_
        refine aw_c G_gather_27 ?_
        refine aw_cge G_gather_29 (fun h29 => ?_) (fun h29 => ?_)
        · skip
          have e := hend (by omega)
          exact c_gather_e1 hW hP hF (by rw [e]; exact hok) (by rw [e]; exact hR)
        · skip
          refine aw_al0 G_gather_32 ?_
          refine aw_gr (wx_r0_5 hW) G_gather_33 (wx_o0 hW) ?_
          refine aw_il3 G_gather_36 ?_
          refine aw_za G_gather_37 (wx_a_ggiv hW) (by first | rfl | assumption) (by omega) ?_
          rw [hgu (by omega)]
          refine aw_zne G_gather_38 (fun h38 => ?_) (fun h38 => ?_)
          · skip
            refine aw_c G_gather_49 ?_
            refine aw_go G_gather_50 ?_
            refine aw_is2 G_gather_54 ?_
            refine aw_ip3 G_gather_55 (by omega) ?_
            refine aw_go G_gather_58 ?_
            have e : gtG Pn T nd gv wn (k + 1) = gtG Pn T nd gv wn k := cI_n (fun z => z.2.2 (nz h38))
            exact ih (k + 1) g' (by omega) (by omega) (by rw [e]; exact hok) (by rw [e]; exact hR) hF
          · skip
            refine aw_al0 G_gather_41 ?_
            refine aw_il3 G_gather_42 ?_
            refine aw_V1 G_gather_43 rfl rfl rfl (wx_o0 hW) ?_
            refine c_goBack (d := d) hW hN' hB hw hR (by omega) (fun g2 hR2 hF2 => ?_)
            show aw _ _ _ _ _ _ _ _ _
            refine aw_zeq G_gather_46 (fun h46 => ?_) (fun h46 => ?_)
            · skip
              refine aw_c G_gather_53 ?_
              refine aw_is2 G_gather_54 ?_
              refine aw_ip3 G_gather_55 (by omega) ?_
              refine aw_go G_gather_58 ?_
              have e : gtG Pn T nd gv wn (k + 1) = bkG Pn nd gv (gtG Pn T nd gv wn k).2 k T := cI_p ⟨hok, by omega, iz h38⟩
              have hfa : (gtG Pn T nd gv wn (k + 1)).1 = false := by
                rw [e]
                cases hb : (bkG Pn nd gv (gtG Pn T nd gv wn k).2 k T).1 with
                | false => rfl
                | true => exact absurd hb (iz h46)
              have e2 : gtG Pn T nd gv wn 48 = gtG Pn T nd gv wn (k + 1) := by
                have := gt_false (P := Pn) (T := T) (nd := nd) (gv := gv) (wn := wn) (k := k + 1) (Or.inl hfa) (48 - (k + 1))
                rw [show k + 1 + (48 - (k + 1)) = 48 by omega] at this
                exact this
              refine aw_il2 G_gather_14 ?_
              refine aw_zeq G_gather_15 (fun _ => ?_) (fun z => absurd rfl z)
              exact c_gather_e0 hW hP (hF.tr hF2) (by rw [e2]; exact hfa)
            · skip
              refine aw_c G_gather_49 ?_
              refine aw_go G_gather_50 ?_
              refine aw_is2 G_gather_54 ?_
              refine aw_ip3 G_gather_55 (by omega) ?_
              refine aw_go G_gather_58 ?_
              have e : gtG Pn T nd gv wn (k + 1) = bkG Pn nd gv (gtG Pn T nd gv wn k).2 k T := cI_p ⟨hok, by omega, iz h38⟩
              exact ih (k + 1) g2 (by omega) (by omega) (by rw [e]; exact nz h46) (by rw [e]; exact hR2) (hF.tr hF2)
theorem c_gather {i a b : Nat} {wn : Nat → Int} (hW : WX S Pn T) (hN : NX Pn T g nd gv fs) (hB : BX Pn T nd gv fs) (hB2 : ∀ p, p < Pn → 0 ≤ wn p ∧ wn p ≤ 100) (hi : hasA S i 0 Pn) (hi2 : i = 2 * T + 267) (hwn : ∀ p, p < Pn → g i p = wn p) (hP : ∀ g', (∀ x y, (x < 2 * T + 212 ∨ 2 * T + 267 ≤ x) → g' x y = g x y) → (((gtG Pn T nd gv wn 48).1 = true ∧ RG Pn T g' (gtG Pn T nd gv wn 48).2 ∧ g' (2 * T + 212) 8 = 1) ∨ ((gtG Pn T nd gv wn 48).1 = false ∧ g' (2 * T + 212) 8 = 0)) → P (.inl none) (S, g', a, b, false)) : Sp l E G_gather (d + 3) [rV (2 * T + 212), rV i] (S, g, a, b, false) P := by
  have hT8 := wx_T hW
  have hN0 : NX Pn T (upA g (2 * T + 212) 8 0) nd gv fs := NX_lo hN (by omega) (fun x y h => upA_ne (by omega))
  show aw l E G_gather (d + 3) 0 [some (rV (2 * T + 212)), some (rV i), none, none, none, none, none] [] (S, g, a, b, false) P
  refine aw_al0 G_gather_0 ?_
  refine aw_c G_gather_1 ?_
  refine aw_pz G_gather_2 (wx_o0 hW) (by first | exact Or.inl rfl | exact Or.inr rfl | assumption) ?_
  refine aw_al0 G_gather_5 ?_
  refine aw_al1 G_gather_6 ?_
  refine aw_V1 G_gather_7 rfl rfl rfl (wx_o0 hW) ?_
  refine c_Gplant (d := d + 2) hW hN0 (by omega) hi (fun p hp => (upA_ne (by omega)).trans (hwn p hp)) (fun g1 hR1 hF1 => ?_)
  show aw _ _ _ _ _ _ _ _ _
  refine aw_c G_gather_10 ?_
  refine aw_is2 G_gather_11 ?_
  refine aw_c G_gather_12 ?_
  refine aw_is3 G_gather_13 ?_
  exact c_gather_lp hW hN hB hB2 hP 49 0 g1 (by omega) (by omega) rfl hR1 hF1
end MG
