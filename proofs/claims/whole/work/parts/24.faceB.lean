section MP
variable {l : Launch} {E : aE} {d : Nat} {S : aS} {g : aG} {u : aU} {P : aP} {Pn T : Nat} {nd gv : Nat → Nat → Int} {fs wn pr : Nat → Int} {fi : Nat} {tm gm : Prop} {a b : Nat}
theorem NX_f {g' : aG} (h : NX Pn T g nd gv fs) (hT : 1 ≤ T) (hg : ∀ x y, 1 ≤ x → x < 2 * T + 5 → g' x y = g x y) : NX Pn T g' nd gv fs := by
  obtain ⟨h1, h2, h3, h4⟩ := h
  refine ⟨(hg _ _ (by omega) (by omega)).trans h1, (hg _ _ (by omega) (by omega)).trans h2, fun t ht p hp => ?_, fun p hp => (hg _ _ (by omega) (by omega)).trans (h4 p hp)⟩
  obtain ⟨z1, z2⟩ := h3 t ht p hp
  exact ⟨(hg _ _ (by omega) (by omega)).trans z1, (hg _ _ (by omega) (by omega)).trans z2⟩
theorem c_start {p n : Int} (hW : WX S Pn T) (hX : XS Pn T g nd gv fs wn pr fi tm gm) (ha : 1 ≤ a) (hb : 6 ≤ b)
    (h0 : ∀ p' : Nat, p = (p' : Int) → p' < Pn → 0 ≤ n → n ≤ 100 → ∀ g', XS Pn T g' nd gv (up1 fs p' n) wn (up1 fs p' n) 0 False False → FX T g g' → P (.inl (some (iV (fs p')))) (S, g', a, b, false))
    (h1 : ¬ (0 ≤ p ∧ p < (Pn : Int)) → P (.inr xIO) (S, g, a - 1, b - 6, false)) (h2 : (0 ≤ p ∧ p < (Pn : Int)) → ¬ (0 ≤ n ∧ n ≤ 100) → P (.inr xIA) (S, g, a - 1, b - 6, false)) : Sp l E O_start 10 [rV 0, iV p, iV n] (S, g, a, b, false) P := by
  have hT8 := wx_T hW
  have hp6 := wx_P hW
  show aw l E O_start 10 0 [some (rV 0), some (iV p), some (iV n), none, none, none, none] [] (S, g, a, b, false) P
  refine aw_al0 O_start_0 ?_
  refine aw_il1 O_start_1 ?_
  refine aw_V1 O_start_2 rfl rfl rfl (wx_o3 hW) ?_
  refine c_checkPlace hW hX ha hb (by omega) (fun k1 k2 => ?_) (fun k => h1 k)
  show aw _ _ _ _ _ _ _ _ _
  refine aw_il2 O_start_5 ?_
  refine aw_c O_start_6 ?_
  refine aw_S2 O_start_8 rfl rfl rfl rfl ?_
  refine c_checkNumber (by omega) ha hb (fun k3 k4 => ?_) (fun k => h2 ⟨k1, k2⟩ k)
  show aw _ _ _ _ _ _ _ _ _
  obtain ⟨p', rfl⟩ := Int.eq_ofNat_of_zero_le k1
  refine aw_al0 O_start_11 ?_
  refine aw_gr (wx_r3_0 hW) O_start_12 (wx_o3 hW) ?_
  refine aw_gr (wx_r1_4 hW) O_start_15 (wx_o1 hW) ?_
  refine aw_il1 O_start_18 ?_
  refine aw_ia O_start_19 (wx_a_first hW) (by first | rfl | assumption) (by omega) ?_
  refine aw_is3 O_start_20 ?_
  refine aw_al0 O_start_21 ?_
  refine aw_gr (wx_r3_0 hW) O_start_22 (wx_o3 hW) ?_
  refine aw_gr (wx_r1_4 hW) O_start_25 (wx_o1 hW) ?_
  refine aw_il1 O_start_28 ?_
  refine aw_il2 O_start_29 ?_
  refine aw_iast O_start_30 (wx_a_first hW) (by first | rfl | assumption) (by omega) ?_
  refine aw_al0 O_start_31 ?_
  refine aw_V0 O_start_32 rfl rfl (wx_o3 hW) ?_
  refine c_returnToStart hW ((upA_ne (by omega)).trans hX.1.1) (by omega) ?_
  show aw _ _ _ _ _ _ _ _ _
  refine aw_al0 O_start_35 ?_
  refine aw_V0 O_start_36 rfl rfl (wx_o3 hW) ?_
  refine c_forget hW ?_
  show aw _ _ _ _ _ _ _ _ _
  refine aw_il3 O_start_39 ?_
  refine aw_reti O_start_40 (Or.inl rfl) ?_
  obtain ⟨x1, x2, x3, x4, x5, x6, x7, x8, x9⟩ := hX
  rw [x1.2.2.2 p' (by omega)]
  have q1 : ∀ x y, x ≠ 2 * T + 4 → x ≠ 2 * T + 268 → ¬ (x = 0 ∧ y = 5) → ¬ (x = 2 * T + 5 ∧ y = 9) → ¬ (x = 2 * T + 212 ∧ y = 8) → (upA (upA (upA (cpA (upA g (2 * T + 4) p' n) (2 * T + 4) (2 * T + 268) Pn) 0 5 0) (2 * T + 5) 9 0) (2 * T + 212) 8 0) x y = g x y := fun x y z1 z2 z3 z4 z5 => by
    rw [upA_ne z5, upA_ne z4, upA_ne z3, cpA_ne z2, upA_ne (fun z => z1 z.1)]
  have q2 : ∀ r, r < Pn → (upA (upA (upA (cpA (upA g (2 * T + 4) p' n) (2 * T + 4) (2 * T + 268) Pn) 0 5 0) (2 * T + 5) 9 0) (2 * T + 212) 8 0) (2 * T + 4) r = up1 fs p' n r := fun r hr => by
    rw [upA_ne (by omega), upA_ne (by omega), upA_ne (by omega), cpA_ne (by omega)]
    unfold up1
    by_cases e : r = p'
    · rw [if_pos e, e, upA_eq]
    · rw [if_neg e, upA_ne (by omega)]; exact x1.2.2.2 r hr
  have q3 : ∀ r, r < Pn → (upA (upA (upA (cpA (upA g (2 * T + 4) p' n) (2 * T + 4) (2 * T + 268) Pn) 0 5 0) (2 * T + 5) 9 0) (2 * T + 212) 8 0) (2 * T + 268) r = up1 fs p' n r := fun r hr => by
    rw [upA_ne (by omega), upA_ne (by omega), upA_ne (by omega)]
    refine (if_pos ⟨rfl, hr⟩).trans ?_
    unfold up1
    by_cases e : r = p'
    · rw [if_pos e, e, upA_eq]
    · rw [if_neg e, upA_ne (by omega)]; exact x1.2.2.2 r hr
  have hbd : ∀ r, r < Pn → 0 ≤ up1 fs p' n r ∧ up1 fs p' n r ≤ 100 := fun r hr => by
    unfold up1
    split
    · omega
    · exact x2.2 r hr
  refine h0 p' rfl (by omega) k3 k4 _ ⟨⟨(q1 _ _ (by omega) (by omega) (by omega) (by omega) (by omega)).trans x1.1, (q1 _ _ (by omega) (by omega) (by omega) (by omega) (by omega)).trans x1.2.1, fun s hs r hr => ⟨(q1 _ _ (by omega) (by omega) (by omega) (by omega) (by omega)).trans (x1.2.2.1 s hs r hr).1, (q1 _ _ (by omega) (by omega) (by omega) (by omega) (by omega)).trans (x1.2.2.1 s hs r hr).2⟩, q2⟩, ⟨x2.1, hbd⟩, fun r hr => ⟨(q1 _ _ (by omega) (by omega) (by omega) (by omega) (by omega)).trans (x3 r hr).1, (x3 r hr).2⟩, fun r hr => ⟨q3 r hr, (hbd r hr).1, by have := (hbd r hr).2; omega⟩, ?_, ?_, ?_, fun z => z.elim, fun z => z.elim⟩ (fun x y h => q1 _ _ (by omega) (by omega) (by omega) (by omega) (by omega))
  · rw [upA_ne (by omega), upA_ne (by omega), upA_eq]; rfl
  · rw [upA_ne (by omega), upA_eq]; exact (cI_n id).symm
  · rw [upA_eq]; exact (cI_n id).symm
theorem c_want {p n : Int} (hW : WX S Pn T) (hX : XS Pn T g nd gv fs wn pr fi tm gm) (ha : 1 ≤ a) (hb : 6 ≤ b)
    (h0 : ∀ p' : Nat, p = (p' : Int) → p' < Pn → 0 ≤ n → n ≤ 100 → ∀ g', XS Pn T g' nd gv fs (up1 wn p' n) pr fi tm False → FX T g g' → P (.inl (some (iV (wn p')))) (S, g', a, b, false))
    (h1 : ¬ (0 ≤ p ∧ p < (Pn : Int)) → P (.inr xIO) (S, g, a - 1, b - 6, false)) (h2 : (0 ≤ p ∧ p < (Pn : Int)) → ¬ (0 ≤ n ∧ n ≤ 100) → P (.inr xIA) (S, g, a - 1, b - 6, false)) : Sp l E O_want 10 [rV 0, iV p, iV n] (S, g, a, b, false) P := by
  have hT8 := wx_T hW
  have hp6 := wx_P hW
  show aw l E O_want 10 0 [some (rV 0), some (iV p), some (iV n), none, none, none, none] [] (S, g, a, b, false) P
  refine aw_al0 O_want_0 ?_
  refine aw_il1 O_want_1 ?_
  refine aw_V1 O_want_2 rfl rfl rfl (wx_o3 hW) ?_
  refine c_checkPlace hW hX ha hb (by omega) (fun k1 k2 => ?_) (fun k => h1 k)
  show aw _ _ _ _ _ _ _ _ _
  refine aw_il2 O_want_5 ?_
  refine aw_c O_want_6 ?_
  refine aw_S2 O_want_8 rfl rfl rfl rfl ?_
  refine c_checkNumber (by omega) ha hb (fun k3 k4 => ?_) (fun k => h2 ⟨k1, k2⟩ k)
  show aw _ _ _ _ _ _ _ _ _
  obtain ⟨p', rfl⟩ := Int.eq_ofNat_of_zero_le k1
  refine aw_al0 O_want_11 ?_
  refine aw_gr (wx_r3_3 hW) O_want_12 (wx_o3 hW) ?_
  refine aw_il1 O_want_15 ?_
  refine aw_ia O_want_16 (wx_a_xwan hW) (by first | rfl | assumption) (by omega) ?_
  refine aw_is3 O_want_17 ?_
  refine aw_al0 O_want_18 ?_
  refine aw_gr (wx_r3_3 hW) O_want_19 (wx_o3 hW) ?_
  refine aw_il1 O_want_22 ?_
  refine aw_il2 O_want_23 ?_
  refine aw_iast O_want_24 (wx_a_xwan hW) (by first | rfl | assumption) (by omega) ?_
  refine aw_al0 O_want_25 ?_
  refine aw_gr (wx_r3_2 hW) O_want_26 (wx_o3 hW) ?_
  refine aw_c O_want_29 ?_
  refine aw_pz O_want_30 (wx_o0 hW) (by first | exact Or.inl rfl | exact Or.inr rfl | assumption) ?_
  refine aw_il3 O_want_33 ?_
  refine aw_reti O_want_34 (Or.inl rfl) ?_
  obtain ⟨x1, x2, x3, x4, x5, x6, x7, x8, x9⟩ := hX
  rw [(x3 p' (by omega)).1]
  have q1 : ∀ x y, x ≠ 2 * T + 267 → ¬ (x = 2 * T + 212 ∧ y = 8) → (upA (upA g (2 * T + 267) p' n) (2 * T + 212) 8 0) x y = g x y := fun x y z1 z5 => by
    rw [upA_ne z5, upA_ne (fun z => z1 z.1)]
  refine h0 p' rfl (by omega) k3 k4 _ ⟨NX_lo x1 (by omega) (fun x y h => q1 x y (by omega) (by omega)), x2, fun r hr => ?_, fun r hr => ⟨(q1 _ _ (by omega) (by omega)).trans (x4 r hr).1, (x4 r hr).2⟩, (q1 _ _ (by omega) (by omega)).trans x5, (q1 _ _ (by omega) (by omega)).trans x6, ?_, fun z => ⟨(x8 z).1, TX_fr (x8 z).2 (fun x y z1 z2 z3 => q1 x y (by omega) (by omega)) (BX_wt x2 200).2.1⟩, fun z => z.elim⟩ (fun x y h => q1 _ _ (by omega) (by omega))
  · rw [upA_ne (by omega)]
    unfold up1
    by_cases e : r = p'
    · rw [if_pos e, e, upA_eq]; exact ⟨rfl, k3, k4⟩
    · rw [if_neg e, upA_ne (by omega)]; exact x3 r hr
  · rw [upA_eq]; exact (cI_n id).symm
theorem c_fire {t : Int} (hW : WX S Pn T) (hX : XS Pn T g nd gv fs wn pr fi tm gm) (ha : 1 ≤ a) (hb : 6 ≤ b) (hfi : fi ≤ 100000)
    (h0 : ∀ t' : Nat, t = (t' : Int) → t' < T → bl Pn (nd t') pr → ∀ g', XS Pn T g' nd gv fs wn (fun p => pr p - nd t' p + gv t' p) (fi + 1) tm gm → FX T g g' → P (.inl (some (iV 1))) (S, g', a, b, false))
    (h0' : ∀ t' : Nat, t = (t' : Int) → t' < T → ¬ bl Pn (nd t') pr → P (.inl (some (iV 0))) (S, g, a, b, false))
    (h1 : ¬ (0 ≤ t ∧ t < (T : Int)) → P (.inr xIO) (S, g, a - 1, b - 6, false)) : Sp l E O_fire 10 [rV 0, iV t] (S, g, a, b, false) P := by
  have hT8 := wx_T hW
  have hp6 := wx_P hW
  show aw l E O_fire 10 0 [some (rV 0), some (iV t), none, none, none, none, none] [] (S, g, a, b, false) P
  refine aw_al0 O_fire_0 ?_
  refine aw_il1 O_fire_1 ?_
  refine aw_V1 O_fire_2 rfl rfl rfl (wx_o3 hW) ?_
  refine c_checkTransition hW hX ha hb (by omega) (fun k1 k2 => ?_) (fun k => h1 k)
  show aw _ _ _ _ _ _ _ _ _
  obtain ⟨t', rfl⟩ := Int.eq_ofNat_of_zero_le k1
  have hb1 : bl Pn (g (3 + t')) (g (2 * T + 268)) ↔ bl Pn (nd t') pr := blC (fun p hp => (hX.1.2.2.1 t' (by omega) p hp).1) (fun p hp => (hX.2.2.2.1 p hp).1)
  refine aw_al0 O_fire_5 ?_
  refine aw_gr (wx_r3_0 hW) O_fire_6 (wx_o3 hW) ?_
  refine aw_al0 O_fire_9 ?_
  refine aw_gr (wx_r3_4 hW) O_fire_10 (wx_o3 hW) ?_
  refine aw_il1 O_fire_13 ?_
  refine aw_V2 O_fire_14 rfl rfl rfl rfl (wx_o1 hW) ?_
  refine c_enables (d := 8) hW (wx_a_xpre hW) (by omega) ?_
  show aw _ _ _ _ _ _ _ _ _
  refine aw_zne O_fire_17 (fun h17 => ?_) (fun h17 => ?_)
  · skip
    refine aw_al0 O_fire_22 ?_
    refine aw_gr (wx_r3_0 hW) O_fire_23 (wx_o3 hW) ?_
    refine aw_al0 O_fire_26 ?_
    refine aw_gr (wx_r3_4 hW) O_fire_27 (wx_o3 hW) ?_
    refine aw_il1 O_fire_30 ?_
    refine aw_al0 O_fire_31 ?_
    refine aw_gr (wx_r3_4 hW) O_fire_32 (wx_o3 hW) ?_
    refine aw_V3 O_fire_35 rfl rfl rfl rfl rfl (wx_o1 hW) ?_
    refine c_move hW (wx_a_xpre hW) (wx_a_xpre hW) (by omega) (by omega) hX.1.1 (fun p hp => by
      have z := hX.2.2.2.1 p hp
      rw [z.1]
      omega) (fun p hp => by
      rw [(hX.1.2.2.1 t' (by omega) p hp).1]
      have z := hX.2.1.1 t' (by omega) p hp
      omega) (fun p hp => by
      rw [(hX.1.2.2.1 t' (by omega) p hp).2]
      have z := hX.2.1.1 t' (by omega) p hp
      omega) ?_
    show aw _ _ _ _ _ _ _ _ _
    have e5 : (mvk g (2 * T + 268) (2 * T + 268) (3 + t') (T + 4 + t') Pn) 0 5 = (fi : Int) := (mvk_ne (by omega)).trans hX.2.2.2.2.1
    refine aw_al0 O_fire_38 ?_
    refine aw_dup O_fire_39 ?_
    refine aw_gi O_fire_40 (wx_o3 hW) ?_
    refine aw_c O_fire_43 ?_
    refine aw_add O_fire_44 (by constructor <;> omega) ?_
    refine aw_pi O_fire_45 (wx_o3 hW) ?_
    refine aw_c O_fire_48 ?_
    refine aw_reti O_fire_49 (Or.inr ⟨rfl, (by first | exact Or.inl rfl | exact Or.inr rfl | assumption)⟩) ?_
    obtain ⟨x1, x2, x3, x4, x5, x6, x7, x8, x9⟩ := hX
    have q1 : ∀ x y, x ≠ 2 * T + 268 → ¬ (x = 0 ∧ y = 5) → (upA (mvk g (2 * T + 268) (2 * T + 268) (3 + t') (T + 4 + t') Pn) 0 5 ((mvk g (2 * T + 268) (2 * T + 268) (3 + t') (T + 4 + t') Pn) 0 5 + 1)) x y = g x y := fun x y z1 z5 => by
      rw [upA_ne z5, mvk_ne z1]
    refine h0 t' rfl (by omega) (hb1.mp (nz h17)) _ ⟨NX_f x1 (by omega) (fun x y h1 h2 => q1 x y (by omega) (by omega)), x2, fun r hr => ⟨(q1 _ _ (by omega) (by omega)).trans (x3 r hr).1, (x3 r hr).2⟩, fun r hr => ?_, ?_, (q1 _ _ (by omega) (by omega)).trans x6, (q1 _ _ (by omega) (by omega)).trans x7, fun z => ⟨(x8 z).1, TX_fr (x8 z).2 (fun x y z1 z2 z3 => q1 x y (by omega) (by omega)) (BX_wt x2 200).2.1⟩, fun z => ⟨(x9 z).1, RG_fr (x9 z).2 (fun x y z1 z2 z3 => q1 x y (by omega) (by omega)) (BX_wg x2 (fun p hp => (x3 p hp).2) 48).2.1⟩⟩ (fun x y h => q1 _ _ (by omega) (by omega))
    · have z1 := x4 r hr
      have z2 := hb1.mp (nz h17) r hr
      have z3 := x2.1 t' (by omega) r hr
      have e : (upA (mvk g (2 * T + 268) (2 * T + 268) (3 + t') (T + 4 + t') Pn) 0 5 ((mvk g (2 * T + 268) (2 * T + 268) (3 + t') (T + 4 + t') Pn) 0 5 + 1)) (2 * T + 268) r = pr r - nd t' r + gv t' r := by
        rw [upA_ne (by omega)]
        refine (if_pos ⟨rfl, hr⟩).trans ?_
        rw [z1.1, (x1.2.2.1 t' (by omega) r hr).1, (x1.2.2.1 t' (by omega) r hr).2]
        exact if_neg (by omega)
      refine ⟨e, ?_, ?_⟩
      · show 0 ≤ pr r - nd t' r + gv t' r
        omega
      · show pr r - nd t' r + gv t' r ≤ 100 + 9 * ((fi + 1 : Nat) : Int)
        omega
    · rw [upA_eq, mvk_ne (by omega), x5]; rfl
  · skip
    refine aw_c O_fire_20 ?_
    refine aw_reti O_fire_21 (Or.inr ⟨rfl, (by first | exact Or.inl rfl | exact Or.inr rfl | assumption)⟩) ?_
    exact h0' t' rfl (by omega) (fun z => iz h17 (hb1.mpr z))
theorem c_at {p : Int} (hW : WX S Pn T) (hX : XS Pn T g nd gv fs wn pr fi tm gm) (ha : 1 ≤ a) (hb : 6 ≤ b) (h0 : ∀ p' : Nat, p = (p' : Int) → p' < Pn → P (.inl (some (iV (pr p')))) (S, g, a, b, false)) (h1 : ¬ (0 ≤ p ∧ p < (Pn : Int)) → P (.inr xIO) (S, g, a - 1, b - 6, false)) : Sp l E O_at 10 [rV 0, iV p] (S, g, a, b, false) P := by
  have hT8 := wx_T hW
  have hp6 := wx_P hW
  show aw l E O_at 10 0 [some (rV 0), some (iV p), none, none, none, none, none] [] (S, g, a, b, false) P
  refine aw_al0 O_at_0 ?_
  refine aw_il1 O_at_1 ?_
  refine aw_V1 O_at_2 rfl rfl rfl (wx_o3 hW) ?_
  refine c_checkPlace hW hX ha hb (by omega) (fun k1 k2 => ?_) (fun k => h1 k)
  show aw _ _ _ _ _ _ _ _ _
  obtain ⟨p', rfl⟩ := Int.eq_ofNat_of_zero_le k1
  refine aw_al0 O_at_5 ?_
  refine aw_gr (wx_r3_4 hW) O_at_6 (wx_o3 hW) ?_
  refine aw_il1 O_at_9 ?_
  refine aw_ia O_at_10 (wx_a_xpre hW) (by first | rfl | assumption) (by omega) ?_
  refine aw_reti O_at_11 (Or.inl rfl) ?_
  rw [(hX.2.2.2.1 p' (by omega)).1]
  exact h0 p' rfl (by omega)
theorem c_reset (hW : WX S Pn T) (hX : XS Pn T g nd gv fs wn pr fi tm gm) (h0 : ∀ g', XS Pn T g' nd gv fs wn fs 0 tm gm → FX T g g' → P (.inl (some (iV (fi : Int)))) (S, g', a, b, false)) : Sp l E O_reset 11 [rV 0] (S, g, a, b, false) P := by
  have hT8 := wx_T hW
  have hp6 := wx_P hW
  show aw l E O_reset 11 0 [some (rV 0), none, none, none, none, none, none] [] (S, g, a, b, false) P
  refine aw_al0 O_reset_0 ?_
  refine aw_gi O_reset_1 (wx_o3 hW) ?_
  refine aw_is1 O_reset_4 ?_
  refine aw_al0 O_reset_5 ?_
  refine aw_V0 O_reset_6 rfl rfl (wx_o3 hW) ?_
  refine c_returnToStart hW hX.1.1 (by omega) ?_
  show aw _ _ _ _ _ _ _ _ _
  refine aw_il1 O_reset_9 ?_
  refine aw_reti O_reset_10 (Or.inl rfl) ?_
  obtain ⟨x1, x2, x3, x4, x5, x6, x7, x8, x9⟩ := hX
  rw [x5]
  have q1 : ∀ x y, x ≠ 2 * T + 268 → ¬ (x = 0 ∧ y = 5) → (upA (cpA g (2 * T + 4) (2 * T + 268) Pn) 0 5 0) x y = g x y := fun x y z1 z5 => by
    rw [upA_ne z5, cpA_ne z1]
  refine h0 _ ⟨NX_f x1 (by omega) (fun x y h1 h2 => q1 x y (by omega) (by omega)), x2, fun r hr => ⟨(q1 _ _ (by omega) (by omega)).trans (x3 r hr).1, (x3 r hr).2⟩, fun r hr => ⟨?_, (x2.2 r hr).1, by have := (x2.2 r hr).2; omega⟩, upA_eq _ _ _ _, (q1 _ _ (by omega) (by omega)).trans x6, (q1 _ _ (by omega) (by omega)).trans x7, fun z => ⟨(x8 z).1, TX_fr (x8 z).2 (fun x y z1 z2 z3 => q1 x y (by omega) (by omega)) (BX_wt x2 200).2.1⟩, fun z => ⟨(x9 z).1, RG_fr (x9 z).2 (fun x y z1 z2 z3 => q1 x y (by omega) (by omega)) (BX_wg x2 (fun p hp => (x3 p hp).2) 48).2.1⟩⟩ (fun x y h => q1 _ _ (by omega) (by omega))
  rw [upA_ne (by omega)]
  exact (if_pos ⟨rfl, hr⟩).trans (x1.2.2.2 r hr)
theorem c_explore (hW : WX S Pn T) (hX : XS Pn T g nd gv fs wn pr fi tm gm) (ha : 1 ≤ a) (hb : 6 ≤ b) (h0 : (grT Pn T nd gv fs 200).1 = true → ∀ g', XS Pn T g' nd gv fs wn pr fi True gm → FX T g g' → P (.inl (some (iV ((grT Pn T nd gv fs 200).2.1 : Int)))) (S, g', a, b, false)) (h1 : (grT Pn T nd gv fs 200).1 = false → ∀ g', XS Pn T g' nd gv fs wn pr fi False gm → FX T g g' → P (.inr xIS) (S, g', a - 1, b - 6, false)) : Sp l E O_explore 10 [rV 0] (S, g, a, b, false) P := by
  have hT8 := wx_T hW
  have hp6 := wx_P hW
  have hX' := hX
  obtain ⟨x1, x2, x3, x4, x5, x6, x7, x8, x9⟩ := hX
  show aw l E O_explore 10 0 [some (rV 0), none, none, none, none, none, none] [] (S, g, a, b, false) P
  refine aw_al0 O_explore_0 ?_
  refine aw_gr (wx_r3_1 hW) O_explore_1 (wx_o3 hW) ?_
  refine aw_V0 O_explore_4 rfl rfl (wx_o2 hW) ?_
  refine c_grow (d := 4) hW x1 x2 (fun g1 hF hres => ?_)
  show aw _ _ _ _ _ _ _ _ _
  have hXn : ∀ tm' : Prop, g1 (2 * T + 5) 9 = tf tm' → (tm' → (grT Pn T nd gv fs 200).1 = true ∧ TX Pn T g1 (grT Pn T nd gv fs 200).2) → XS Pn T g1 nd gv fs wn pr fi tm' gm := fun tm' y1 y2 => ⟨NX_lo x1 (by omega) (fun x y h => hF x y (Or.inl h)), x2, fun r hr => ⟨(hF _ _ (by omega)).trans (x3 r hr).1, (x3 r hr).2⟩, fun r hr => ⟨(hF _ _ (by omega)).trans (x4 r hr).1, (x4 r hr).2⟩, (hF _ _ (by omega)).trans x5, y1, (hF _ _ (by omega)).trans x7, y2, fun z => ⟨(x9 z).1, RG_fr (x9 z).2 (fun x y z1 z2 z3 => hF x y (by omega)) (BX_wg x2 (fun p hp => (x3 p hp).2) 48).2.1⟩⟩
  have hFX : FX T g g1 := fun x y h => hF x y (by omega)
  refine aw_al0 O_explore_7 ?_
  refine aw_gr (wx_r3_1 hW) O_explore_8 (wx_o3 hW) ?_
  refine aw_gi O_explore_11 (wx_o2 hW) ?_
  refine aw_zne O_explore_14 (fun h14 => ?_) (fun h14 => ?_)
  · skip
    refine aw_al0 O_explore_27 ?_
    refine aw_gr (wx_r3_1 hW) O_explore_28 (wx_o3 hW) ?_
    refine aw_gi O_explore_31 (wx_o2 hW) ?_
    refine aw_reti O_explore_34 (Or.inl rfl) ?_
    rcases hres with ⟨r1, r2, r3⟩ | ⟨r1, r2⟩
    · rw [r2.1.2.2.2.2.2]
      exact h0 r1 g1 (hXn True (by rw [r3]; exact (cI_p trivial).symm) (fun _ => ⟨r1, r2⟩)) hFX
    · exact absurd r2 h14
  · skip
    refine aw_throw O_explore_17 (by omega) (Nat.le_of_ble_eq_true rfl) (by omega) (by omega) ?_
    rcases hres with ⟨r1, r2, r3⟩ | ⟨r1, r2⟩
    · omega
    · exact h1 r1 g1 (hXn False (by rw [r2]; exact (cI_n id).symm) (fun z => z.elim)) hFX
theorem c_count {n p : Int} (hW : WX S Pn T) (hX : XS Pn T g nd gv fs wn pr fi tm gm) (ha : 1 ≤ a) (hb : 6 ≤ b) (h0 : tm → ∀ n' p' : Nat, n = (n' : Int) → p = (p' : Int) → n' < (grT Pn T nd gv fs 200).2.1 → p' < Pn → P (.inl (some (iV (if (grT Pn T nd gv fs 200).2.2.1 n' p' = 1000000000 then -1 else (grT Pn T nd gv fs 200).2.2.1 n' p')))) (S, g, a, b, false)) (h1 : ¬ tm → P (.inr xIS) (S, g, a - 1, b - 6, false)) (h2 : tm → ¬ (0 ≤ n ∧ n < ((grT Pn T nd gv fs 200).2.1 : Int)) ∨ ¬ (0 ≤ p ∧ p < (Pn : Int)) → P (.inr xIO) (S, g, a - 1, b - 6, false)) : Sp l E O_count 10 [rV 0, iV n, iV p] (S, g, a, b, false) P := by
  have hT8 := wx_T hW
  have hp6 := wx_P hW
  show aw l E O_count 10 0 [some (rV 0), some (iV n), some (iV p), none, none, none, none] [] (S, g, a, b, false) P
  refine aw_al0 O_count_0 ?_
  refine aw_V0 O_count_1 rfl rfl (wx_o3 hW) ?_
  refine c_checkTree hW hX ha hb (by omega) (fun htm => ?_) (fun k => h1 k)
  show aw _ _ _ _ _ _ _ _ _
  refine aw_al0 O_count_4 ?_
  refine aw_il1 O_count_5 ?_
  refine aw_V1 O_count_6 rfl rfl rfl (wx_o3 hW) ?_
  refine c_checkNode hW (hX.2.2.2.2.2.2.2.1 htm).2.1.2.2.2.2.2 ha hb (by omega) (fun k1 k2 => ?_) (fun k => h2 htm (Or.inl k))
  show aw _ _ _ _ _ _ _ _ _
  refine aw_al0 O_count_9 ?_
  refine aw_il2 O_count_10 ?_
  refine aw_V1 O_count_11 rfl rfl rfl (wx_o3 hW) ?_
  refine c_checkPlace hW hX ha hb (by omega) (fun k3 k4 => ?_) (fun k => h2 htm (Or.inr k))
  show aw _ _ _ _ _ _ _ _ _
  obtain ⟨n', rfl⟩ := Int.eq_ofNat_of_zero_le k1
  have hw := BX_wt hX.2.1 200
  have h200 := hw.2.1
  have hR := (hX.2.2.2.2.2.2.2.1 htm).2.1
  obtain ⟨p', rfl⟩ := Int.eq_ofNat_of_zero_le k3
  refine aw_al0 O_count_14 ?_
  refine aw_gr (wx_r3_1 hW) O_count_15 (wx_o3 hW) ?_
  refine aw_gr (wx_r2_1 hW) O_count_18 (wx_o2 hW) ?_
  refine aw_il1 O_count_21 ?_
  refine aw_aa O_count_22 (wx_a_tmarks hW) (by first | rfl | assumption) (by omega) (wx_rr_tmarks hW (by omega)) ?_
  refine aw_il2 O_count_23 ?_
  refine aw_ia O_count_24 (wx_ra_tmarks hW (by omega)) (by first | rfl | assumption) (by omega) ?_
  rw [hR.1 n' (by omega) p' (by omega)]
  refine aw_S1 O_count_25 rfl rfl rfl ?_
  refine c_shown ?_
  show aw _ _ _ _ _ _ _ _ _
  refine aw_reti O_count_28 (Or.inl rfl) ?_
  exact h0 htm n' p' rfl rfl (by omega) (by omega)
noncomputable def tq (τ : Tz) (n k : Nat) : Int := if k = 0 then (if n = 0 then -2 else (τ.2.2.1 n : Int)) else if k = 1 then (if n = 0 then -2 else (τ.2.2.2.1 n : Int)) else tf (τ.2.2.2.2.2 n)
theorem tq_0 {g : aG} {τ : Tz} (hR : RC Pn T g τ) {n : Nat} (hn : n < τ.1) : g (2 * T + 6) n = tq τ n 0 ∧ g (2 * T + 7) n = tq τ n 1 := by
  show g (2 * T + 6) n = (if n = 0 then -2 else (τ.2.2.1 n : Int)) ∧ g (2 * T + 7) n = (if n = 0 then -2 else (τ.2.2.2.1 n : Int))
  by_cases e : n = 0
  · rw [if_pos e, if_pos e, e]; exact ⟨hR.2.1, hR.2.2.1⟩
  · rw [if_neg e, if_neg e]; exact hR.2.2.2.1 n (by omega) hn
theorem c_node {n k : Int} (hW : WX S Pn T) (hX : XS Pn T g nd gv fs wn pr fi tm gm) (ha : 1 ≤ a) (hb : 6 ≤ b) (h0 : tm → ∀ n' k' : Nat, n = (n' : Int) → k = (k' : Int) → n' < (grT Pn T nd gv fs 200).2.1 → k' < 3 → P (.inl (some (iV (tq (grT Pn T nd gv fs 200).2 n' k')))) (S, g, a, b, false)) (h1 : ¬ tm → P (.inr xIS) (S, g, a - 1, b - 6, false)) (h2 : tm → ¬ (0 ≤ n ∧ n < ((grT Pn T nd gv fs 200).2.1 : Int)) → P (.inr xIO) (S, g, a - 1, b - 6, false)) (h3 : tm → (0 ≤ n ∧ n < ((grT Pn T nd gv fs 200).2.1 : Int)) → ¬ (0 ≤ k ∧ k < 3) → P (.inr xIA) (S, g, a - 1, b - 6, false)) : Sp l E O_node 10 [rV 0, iV n, iV k] (S, g, a, b, false) P := by
  have hT8 := wx_T hW
  have hp6 := wx_P hW
  show aw l E O_node 10 0 [some (rV 0), some (iV n), some (iV k), none, none, none, none] [] (S, g, a, b, false) P
  refine aw_al0 O_node_0 ?_
  refine aw_V0 O_node_1 rfl rfl (wx_o3 hW) ?_
  refine c_checkTree hW hX ha hb (by omega) (fun htm => ?_) (fun k => h1 k)
  show aw _ _ _ _ _ _ _ _ _
  refine aw_al0 O_node_4 ?_
  refine aw_il1 O_node_5 ?_
  refine aw_V1 O_node_6 rfl rfl rfl (wx_o3 hW) ?_
  refine c_checkNode hW (hX.2.2.2.2.2.2.2.1 htm).2.1.2.2.2.2.2 ha hb (by omega) (fun k1 k2 => ?_) (fun k => h2 htm k)
  show aw _ _ _ _ _ _ _ _ _
  obtain ⟨n', rfl⟩ := Int.eq_ofNat_of_zero_le k1
  have hw := BX_wt hX.2.1 200
  have h200 := hw.2.1
  have hR := (hX.2.2.2.2.2.2.2.1 htm).2.1
  refine aw_il2 O_node_9 ?_
  by_cases hk : 0 ≤ k ∧ k < 3
  · rcases (show k = 0 ∨ k = 1 ∨ k = 2 by omega) with rfl | rfl | rfl
    · refine aw_swi (tg := 36) O_node_10 0 rfl (by decide) rfl ?_
      refine aw_al0 O_node_36 ?_
      refine aw_gr (wx_r3_1 hW) O_node_37 (wx_o3 hW) ?_
      refine aw_gr (wx_r2_2 hW) O_node_40 (wx_o2 hW) ?_
      refine aw_il1 O_node_43 ?_
      refine aw_ia O_node_44 (wx_a_tpar hW) (by first | rfl | assumption) (by omega) ?_
      refine aw_reti O_node_45 (Or.inl rfl) ?_
      rw [(tq_0 hR (by omega)).1]
      exact h0 htm n' 0 rfl rfl (by omega) (by omega)
    · refine aw_swi (tg := 46) O_node_10 1 rfl (by decide) rfl ?_
      refine aw_al0 O_node_46 ?_
      refine aw_gr (wx_r3_1 hW) O_node_47 (wx_o3 hW) ?_
      refine aw_gr (wx_r2_3 hW) O_node_50 (wx_o2 hW) ?_
      refine aw_il1 O_node_53 ?_
      refine aw_ia O_node_54 (wx_a_ttra hW) (by first | rfl | assumption) (by omega) ?_
      refine aw_reti O_node_55 (Or.inl rfl) ?_
      rw [(tq_0 hR (by omega)).2]
      exact h0 htm n' 1 rfl rfl (by omega) (by omega)
    · have hq := h0 htm n' 2 rfl rfl (by omega) (by omega)
      rw [show tq (grT Pn T nd gv fs 200).2 n' 2 = tf ((grT Pn T nd gv fs 200).2.2.2.2.2.2 n') from rfl] at hq
      refine aw_swi (tg := 56) O_node_10 2 rfl (by decide) rfl ?_
      refine aw_al0 O_node_56 ?_
      refine aw_gr (wx_r3_1 hW) O_node_57 (wx_o3 hW) ?_
      refine aw_gr (wx_r2_5 hW) O_node_60 (wx_o2 hW) ?_
      refine aw_il1 O_node_63 ?_
      refine aw_za O_node_64 (wx_a_tlea hW) (by first | rfl | assumption) (by omega) ?_
      rw [(hX.2.2.2.2.2.2.2.1 htm).2.2.1 n' (by omega)]
      refine aw_zeq O_node_65 (fun h65 => ?_) (fun h65 => ?_)
      · skip
        refine aw_c O_node_72 ?_
        refine aw_reti O_node_73 (Or.inl rfl) ?_
        exact pF (iz h65) hq
      · skip
        refine aw_c O_node_68 ?_
        refine aw_go O_node_69 ?_
        refine aw_reti O_node_73 (Or.inl rfl) ?_
        exact pT (nz h65) hq
  · refine aw_swo O_node_10 (by omega) ?_
    refine aw_throw O_node_74 (by omega) (Nat.le_of_ble_eq_true rfl) (by omega) (by omega) ?_
    exact h3 htm ⟨by omega, by omega⟩ hk
theorem c_path {n i : Int} (hW : WX S Pn T) (hX : XS Pn T g nd gv fs wn pr fi tm gm) (ha : 1 ≤ a) (hb : 6 ≤ b) (h0 : tm → ∀ n' i' : Nat, n = (n' : Int) → i = (i' : Int) → n' < (grT Pn T nd gv fs 200).2.1 → i' < (grT Pn T nd gv fs 200).2.2.2.2.2.1 n' → P (.inl (some (iV ((grT Pn T nd gv fs 200).2.2.2.2.1 (upT (grT Pn T nd gv fs 200).2.2.2.1 ((grT Pn T nd gv fs 200).2.2.2.2.2.1 n' - (i' + 1)) n') : Int)))) (S, g, a, b, false)) (h1 : ¬ tm → P (.inr xIS) (S, g, a - 1, b - 6, false)) (h2 : tm → ¬ (0 ≤ n ∧ n < ((grT Pn T nd gv fs 200).2.1 : Int)) → P (.inr xIO) (S, g, a - 1, b - 6, false)) (h3 : tm → ∀ n' : Nat, n = (n' : Int) → n' < (grT Pn T nd gv fs 200).2.1 → ¬ (0 ≤ i ∧ i < ((grT Pn T nd gv fs 200).2.2.2.2.2.1 n' : Int)) → P (.inr xIO) (S, g, a - 1, b - 6, false)) : Sp l E O_path 10 [rV 0, iV n, iV i] (S, g, a, b, false) P := by
  have hT8 := wx_T hW
  have hp6 := wx_P hW
  show aw l E O_path 10 0 [some (rV 0), some (iV n), some (iV i), none, none, none, none] [] (S, g, a, b, false) P
  refine aw_al0 O_path_0 ?_
  refine aw_V0 O_path_1 rfl rfl (wx_o3 hW) ?_
  refine c_checkTree hW hX ha hb (by omega) (fun htm => ?_) (fun k => h1 k)
  show aw _ _ _ _ _ _ _ _ _
  refine aw_al0 O_path_4 ?_
  refine aw_il1 O_path_5 ?_
  refine aw_V1 O_path_6 rfl rfl rfl (wx_o3 hW) ?_
  refine c_checkNode hW (hX.2.2.2.2.2.2.2.1 htm).2.1.2.2.2.2.2 ha hb (by omega) (fun k1 k2 => ?_) (fun k => h2 htm k)
  show aw _ _ _ _ _ _ _ _ _
  obtain ⟨n', rfl⟩ := Int.eq_ofNat_of_zero_le k1
  have hw := BX_wt hX.2.1 200
  have h200 := hw.2.1
  have hR := (hX.2.2.2.2.2.2.2.1 htm).2.1
  refine aw_il2 O_path_9 ?_
  refine aw_al0 O_path_10 ?_
  refine aw_gr (wx_r3_1 hW) O_path_11 (wx_o3 hW) ?_
  refine aw_gr (wx_r2_4 hW) O_path_14 (wx_o2 hW) ?_
  refine aw_il1 O_path_17 ?_
  refine aw_ia O_path_18 (wx_a_tdep hW) (by first | rfl | assumption) (by omega) ?_
  rw [hR.2.2.2.2.1 n' (by omega)]
  refine aw_S2 O_path_19 rfl rfl rfl rfl ?_
  refine c_checkIndex (by omega) ha hb (fun k3 k4 => ?_) (fun k => h3 htm n' rfl (by omega) k)
  show aw _ _ _ _ _ _ _ _ _
  obtain ⟨i', rfl⟩ := Int.eq_ofNat_of_zero_le k3
  refine aw_al0 O_path_22 ?_
  refine aw_gr (wx_r3_1 hW) O_path_23 (wx_o3 hW) ?_
  refine aw_il1 O_path_26 ?_
  refine aw_il2 O_path_27 ?_
  refine aw_V2 O_path_28 rfl rfl rfl rfl (wx_o2 hW) ?_
  refine c_stepTo hW hw hR (by omega) (by omega) ?_
  show aw _ _ _ _ _ _ _ _ _
  refine aw_reti O_path_31 (Or.inl rfl) ?_
  exact h0 htm n' i' rfl rfl (by omega) (by omega)
theorem c_bound {p : Int} (hW : WX S Pn T) (hX : XS Pn T g nd gv fs wn pr fi tm gm) (ha : 1 ≤ a) (hb : 6 ≤ b) (h0 : tm → ∀ p' : Nat, p = (p' : Int) → p' < Pn → P (.inl (some (iV (if mxT (grT Pn T nd gv fs 200).2 p' (grT Pn T nd gv fs 200).2.1 = 1000000000 then -1 else mxT (grT Pn T nd gv fs 200).2 p' (grT Pn T nd gv fs 200).2.1)))) (S, g, a, b, false)) (h1 : ¬ tm → P (.inr xIS) (S, g, a - 1, b - 6, false)) (h2 : tm → ¬ (0 ≤ p ∧ p < (Pn : Int)) → P (.inr xIO) (S, g, a - 1, b - 6, false)) : Sp l E O_bound 10 [rV 0, iV p] (S, g, a, b, false) P := by
  have hT8 := wx_T hW
  have hp6 := wx_P hW
  show aw l E O_bound 10 0 [some (rV 0), some (iV p), none, none, none, none, none] [] (S, g, a, b, false) P
  refine aw_al0 O_bound_0 ?_
  refine aw_V0 O_bound_1 rfl rfl (wx_o3 hW) ?_
  refine c_checkTree hW hX ha hb (by omega) (fun htm => ?_) (fun k => h1 k)
  show aw _ _ _ _ _ _ _ _ _
  refine aw_al0 O_bound_4 ?_
  refine aw_il1 O_bound_5 ?_
  refine aw_V1 O_bound_6 rfl rfl rfl (wx_o3 hW) ?_
  refine c_checkPlace hW hX ha hb (by omega) (fun k1 k2 => ?_) (fun k => h2 htm k)
  show aw _ _ _ _ _ _ _ _ _
  obtain ⟨p', rfl⟩ := Int.eq_ofNat_of_zero_le k1
  refine aw_al0 O_bound_9 ?_
  refine aw_gr (wx_r3_1 hW) O_bound_10 (wx_o3 hW) ?_
  refine aw_il1 O_bound_13 ?_
  refine aw_V1 O_bound_14 rfl rfl rfl (wx_o2 hW) ?_
  refine c_greatest hW (BX_wt hX.2.1 200).2.1 (hX.2.2.2.2.2.2.2.1 htm).2.1 (by omega) (by omega) ?_
  show aw _ _ _ _ _ _ _ _ _
  refine aw_S1 O_bound_17 rfl rfl rfl ?_
  refine c_shown ?_
  show aw _ _ _ _ _ _ _ _ _
  refine aw_reti O_bound_20 (Or.inl rfl) ?_
  exact h0 htm p' rfl (by omega)
theorem c_tops (hW : WX S Pn T) (hX : XS Pn T g nd gv fs wn pr fi tm gm) (ha : 1 ≤ a) (hb : 6 ≤ b) (h0 : tm → P (.inl (some (iV (ctT Pn (grT Pn T nd gv fs 200).2 (grT Pn T nd gv fs 200).2.1 : Int)))) (S, g, a, b, false)) (h1 : ¬ tm → P (.inr xIS) (S, g, a - 1, b - 6, false)) : Sp l E O_tops 10 [rV 0] (S, g, a, b, false) P := by
  show aw l E O_tops 10 0 [some (rV 0), none, none, none, none, none, none] [] (S, g, a, b, false) P
  refine aw_al0 O_tops_0 ?_
  refine aw_V0 O_tops_1 rfl rfl (wx_o3 hW) ?_
  refine c_checkTree hW hX ha hb (by omega) (fun htm => ?_) (fun k => h1 k)
  show aw _ _ _ _ _ _ _ _ _
  refine aw_al0 O_tops_4 ?_
  refine aw_gr (wx_r3_1 hW) O_tops_5 (wx_o3 hW) ?_
  refine aw_gi O_tops_8 (wx_o2 hW) ?_
  refine aw_reti O_tops_11 (Or.inl rfl) ?_
  rw [(hX.2.2.2.2.2.2.2.1 htm).2.2.2.1]
  exact h0 htm
theorem c_top {k : Int} (hW : WX S Pn T) (hX : XS Pn T g nd gv fs wn pr fi tm gm) (ha : 1 ≤ a) (hb : 6 ≤ b) (h0 : tm → ∀ v, v < (grT Pn T nd gv fs 200).2.1 → tpT Pn (grT Pn T nd gv fs 200).2 v → k = (ctT Pn (grT Pn T nd gv fs 200).2 v : Int) → P (.inl (some (iV (v : Int)))) (S, g, a, b, false)) (h1 : ¬ tm → P (.inr xIS) (S, g, a - 1, b - 6, false)) (h2 : tm → ¬ (0 ≤ k ∧ k < (ctT Pn (grT Pn T nd gv fs 200).2 (grT Pn T nd gv fs 200).2.1 : Int)) → P (.inr xIO) (S, g, a - 1, b - 6, false)) : Sp l E O_top 10 [rV 0, iV k] (S, g, a, b, false) P := by
  show aw l E O_top 10 0 [some (rV 0), some (iV k), none, none, none, none, none] [] (S, g, a, b, false) P
  refine aw_al0 O_top_0 ?_
  refine aw_V0 O_top_1 rfl rfl (wx_o3 hW) ?_
  refine c_checkTree hW hX ha hb (by omega) (fun htm => ?_) (fun k => h1 k)
  show aw _ _ _ _ _ _ _ _ _
  refine aw_il1 O_top_4 ?_
  refine aw_al0 O_top_5 ?_
  refine aw_gr (wx_r3_1 hW) O_top_6 (wx_o3 hW) ?_
  refine aw_gi O_top_9 (wx_o2 hW) ?_
  rw [(hX.2.2.2.2.2.2.2.1 htm).2.2.2.1]
  refine aw_S2 O_top_12 rfl rfl rfl rfl ?_
  refine c_checkIndex (by omega) ha hb (fun k1 k2 => ?_) (fun k => h2 htm k)
  show aw _ _ _ _ _ _ _ _ _
  obtain ⟨k', rfl⟩ := Int.eq_ofNat_of_zero_le k1
  have h200 := (BX_wt hX.2.1 200).2.1
  have hle := ctT_le Pn (grT Pn T nd gv fs 200).2 (grT Pn T nd gv fs 200).2.1
  obtain ⟨v, v1, v2, v3⟩ := ctT_ex Pn (grT Pn T nd gv fs 200).2 k' (grT Pn T nd gv fs 200).2.1 (by omega)
  refine aw_al0 O_top_15 ?_
  refine aw_gr (wx_r3_1 hW) O_top_16 (wx_o3 hW) ?_
  refine aw_gr (wx_r2_6 hW) O_top_19 (wx_o2 hW) ?_
  refine aw_il1 O_top_22 ?_
  refine aw_ia O_top_23 (wx_a_tpea hW) (by first | rfl | assumption) (by omega) ?_
  refine aw_reti O_top_24 (Or.inl rfl) ?_
  have e := (hX.2.2.2.2.2.2.2.1 htm).2.2.2.2 v v1 v2
  rw [v3] at e
  rw [e]
  exact h0 htm v v1 v2 (by rw [v3])
theorem c_covered (hW : WX S Pn T) (hX : XS Pn T g nd gv fs wn pr fi tm gm) (ha : 1 ≤ a) (hb : 6 ≤ b) (h0 : tm → P (.inl (some (iV (tf (cvT Pn (grT Pn T nd gv fs 200).2 wn))))) (S, g, a, b, false)) (h1 : ¬ tm → P (.inr xIS) (S, g, a - 1, b - 6, false)) : Sp l E O_covered 10 [rV 0] (S, g, a, b, false) P := by
  show aw l E O_covered 10 0 [some (rV 0), none, none, none, none, none, none] [] (S, g, a, b, false) P
  refine aw_al0 O_covered_0 ?_
  refine aw_V0 O_covered_1 rfl rfl (wx_o3 hW) ?_
  refine c_checkTree hW hX ha hb (by omega) (fun htm => ?_) (fun k => h1 k)
  show aw _ _ _ _ _ _ _ _ _
  refine aw_al0 O_covered_4 ?_
  refine aw_gr (wx_r3_1 hW) O_covered_5 (wx_o3 hW) ?_
  refine aw_al0 O_covered_8 ?_
  refine aw_gr (wx_r3_3 hW) O_covered_9 (wx_o3 hW) ?_
  refine aw_V1 O_covered_12 rfl rfl rfl (wx_o2 hW) ?_
  refine c_reachesAbove (d := 8) hW (BX_wt hX.2.1 200).2.1 (hX.2.2.2.2.2.2.2.1 htm).2.1 (wx_a_xwan hW) (fun p hp => (hX.2.2.1 p hp).1) ?_
  show aw _ _ _ _ _ _ _ _ _
  refine aw_reti O_covered_15 (Or.inr ⟨rfl, (tf01 _)⟩) ?_
  exact h0 htm
theorem c_lives {t : Int} (hW : WX S Pn T) (hX : XS Pn T g nd gv fs wn pr fi tm gm) (ha : 1 ≤ a) (hb : 6 ≤ b) (h0 : tm → ∀ t' : Nat, t = (t' : Int) → t' < T → P (.inl (some (iV (tf (cvT Pn (grT Pn T nd gv fs 200).2 (nd t')))))) (S, g, a, b, false)) (h1 : ¬ tm → P (.inr xIS) (S, g, a - 1, b - 6, false)) (h2 : tm → ¬ (0 ≤ t ∧ t < (T : Int)) → P (.inr xIO) (S, g, a - 1, b - 6, false)) : Sp l E O_lives 10 [rV 0, iV t] (S, g, a, b, false) P := by
  show aw l E O_lives 10 0 [some (rV 0), some (iV t), none, none, none, none, none] [] (S, g, a, b, false) P
  refine aw_al0 O_lives_0 ?_
  refine aw_V0 O_lives_1 rfl rfl (wx_o3 hW) ?_
  refine c_checkTree hW hX ha hb (by omega) (fun htm => ?_) (fun k => h1 k)
  show aw _ _ _ _ _ _ _ _ _
  refine aw_al0 O_lives_4 ?_
  refine aw_il1 O_lives_5 ?_
  refine aw_V1 O_lives_6 rfl rfl rfl (wx_o3 hW) ?_
  refine c_checkTransition hW hX ha hb (by omega) (fun k1 k2 => ?_) (fun k => h2 htm k)
  show aw _ _ _ _ _ _ _ _ _
  obtain ⟨t', rfl⟩ := Int.eq_ofNat_of_zero_le k1
  refine aw_al0 O_lives_9 ?_
  refine aw_gr (wx_r3_1 hW) O_lives_10 (wx_o3 hW) ?_
  refine aw_il1 O_lives_13 ?_
  refine aw_V1 O_lives_14 rfl rfl rfl (wx_o2 hW) ?_
  refine c_everEnables (d := 7) hW hX.1 (BX_wt hX.2.1 200).2.1 (hX.2.2.2.2.2.2.2.1 htm).2.1 (by omega) ?_
  show aw _ _ _ _ _ _ _ _ _
  refine aw_reti O_lives_17 (Or.inr ⟨rfl, (tf01 _)⟩) ?_
  exact h0 htm t' rfl (by omega)
theorem c_dead (hW : WX S Pn T) (hX : XS Pn T g nd gv fs wn pr fi tm gm) (ha : 1 ≤ a) (hb : 6 ≤ b) (h0 : tm → P (.inl (some (iV (fnd (suT Pn T nd (grT Pn T nd gv fs 200).2) (grT Pn T nd gv fs 200).2.1 0)))) (S, g, a, b, false)) (h1 : ¬ tm → P (.inr xIS) (S, g, a - 1, b - 6, false)) : Sp l E O_dead 10 [rV 0] (S, g, a, b, false) P := by
  show aw l E O_dead 10 0 [some (rV 0), none, none, none, none, none, none] [] (S, g, a, b, false) P
  refine aw_al0 O_dead_0 ?_
  refine aw_V0 O_dead_1 rfl rfl (wx_o3 hW) ?_
  refine c_checkTree hW hX ha hb (by omega) (fun htm => ?_) (fun k => h1 k)
  show aw _ _ _ _ _ _ _ _ _
  refine aw_al0 O_dead_4 ?_
  refine aw_gr (wx_r3_1 hW) O_dead_5 (wx_o3 hW) ?_
  refine aw_V0 O_dead_8 rfl rfl (wx_o2 hW) ?_
  refine c_firstStuck (d := 6) hW hX.1 (BX_wt hX.2.1 200).2.1 (hX.2.2.2.2.2.2.2.1 htm).2.1 ?_
  show aw _ _ _ _ _ _ _ _ _
  refine aw_reti O_dead_11 (Or.inl rfl) ?_
  exact h0 htm
theorem c_back (hW : WX S Pn T) (hX : XS Pn T g nd gv fs wn pr fi tm gm) (ha : 1 ≤ a) (hb : 6 ≤ b) (h0 : (gtG Pn T nd gv wn 48).1 = true → ∀ g', XS Pn T g' nd gv fs wn pr fi tm True → FX T g g' → P (.inl (some (iV (kcG (gtG Pn T nd gv wn 48).2 (gtG Pn T nd gv wn 48).2.1 : Int)))) (S, g', a, b, false)) (h1 : (gtG Pn T nd gv wn 48).1 = false → ∀ g', XS Pn T g' nd gv fs wn pr fi tm False → FX T g g' → P (.inr xIS) (S, g', a - 1, b - 6, false)) : Sp l E O_back 10 [rV 0] (S, g, a, b, false) P := by
  have hT8 := wx_T hW
  have hp6 := wx_P hW
  obtain ⟨x1, x2, x3, x4, x5, x6, x7, x8, x9⟩ := hX
  show aw l E O_back 10 0 [some (rV 0), none, none, none, none, none, none] [] (S, g, a, b, false) P
  refine aw_al0 O_back_0 ?_
  refine aw_gr (wx_r3_2 hW) O_back_1 (wx_o3 hW) ?_
  refine aw_al0 O_back_4 ?_
  refine aw_gr (wx_r3_3 hW) O_back_5 (wx_o3 hW) ?_
  refine aw_V1 O_back_8 rfl rfl rfl (wx_o0 hW) ?_
  refine c_gather (d := 6) hW x1 x2 (fun p hp => (x3 p hp).2) (wx_a_xwan hW) rfl (fun p hp => (x3 p hp).1) (fun g1 hF hres => ?_)
  show aw _ _ _ _ _ _ _ _ _
  have hXn : ∀ gm' : Prop, g1 (2 * T + 212) 8 = tf gm' → (gm' → (gtG Pn T nd gv wn 48).1 = true ∧ RG Pn T g1 (gtG Pn T nd gv wn 48).2) → XS Pn T g1 nd gv fs wn pr fi tm gm' := fun gm' y1 y2 => ⟨NX_lo x1 (by omega) (fun x y h => hF x y (by omega)), x2, fun r hr => ⟨(hF _ _ (by omega)).trans (x3 r hr).1, (x3 r hr).2⟩, fun r hr => ⟨(hF _ _ (by omega)).trans (x4 r hr).1, (x4 r hr).2⟩, (hF _ _ (by omega)).trans x5, (hF _ _ (by omega)).trans x6, y1, fun z => ⟨(x8 z).1, TX_fr (x8 z).2 (fun x y z1 z2 z3 => hF x y (by omega)) (BX_wt x2 200).2.1⟩, y2⟩
  have hFX : FX T g g1 := fun x y h => hF x y (by omega)
  refine aw_al0 O_back_11 ?_
  refine aw_gr (wx_r3_2 hW) O_back_12 (wx_o3 hW) ?_
  refine aw_gi O_back_15 (wx_o0 hW) ?_
  refine aw_zne O_back_18 (fun h18 => ?_) (fun h18 => ?_)
  · skip
    refine aw_al0 O_back_31 ?_
    refine aw_gr (wx_r3_2 hW) O_back_32 (wx_o3 hW) ?_
    refine aw_V0 O_back_35 rfl rfl (wx_o0 hW) ?_
    refine c_keptCount (γ := (gtG Pn T nd gv wn 48).2) hW (BX_wg x2 (fun p hp => (x3 p hp).2) 48).2.1 (by
      rcases hres with ⟨r1, r2, r3⟩ | ⟨r1, r2⟩
      · exact r2
      · exact absurd r2 h18) ?_
    show aw _ _ _ _ _ _ _ _ _
    refine aw_reti O_back_38 (Or.inl rfl) ?_
    rcases hres with ⟨r1, r2, r3⟩ | ⟨r1, r2⟩
    · exact h0 r1 g1 (hXn True (by rw [r3]; exact (cI_p trivial).symm) (fun _ => ⟨r1, r2⟩)) hFX
    · exact absurd r2 h18
  · skip
    refine aw_throw O_back_21 (by omega) (Nat.le_of_ble_eq_true rfl) (by omega) (by omega) ?_
    rcases hres with ⟨r1, r2, r3⟩ | ⟨r1, r2⟩
    · omega
    · exact h1 r1 g1 (hXn False (by rw [r2]; exact (cI_n id).symm) (fun z => z.elim)) hFX
theorem c_goal {k p : Int} (hW : WX S Pn T) (hX : XS Pn T g nd gv fs wn pr fi tm gm) (ha : 1 ≤ a) (hb : 6 ≤ b) (hk : okI k) (h0 : gm → ∀ j p' : Nat, p = (p' : Int) → fnd (fun j => ¬ (gtG Pn T nd gv wn 48).2.2.2.2.2.2 j ∧ k = (kcG (gtG Pn T nd gv wn 48).2 j : Int)) (gtG Pn T nd gv wn 48).2.1 0 = (j : Int) → j < (gtG Pn T nd gv wn 48).2.1 → p' < Pn → P (.inl (some (iV ((gtG Pn T nd gv wn 48).2.2.1 j p')))) (S, g, a, b, false)) (h1 : ¬ gm → P (.inr xIS) (S, g, a - 1, b - 6, false)) (h2 : gm → fnd (fun j => ¬ (gtG Pn T nd gv wn 48).2.2.2.2.2.2 j ∧ k = (kcG (gtG Pn T nd gv wn 48).2 j : Int)) (gtG Pn T nd gv wn 48).2.1 0 = -2 ∨ ¬ (0 ≤ p ∧ p < (Pn : Int)) → P (.inr xIO) (S, g, a - 1, b - 6, false)) : Sp l E O_goal 10 [rV 0, iV k, iV p] (S, g, a, b, false) P := by
  have hT8 := wx_T hW
  have hp6 := wx_P hW
  show aw l E O_goal 10 0 [some (rV 0), some (iV k), some (iV p), none, none, none, none] [] (S, g, a, b, false) P
  refine aw_al0 O_goal_0 ?_
  refine aw_V0 O_goal_1 rfl rfl (wx_o3 hW) ?_
  refine c_checkGoals hW hX ha hb (by omega) (fun hgm => ?_) (fun k => h1 k)
  show aw _ _ _ _ _ _ _ _ _
  have hwg := BX_wg hX.2.1 (fun p hp => (hX.2.2.1 p hp).2) 48
  have h48 := hwg.2.1
  have hR := (hX.2.2.2.2.2.2.2.2 hgm).2
  refine aw_al0 O_goal_4 ?_
  refine aw_gr (wx_r3_2 hW) O_goal_5 (wx_o3 hW) ?_
  refine aw_il1 O_goal_8 ?_
  refine aw_V1 O_goal_9 rfl rfl rfl (wx_o0 hW) ?_
  refine c_kept hW h48 hR hk ?_
  show aw _ _ _ _ _ _ _ _ _
  refine aw_is3 O_goal_12 ?_
  refine aw_il3 O_goal_13 ?_
  refine aw_c O_goal_14 ?_
  refine aw_cne O_goal_16 (fun h16 => ?_) (fun h16 => ?_)
  · skip
    rcases fnd_spec (fun j => ¬ (gtG Pn T nd gv wn 48).2.2.2.2.2.2 j ∧ k = (kcG (gtG Pn T nd gv wn 48).2 j : Int)) (gtG Pn T nd gv wn 48).2.1 0 with ⟨f1, -⟩ | ⟨j, -, f2, -, f4, -⟩
    · exact absurd f1 h16
    rw [f4]
    refine aw_al0 O_goal_29 ?_
    refine aw_il2 O_goal_30 ?_
    refine aw_V1 O_goal_31 rfl rfl rfl (wx_o3 hW) ?_
    refine c_checkPlace hW hX ha hb (by omega) (fun k1 k2 => ?_) (fun k => h2 hgm (Or.inr k))
    show aw _ _ _ _ _ _ _ _ _
    obtain ⟨p', rfl⟩ := Int.eq_ofNat_of_zero_le k1
    refine aw_al0 O_goal_34 ?_
    refine aw_gr (wx_r3_2 hW) O_goal_35 (wx_o3 hW) ?_
    refine aw_gr (wx_r0_1 hW) O_goal_38 (wx_o0 hW) ?_
    refine aw_il3 O_goal_41 ?_
    refine aw_aa O_goal_42 (wx_a_gmarks hW) (by first | rfl | assumption) (by omega) (wx_rr_gmarks hW (by omega)) ?_
    refine aw_il2 O_goal_43 ?_
    refine aw_ia O_goal_44 (wx_ra_gmarks hW (by omega)) (by first | rfl | assumption) (by omega) ?_
    refine aw_reti O_goal_45 (Or.inl rfl) ?_
    rw [hR.1 j (by omega) p' (by omega)]
    exact h0 hgm j p' rfl f4 (by omega) (by omega)
  · skip
    refine aw_throw O_goal_19 (by omega) (Nat.le_of_ble_eq_true rfl) (by omega) (by omega) ?_
    exact h2 hgm (Or.inl h16)
theorem c_goalBelowStart (hW : WX S Pn T) (hX : XS Pn T g nd gv fs wn pr fi tm gm) (ha : 1 ≤ a) (hb : 6 ≤ b) (hd : 6 ≤ d + 1) (hgm : gm) (h0 : ∀ j : Nat, fnd (fun j => bl Pn ((gtG Pn T nd gv wn 48).2.2.1 j) fs) (gtG Pn T nd gv wn 48).2.1 0 = (j : Int) → j < (gtG Pn T nd gv wn 48).2.1 → P (.inl (some (iV (j : Int)))) (S, g, a, b, false)) (h2 : fnd (fun j => bl Pn ((gtG Pn T nd gv wn 48).2.2.1 j) fs) (gtG Pn T nd gv wn 48).2.1 0 = -2 → P (.inr xUO) (S, g, a - 1, b - 6, false)) : Sp l E O_goalBelowStart (d + 2) [rV 0] (S, g, a, b, false) P := by
  have hT8 := wx_T hW
  have hp6 := wx_P hW
  have hwg := BX_wg hX.2.1 (fun p hp => (hX.2.2.1 p hp).2) 48
  have hR := (hX.2.2.2.2.2.2.2.2 hgm).2
  show aw l E O_goalBelowStart (d + 2) 0 [some (rV 0), none, none, none, none, none, none] [] (S, g, a, b, false) P
  refine aw_al0 O_goalBelowStart_0 ?_
  refine aw_gr (wx_r3_2 hW) O_goalBelowStart_1 (wx_o3 hW) ?_
  refine aw_al0 O_goalBelowStart_4 ?_
  refine aw_gr (wx_r3_0 hW) O_goalBelowStart_5 (wx_o3 hW) ?_
  refine aw_gr (wx_r1_4 hW) O_goalBelowStart_8 (wx_o1 hW) ?_
  refine aw_V1 O_goalBelowStart_11 rfl rfl rfl (wx_o0 hW) ?_
  refine c_firstBelow hW hwg.2.1 hR (wx_a_first hW) (fun p hp => hX.1.2.2.2 p hp) ?_
  show aw _ _ _ _ _ _ _ _ _
  refine aw_is1 O_goalBelowStart_14 ?_
  refine aw_il1 O_goalBelowStart_15 ?_
  refine aw_c O_goalBelowStart_16 ?_
  refine aw_cne O_goalBelowStart_18 (fun h18 => ?_) (fun h18 => ?_)
  · skip
    refine aw_il1 O_goalBelowStart_31 ?_
    refine aw_reti O_goalBelowStart_32 (Or.inl rfl) ?_
    rcases fnd_spec (fun j => bl Pn ((gtG Pn T nd gv wn 48).2.2.1 j) fs) (gtG Pn T nd gv wn 48).2.1 0 with ⟨f1, -⟩ | ⟨j, -, f2, -, f4, -⟩
    · exact absurd f1 h18
    rw [f4]
    exact h0 j f4 (by omega)
  · skip
    refine aw_throw O_goalBelowStart_21 (by omega) (Nat.le_of_ble_eq_true rfl) (by omega) (by omega) ?_
    exact h2 h18
theorem c_length (hW : WX S Pn T) (hX : XS Pn T g nd gv fs wn pr fi tm gm) (ha : 1 ≤ a) (hb : 6 ≤ b) (h0 : gm → ∀ j : Nat, fnd (fun j => bl Pn ((gtG Pn T nd gv wn 48).2.2.1 j) fs) (gtG Pn T nd gv wn 48).2.1 0 = (j : Int) → j < (gtG Pn T nd gv wn 48).2.1 → P (.inl (some (iV ((gtG Pn T nd gv wn 48).2.2.2.2.2.1 j : Int)))) (S, g, a, b, false)) (h1 : ¬ gm → P (.inr xIS) (S, g, a - 1, b - 6, false)) (h2 : gm → fnd (fun j => bl Pn ((gtG Pn T nd gv wn 48).2.2.1 j) fs) (gtG Pn T nd gv wn 48).2.1 0 = -2 → P (.inr xUO) (S, g, a - 1, b - 6, false)) : Sp l E O_length 10 [rV 0] (S, g, a, b, false) P := by
  show aw l E O_length 10 0 [some (rV 0), none, none, none, none, none, none] [] (S, g, a, b, false) P
  refine aw_al0 O_length_0 ?_
  refine aw_V0 O_length_1 rfl rfl (wx_o3 hW) ?_
  refine c_checkGoals hW hX ha hb (by omega) (fun hgm => ?_) (fun k => h1 k)
  show aw _ _ _ _ _ _ _ _ _
  have hwg := BX_wg hX.2.1 (fun p hp => (hX.2.2.1 p hp).2) 48
  have h48 := hwg.2.1
  have hR := (hX.2.2.2.2.2.2.2.2 hgm).2
  refine aw_al0 O_length_4 ?_
  refine aw_gr (wx_r3_2 hW) O_length_5 (wx_o3 hW) ?_
  refine aw_gr (wx_r0_4 hW) O_length_8 (wx_o0 hW) ?_
  refine aw_al0 O_length_11 ?_
  refine aw_V0 O_length_12 rfl rfl (wx_o3 hW) ?_
  refine c_goalBelowStart (d := 7) hW hX ha hb (by omega) hgm (fun j f1 f2 => ?_) (fun k => h2 hgm k)
  show aw _ _ _ _ _ _ _ _ _
  refine aw_ia O_length_15 (wx_a_gdep hW) (by first | rfl | assumption) (by omega) ?_
  refine aw_reti O_length_16 (Or.inl rfl) ?_
  rw [hR.2.2.1 j f2]
  exact h0 hgm j f1 f2
theorem c_way {i : Int} (hW : WX S Pn T) (hX : XS Pn T g nd gv fs wn pr fi tm gm) (ha : 1 ≤ a) (hb : 6 ≤ b) (h0 : gm → ∀ j i' : Nat, i = (i' : Int) → fnd (fun j => bl Pn ((gtG Pn T nd gv wn 48).2.2.1 j) fs) (gtG Pn T nd gv wn 48).2.1 0 = (j : Int) → j < (gtG Pn T nd gv wn 48).2.1 → i' < (gtG Pn T nd gv wn 48).2.2.2.2.2.1 j → P (.inl (some (iV ((gtG Pn T nd gv wn 48).2.2.2.2.1 (upT (gtG Pn T nd gv wn 48).2.2.2.1 i' j) : Int)))) (S, g, a, b, false)) (h1 : ¬ gm → P (.inr xIS) (S, g, a - 1, b - 6, false)) (h2 : gm → fnd (fun j => bl Pn ((gtG Pn T nd gv wn 48).2.2.1 j) fs) (gtG Pn T nd gv wn 48).2.1 0 = -2 → P (.inr xUO) (S, g, a - 1, b - 6, false)) (h3 : gm → ∀ j : Nat, fnd (fun j => bl Pn ((gtG Pn T nd gv wn 48).2.2.1 j) fs) (gtG Pn T nd gv wn 48).2.1 0 = (j : Int) → j < (gtG Pn T nd gv wn 48).2.1 → ¬ (0 ≤ i ∧ i < ((gtG Pn T nd gv wn 48).2.2.2.2.2.1 j : Int)) → P (.inr xIO) (S, g, a - 1, b - 6, false)) : Sp l E O_way 10 [rV 0, iV i] (S, g, a, b, false) P := by
  show aw l E O_way 10 0 [some (rV 0), some (iV i), none, none, none, none, none] [] (S, g, a, b, false) P
  refine aw_al0 O_way_0 ?_
  refine aw_V0 O_way_1 rfl rfl (wx_o3 hW) ?_
  refine c_checkGoals hW hX ha hb (by omega) (fun hgm => ?_) (fun k => h1 k)
  show aw _ _ _ _ _ _ _ _ _
  have hwg := BX_wg hX.2.1 (fun p hp => (hX.2.2.1 p hp).2) 48
  have h48 := hwg.2.1
  have hR := (hX.2.2.2.2.2.2.2.2 hgm).2
  refine aw_al0 O_way_4 ?_
  refine aw_V0 O_way_5 rfl rfl (wx_o3 hW) ?_
  refine c_goalBelowStart (d := 7) hW hX ha hb (by omega) hgm (fun j f1 f2 => ?_) (fun k => h2 hgm k)
  show aw _ _ _ _ _ _ _ _ _
  refine aw_is2 O_way_8 ?_
  refine aw_il1 O_way_9 ?_
  refine aw_al0 O_way_10 ?_
  refine aw_gr (wx_r3_2 hW) O_way_11 (wx_o3 hW) ?_
  refine aw_gr (wx_r0_4 hW) O_way_14 (wx_o0 hW) ?_
  refine aw_il2 O_way_17 ?_
  refine aw_ia O_way_18 (wx_a_gdep hW) (by first | rfl | assumption) (by omega) ?_
  rw [hR.2.2.1 j f2]
  refine aw_S2 O_way_19 rfl rfl rfl rfl ?_
  refine c_checkIndex (by omega) ha hb (fun k3 k4 => ?_) (fun k => h3 hgm j f1 f2 k)
  show aw _ _ _ _ _ _ _ _ _
  obtain ⟨i', rfl⟩ := Int.eq_ofNat_of_zero_le k3
  refine aw_al0 O_way_22 ?_
  refine aw_gr (wx_r3_2 hW) O_way_23 (wx_o3 hW) ?_
  refine aw_il2 O_way_26 ?_
  refine aw_il1 O_way_27 ?_
  refine aw_V2 O_way_28 rfl rfl rfl rfl (wx_o0 hW) ?_
  refine c_stepFrom hW hwg hR f2 (by omega) ?_
  show aw _ _ _ _ _ _ _ _ _
  refine aw_reti O_way_31 (Or.inl rfl) ?_
  exact h0 hgm j i' rfl f1 f2 (by omega)
end MP
