section NB
variable {l : Launch} {E : aE} {d : Nat} {S : aS} {g : aG} {u : aU} {P : aP} {Pn T : Nat} {nd gv : Nat → Nat → Int} {fs wn pr : Nat → Int} {fi : Nat} {tm gm : Prop}
theorem c_M_fire_l1 {t : Nat} (hW : WX S Pn T) (hS : MS Pn T g nd gv fs wn pr fi tm gm) (ht : t < T) (hK : ∀ x3 : Option aA, aw l E M_fire (d + 1) 76 [some (rV (2 * T + 269)), some (iV (t : Int)), some (iV (tf (bl Pn (nd t) pr))), x3, none, none, none] [] (S, g, u) P) : ∀ (m p : Nat), Pn - p < m → p ≤ Pn → aw l E M_fire (d + 1) 32 [some (rV (2 * T + 269)), some (iV (t : Int)), some (iV (tf (bl p (nd t) pr))), some (iV (p : Int)), none, none, none] [] (S, g, u) P := by
  intro m
  have hT8 := wx_T hW
  have hp6 := wx_P hW
  have e1 : g (2 * T + 269) 1 = (Pn : Int) := hS.1.1
  induction m with
  | zero => intro p h; omega
  | succ m ih =>
    intro p hm hp
    have e2 : p < Pn → g (2 * T + 274) p = pr p := fun h => (hS.2.1 p h).2
    have e3 : p < Pn → g (2 * T + 270) (6 * t + p) = nd t p := fun h => (hS.1.2.2.1 t ht p h).1
    refine aw_il3 M_fire_32 ?_
    refine aw_al0 M_fire_33 ?_
    refine aw_gi M_fire_34 (wx_o4 hW) ?_
    refine aw_cge M_fire_37 (fun h37 => ?_) (fun h37 => ?_)
    · skip
      have e : p = Pn := by omega
      subst e
      exact hK _
    · skip
      refine aw_il2 M_fire_40 ?_
      refine aw_zeq M_fire_41 (fun h41 => ?_) (fun h41 => ?_)
      · skip
        have hk := hK (some (iV (p : Int)))
        rw [show tf (bl Pn (nd t) pr) = 0 from cI_n (fun z => iz h41 (fun r hr => z r (by omega)))] at hk
        rw [show tf (bl p (nd t) pr) = 0 from h41]
        exact hk
      · skip
        refine aw_al0 M_fire_44 ?_
        refine aw_gr (wx_r4_7 hW) M_fire_45 (wx_o4 hW) ?_
        refine aw_il3 M_fire_48 ?_
        refine aw_ia M_fire_49 (wx_a_mpresent hW) (by first | rfl | assumption) (by omega) ?_
        refine aw_al0 M_fire_50 ?_
        refine aw_gr (wx_r4_3 hW) M_fire_51 (wx_o4 hW) ?_
        refine aw_c M_fire_54 ?_
        refine aw_il1 M_fire_56 ?_
        refine aw_mul M_fire_57 (by constructor <;> omega) ?_
        refine aw_il3 M_fire_58 ?_
        refine aw_add M_fire_59 (by constructor <;> omega) ?_
        refine aw_ia M_fire_60 (wx_a_mneeds hW) (show 6 * (t : Int) + (p : Int) = ((6 * t + p : Nat) : Int) by omega) (by omega) ?_
        rw [e2 (by omega), e3 (by omega)]
        refine aw_clt M_fire_61 (fun h61 => ?_) (fun h61 => ?_)
        · skip
          refine aw_c M_fire_68 ?_
          refine aw_is2 M_fire_69 ?_
          refine aw_ip3 M_fire_70 (by omega) ?_
          refine aw_go M_fire_73 ?_
          have hk := ih (p + 1) (by omega) (by omega)
          rw [show tf (bl (p + 1) (nd t) pr) = 0 from cI_n (fun z => by have := z p (by omega); omega)] at hk
          exact hk
        · skip
          refine aw_c M_fire_64 ?_
          refine aw_go M_fire_65 ?_
          refine aw_is2 M_fire_69 ?_
          refine aw_ip3 M_fire_70 (by omega) ?_
          refine aw_go M_fire_73 ?_
          have hk := ih (p + 1) (by omega) (by omega)
          rw [show tf (bl (p + 1) (nd t) pr) = 1 from cI_p (fun r hr => by
            by_cases e : r = p
            · subst e; omega
            · exact nz h41 r (by omega))] at hk
          exact hk
def fpk (T : Nat) (g : aG) (t k : Nat) : aG := fun a b => if a = 2 * T + 274 ∧ b < k then g (2 * T + 274) b - g (2 * T + 270) (6 * t + b) + g (2 * T + 271) (6 * t + b) else g a b
theorem fpk_0 (T : Nat) (g : aG) (t : Nat) : fpk T g t 0 = g := by
  funext a b
  exact if_neg (fun z => absurd z.2 (Nat.not_lt_zero b))
theorem fpk_ne {g : aG} {t k a b : Nat} (h : ¬ (a = 2 * T + 274 ∧ b < k)) : fpk T g t k a b = g a b := if_neg h
theorem fpk_s (T : Nat) (g : aG) (t k : Nat) : upA (fpk T g t k) (2 * T + 274) k (fpk T g t k (2 * T + 274) k - fpk T g t k (2 * T + 270) (6 * t + k) + fpk T g t k (2 * T + 271) (6 * t + k)) = fpk T g t (k + 1) := by
  funext a b
  rw [fpk_ne (by omega : ¬ (2 * T + 274 = 2 * T + 274 ∧ k < k)), fpk_ne (by omega : ¬ (2 * T + 270 = 2 * T + 274 ∧ 6 * t + k < k)), fpk_ne (by omega : ¬ (2 * T + 271 = 2 * T + 274 ∧ 6 * t + k < k))]
  unfold upA fpk
  by_cases ha : a = 2 * T + 274
  · by_cases hb : b = k
    · subst hb; simp [ha]
    · by_cases hc : b < k
      · simp [ha, hb, hc, show b < k + 1 by omega]
      · simp [ha, hb, hc, show ¬ b < k + 1 by omega]
  · simp [ha]
theorem c_M_fire_l2 {t : Nat} (hW : WX S Pn T) (hS : MS Pn T g nd gv fs wn pr fi tm gm) (hB : BX Pn T nd gv fs) (hpr : ∀ p, p < Pn → 0 ≤ pr p ∧ pr p ≤ 1000000) (ht : t < T) (hbl : bl Pn (nd t) pr) (hK : ∀ x3 : Option aA, aw l E M_fire (d + 1) 132 [some (rV (2 * T + 269)), some (iV (t : Int)), some (iV 1), x3, none, none, none] [] (S, fpk T g t Pn, u) P) : ∀ (m p : Nat), Pn - p < m → p ≤ Pn → aw l E M_fire (d + 1) 78 [some (rV (2 * T + 269)), some (iV (t : Int)), some (iV 1), some (iV (p : Int)), none, none, none] [] (S, fpk T g t p, u) P := by
  intro m
  have hT8 := wx_T hW
  have hp6 := wx_P hW
  induction m with
  | zero => intro p h; omega
  | succ m ih =>
    intro p hm hp
    have e1 : fpk T g t p (2 * T + 269) 1 = (Pn : Int) := (fpk_ne (by omega)).trans hS.1.1
    have e2 : p < Pn → fpk T g t p (2 * T + 274) p = pr p := fun h => (fpk_ne (by omega)).trans (hS.2.1 p h).2
    have e3 : p < Pn → fpk T g t p (2 * T + 270) (6 * t + p) = nd t p := fun h => (fpk_ne (by omega)).trans (hS.1.2.2.1 t ht p h).1
    have e4 : p < Pn → fpk T g t p (2 * T + 271) (6 * t + p) = gv t p := fun h => (fpk_ne (by omega)).trans (hS.1.2.2.1 t ht p h).2
    have b1 := hpr p
    have b2 := hB.1 t ht p
    refine aw_il3 M_fire_78 ?_
    refine aw_al0 M_fire_79 ?_
    refine aw_gi M_fire_80 (wx_o4 hW) ?_
    refine aw_cge M_fire_83 (fun h83 => ?_) (fun h83 => ?_)
    · skip
      have e : p = Pn := by omega
      subst e
      exact hK _
    · skip
      refine aw_il2 M_fire_86 ?_
      refine aw_zeq M_fire_87 (fun h87 => ?_) (fun h87 => ?_)
      · skip
        omega
      · skip
        refine aw_al0 M_fire_90 ?_
        refine aw_gr (wx_r4_7 hW) M_fire_91 (wx_o4 hW) ?_
        refine aw_il3 M_fire_94 ?_
        refine aw_al0 M_fire_95 ?_
        refine aw_gr (wx_r4_7 hW) M_fire_96 (wx_o4 hW) ?_
        refine aw_il3 M_fire_99 ?_
        refine aw_ia M_fire_100 (wx_a_mpresent hW) (by first | rfl | assumption) (by omega) ?_
        refine aw_al0 M_fire_101 ?_
        refine aw_gr (wx_r4_3 hW) M_fire_102 (wx_o4 hW) ?_
        refine aw_c M_fire_105 ?_
        refine aw_il1 M_fire_107 ?_
        refine aw_mul M_fire_108 (by constructor <;> omega) ?_
        refine aw_il3 M_fire_109 ?_
        refine aw_add M_fire_110 (by constructor <;> omega) ?_
        refine aw_ia M_fire_111 (wx_a_mneeds hW) (show 6 * (t : Int) + (p : Int) = ((6 * t + p : Nat) : Int) by omega) (by omega) ?_
        refine aw_sub M_fire_112 (by constructor <;> omega) ?_
        refine aw_al0 M_fire_113 ?_
        refine aw_gr (wx_r4_4 hW) M_fire_114 (wx_o4 hW) ?_
        refine aw_c M_fire_117 ?_
        refine aw_il1 M_fire_119 ?_
        refine aw_mul M_fire_120 (by constructor <;> omega) ?_
        refine aw_il3 M_fire_121 ?_
        refine aw_add M_fire_122 (by constructor <;> omega) ?_
        refine aw_ia M_fire_123 (wx_a_mgives hW) (show 6 * (t : Int) + (p : Int) = ((6 * t + p : Nat) : Int) by omega) (by omega) ?_
        refine aw_add M_fire_124 (by constructor <;> omega) ?_
        refine aw_iast M_fire_125 (wx_a_mpresent hW) (by first | rfl | assumption) (by omega) ?_
        refine aw_ip3 M_fire_126 (by omega) ?_
        refine aw_go M_fire_129 ?_
        rw [fpk_s]
        exact ih (p + 1) (by omega) (by omega)
theorem upA_self (g : aG) (i j : Nat) : upA g i j (g i j) = g := by
  funext a b
  unfold upA
  split
  · next h => rw [h.1, h.2]
  · rfl
theorem c_M_fire_no {x1 : Option aA} (hW : WX S Pn T) (hP : P (.inl (some (iV 0))) (S, g, u)) : ∀ x3 : Option aA, aw l E M_fire (d + 1) 76 [some (rV (2 * T + 269)), x1, some (iV 0), x3, none, none, none] [] (S, g, u) P := by
  intro x3
  refine aw_c M_fire_76 ?_
  refine aw_is3 M_fire_77 ?_
  refine aw_il3 M_fire_78 ?_
  refine aw_al0 M_fire_79 ?_
  refine aw_gi M_fire_80 (wx_o4 hW) ?_
  refine aw_cge M_fire_83 (fun h83 => ?_) (fun h83 => ?_)
  · skip
    refine aw_al0 M_fire_132 ?_
    refine aw_il2 M_fire_133 ?_
    refine aw_zeq M_fire_134 (fun h134 => ?_) (fun h134 => ?_)
    · skip
      refine aw_al0 M_fire_146 ?_
      refine aw_gi M_fire_147 (wx_o4 hW) ?_
      refine aw_pi M_fire_150 (wx_o4 hW) ?_
      refine aw_il2 M_fire_153 ?_
      refine aw_reti M_fire_154 (Or.inr ⟨rfl, (by first | exact Or.inl rfl | exact Or.inr rfl | assumption)⟩) ?_
      rw [upA_self]
      exact hP
    · skip
      omega
  · skip
    refine aw_il2 M_fire_86 ?_
    refine aw_zeq M_fire_87 (fun h87 => ?_) (fun h87 => ?_)
    · skip
      refine aw_al0 M_fire_132 ?_
      refine aw_il2 M_fire_133 ?_
      refine aw_zeq M_fire_134 (fun h134 => ?_) (fun h134 => ?_)
      · skip
        refine aw_al0 M_fire_146 ?_
        refine aw_gi M_fire_147 (wx_o4 hW) ?_
        refine aw_pi M_fire_150 (wx_o4 hW) ?_
        refine aw_il2 M_fire_153 ?_
        refine aw_reti M_fire_154 (Or.inr ⟨rfl, (by first | exact Or.inl rfl | exact Or.inr rfl | assumption)⟩) ?_
        rw [upA_self]
        exact hP
      · skip
        omega
    · skip
      omega
theorem c_M_fire_yes {t : Nat} (hW : WX S Pn T) (hS : MS Pn T g nd gv fs wn pr fi tm gm) (hfi : fi ≤ 100000) (ht : t < T) (hP : ∀ g', MS Pn T g' nd gv fs wn (fun p => pr p - nd t p + gv t p) (fi + 1) tm gm → g' (2 * T + 269) 0 = g (2 * T + 269) 0 → FM T g g' → P (.inl (some (iV 1))) (S, g', u)) : ∀ x3 : Option aA, aw l E M_fire (d + 1) 132 [some (rV (2 * T + 269)), some (iV (t : Int)), some (iV 1), x3, none, none, none] [] (S, fpk T g t Pn, u) P := by
  intro x3
  have hp6 := wx_P hW
  have e8 : fpk T g t Pn (2 * T + 269) 8 = (fi : Int) := (fpk_ne (by omega)).trans hS.2.2.1
  refine aw_al0 M_fire_132 ?_
  refine aw_il2 M_fire_133 ?_
  refine aw_zeq M_fire_134 (fun h134 => ?_) (fun h134 => ?_)
  · skip
    omega
  · skip
    refine aw_al0 M_fire_137 ?_
    refine aw_gi M_fire_138 (wx_o4 hW) ?_
    refine aw_c M_fire_141 ?_
    refine aw_add M_fire_142 (by constructor <;> omega) ?_
    refine aw_go M_fire_143 ?_
    refine aw_pi M_fire_150 (wx_o4 hW) ?_
    refine aw_il2 M_fire_153 ?_
    refine aw_reti M_fire_154 (Or.inr ⟨rfl, (by first | exact Or.inl rfl | exact Or.inr rfl | assumption)⟩) ?_
    obtain ⟨s1, s2, s3, s4, s5, s6, s7⟩ := hS
    have q1 : ∀ x y, ¬ (x = 2 * T + 269 ∧ y = 8) → x ≠ 2 * T + 274 → (upA (fpk T g t Pn) (2 * T + 269) 8 (fpk T g t Pn (2 * T + 269) 8 + 1)) x y = g x y := fun x y z1 z2 => by
      rw [upA_ne z1, fpk_ne (fun z => z2 z.1)]
    refine hP _ ⟨NM_fr s1 (fun x y z => q1 x y (by omega) (by omega)), fun r hr => ⟨(q1 _ _ (by omega) (by omega)).trans (s2 r hr).1, ?_⟩, ?_, (q1 _ _ (by omega) (by omega)).trans s4, (q1 _ _ (by omega) (by omega)).trans s5, fun z => ⟨(s6 z).1, RM_fr (s6 z).2.1 (fun x y z => q1 x y (by omega) (by omega)), fun n hn => (q1 _ _ (by omega) (by omega)).trans ((s6 z).2.2 n hn)⟩, fun z => ⟨(s7 z).1, RN_fr (s7 z).2 (fun x y z => q1 x y (by omega) (by omega))⟩⟩ (q1 _ _ (by omega) (by omega)) (fun x y h => q1 _ _ (by omega) (by omega))
    · rw [upA_ne (by omega)]
      refine (if_pos ⟨rfl, hr⟩).trans ?_
      rw [(s2 r hr).2, (s1.2.2.1 t ht r hr).1, (s1.2.2.1 t ht r hr).2]
    · rw [upA_eq, e8]; rfl
theorem c_M_fire {t : Int} (hW : WX S Pn T) (hS : MS Pn T g nd gv fs wn pr fi tm gm) (hB : BX Pn T nd gv fs) (hpr : ∀ p, p < Pn → 0 ≤ pr p ∧ pr p ≤ 1000000) (hfi : fi ≤ 100000) (h0 : ∀ t' : Nat, t = (t' : Int) → t' < T → bl Pn (nd t') pr → ∀ g', MS Pn T g' nd gv fs wn (fun p => pr p - nd t' p + gv t' p) (fi + 1) tm gm → g' (2 * T + 269) 0 = 0 → FM T g g' → P (.inl (some (iV 1))) (S, g', u))
    (h0' : ∀ t' : Nat, t = (t' : Int) → t' < T → ¬ bl Pn (nd t') pr → ∀ g', MS Pn T g' nd gv fs wn pr fi tm gm → g' (2 * T + 269) 0 = 0 → FM T g g' → P (.inl (some (iV 0))) (S, g', u))
    (h1 : ¬ (0 ≤ t ∧ t < (T : Int)) → ∀ g', MS Pn T g' nd gv fs wn pr fi tm gm → g' (2 * T + 269) 0 = 1 → FM T g g' → P (.inl (some (iV 0))) (S, g', u)) : Sp l E M_fire (d + 1) [rV (2 * T + 269), iV t] (S, g, u) P := by
  show aw l E M_fire (d + 1) 0 [some (rV (2 * T + 269)), some (iV t), none, none, none, none, none] [] (S, g, u) P
  refine aw_al0 M_fire_0 ?_
  refine aw_al0 M_fire_1 ?_
  refine aw_il1 M_fire_2 ?_
  refine aw_V1 M_fire_3 rfl rfl rfl (wx_o4 hW) ?_
  refine c_M_isTransition hW hS.1.2.1 ?_
  show aw _ _ _ _ _ _ _ _ _
  refine aw_zeq M_fire_6 (fun h6 => ?_) (fun h6 => ?_)
  · skip
    refine aw_c M_fire_13 ?_
    refine aw_pi M_fire_14 (wx_o4 hW) ?_
    refine aw_al0 M_fire_17 ?_
    refine aw_gi M_fire_18 (wx_o4 hW) ?_
    rw [upA_eq]
    refine aw_zne M_fire_21 (fun h21 => ?_) (fun h21 => ?_)
    · skip
      refine aw_c M_fire_28 ?_
      refine aw_is2 M_fire_29 ?_
      refine aw_c M_fire_30 ?_
      refine aw_is3 M_fire_31 ?_
      obtain ⟨y1, y2, y3⟩ := MS_th hS 1
      have hno := c_M_fire_no (l := l) (E := E) (d := d) (u := u) (P := P) (x1 := some (iV t)) hW (h1 (iz h6) _ y1 y2 y3) (some (iV ((0 : Nat) : Int)))
      refine aw_il3 M_fire_32 ?_
      refine aw_al0 M_fire_33 ?_
      refine aw_gi M_fire_34 (wx_o4 hW) ?_
      refine aw_cge M_fire_37 (fun _ => hno) (fun _ => ?_)
      refine aw_il2 M_fire_40 ?_
      exact aw_zeq M_fire_41 (fun _ => hno) (fun z => absurd rfl z)
    · skip
      refine aw_c M_fire_24 ?_
      refine aw_go M_fire_25 ?_
      refine aw_is2 M_fire_29 ?_
      refine aw_c M_fire_30 ?_
      refine aw_is3 M_fire_31 ?_
      omega
  · skip
    refine aw_c M_fire_9 ?_
    refine aw_go M_fire_10 ?_
    refine aw_pi M_fire_14 (wx_o4 hW) ?_
    refine aw_al0 M_fire_17 ?_
    refine aw_gi M_fire_18 (wx_o4 hW) ?_
    rw [upA_eq]
    refine aw_zne M_fire_21 (fun h21 => ?_) (fun h21 => ?_)
    · skip
      refine aw_c M_fire_28 ?_
      refine aw_is2 M_fire_29 ?_
      refine aw_c M_fire_30 ?_
      refine aw_is3 M_fire_31 ?_
      exact absurd rfl h21
    · skip
      refine aw_c M_fire_24 ?_
      refine aw_go M_fire_25 ?_
      refine aw_is2 M_fire_29 ?_
      refine aw_c M_fire_30 ?_
      refine aw_is3 M_fire_31 ?_
      have hv := nz h6
      obtain ⟨t', rfl⟩ := Int.eq_ofNat_of_zero_le hv.1
      obtain ⟨y1, y2, y3⟩ := MS_th hS 0
      have hk := c_M_fire_l1 (l := l) (E := E) (d := d) (u := u) (P := P) (t := t') hW y1 (by omega) ?_ (Pn + 1) 0 (by omega) (by omega)
      · rw [show tf (bl 0 (nd t') pr) = 1 from cI_p (fun r hr => absurd hr (Nat.not_lt_zero r))] at hk
        exact hk
      · intro x3
        by_cases hbl : bl Pn (nd t') pr
        · rw [show tf (bl Pn (nd t') pr) = 1 from cI_p hbl]
          refine aw_c M_fire_76 ?_
          refine aw_is3 M_fire_77 ?_
          have hk2 := c_M_fire_l2 (l := l) (E := E) (d := d) (u := u) (P := P) (t := t') hW y1 hB hpr (by omega) hbl (c_M_fire_yes hW y1 hfi (by omega) (fun g' z1 z2 z3 => h0 t' rfl (by omega) hbl g' z1 (z2.trans y2) (fun x y h => (z3 x y h).trans (y3 x y h)))) (Pn + 1) 0 (by omega) (by omega)
          rw [fpk_0] at hk2
          exact hk2
        · rw [show tf (bl Pn (nd t') pr) = 0 from cI_n hbl]
          exact c_M_fire_no hW (h0' t' rfl (by omega) hbl _ y1 y2 y3) x3
theorem c_M_at {p : Int} (hW : WX S Pn T) (hS : MS Pn T g nd gv fs wn pr fi tm gm) (h0 : ∀ p' : Nat, p = (p' : Int) → p' < Pn → ∀ g', MS Pn T g' nd gv fs wn pr fi tm gm → g' (2 * T + 269) 0 = 0 → FM T g g' → P (.inl (some (iV (pr p')))) (S, g', u)) (h1 : ¬ (0 ≤ p ∧ p < (Pn : Int)) → ∀ g', MS Pn T g' nd gv fs wn pr fi tm gm → g' (2 * T + 269) 0 = 1 → FM T g g' → P (.inl (some (iV 0))) (S, g', u)) : Sp l E M_at (d + 1) [rV (2 * T + 269), iV p] (S, g, u) P := by
  have hp6 := wx_P hW
  show aw l E M_at (d + 1) 0 [some (rV (2 * T + 269)), some (iV p), none, none, none, none, none] [] (S, g, u) P
  refine aw_al0 M_at_0 ?_
  refine aw_al0 M_at_1 ?_
  refine aw_il1 M_at_2 ?_
  refine aw_V1 M_at_3 rfl rfl rfl (wx_o4 hW) ?_
  refine c_M_isPlace hW hS.1.1 ?_
  show aw _ _ _ _ _ _ _ _ _
  refine aw_zeq M_at_6 (fun h6 => ?_) (fun h6 => ?_)
  · skip
    refine aw_c M_at_13 ?_
    refine aw_pi M_at_14 (wx_o4 hW) ?_
    refine aw_al0 M_at_17 ?_
    refine aw_gi M_at_18 (wx_o4 hW) ?_
    rw [upA_eq]
    refine aw_zne M_at_21 (fun h21 => ?_) (fun h21 => ?_)
    · skip
      obtain ⟨y1, y2, y3⟩ := MS_th hS 1
      refine aw_c M_at_33 ?_
      refine aw_reti M_at_34 (Or.inl rfl) ?_
      exact h1 (iz h6) _ y1 y2 y3
    · skip
      omega
  · skip
    refine aw_c M_at_9 ?_
    refine aw_go M_at_10 ?_
    refine aw_pi M_at_14 (wx_o4 hW) ?_
    refine aw_al0 M_at_17 ?_
    refine aw_gi M_at_18 (wx_o4 hW) ?_
    rw [upA_eq]
    refine aw_zne M_at_21 (fun h21 => ?_) (fun h21 => ?_)
    · skip
      exact absurd rfl h21
    · skip
      have hv := nz h6
      obtain ⟨p', rfl⟩ := Int.eq_ofNat_of_zero_le hv.1
      obtain ⟨y1, y2, y3⟩ := MS_th hS 0
      refine aw_al0 M_at_24 ?_
      refine aw_gr (wx_r4_7 hW) M_at_25 (wx_o4 hW) ?_
      refine aw_il1 M_at_28 ?_
      refine aw_ia M_at_29 (wx_a_mpresent hW) rfl (by omega) ?_
      refine aw_go M_at_30 ?_
      refine aw_reti M_at_34 (Or.inl rfl) ?_
      rw [(y1.2.1 p' (by omega)).2]
      exact h0 p' rfl (by omega) _ y1 y2 y3
theorem c_M_reset (hW : WX S Pn T) (hS : MS Pn T g nd gv fs wn pr fi tm gm) (h0 : ∀ g', MS Pn T g' nd gv fs wn fs 0 tm gm → FM T g g' → P (.inl (some (iV (fi : Int)))) (S, g', u)) : Sp l E M_reset (d + 1) [rV (2 * T + 269)] (S, g, u) P := by
  have hp6 := wx_P hW
  obtain ⟨y1, y2, y3⟩ := MS_th hS 0
  show aw l E M_reset (d + 1) 0 [some (rV (2 * T + 269)), none, none, none, none, none, none] [] (S, g, u) P
  refine aw_al0 M_reset_0 ?_
  refine aw_c M_reset_1 ?_
  refine aw_pi M_reset_2 (wx_o4 hW) ?_
  refine aw_al0 M_reset_5 ?_
  refine aw_gi M_reset_6 (wx_o4 hW) ?_
  refine aw_is1 M_reset_9 ?_
  refine aw_al0 M_reset_10 ?_
  refine aw_V0 M_reset_11 rfl rfl (wx_o4 hW) ?_
  refine c_M_begin hW ?_
  show aw _ _ _ _ _ _ _ _ _
  refine aw_il1 M_reset_14 ?_
  refine aw_reti M_reset_15 (Or.inl rfl) ?_
  rw [y1.2.2.1]
  obtain ⟨s1, s2, s3, s4, s5, s6, s7⟩ := y1
  have q1 : ∀ x y, ¬ (x = 2 * T + 269 ∧ y = 8) → x ≠ 2 * T + 274 → (upA (bgk T (upA g (2 * T + 269) 0 0) 6) (2 * T + 269) 8 0) x y = (upA g (2 * T + 269) 0 0) x y := fun x y z1 z2 => by
    rw [upA_ne z1]
    exact if_neg (fun z => z2 z.1)
  refine h0 _ ⟨NM_fr s1 (fun x y z => q1 x y (by omega) (by omega)), fun r hr => ⟨(q1 _ _ (by omega) (by omega)).trans (s2 r hr).1, ?_⟩, upA_eq _ _ _ _, (q1 _ _ (by omega) (by omega)).trans s4, (q1 _ _ (by omega) (by omega)).trans s5, fun z => ⟨(s6 z).1, RM_fr (s6 z).2.1 (fun x y z => q1 x y (by omega) (by omega)), fun n hn => (q1 _ _ (by omega) (by omega)).trans ((s6 z).2.2 n hn)⟩, fun z => ⟨(s7 z).1, RN_fr (s7 z).2 (fun x y z => q1 x y (by omega) (by omega))⟩⟩ (fun x y h => (q1 _ _ (by omega) (by omega)).trans (y3 x y h))
  rw [upA_ne (by omega)]
  exact (if_pos ⟨rfl, by omega⟩).trans (s1.2.2.2 r hr)
end NB
