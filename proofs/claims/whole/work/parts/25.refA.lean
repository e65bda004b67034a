section NA
variable {l : Launch} {E : aE} {d : Nat} {S : aS} {g : aG} {u : aU} {P : aP} {Pn T : Nat} {nd gv : Nat → Nat → Int} {fs wn pr : Nat → Int} {fi : Nat} {tm gm : Prop}
/-- row n of the reference's markings -/
def rwM (T : Nat) (g : aG) (n : Nat) : Nat → Int := fun p => g (2 * T + 275) (6 * n + p)
def RMz (Pn T : Nat) (g : aG) (τ : Tz) (z : Int) : Prop := (∀ n, n < τ.1 → ∀ p, p < Pn → g (2 * T + 275) (6 * n + p) = τ.2.1 n p) ∧ g (2 * T + 276) 0 = -2 ∧ g (2 * T + 277) 0 = -2 ∧ (∀ n, 0 < n → n < τ.1 → g (2 * T + 276) n = (τ.2.2.1 n : Int) ∧ g (2 * T + 277) n = (τ.2.2.2.1 n : Int)) ∧ g (2 * T + 269) 10 = z
abbrev RM (Pn T : Nat) (g : aG) (τ : Tz) : Prop := RMz Pn T g τ (τ.1 : Int)
def RN (Pn T : Nat) (g : aG) (γ : Tz) : Prop := (∀ n, n < γ.1 → ∀ p, p < Pn → g (2 * T + 279) (6 * n + p) = γ.2.1 n p) ∧ g (2 * T + 280) 0 = -2 ∧ (∀ n, 0 < n → n < γ.1 → g (2 * T + 280) n = (γ.2.2.1 n : Int) ∧ g (2 * T + 281) n = (γ.2.2.2.1 n : Int)) ∧ (∀ n, n < γ.1 → g (2 * T + 282) n = tf (γ.2.2.2.2.2 n)) ∧ g (2 * T + 269) 16 = (γ.1 : Int)
/-- the reference's net -/
def NM (Pn T : Nat) (g : aG) (nd gv : Nat → Nat → Int) (fs : Nat → Int) : Prop := g (2 * T + 269) 1 = (Pn : Int) ∧ g (2 * T + 269) 2 = (T : Int) ∧ (∀ t, t < T → ∀ p, p < Pn → g (2 * T + 270) (6 * t + p) = nd t p ∧ g (2 * T + 271) (6 * t + p) = gv t p) ∧ ∀ p, p < Pn → g (2 * T + 272) p = fs p
def MS (Pn T : Nat) (g : aG) (nd gv : Nat → Nat → Int) (fs wn pr : Nat → Int) (fi : Nat) (tm gm : Prop) : Prop :=
  NM Pn T g nd gv fs ∧ (∀ p, p < Pn → g (2 * T + 273) p = wn p ∧ g (2 * T + 274) p = pr p) ∧ g (2 * T + 269) 8 = (fi : Int) ∧ g (2 * T + 269) 9 = tf tm ∧ g (2 * T + 269) 15 = tf gm ∧
  (tm → (grT Pn T nd gv fs 200).1 = true ∧ RM Pn T g (grT Pn T nd gv fs 200).2 ∧ ∀ n, n < (grT Pn T nd gv fs 200).2.1 → g (2 * T + 278) n = tf ((grT Pn T nd gv fs 200).2.2.2.2.2.2 n)) ∧ (gm → (gtG Pn T nd gv wn 48).1 = true ∧ RN Pn T g (gtG Pn T nd gv wn 48).2)
/-- the reference's cells alone have changed -/
def FM (T : Nat) (g g' : aG) : Prop := ∀ x y, (x < 2 * T + 269 ∨ x = 2 * T + 283) → g' x y = g x y
theorem RM_fr {g' : aG} {τ : Tz} {z : Int} (h : RMz Pn T g τ z) (hg : ∀ x y, (x = 2 * T + 275 ∨ x = 2 * T + 276 ∨ x = 2 * T + 277 ∨ (x = 2 * T + 269 ∧ y = 10)) → g' x y = g x y) : RMz Pn T g' τ z := by
  obtain ⟨r1, r2, r3, r4, r5⟩ := h
  refine ⟨fun n hn p hp => (hg _ _ (by omega)).trans (r1 n hn p hp), (hg _ _ (by omega)).trans r2, (hg _ _ (by omega)).trans r3, fun n h0 hn => ?_, (hg _ _ (by omega)).trans r5⟩
  obtain ⟨z1, z2⟩ := r4 n h0 hn
  exact ⟨(hg _ _ (by omega)).trans z1, (hg _ _ (by omega)).trans z2⟩
theorem RN_fr {g' : aG} {γ : Tz} (h : RN Pn T g γ) (hg : ∀ x y, (x = 2 * T + 279 ∨ x = 2 * T + 280 ∨ x = 2 * T + 281 ∨ x = 2 * T + 282 ∨ (x = 2 * T + 269 ∧ y = 16)) → g' x y = g x y) : RN Pn T g' γ := by
  obtain ⟨r1, r2, r4, r5, r6⟩ := h
  refine ⟨fun n hn p hp => (hg _ _ (by omega)).trans (r1 n hn p hp), (hg _ _ (by omega)).trans r2, fun n h0 hn => ?_, fun n hn => (hg _ _ (by omega)).trans (r5 n hn), (hg _ _ (by omega)).trans r6⟩
  obtain ⟨z1, z2⟩ := r4 n h0 hn
  exact ⟨(hg _ _ (by omega)).trans z1, (hg _ _ (by omega)).trans z2⟩
theorem NM_fr {g' : aG} (h : NM Pn T g nd gv fs) (hg : ∀ x y, ((x = 2 * T + 269 ∧ (y = 1 ∨ y = 2)) ∨ x = 2 * T + 270 ∨ x = 2 * T + 271 ∨ x = 2 * T + 272) → g' x y = g x y) : NM Pn T g' nd gv fs := by
  obtain ⟨h1, h2, h3, h4⟩ := h
  refine ⟨(hg _ _ (by omega)).trans h1, (hg _ _ (by omega)).trans h2, fun t ht p hp => ?_, fun p hp => (hg _ _ (by omega)).trans (h4 p hp)⟩
  obtain ⟨z1, z2⟩ := h3 t ht p hp
  exact ⟨(hg _ _ (by omega)).trans z1, (hg _ _ (by omega)).trans z2⟩
theorem MS_fr {g' : aG} (h : MS Pn T g nd gv fs wn pr fi tm gm) (hg : ∀ x y, 2 * T + 269 ≤ x → x < 2 * T + 283 → ¬ (x = 2 * T + 269 ∧ y = 0) → g' x y = g x y) : MS Pn T g' nd gv fs wn pr fi tm gm := by
  obtain ⟨h1, h2, h3, h4, h5, h6, h7⟩ := h
  refine ⟨NM_fr h1 (fun x y z => hg x y (by omega) (by omega) (by omega)), fun p hp => ⟨(hg _ _ (by omega) (by omega) (by omega)).trans (h2 p hp).1, (hg _ _ (by omega) (by omega) (by omega)).trans (h2 p hp).2⟩, (hg _ _ (by omega) (by omega) (by omega)).trans h3, (hg _ _ (by omega) (by omega) (by omega)).trans h4, (hg _ _ (by omega) (by omega) (by omega)).trans h5, fun z => ⟨(h6 z).1, RM_fr (h6 z).2.1 (fun x y z => hg x y (by omega) (by omega) (by omega)), fun n hn => (hg _ _ (by omega) (by omega) (by omega)).trans ((h6 z).2.2 n hn)⟩, fun z => ⟨(h7 z).1, RN_fr (h7 z).2 (fun x y z => hg x y (by omega) (by omega) (by omega))⟩⟩
theorem mul6 {T t p Pn : Nat} (hp : p < Pn) (hP : Pn ≤ 6) {t' p' : Nat} (hp' : p' < Pn) (h : 6 * t + p = 6 * t' + p') : t = t' ∧ p = p' := by omega
theorem c_M_isPlace {i : Int} (hW : WX S Pn T) (hl : g (2 * T + 269) 1 = (Pn : Int)) (hP : P (.inl (some (iV (if 0 ≤ i ∧ i < (Pn : Int) then 1 else 0)))) (S, g, u)) : Sp l E M_isPlace d [rV (2 * T + 269), iV i] (S, g, u) P := by
  show aw l E M_isPlace d 0 [some (rV (2 * T + 269)), some (iV i), none, none, none, none, none] [] (S, g, u) P
  refine aw_il1 M_isPlace_0 ?_
  refine aw_zlt M_isPlace_1 (fun h1 => ?_) (fun h1 => ?_)
  · skip
    refine aw_c M_isPlace_16 ?_
    refine aw_reti M_isPlace_17 (Or.inr ⟨rfl, (by first | exact Or.inl rfl | exact Or.inr rfl | assumption)⟩) ?_
    exact pF (by omega) hP
  · skip
    refine aw_il1 M_isPlace_4 ?_
    refine aw_al0 M_isPlace_5 ?_
    refine aw_gi M_isPlace_6 (wx_o4 hW) ?_
    refine aw_cge M_isPlace_9 (fun h9 => ?_) (fun h9 => ?_)
    · skip
      refine aw_c M_isPlace_16 ?_
      refine aw_reti M_isPlace_17 (Or.inr ⟨rfl, (by first | exact Or.inl rfl | exact Or.inr rfl | assumption)⟩) ?_
      exact pF (by omega) hP
    · skip
      refine aw_c M_isPlace_12 ?_
      refine aw_go M_isPlace_13 ?_
      refine aw_reti M_isPlace_17 (Or.inr ⟨rfl, (by first | exact Or.inl rfl | exact Or.inr rfl | assumption)⟩) ?_
      exact pT (by omega) hP
theorem c_M_isTransition {i : Int} (hW : WX S Pn T) (hl : g (2 * T + 269) 2 = (T : Int)) (hP : P (.inl (some (iV (if 0 ≤ i ∧ i < (T : Int) then 1 else 0)))) (S, g, u)) : Sp l E M_isTransition d [rV (2 * T + 269), iV i] (S, g, u) P := by
  show aw l E M_isTransition d 0 [some (rV (2 * T + 269)), some (iV i), none, none, none, none, none] [] (S, g, u) P
  refine aw_il1 M_isTransition_0 ?_
  refine aw_zlt M_isTransition_1 (fun h1 => ?_) (fun h1 => ?_)
  · skip
    refine aw_c M_isTransition_16 ?_
    refine aw_reti M_isTransition_17 (Or.inr ⟨rfl, (by first | exact Or.inl rfl | exact Or.inr rfl | assumption)⟩) ?_
    exact pF (by omega) hP
  · skip
    refine aw_il1 M_isTransition_4 ?_
    refine aw_al0 M_isTransition_5 ?_
    refine aw_gi M_isTransition_6 (wx_o4 hW) ?_
    refine aw_cge M_isTransition_9 (fun h9 => ?_) (fun h9 => ?_)
    · skip
      refine aw_c M_isTransition_16 ?_
      refine aw_reti M_isTransition_17 (Or.inr ⟨rfl, (by first | exact Or.inl rfl | exact Or.inr rfl | assumption)⟩) ?_
      exact pF (by omega) hP
    · skip
      refine aw_c M_isTransition_12 ?_
      refine aw_go M_isTransition_13 ?_
      refine aw_reti M_isTransition_17 (Or.inr ⟨rfl, (by first | exact Or.inl rfl | exact Or.inr rfl | assumption)⟩) ?_
      exact pT (by omega) hP
theorem c_M_changed (hW : WX S Pn T) (hP : P (.inl none) (S, upA (upA g (2 * T + 269) 9 0) (2 * T + 269) 15 0, u)) : Sp l E M_changed d [rV (2 * T + 269)] (S, g, u) P := by
  show aw l E M_changed d 0 [some (rV (2 * T + 269)), none, none, none, none, none, none] [] (S, g, u) P
  refine aw_al0 M_changed_0 ?_
  refine aw_c M_changed_1 ?_
  refine aw_pz M_changed_2 (wx_o4 hW) (by first | exact Or.inl rfl | exact Or.inr rfl | assumption) ?_
  refine aw_al0 M_changed_5 ?_
  refine aw_c M_changed_6 ?_
  refine aw_pz M_changed_7 (wx_o4 hW) (by first | exact Or.inl rfl | exact Or.inr rfl | assumption) ?_
  refine aw_retv M_changed_10 rfl ?_
  exact hP
theorem c_M_thrown (hW : WX S Pn T) (hP : P (.inl (some (iV (g (2 * T + 269) 0)))) (S, g, u)) : Sp l E M_thrown d [rV (2 * T + 269)] (S, g, u) P := by
  show aw l E M_thrown d 0 [some (rV (2 * T + 269)), none, none, none, none, none, none] [] (S, g, u) P
  refine aw_al0 M_thrown_0 ?_
  refine aw_gi M_thrown_1 (wx_o4 hW) ?_
  refine aw_reti M_thrown_4 (Or.inl rfl) ?_
  exact hP
def bgk (T : Nat) (g : aG) (k : Nat) : aG := fun a b => if a = 2 * T + 274 ∧ b < k then g (2 * T + 272) b else g a b
theorem bgk_0 (T : Nat) (g : aG) : bgk T g 0 = g := by
  funext a b
  exact if_neg (fun z => absurd z.2 (Nat.not_lt_zero b))
theorem bgk_s (T : Nat) (g : aG) (k : Nat) : upA (bgk T g k) (2 * T + 274) k (bgk T g k (2 * T + 272) k) = bgk T g (k + 1) := by
  funext a b
  rw [show bgk T g k (2 * T + 272) k = g (2 * T + 272) k from if_neg (by omega)]
  unfold upA bgk
  by_cases ha : a = 2 * T + 274
  · by_cases hb : b = k
    · subst hb; simp [ha]
    · by_cases hc : b < k
      · simp [ha, hb, hc, show b < k + 1 by omega]
      · simp [ha, hb, hc, show ¬ b < k + 1 by omega]
  · simp [ha]
theorem c_M_begin_lp (hW : WX S Pn T) (hP : P (.inl none) (S, upA (bgk T g 6) (2 * T + 269) 8 0, u)) : ∀ (m p : Nat), 6 - p < m → p ≤ 6 → aw l E M_begin d 2 [some (rV (2 * T + 269)), some (iV (p : Int)), none, none, none, none, none] [] (S, bgk T g p, u) P := by
  intro m
  induction m with
  | zero => intro p h; omega
  | succ m ih =>
    intro p hm hp
    refine aw_il1 M_begin_2 ?_
    refine aw_c M_begin_3 ?_
    refine aw_cge M_begin_5 (fun h5 => ?_) (fun h5 => ?_)
    · skip
      refine aw_al0 M_begin_26 ?_
      refine aw_c M_begin_27 ?_
      refine aw_pi M_begin_28 (wx_o4 hW) ?_
      refine aw_retv M_begin_31 rfl ?_
      have e : p = 6 := by omega
      subst e
      exact hP
    · skip
      refine aw_al0 M_begin_8 ?_
      refine aw_gr (wx_r4_7 hW) M_begin_9 (wx_o4 hW) ?_
      refine aw_il1 M_begin_12 ?_
      refine aw_al0 M_begin_13 ?_
      refine aw_gr (wx_r4_5 hW) M_begin_14 (wx_o4 hW) ?_
      refine aw_il1 M_begin_17 ?_
      refine aw_ia M_begin_18 (wx_a_mstarts hW) (by first | rfl | assumption) (by omega) ?_
      refine aw_iast M_begin_19 (wx_a_mpresent hW) (by first | rfl | assumption) (by omega) ?_
      refine aw_ip1 M_begin_20 (by omega) ?_
      refine aw_go M_begin_23 ?_
      rw [bgk_s]
      exact ih (p + 1) (by omega) (by omega)
theorem c_M_begin (hW : WX S Pn T) (hP : P (.inl none) (S, upA (bgk T g 6) (2 * T + 269) 8 0, u)) : Sp l E M_begin d [rV (2 * T + 269)] (S, g, u) P := by
  show aw l E M_begin d 0 [some (rV (2 * T + 269)), none, none, none, none, none, none] [] (S, g, u) P
  refine aw_c M_begin_0 ?_
  refine aw_is1 M_begin_1 ?_
  have hk := c_M_begin_lp (l := l) (E := E) (d := d) (u := u) hW hP 7 0 (by omega) (by omega)
  rw [bgk_0] at hk
  exact hk
theorem MS_th (hS : MS Pn T g nd gv fs wn pr fi tm gm) : (∀ z : Int, MS Pn T (upA g (2 * T + 269) 0 z) nd gv fs wn pr fi tm gm ∧ (upA g (2 * T + 269) 0 z) (2 * T + 269) 0 = z ∧ FM T g (upA g (2 * T + 269) 0 z)) := fun z => ⟨MS_fr hS (fun x y h1 h2 h3 => upA_ne h3), upA_eq _ _ _ _, fun x y h => upA_ne (by omega)⟩
theorem c_M_arc_60 {t p nn ng th : Int} {x5 : Option aA} (hW : WX S Pn T) (hS : MS Pn T g nd gv fs wn pr fi tm gm) (h0 : ∀ t' p' : Nat, t = (t' : Int) → p = (p' : Int) → t' < T → p' < Pn → 0 ≤ nn → nn ≤ 9 → 0 ≤ ng → ng ≤ 9 → ∀ g', MS Pn T g' (upA nd t' p' nn) (upA gv t' p' ng) fs wn pr fi False False → g' (2 * T + 269) 0 = 0 → FM T g g' → P (.inl (some (iV (ng - nn)))) (S, g', u))
    (h1 : ¬ (0 ≤ t ∧ t < (T : Int)) ∨ ¬ (0 ≤ p ∧ p < (Pn : Int)) → ∀ g', MS Pn T g' nd gv fs wn pr fi tm gm → g' (2 * T + 269) 0 = 1 → FM T g g' → P (.inl (some (iV 0))) (S, g', u)) (h2 : (0 ≤ t ∧ t < (T : Int)) → (0 ≤ p ∧ p < (Pn : Int)) → ¬ (0 ≤ nn ∧ nn ≤ 9) ∨ ¬ (0 ≤ ng ∧ ng ≤ 9) → ∀ g', MS Pn T g' nd gv fs wn pr fi tm gm → g' (2 * T + 269) 0 = 2 → FM T g g' → P (.inl (some (iV 0))) (S, g', u)) (hth : (th = 1 ∧ (¬ (0 ≤ t ∧ t < (T : Int)) ∨ ¬ (0 ≤ p ∧ p < (Pn : Int)))) ∨ ((0 ≤ t ∧ t < (T : Int)) ∧ (0 ≤ p ∧ p < (Pn : Int)) ∧ ((th = 2 ∧ (¬ (0 ≤ nn ∧ nn ≤ 9) ∨ ¬ (0 ≤ ng ∧ ng ≤ 9))) ∨ (th = 0 ∧ 0 ≤ nn ∧ nn ≤ 9 ∧ 0 ≤ ng ∧ ng ≤ 9)))) : aw l E M_arc (d + 1) 60 [some (rV (2 * T + 269)), some (iV t), some (iV p), some (iV nn), some (iV ng), x5, none] [iV th, rV (2 * T + 269)] (S, g, u) P := by
  have hT8 := wx_T hW
  have hp6 := wx_P hW
  have e0 : (upA g (2 * T + 269) 0 th) (2 * T + 269) 0 = th := upA_eq _ _ _ _
  refine aw_pi M_arc_60 (wx_o4 hW) ?_
  refine aw_al0 M_arc_63 ?_
  refine aw_gi M_arc_64 (wx_o4 hW) ?_
  rw [e0]
  refine aw_zle M_arc_67 (fun h67 => ?_) (fun h67 => ?_)
  · skip
    obtain ⟨t', rfl⟩ := Int.eq_ofNat_of_zero_le (show 0 ≤ t by omega)
    obtain ⟨p', rfl⟩ := Int.eq_ofNat_of_zero_le (show 0 ≤ p by omega)
    refine aw_al0 M_arc_72 ?_
    refine aw_gr (wx_r4_3 hW) M_arc_73 (wx_o4 hW) ?_
    refine aw_c M_arc_76 ?_
    refine aw_il1 M_arc_78 ?_
    refine aw_mul M_arc_79 (by constructor <;> omega) ?_
    refine aw_il2 M_arc_80 ?_
    refine aw_add M_arc_81 (by constructor <;> omega) ?_
    refine aw_il3 M_arc_82 ?_
    refine aw_iast M_arc_83 (wx_a_mneeds hW) (show 6 * (t' : Int) + (p' : Int) = ((6 * t' + p' : Nat) : Int) by omega) (by omega) ?_
    refine aw_al0 M_arc_84 ?_
    refine aw_gr (wx_r4_4 hW) M_arc_85 (wx_o4 hW) ?_
    refine aw_c M_arc_88 ?_
    refine aw_il1 M_arc_90 ?_
    refine aw_mul M_arc_91 (by constructor <;> omega) ?_
    refine aw_il2 M_arc_92 ?_
    refine aw_add M_arc_93 (by constructor <;> omega) ?_
    refine aw_il4 M_arc_94 ?_
    refine aw_iast M_arc_96 (wx_a_mgives hW) (show 6 * (t' : Int) + (p' : Int) = ((6 * t' + p' : Nat) : Int) by omega) (by omega) ?_
    refine aw_al0 M_arc_97 ?_
    refine aw_V0 M_arc_98 rfl rfl (wx_o4 hW) ?_
    refine c_M_changed hW ?_
    show aw _ _ _ _ _ _ _ _ _
    refine aw_il4 M_arc_101 ?_
    refine aw_il3 M_arc_103 ?_
    refine aw_sub M_arc_104 (by constructor <;> omega) ?_
    refine aw_reti M_arc_105 (Or.inl rfl) ?_
    obtain ⟨s1, s2, s3, s4, s5, s6, s7⟩ := hS
    have q1 : ∀ x y, ¬ (x = 2 * T + 269 ∧ (y = 0 ∨ y = 9 ∨ y = 15)) → x ≠ 2 * T + 270 → x ≠ 2 * T + 271 → (upA (upA (upA (upA (upA g (2 * T + 269) 0 th) (2 * T + 270) (6 * t' + p') nn) (2 * T + 271) (6 * t' + p') ng) (2 * T + 269) 9 0) (2 * T + 269) 15 0) x y = g x y := fun x y z1 z2 z3 => by
      rw [upA_ne (by omega), upA_ne (by omega), upA_ne (by omega), upA_ne (by omega), upA_ne (by omega)]
    refine h0 t' p' rfl rfl (by omega) (by omega) (by omega) (by omega) (by omega) (by omega) _ ⟨⟨(q1 _ _ (by omega) (by omega) (by omega)).trans s1.1, (q1 _ _ (by omega) (by omega) (by omega)).trans s1.2.1, fun s hs r hr => ?_, fun r hr => (q1 _ _ (by omega) (by omega) (by omega)).trans (s1.2.2.2 r hr)⟩, fun r hr => ⟨(q1 _ _ (by omega) (by omega) (by omega)).trans (s2 r hr).1, (q1 _ _ (by omega) (by omega) (by omega)).trans (s2 r hr).2⟩, (q1 _ _ (by omega) (by omega) (by omega)).trans s3, ?_, ?_, fun z => z.elim, fun z => z.elim⟩ ?_ (fun x y h => q1 _ _ (by omega) (by omega) (by omega))
    · obtain ⟨z1, z2⟩ := s1.2.2.1 s hs r hr
      by_cases e : s = t' ∧ r = p'
      · obtain ⟨rfl, rfl⟩ := e
        constructor
        · rw [upA_ne (by omega), upA_ne (by omega), upA_ne (by omega), upA_eq, upA_eq]
        · rw [upA_ne (by omega), upA_ne (by omega), upA_eq, upA_eq]
      · constructor
        · rw [upA_ne (by omega), upA_ne (by omega), upA_ne (by omega), upA_ne (by omega), upA_ne (by omega), upA_ne e]; exact z1
        · rw [upA_ne (by omega), upA_ne (by omega), upA_ne (by omega), upA_ne (by omega), upA_ne (by omega), upA_ne e]; exact z2
    · rw [upA_ne (by omega), upA_eq]; exact (cI_n id).symm
    · rw [upA_eq]; exact (cI_n id).symm
    · rw [upA_ne (by omega), upA_ne (by omega), upA_ne (by omega), upA_ne (by omega), upA_eq]; omega
  · skip
    refine aw_c M_arc_70 ?_
    refine aw_reti M_arc_71 (Or.inl rfl) ?_
    rcases hth with ⟨rfl, hc⟩ | ⟨hc1, hc2, ⟨rfl, hc3⟩ | ⟨rfl, _⟩⟩
    · exact h1 hc _ (MS_th hS 1).1 (MS_th hS 1).2.1 (MS_th hS 1).2.2
    · exact h2 hc1 hc2 hc3 _ (MS_th hS 2).1 (MS_th hS 2).2.1 (MS_th hS 2).2.2
    · omega
theorem c_M_arc_29 {t p nn ng gd : Int} (hW : WX S Pn T) (hS : MS Pn T g nd gv fs wn pr fi tm gm) (h0 : ∀ t' p' : Nat, t = (t' : Int) → p = (p' : Int) → t' < T → p' < Pn → 0 ≤ nn → nn ≤ 9 → 0 ≤ ng → ng ≤ 9 → ∀ g', MS Pn T g' (upA nd t' p' nn) (upA gv t' p' ng) fs wn pr fi False False → g' (2 * T + 269) 0 = 0 → FM T g g' → P (.inl (some (iV (ng - nn)))) (S, g', u))
    (h1 : ¬ (0 ≤ t ∧ t < (T : Int)) ∨ ¬ (0 ≤ p ∧ p < (Pn : Int)) → ∀ g', MS Pn T g' nd gv fs wn pr fi tm gm → g' (2 * T + 269) 0 = 1 → FM T g g' → P (.inl (some (iV 0))) (S, g', u)) (h2 : (0 ≤ t ∧ t < (T : Int)) → (0 ≤ p ∧ p < (Pn : Int)) → ¬ (0 ≤ nn ∧ nn ≤ 9) ∨ ¬ (0 ≤ ng ∧ ng ≤ 9) → ∀ g', MS Pn T g' nd gv fs wn pr fi tm gm → g' (2 * T + 269) 0 = 2 → FM T g g' → P (.inl (some (iV 0))) (S, g', u)) (hgd : (gd = 1 ∧ 0 ≤ nn ∧ nn ≤ 9 ∧ 0 ≤ ng ∧ ng ≤ 9) ∨ (gd = 0 ∧ (¬ (0 ≤ nn ∧ nn ≤ 9) ∨ ¬ (0 ≤ ng ∧ ng ≤ 9)))) : aw l E M_arc (d + 1) 29 [some (rV (2 * T + 269)), some (iV t), some (iV p), some (iV nn), some (iV ng), some (iV gd), none] [] (S, g, u) P := by
  refine aw_al0 M_arc_29 ?_
  refine aw_al0 M_arc_30 ?_
  refine aw_il1 M_arc_31 ?_
  refine aw_V1 M_arc_32 rfl rfl rfl (wx_o4 hW) ?_
  refine c_M_isTransition hW hS.1.2.1 ?_
  show aw _ _ _ _ _ _ _ _ _
  refine aw_zeq M_arc_35 (fun h35 => ?_) (fun h35 => ?_)
  · skip
    refine aw_c M_arc_46 ?_
    refine aw_go M_arc_47 ?_
    have z := iz h35
    exact c_M_arc_60 hW hS h0 h1 h2 (by omega)
  · skip
    refine aw_al0 M_arc_38 ?_
    refine aw_il2 M_arc_39 ?_
    refine aw_V1 M_arc_40 rfl rfl rfl (wx_o4 hW) ?_
    refine c_M_isPlace hW hS.1.1 ?_
    show aw _ _ _ _ _ _ _ _ _
    refine aw_zne M_arc_43 (fun h43 => ?_) (fun h43 => ?_)
    · skip
      refine aw_il5 M_arc_50 ?_
      refine aw_zeq M_arc_52 (fun h52 => ?_) (fun h52 => ?_)
      · skip
        refine aw_c M_arc_59 ?_
        have z1 := nz h35
        have z2 := nz h43
        exact c_M_arc_60 hW hS h0 h1 h2 (by omega)
      · skip
        refine aw_c M_arc_55 ?_
        refine aw_go M_arc_56 ?_
        have z1 := nz h35
        have z2 := nz h43
        exact c_M_arc_60 hW hS h0 h1 h2 (by omega)
    · skip
      refine aw_c M_arc_46 ?_
      refine aw_go M_arc_47 ?_
      have z1 := nz h35
      have z2 := iz h43
      exact c_M_arc_60 hW hS h0 h1 h2 (by omega)
theorem c_M_arc {t p nn ng : Int} (hW : WX S Pn T) (hS : MS Pn T g nd gv fs wn pr fi tm gm) (h0 : ∀ t' p' : Nat, t = (t' : Int) → p = (p' : Int) → t' < T → p' < Pn → 0 ≤ nn → nn ≤ 9 → 0 ≤ ng → ng ≤ 9 → ∀ g', MS Pn T g' (upA nd t' p' nn) (upA gv t' p' ng) fs wn pr fi False False → g' (2 * T + 269) 0 = 0 → FM T g g' → P (.inl (some (iV (ng - nn)))) (S, g', u))
    (h1 : ¬ (0 ≤ t ∧ t < (T : Int)) ∨ ¬ (0 ≤ p ∧ p < (Pn : Int)) → ∀ g', MS Pn T g' nd gv fs wn pr fi tm gm → g' (2 * T + 269) 0 = 1 → FM T g g' → P (.inl (some (iV 0))) (S, g', u)) (h2 : (0 ≤ t ∧ t < (T : Int)) → (0 ≤ p ∧ p < (Pn : Int)) → ¬ (0 ≤ nn ∧ nn ≤ 9) ∨ ¬ (0 ≤ ng ∧ ng ≤ 9) → ∀ g', MS Pn T g' nd gv fs wn pr fi tm gm → g' (2 * T + 269) 0 = 2 → FM T g g' → P (.inl (some (iV 0))) (S, g', u)) : Sp l E M_arc (d + 1) [rV (2 * T + 269), iV t, iV p, iV nn, iV ng] (S, g, u) P := by
  show aw l E M_arc (d + 1) 0 [some (rV (2 * T + 269)), some (iV t), some (iV p), some (iV nn), some (iV ng), none, none] [] (S, g, u) P
  refine aw_il3 M_arc_0 ?_
  refine aw_zlt M_arc_1 (fun q1 => ?_) (fun q1 => ?_)
  · skip
    refine aw_c M_arc_26 ?_
    refine aw_is5 M_arc_27 ?_
    exact c_M_arc_29 hW hS h0 h1 h2 (by omega)
  · skip
    refine aw_il3 M_arc_4 ?_
    refine aw_c M_arc_5 ?_
    refine aw_cgt M_arc_7 (fun q7 => ?_) (fun q7 => ?_)
    · skip
      refine aw_c M_arc_26 ?_
      refine aw_is5 M_arc_27 ?_
      exact c_M_arc_29 hW hS h0 h1 h2 (by omega)
    · skip
      refine aw_il4 M_arc_10 ?_
      refine aw_zlt M_arc_12 (fun q12 => ?_) (fun q12 => ?_)
      · skip
        refine aw_c M_arc_26 ?_
        refine aw_is5 M_arc_27 ?_
        exact c_M_arc_29 hW hS h0 h1 h2 (by omega)
      · skip
        refine aw_il4 M_arc_15 ?_
        refine aw_c M_arc_17 ?_
        refine aw_cgt M_arc_19 (fun q19 => ?_) (fun q19 => ?_)
        · skip
          refine aw_c M_arc_26 ?_
          refine aw_is5 M_arc_27 ?_
          exact c_M_arc_29 hW hS h0 h1 h2 (by omega)
        · skip
          refine aw_c M_arc_22 ?_
          refine aw_go M_arc_23 ?_
          refine aw_is5 M_arc_27 ?_
          exact c_M_arc_29 hW hS h0 h1 h2 (by omega)
theorem c_M_start_28 {p n th : Int} (hW : WX S Pn T) (hS : MS Pn T g nd gv fs wn pr fi tm gm) (h0 : ∀ p' : Nat, p = (p' : Int) → p' < Pn → 0 ≤ n → n ≤ 100 → ∀ g', MS Pn T g' nd gv (up1 fs p' n) wn (up1 fs p' n) 0 False False → g' (2 * T + 269) 0 = 0 → FM T g g' → P (.inl (some (iV (fs p')))) (S, g', u))
    (h1 : ¬ (0 ≤ p ∧ p < (Pn : Int)) → ∀ g', MS Pn T g' nd gv fs wn pr fi tm gm → g' (2 * T + 269) 0 = 1 → FM T g g' → P (.inl (some (iV 0))) (S, g', u)) (h2 : (0 ≤ p ∧ p < (Pn : Int)) → ¬ (0 ≤ n ∧ n ≤ 100) → ∀ g', MS Pn T g' nd gv fs wn pr fi tm gm → g' (2 * T + 269) 0 = 2 → FM T g g' → P (.inl (some (iV 0))) (S, g', u)) (hth : (th = 1 ∧ ¬ (0 ≤ p ∧ p < (Pn : Int))) ∨ ((0 ≤ p ∧ p < (Pn : Int)) ∧ ((th = 2 ∧ ¬ (0 ≤ n ∧ n ≤ 100)) ∨ (th = 0 ∧ 0 ≤ n ∧ n ≤ 100)))) : aw l E M_start (d + 1) 28 [some (rV (2 * T + 269)), some (iV p), some (iV n), none, none, none, none] [iV th, rV (2 * T + 269)] (S, g, u) P := by
  have hT8 := wx_T hW
  have hp6 := wx_P hW
  have e0 : (upA g (2 * T + 269) 0 th) (2 * T + 269) 0 = th := upA_eq _ _ _ _
  refine aw_pi M_start_28 (wx_o4 hW) ?_
  refine aw_al0 M_start_31 ?_
  refine aw_gi M_start_32 (wx_o4 hW) ?_
  rw [e0]
  refine aw_zle M_start_35 (fun h35 => ?_) (fun h35 => ?_)
  · skip
    obtain ⟨p', rfl⟩ := Int.eq_ofNat_of_zero_le (show 0 ≤ p by omega)
    refine aw_al0 M_start_40 ?_
    refine aw_gr (wx_r4_5 hW) M_start_41 (wx_o4 hW) ?_
    refine aw_il1 M_start_44 ?_
    refine aw_ia M_start_45 (wx_a_mstarts hW) (by first | rfl | assumption) (by omega) ?_
    refine aw_is3 M_start_46 ?_
    refine aw_al0 M_start_47 ?_
    refine aw_gr (wx_r4_5 hW) M_start_48 (wx_o4 hW) ?_
    refine aw_il1 M_start_51 ?_
    refine aw_il2 M_start_52 ?_
    refine aw_iast M_start_53 (wx_a_mstarts hW) (by first | rfl | assumption) (by omega) ?_
    refine aw_al0 M_start_54 ?_
    refine aw_V0 M_start_55 rfl rfl (wx_o4 hW) ?_
    refine c_M_begin hW ?_
    show aw _ _ _ _ _ _ _ _ _
    refine aw_al0 M_start_58 ?_
    refine aw_V0 M_start_59 rfl rfl (wx_o4 hW) ?_
    refine c_M_changed hW ?_
    show aw _ _ _ _ _ _ _ _ _
    refine aw_il3 M_start_62 ?_
    refine aw_reti M_start_63 (Or.inl rfl) ?_
    obtain ⟨s1, s2, s3, s4, s5, s6, s7⟩ := hS
    rw [upA_ne (by omega), s1.2.2.2 p' (by omega)]
    have q1 : ∀ x y, ¬ (x = 2 * T + 269 ∧ (y = 0 ∨ y = 8 ∨ y = 9 ∨ y = 15)) → x ≠ 2 * T + 272 → x ≠ 2 * T + 274 → (upA (upA (upA (bgk T (upA (upA g (2 * T + 269) 0 th) (2 * T + 272) p' n) 6) (2 * T + 269) 8 0) (2 * T + 269) 9 0) (2 * T + 269) 15 0) x y = g x y := fun x y z1 z2 z3 => by
      rw [upA_ne (by omega), upA_ne (by omega), upA_ne (by omega), show bgk T (upA (upA g (2 * T + 269) 0 th) (2 * T + 272) p' n) 6 x y = (upA (upA g (2 * T + 269) 0 th) (2 * T + 272) p' n) x y from if_neg (fun z => z3 z.1), upA_ne (by omega), upA_ne (by omega)]
    have q2 : ∀ r, r < Pn → (upA (upA g (2 * T + 269) 0 th) (2 * T + 272) p' n) (2 * T + 272) r = up1 fs p' n r := fun r hr => by
      unfold up1
      by_cases e : r = p'
      · rw [if_pos e, e, upA_eq]
      · rw [if_neg e, upA_ne (by omega), upA_ne (by omega)]; exact s1.2.2.2 r hr
    refine h0 p' rfl (by omega) (by omega) (by omega) _ ⟨⟨(q1 _ _ (by omega) (by omega) (by omega)).trans s1.1, (q1 _ _ (by omega) (by omega) (by omega)).trans s1.2.1, fun s hs r hr => ⟨(q1 _ _ (by omega) (by omega) (by omega)).trans (s1.2.2.1 s hs r hr).1, (q1 _ _ (by omega) (by omega) (by omega)).trans (s1.2.2.1 s hs r hr).2⟩, fun r hr => ?_⟩, fun r hr => ⟨(q1 _ _ (by omega) (by omega) (by omega)).trans (s2 r hr).1, ?_⟩, ?_, ?_, ?_, fun z => z.elim, fun z => z.elim⟩ ?_ (fun x y h => q1 _ _ (by omega) (by omega) (by omega))
    · rw [upA_ne (by omega), upA_ne (by omega), upA_ne (by omega)]
      exact (if_neg (by omega)).trans (q2 r hr)
    · rw [upA_ne (by omega), upA_ne (by omega), upA_ne (by omega)]
      exact (if_pos ⟨rfl, by omega⟩).trans (q2 r hr)
    · rw [upA_ne (by omega), upA_ne (by omega), upA_eq]; rfl
    · rw [upA_ne (by omega), upA_eq]; exact (cI_n id).symm
    · rw [upA_eq]; exact (cI_n id).symm
    · rw [upA_ne (by omega), upA_ne (by omega), upA_ne (by omega), show bgk T (upA (upA g (2 * T + 269) 0 th) (2 * T + 272) p' n) 6 (2 * T + 269) 0 = (upA (upA g (2 * T + 269) 0 th) (2 * T + 272) p' n) (2 * T + 269) 0 from if_neg (by omega), upA_ne (by omega), upA_eq]; omega
  · skip
    refine aw_c M_start_38 ?_
    refine aw_reti M_start_39 (Or.inl rfl) ?_
    rcases hth with ⟨rfl, hc⟩ | ⟨hc1, ⟨rfl, hc3⟩ | ⟨rfl, _⟩⟩
    · exact h1 hc _ (MS_th hS 1).1 (MS_th hS 1).2.1 (MS_th hS 1).2.2
    · exact h2 hc1 hc3 _ (MS_th hS 2).1 (MS_th hS 2).2.1 (MS_th hS 2).2.2
    · omega
theorem c_M_start {p n : Int} (hW : WX S Pn T) (hS : MS Pn T g nd gv fs wn pr fi tm gm) (h0 : ∀ p' : Nat, p = (p' : Int) → p' < Pn → 0 ≤ n → n ≤ 100 → ∀ g', MS Pn T g' nd gv (up1 fs p' n) wn (up1 fs p' n) 0 False False → g' (2 * T + 269) 0 = 0 → FM T g g' → P (.inl (some (iV (fs p')))) (S, g', u))
    (h1 : ¬ (0 ≤ p ∧ p < (Pn : Int)) → ∀ g', MS Pn T g' nd gv fs wn pr fi tm gm → g' (2 * T + 269) 0 = 1 → FM T g g' → P (.inl (some (iV 0))) (S, g', u)) (h2 : (0 ≤ p ∧ p < (Pn : Int)) → ¬ (0 ≤ n ∧ n ≤ 100) → ∀ g', MS Pn T g' nd gv fs wn pr fi tm gm → g' (2 * T + 269) 0 = 2 → FM T g g' → P (.inl (some (iV 0))) (S, g', u)) : Sp l E M_start (d + 1) [rV (2 * T + 269), iV p, iV n] (S, g, u) P := by
  show aw l E M_start (d + 1) 0 [some (rV (2 * T + 269)), some (iV p), some (iV n), none, none, none, none] [] (S, g, u) P
  refine aw_al0 M_start_0 ?_
  refine aw_al0 M_start_1 ?_
  refine aw_il1 M_start_2 ?_
  refine aw_V1 M_start_3 rfl rfl rfl (wx_o4 hW) ?_
  refine c_M_isPlace hW hS.1.1 ?_
  show aw _ _ _ _ _ _ _ _ _
  refine aw_zne M_start_6 (fun q6 => ?_) (fun q6 => ?_)
  · skip
    refine aw_il2 M_start_13 ?_
    refine aw_zlt M_start_14 (fun q14 => ?_) (fun q14 => ?_)
    · skip
      refine aw_c M_start_23 ?_
      refine aw_go M_start_24 ?_
      have z := nz q6
      exact c_M_start_28 hW hS h0 h1 h2 (by omega)
    · skip
      refine aw_il2 M_start_17 ?_
      refine aw_c M_start_18 ?_
      refine aw_cle M_start_20 (fun q20 => ?_) (fun q20 => ?_)
      · skip
        refine aw_c M_start_27 ?_
        have z := nz q6
        exact c_M_start_28 hW hS h0 h1 h2 (by omega)
      · skip
        refine aw_c M_start_23 ?_
        refine aw_go M_start_24 ?_
        have z := nz q6
        exact c_M_start_28 hW hS h0 h1 h2 (by omega)
  · skip
    refine aw_c M_start_9 ?_
    refine aw_go M_start_10 ?_
    have z := iz q6
    exact c_M_start_28 hW hS h0 h1 h2 (by omega)
theorem c_M_want_28 {p n th : Int} (hW : WX S Pn T) (hS : MS Pn T g nd gv fs wn pr fi tm gm) (h0 : ∀ p' : Nat, p = (p' : Int) → p' < Pn → 0 ≤ n → n ≤ 100 → ∀ g', MS Pn T g' nd gv fs (up1 wn p' n) pr fi tm False → g' (2 * T + 269) 0 = 0 → FM T g g' → P (.inl (some (iV (wn p')))) (S, g', u))
    (h1 : ¬ (0 ≤ p ∧ p < (Pn : Int)) → ∀ g', MS Pn T g' nd gv fs wn pr fi tm gm → g' (2 * T + 269) 0 = 1 → FM T g g' → P (.inl (some (iV 0))) (S, g', u)) (h2 : (0 ≤ p ∧ p < (Pn : Int)) → ¬ (0 ≤ n ∧ n ≤ 100) → ∀ g', MS Pn T g' nd gv fs wn pr fi tm gm → g' (2 * T + 269) 0 = 2 → FM T g g' → P (.inl (some (iV 0))) (S, g', u)) (hth : (th = 1 ∧ ¬ (0 ≤ p ∧ p < (Pn : Int))) ∨ ((0 ≤ p ∧ p < (Pn : Int)) ∧ ((th = 2 ∧ ¬ (0 ≤ n ∧ n ≤ 100)) ∨ (th = 0 ∧ 0 ≤ n ∧ n ≤ 100)))) : aw l E M_want (d + 1) 28 [some (rV (2 * T + 269)), some (iV p), some (iV n), none, none, none, none] [iV th, rV (2 * T + 269)] (S, g, u) P := by
  have hT8 := wx_T hW
  have hp6 := wx_P hW
  have e0 : (upA g (2 * T + 269) 0 th) (2 * T + 269) 0 = th := upA_eq _ _ _ _
  refine aw_pi M_want_28 (wx_o4 hW) ?_
  refine aw_al0 M_want_31 ?_
  refine aw_gi M_want_32 (wx_o4 hW) ?_
  rw [e0]
  refine aw_zle M_want_35 (fun h35 => ?_) (fun h35 => ?_)
  · skip
    obtain ⟨p', rfl⟩ := Int.eq_ofNat_of_zero_le (show 0 ≤ p by omega)
    refine aw_al0 M_want_40 ?_
    refine aw_gr (wx_r4_6 hW) M_want_41 (wx_o4 hW) ?_
    refine aw_il1 M_want_44 ?_
    refine aw_ia M_want_45 (wx_a_mwanted hW) (by first | rfl | assumption) (by omega) ?_
    refine aw_is3 M_want_46 ?_
    refine aw_al0 M_want_47 ?_
    refine aw_gr (wx_r4_6 hW) M_want_48 (wx_o4 hW) ?_
    refine aw_il1 M_want_51 ?_
    refine aw_il2 M_want_52 ?_
    refine aw_iast M_want_53 (wx_a_mwanted hW) (by first | rfl | assumption) (by omega) ?_
    refine aw_al0 M_want_54 ?_
    refine aw_c M_want_55 ?_
    refine aw_pz M_want_56 (wx_o4 hW) (by first | exact Or.inl rfl | exact Or.inr rfl | assumption) ?_
    refine aw_il3 M_want_59 ?_
    refine aw_reti M_want_60 (Or.inl rfl) ?_
    obtain ⟨s1, s2, s3, s4, s5, s6, s7⟩ := hS
    rw [upA_ne (by omega), (s2 p' (by omega)).1]
    have q1 : ∀ x y, ¬ (x = 2 * T + 269 ∧ (y = 0 ∨ y = 15)) → x ≠ 2 * T + 273 → (upA (upA (upA g (2 * T + 269) 0 th) (2 * T + 273) p' n) (2 * T + 269) 15 0) x y = g x y := fun x y z1 z2 => by
      rw [upA_ne (by omega), upA_ne (by omega), upA_ne (by omega)]
    refine h0 p' rfl (by omega) (by omega) (by omega) _ ⟨NM_fr s1 (fun x y z => q1 x y (by omega) (by omega)), fun r hr => ⟨?_, (q1 _ _ (by omega) (by omega)).trans (s2 r hr).2⟩, (q1 _ _ (by omega) (by omega)).trans s3, (q1 _ _ (by omega) (by omega)).trans s4, ?_, fun z => ⟨(s6 z).1, RM_fr (s6 z).2.1 (fun x y z => q1 x y (by omega) (by omega)), fun n hn => (q1 _ _ (by omega) (by omega)).trans ((s6 z).2.2 n hn)⟩, fun z => z.elim⟩ ?_ (fun x y h => q1 _ _ (by omega) (by omega))
    · rw [upA_ne (by omega)]
      unfold up1
      by_cases e : r = p'
      · rw [if_pos e, e, upA_eq]
      · rw [if_neg e, upA_ne (by omega), upA_ne (by omega)]; exact (s2 r hr).1
    · rw [upA_eq]; exact (cI_n id).symm
    · rw [upA_ne (by omega), upA_ne (by omega), upA_eq]; omega
  · skip
    refine aw_c M_want_38 ?_
    refine aw_reti M_want_39 (Or.inl rfl) ?_
    rcases hth with ⟨rfl, hc⟩ | ⟨hc1, ⟨rfl, hc3⟩ | ⟨rfl, _⟩⟩
    · exact h1 hc _ (MS_th hS 1).1 (MS_th hS 1).2.1 (MS_th hS 1).2.2
    · exact h2 hc1 hc3 _ (MS_th hS 2).1 (MS_th hS 2).2.1 (MS_th hS 2).2.2
    · omega
theorem c_M_want {p n : Int} (hW : WX S Pn T) (hS : MS Pn T g nd gv fs wn pr fi tm gm) (h0 : ∀ p' : Nat, p = (p' : Int) → p' < Pn → 0 ≤ n → n ≤ 100 → ∀ g', MS Pn T g' nd gv fs (up1 wn p' n) pr fi tm False → g' (2 * T + 269) 0 = 0 → FM T g g' → P (.inl (some (iV (wn p')))) (S, g', u))
    (h1 : ¬ (0 ≤ p ∧ p < (Pn : Int)) → ∀ g', MS Pn T g' nd gv fs wn pr fi tm gm → g' (2 * T + 269) 0 = 1 → FM T g g' → P (.inl (some (iV 0))) (S, g', u)) (h2 : (0 ≤ p ∧ p < (Pn : Int)) → ¬ (0 ≤ n ∧ n ≤ 100) → ∀ g', MS Pn T g' nd gv fs wn pr fi tm gm → g' (2 * T + 269) 0 = 2 → FM T g g' → P (.inl (some (iV 0))) (S, g', u)) : Sp l E M_want (d + 1) [rV (2 * T + 269), iV p, iV n] (S, g, u) P := by
  show aw l E M_want (d + 1) 0 [some (rV (2 * T + 269)), some (iV p), some (iV n), none, none, none, none] [] (S, g, u) P
  refine aw_al0 M_want_0 ?_
  refine aw_al0 M_want_1 ?_
  refine aw_il1 M_want_2 ?_
  refine aw_V1 M_want_3 rfl rfl rfl (wx_o4 hW) ?_
  refine c_M_isPlace hW hS.1.1 ?_
  show aw _ _ _ _ _ _ _ _ _
  refine aw_zne M_want_6 (fun q6 => ?_) (fun q6 => ?_)
  · skip
    refine aw_il2 M_want_13 ?_
    refine aw_zlt M_want_14 (fun q14 => ?_) (fun q14 => ?_)
    · skip
      refine aw_c M_want_23 ?_
      refine aw_go M_want_24 ?_
      have z := nz q6
      exact c_M_want_28 hW hS h0 h1 h2 (by omega)
    · skip
      refine aw_il2 M_want_17 ?_
      refine aw_c M_want_18 ?_
      refine aw_cle M_want_20 (fun q20 => ?_) (fun q20 => ?_)
      · skip
        refine aw_c M_want_27 ?_
        have z := nz q6
        exact c_M_want_28 hW hS h0 h1 h2 (by omega)
      · skip
        refine aw_c M_want_23 ?_
        refine aw_go M_want_24 ?_
        have z := nz q6
        exact c_M_want_28 hW hS h0 h1 h2 (by omega)
  · skip
    refine aw_c M_want_9 ?_
    refine aw_go M_want_10 ?_
    have z := iz q6
    exact c_M_want_28 hW hS h0 h1 h2 (by omega)
end NA
