section NC
variable {l : Launch} {E : aE} {d : Nat} {S : aS} {g : aG} {u : aU} {P : aP} {Pn T : Nat} {nd gv : Nat → Nat → Int} {fs wn pr : Nat → Int} {fi : Nat} {tm gm : Prop}
def rwN (T : Nat) (g : aG) (t : Nat) : Nat → Int := fun p => g (2 * T + 270) (6 * t + p)
def rwQ (T : Nat) (g : aG) (n : Nat) : Nat → Int := fun p => g (2 * T + 279) (6 * n + p)
theorem c_M_isBelow_lp {a b : Nat} (hW : WX S Pn T) (h1 : g (2 * T + 269) 1 = (Pn : Int)) (ha : a ≤ 200) (hb : b ≤ 200) (hP : P (.inl (some (iV (tf (bl Pn (rwM T g a) (rwM T g b)))))) (S, g, u)) : ∀ (m p : Nat), Pn - p < m → p ≤ Pn → aw l E M_isBelow d 5 [some (rV (2 * T + 269)), some (iV (a : Int)), some (iV (b : Int)), some (iV (tf (bl p (rwM T g a) (rwM T g b)))), some (iV (p : Int)), none, none] [] (S, g, u) P := by
  intro m
  have hp6 := wx_P hW
  have hT8 := wx_T hW
  induction m with
  | zero => intro p h; omega
  | succ m ih =>
    intro p hm hp
    refine aw_il4 M_isBelow_5 ?_
    refine aw_al0 M_isBelow_7 ?_
    refine aw_gi M_isBelow_8 (wx_o4 hW) ?_
    refine aw_cge M_isBelow_11 (fun h11 => ?_) (fun h11 => ?_)
    · skip
      refine aw_il3 M_isBelow_57 ?_
      refine aw_reti M_isBelow_58 (Or.inr ⟨rfl, (tf01 _)⟩) ?_
      have e : p = Pn := by omega
      subst e
      exact hP
    · skip
      refine aw_il3 M_isBelow_14 ?_
      refine aw_zeq M_isBelow_15 (fun h15 => ?_) (fun h15 => ?_)
      · skip
        refine aw_c M_isBelow_49 ?_
        refine aw_is3 M_isBelow_50 ?_
        refine aw_ip4 M_isBelow_51 (by omega) ?_
        refine aw_go M_isBelow_54 ?_
        have hk := ih (p + 1) (by omega) (by omega)
        rw [show tf (bl (p + 1) (rwM T g a) (rwM T g b)) = 0 from cI_n (fun z => iz h15 (fun r hr => z r (by omega)))] at hk
        exact hk
      · skip
        refine aw_al0 M_isBelow_18 ?_
        refine aw_gr (wx_r4_11 hW) M_isBelow_19 (wx_o4 hW) ?_
        refine aw_c M_isBelow_22 ?_
        refine aw_il1 M_isBelow_24 ?_
        refine aw_mul M_isBelow_25 (by constructor <;> omega) ?_
        refine aw_il4 M_isBelow_26 ?_
        refine aw_add M_isBelow_28 (by constructor <;> omega) ?_
        refine aw_ia M_isBelow_29 (wx_a_mmarks hW) (show 6 * (a : Int) + (p : Int) = ((6 * a + p : Nat) : Int) by omega) (by omega) ?_
        refine aw_al0 M_isBelow_30 ?_
        refine aw_gr (wx_r4_11 hW) M_isBelow_31 (wx_o4 hW) ?_
        refine aw_c M_isBelow_34 ?_
        refine aw_il2 M_isBelow_36 ?_
        refine aw_mul M_isBelow_37 (by constructor <;> omega) ?_
        refine aw_il4 M_isBelow_38 ?_
        refine aw_add M_isBelow_40 (by constructor <;> omega) ?_
        refine aw_ia M_isBelow_41 (wx_a_mmarks hW) (show 6 * (b : Int) + (p : Int) = ((6 * b + p : Nat) : Int) by omega) (by omega) ?_
        refine aw_cgt M_isBelow_42 (fun h42 => ?_) (fun h42 => ?_)
        · skip
          refine aw_c M_isBelow_49 ?_
          refine aw_is3 M_isBelow_50 ?_
          refine aw_ip4 M_isBelow_51 (by omega) ?_
          refine aw_go M_isBelow_54 ?_
          have hk := ih (p + 1) (by omega) (by omega)
          rw [show tf (bl (p + 1) (rwM T g a) (rwM T g b)) = 0 from cI_n (fun z => by
            have z9 : (rwM T g a) p ≤ (rwM T g b) p := z p (by omega)
            have h9 : (rwM T g b) p < (rwM T g a) p := h42
            omega)] at hk
          exact hk
        · skip
          refine aw_c M_isBelow_45 ?_
          refine aw_go M_isBelow_46 ?_
          refine aw_is3 M_isBelow_50 ?_
          refine aw_ip4 M_isBelow_51 (by omega) ?_
          refine aw_go M_isBelow_54 ?_
          have hk := ih (p + 1) (by omega) (by omega)
          rw [show tf (bl (p + 1) (rwM T g a) (rwM T g b)) = 1 from cI_p (fun r hr => by
            by_cases e : r = p
            · subst e; exact h42
            · exact nz h15 r (by omega))] at hk
          exact hk
theorem c_M_isBelow {a b : Nat} (hW : WX S Pn T) (h1 : g (2 * T + 269) 1 = (Pn : Int)) (ha : a ≤ 200) (hb : b ≤ 200) (hP : P (.inl (some (iV (tf (bl Pn (rwM T g a) (rwM T g b)))))) (S, g, u)) : Sp l E M_isBelow d [rV (2 * T + 269), iV (a : Int), iV (b : Int)] (S, g, u) P := by
  show aw l E M_isBelow d 0 [some (rV (2 * T + 269)), some (iV (a : Int)), some (iV (b : Int)), none, none, none, none] [] (S, g, u) P
  refine aw_c M_isBelow_0 ?_
  refine aw_is3 M_isBelow_1 ?_
  refine aw_c M_isBelow_2 ?_
  refine aw_is4 M_isBelow_3 ?_
  have hk := c_M_isBelow_lp (l := l) (E := E) (d := d) (u := u) hW h1 ha hb hP (Pn + 1) 0 (by omega) (by omega)
  rw [show tf (bl 0 (rwM T g a) (rwM T g b)) = 1 from cI_p (fun r hr => absurd hr (Nat.not_lt_zero r))] at hk
  exact hk
theorem c_M_isEnabled_lp {a b : Nat} (hW : WX S Pn T) (h1 : g (2 * T + 269) 1 = (Pn : Int)) (ha : a ≤ 200) (hb : b < T) (hP : P (.inl (some (iV (tf (bl Pn (rwN T g b) (rwM T g a)))))) (S, g, u)) : ∀ (m p : Nat), Pn - p < m → p ≤ Pn → aw l E M_isEnabled d 5 [some (rV (2 * T + 269)), some (iV (a : Int)), some (iV (b : Int)), some (iV (tf (bl p (rwN T g b) (rwM T g a)))), some (iV (p : Int)), none, none] [] (S, g, u) P := by
  intro m
  have hp6 := wx_P hW
  have hT8 := wx_T hW
  induction m with
  | zero => intro p h; omega
  | succ m ih =>
    intro p hm hp
    refine aw_il4 M_isEnabled_5 ?_
    refine aw_al0 M_isEnabled_7 ?_
    refine aw_gi M_isEnabled_8 (wx_o4 hW) ?_
    refine aw_cge M_isEnabled_11 (fun h11 => ?_) (fun h11 => ?_)
    · skip
      refine aw_il3 M_isEnabled_57 ?_
      refine aw_reti M_isEnabled_58 (Or.inr ⟨rfl, (tf01 _)⟩) ?_
      have e : p = Pn := by omega
      subst e
      exact hP
    · skip
      refine aw_il3 M_isEnabled_14 ?_
      refine aw_zeq M_isEnabled_15 (fun h15 => ?_) (fun h15 => ?_)
      · skip
        refine aw_c M_isEnabled_49 ?_
        refine aw_is3 M_isEnabled_50 ?_
        refine aw_ip4 M_isEnabled_51 (by omega) ?_
        refine aw_go M_isEnabled_54 ?_
        have hk := ih (p + 1) (by omega) (by omega)
        rw [show tf (bl (p + 1) (rwN T g b) (rwM T g a)) = 0 from cI_n (fun z => iz h15 (fun r hr => z r (by omega)))] at hk
        exact hk
      · skip
        refine aw_al0 M_isEnabled_18 ?_
        refine aw_gr (wx_r4_11 hW) M_isEnabled_19 (wx_o4 hW) ?_
        refine aw_c M_isEnabled_22 ?_
        refine aw_il1 M_isEnabled_24 ?_
        refine aw_mul M_isEnabled_25 (by constructor <;> omega) ?_
        refine aw_il4 M_isEnabled_26 ?_
        refine aw_add M_isEnabled_28 (by constructor <;> omega) ?_
        refine aw_ia M_isEnabled_29 (wx_a_mmarks hW) (show 6 * (a : Int) + (p : Int) = ((6 * a + p : Nat) : Int) by omega) (by omega) ?_
        refine aw_al0 M_isEnabled_30 ?_
        refine aw_gr (wx_r4_3 hW) M_isEnabled_31 (wx_o4 hW) ?_
        refine aw_c M_isEnabled_34 ?_
        refine aw_il2 M_isEnabled_36 ?_
        refine aw_mul M_isEnabled_37 (by constructor <;> omega) ?_
        refine aw_il4 M_isEnabled_38 ?_
        refine aw_add M_isEnabled_40 (by constructor <;> omega) ?_
        refine aw_ia M_isEnabled_41 (wx_a_mneeds hW) (show 6 * (b : Int) + (p : Int) = ((6 * b + p : Nat) : Int) by omega) (by omega) ?_
        refine aw_clt M_isEnabled_42 (fun h42 => ?_) (fun h42 => ?_)
        · skip
          refine aw_c M_isEnabled_49 ?_
          refine aw_is3 M_isEnabled_50 ?_
          refine aw_ip4 M_isEnabled_51 (by omega) ?_
          refine aw_go M_isEnabled_54 ?_
          have hk := ih (p + 1) (by omega) (by omega)
          rw [show tf (bl (p + 1) (rwN T g b) (rwM T g a)) = 0 from cI_n (fun z => by
            have z9 : (rwN T g b) p ≤ (rwM T g a) p := z p (by omega)
            have h9 : (rwM T g a) p < (rwN T g b) p := h42
            omega)] at hk
          exact hk
        · skip
          refine aw_c M_isEnabled_45 ?_
          refine aw_go M_isEnabled_46 ?_
          refine aw_is3 M_isEnabled_50 ?_
          refine aw_ip4 M_isEnabled_51 (by omega) ?_
          refine aw_go M_isEnabled_54 ?_
          have hk := ih (p + 1) (by omega) (by omega)
          rw [show tf (bl (p + 1) (rwN T g b) (rwM T g a)) = 1 from cI_p (fun r hr => by
            by_cases e : r = p
            · subst e; exact h42
            · exact nz h15 r (by omega))] at hk
          exact hk
theorem c_M_isEnabled {a b : Nat} (hW : WX S Pn T) (h1 : g (2 * T + 269) 1 = (Pn : Int)) (ha : a ≤ 200) (hb : b < T) (hP : P (.inl (some (iV (tf (bl Pn (rwN T g b) (rwM T g a)))))) (S, g, u)) : Sp l E M_isEnabled d [rV (2 * T + 269), iV (a : Int), iV (b : Int)] (S, g, u) P := by
  show aw l E M_isEnabled d 0 [some (rV (2 * T + 269)), some (iV (a : Int)), some (iV (b : Int)), none, none, none, none] [] (S, g, u) P
  refine aw_c M_isEnabled_0 ?_
  refine aw_is3 M_isEnabled_1 ?_
  refine aw_c M_isEnabled_2 ?_
  refine aw_is4 M_isEnabled_3 ?_
  have hk := c_M_isEnabled_lp (l := l) (E := E) (d := d) (u := u) hW h1 ha hb hP (Pn + 1) 0 (by omega) (by omega)
  rw [show tf (bl 0 (rwN T g b) (rwM T g a)) = 1 from cI_p (fun r hr => absurd hr (Nat.not_lt_zero r))] at hk
  exact hk
theorem c_M_isGoalBelow_lp {a b : Nat} (hW : WX S Pn T) (h1 : g (2 * T + 269) 1 = (Pn : Int)) (ha : a ≤ 48) (hb : b ≤ 48) (hP : P (.inl (some (iV (tf (bl Pn (rwQ T g a) (rwQ T g b)))))) (S, g, u)) : ∀ (m p : Nat), Pn - p < m → p ≤ Pn → aw l E M_isGoalBelow d 5 [some (rV (2 * T + 269)), some (iV (a : Int)), some (iV (b : Int)), some (iV (tf (bl p (rwQ T g a) (rwQ T g b)))), some (iV (p : Int)), none, none] [] (S, g, u) P := by
  intro m
  have hp6 := wx_P hW
  have hT8 := wx_T hW
  induction m with
  | zero => intro p h; omega
  | succ m ih =>
    intro p hm hp
    refine aw_il4 M_isGoalBelow_5 ?_
    refine aw_al0 M_isGoalBelow_7 ?_
    refine aw_gi M_isGoalBelow_8 (wx_o4 hW) ?_
    refine aw_cge M_isGoalBelow_11 (fun h11 => ?_) (fun h11 => ?_)
    · skip
      refine aw_il3 M_isGoalBelow_57 ?_
      refine aw_reti M_isGoalBelow_58 (Or.inr ⟨rfl, (tf01 _)⟩) ?_
      have e : p = Pn := by omega
      subst e
      exact hP
    · skip
      refine aw_il3 M_isGoalBelow_14 ?_
      refine aw_zeq M_isGoalBelow_15 (fun h15 => ?_) (fun h15 => ?_)
      · skip
        refine aw_c M_isGoalBelow_49 ?_
        refine aw_is3 M_isGoalBelow_50 ?_
        refine aw_ip4 M_isGoalBelow_51 (by omega) ?_
        refine aw_go M_isGoalBelow_54 ?_
        have hk := ih (p + 1) (by omega) (by omega)
        rw [show tf (bl (p + 1) (rwQ T g a) (rwQ T g b)) = 0 from cI_n (fun z => iz h15 (fun r hr => z r (by omega)))] at hk
        exact hk
      · skip
        refine aw_al0 M_isGoalBelow_18 ?_
        refine aw_gr (wx_r4_17 hW) M_isGoalBelow_19 (wx_o4 hW) ?_
        refine aw_c M_isGoalBelow_22 ?_
        refine aw_il1 M_isGoalBelow_24 ?_
        refine aw_mul M_isGoalBelow_25 (by constructor <;> omega) ?_
        refine aw_il4 M_isGoalBelow_26 ?_
        refine aw_add M_isGoalBelow_28 (by constructor <;> omega) ?_
        refine aw_ia M_isGoalBelow_29 (wx_a_mgoalMarks hW) (show 6 * (a : Int) + (p : Int) = ((6 * a + p : Nat) : Int) by omega) (by omega) ?_
        refine aw_al0 M_isGoalBelow_30 ?_
        refine aw_gr (wx_r4_17 hW) M_isGoalBelow_31 (wx_o4 hW) ?_
        refine aw_c M_isGoalBelow_34 ?_
        refine aw_il2 M_isGoalBelow_36 ?_
        refine aw_mul M_isGoalBelow_37 (by constructor <;> omega) ?_
        refine aw_il4 M_isGoalBelow_38 ?_
        refine aw_add M_isGoalBelow_40 (by constructor <;> omega) ?_
        refine aw_ia M_isGoalBelow_41 (wx_a_mgoalMarks hW) (show 6 * (b : Int) + (p : Int) = ((6 * b + p : Nat) : Int) by omega) (by omega) ?_
        refine aw_cgt M_isGoalBelow_42 (fun h42 => ?_) (fun h42 => ?_)
        · skip
          refine aw_c M_isGoalBelow_49 ?_
          refine aw_is3 M_isGoalBelow_50 ?_
          refine aw_ip4 M_isGoalBelow_51 (by omega) ?_
          refine aw_go M_isGoalBelow_54 ?_
          have hk := ih (p + 1) (by omega) (by omega)
          rw [show tf (bl (p + 1) (rwQ T g a) (rwQ T g b)) = 0 from cI_n (fun z => by
            have z9 : (rwQ T g a) p ≤ (rwQ T g b) p := z p (by omega)
            have h9 : (rwQ T g b) p < (rwQ T g a) p := h42
            omega)] at hk
          exact hk
        · skip
          refine aw_c M_isGoalBelow_45 ?_
          refine aw_go M_isGoalBelow_46 ?_
          refine aw_is3 M_isGoalBelow_50 ?_
          refine aw_ip4 M_isGoalBelow_51 (by omega) ?_
          refine aw_go M_isGoalBelow_54 ?_
          have hk := ih (p + 1) (by omega) (by omega)
          rw [show tf (bl (p + 1) (rwQ T g a) (rwQ T g b)) = 1 from cI_p (fun r hr => by
            by_cases e : r = p
            · subst e; exact h42
            · exact nz h15 r (by omega))] at hk
          exact hk
theorem c_M_isGoalBelow {a b : Nat} (hW : WX S Pn T) (h1 : g (2 * T + 269) 1 = (Pn : Int)) (ha : a ≤ 48) (hb : b ≤ 48) (hP : P (.inl (some (iV (tf (bl Pn (rwQ T g a) (rwQ T g b)))))) (S, g, u)) : Sp l E M_isGoalBelow d [rV (2 * T + 269), iV (a : Int), iV (b : Int)] (S, g, u) P := by
  show aw l E M_isGoalBelow d 0 [some (rV (2 * T + 269)), some (iV (a : Int)), some (iV (b : Int)), none, none, none, none] [] (S, g, u) P
  refine aw_c M_isGoalBelow_0 ?_
  refine aw_is3 M_isGoalBelow_1 ?_
  refine aw_c M_isGoalBelow_2 ?_
  refine aw_is4 M_isGoalBelow_3 ?_
  have hk := c_M_isGoalBelow_lp (l := l) (E := E) (d := d) (u := u) hW h1 ha hb hP (Pn + 1) 0 (by omega) (by omega)
  rw [show tf (bl 0 (rwQ T g a) (rwQ T g b)) = 1 from cI_p (fun r hr => absurd hr (Nat.not_lt_zero r))] at hk
  exact hk
theorem c_M_isSame {a b : Nat} (hW : WX S Pn T) (h1 : g (2 * T + 269) 1 = (Pn : Int)) (ha : a ≤ 200) (hb : b ≤ 200) (hP : P (.inl (some (iV (tf (bl Pn (rwM T g a) (rwM T g b) ∧ bl Pn (rwM T g b) (rwM T g a)))))) (S, g, u)) : Sp l E M_isSame (d + 1) [rV (2 * T + 269), iV (a : Int), iV (b : Int)] (S, g, u) P := by
  show aw l E M_isSame (d + 1) 0 [some (rV (2 * T + 269)), some (iV (a : Int)), some (iV (b : Int)), none, none, none, none] [] (S, g, u) P
  refine aw_al0 M_isSame_0 ?_
  refine aw_il1 M_isSame_1 ?_
  refine aw_il2 M_isSame_2 ?_
  refine aw_V2 M_isSame_3 rfl rfl rfl rfl (wx_o4 hW) ?_
  refine c_M_isBelow hW h1 ha hb ?_
  show aw _ _ _ _ _ _ _ _ _
  refine aw_zeq M_isSame_6 (fun h6 => ?_) (fun h6 => ?_)
  · skip
    refine aw_c M_isSame_22 ?_
    refine aw_reti M_isSame_23 (Or.inr ⟨rfl, (by first | exact Or.inl rfl | exact Or.inr rfl | assumption)⟩) ?_
    exact pF (fun z => iz h6 z.1) hP
  · skip
    refine aw_al0 M_isSame_9 ?_
    refine aw_il2 M_isSame_10 ?_
    refine aw_il1 M_isSame_11 ?_
    refine aw_V2 M_isSame_12 rfl rfl rfl rfl (wx_o4 hW) ?_
    refine c_M_isBelow hW h1 hb ha ?_
    show aw _ _ _ _ _ _ _ _ _
    refine aw_zeq M_isSame_15 (fun h15 => ?_) (fun h15 => ?_)
    · skip
      refine aw_c M_isSame_22 ?_
      refine aw_reti M_isSame_23 (Or.inr ⟨rfl, (by first | exact Or.inl rfl | exact Or.inr rfl | assumption)⟩) ?_
      exact pF (fun z => iz h15 z.2) hP
    · skip
      refine aw_c M_isSame_18 ?_
      refine aw_go M_isSame_19 ?_
      refine aw_reti M_isSame_23 (Or.inr ⟨rfl, (by first | exact Or.inl rfl | exact Or.inr rfl | assumption)⟩) ?_
      exact pT ⟨nz h6, nz h15⟩ hP
theorem c_M_isLeaf_1 {x1 : Option aA} {x : Int} (hP : P (.inl (some (iV 1))) (S, g, u)) : aw l E M_isLeaf (d + 2) 9 [some (rV (2 * T + 269)), x1, some (iV 1), some (iV x), none, none, none] [] (S, g, u) P := by
  refine aw_il3 M_isLeaf_9 ?_
  refine aw_zlt M_isLeaf_10 (fun h10 => ?_) (fun h10 => ?_)
  · skip
    refine aw_il2 M_isLeaf_34 ?_
    refine aw_reti M_isLeaf_35 (Or.inr ⟨rfl, (by first | exact Or.inl rfl | exact Or.inr rfl | assumption)⟩) ?_
    exact hP
  · skip
    refine aw_il2 M_isLeaf_13 ?_
    refine aw_zne M_isLeaf_14 (fun h14 => ?_) (fun h14 => ?_)
    · skip
      refine aw_il2 M_isLeaf_34 ?_
      refine aw_reti M_isLeaf_35 (Or.inr ⟨rfl, (by first | exact Or.inl rfl | exact Or.inr rfl | assumption)⟩) ?_
      exact hP
    · skip
      omega
theorem c_M_isLeaf_lp {n : Nat} {τ : Tz} {zz : Int} (hW : WX S Pn T) (h1 : g (2 * T + 269) 1 = (Pn : Int)) (hw : WT Pn τ) (hR : RMz Pn T g τ zz) (hn : n < τ.1) (hP : P (.inl (some (iV (tf (repT Pn τ n))))) (S, g, u)) : ∀ (r a : Nat) (x : Int), (0 < r → x = (a : Int) ∧ a < τ.1 ∧ τ.2.2.2.2.1 a + 1 = r) → (r = 0 → x < 0) → (repT Pn τ n ↔ rpT Pn τ.2.1 τ.2.2.1 r a (τ.2.1 n)) → aw l E M_isLeaf (d + 2) 9 [some (rV (2 * T + 269)), some (iV (n : Int)), some (iV 0), some (iV x), none, none, none] [] (S, g, u) P := by
  intro r
  have hp6 := wx_P hW
  have ht2 := hw.2.1
  induction r with
  | zero =>
    intro a x hx h0 hi
    have hx0 := h0 rfl
    refine aw_il3 M_isLeaf_9 ?_
    refine aw_zlt M_isLeaf_10 (fun h10 => ?_) (fun h10 => ?_)
    · skip
      refine aw_il2 M_isLeaf_34 ?_
      refine aw_reti M_isLeaf_35 (Or.inr ⟨rfl, (by first | exact Or.inl rfl | exact Or.inr rfl | assumption)⟩) ?_
      rw [show tf (repT Pn τ n) = 0 from cI_n (fun z => hi.mp z)] at hP
      exact hP
    · skip
      omega
  | succ r ih =>
    intro a x hx h0 hi
    obtain ⟨rfl, ha, hda⟩ := hx (by omega)
    have hsm : (bl Pn (rwM T g a) (rwM T g n) ∧ bl Pn (rwM T g n) (rwM T g a)) ↔ (bl Pn (τ.2.1 a) (τ.2.1 n) ∧ bl Pn (τ.2.1 n) (τ.2.1 a)) := and_congr (blC (hR.1 a ha) (hR.1 n hn)) (blC (hR.1 n hn) (hR.1 a ha))
    refine aw_il3 M_isLeaf_9 ?_
    refine aw_zlt M_isLeaf_10 (fun h10 => ?_) (fun h10 => ?_)
    · skip
      omega
    · skip
      refine aw_il2 M_isLeaf_13 ?_
      refine aw_zne M_isLeaf_14 (fun h14 => ?_) (fun h14 => ?_)
      · skip
        exact absurd rfl h14
      · skip
        refine aw_al0 M_isLeaf_17 ?_
        refine aw_il3 M_isLeaf_18 ?_
        refine aw_il1 M_isLeaf_19 ?_
        refine aw_V2 M_isLeaf_20 rfl rfl rfl rfl (wx_o4 hW) ?_
        refine c_M_isSame (d := d) hW h1 (by omega) (by omega) ?_
        show aw _ _ _ _ _ _ _ _ _
        refine aw_is2 M_isLeaf_23 ?_
        refine aw_al0 M_isLeaf_24 ?_
        refine aw_gr (wx_r4_12 hW) M_isLeaf_25 (wx_o4 hW) ?_
        refine aw_il3 M_isLeaf_28 ?_
        refine aw_ia M_isLeaf_29 (wx_a_mparents hW) (by first | rfl | assumption) (by omega) ?_
        refine aw_is3 M_isLeaf_30 ?_
        refine aw_go M_isLeaf_31 ?_
        by_cases hs : bl Pn (rwM T g a) (rwM T g n) ∧ bl Pn (rwM T g n) (rwM T g a)
        · rw [show tf (bl Pn (rwM T g a) (rwM T g n) ∧ bl Pn (rwM T g n) (rwM T g a)) = 1 from cI_p hs]
          rw [show tf (repT Pn τ n) = 1 from cI_p (hi.mpr (Or.inl (hsm.mp hs)))] at hP
          exact c_M_isLeaf_1 hP
        · rw [show tf (bl Pn (rwM T g a) (rwM T g n) ∧ bl Pn (rwM T g n) (rwM T g a)) = 0 from cI_n hs]
          refine ih (τ.2.2.1 a) _ (fun hr => ?_) (fun hr => ?_) ?_
          · have ha0 : 0 < a := by
              rcases Nat.eq_zero_or_pos a with z | z
              · rw [z, hw.2.2.1] at hda; omega
              · exact z
            obtain ⟨z1, z2⟩ := hw.2.2.2.1 a ha0 ha
            exact ⟨(hR.2.2.2.1 a ha0 ha).1, by omega, by omega⟩
          · have ha0 : a = 0 := WT_0 hw ha (by omega)
            rw [ha0, hR.2.1]; omega
          · rw [hi]
            exact ⟨fun z => z.elim (fun f => absurd (hsm.mpr f) hs) id, Or.inr⟩
theorem c_M_isLeaf {n : Nat} {τ : Tz} {zz : Int} (hW : WX S Pn T) (h1 : g (2 * T + 269) 1 = (Pn : Int)) (hw : WT Pn τ) (hR : RMz Pn T g τ zz) (hn : n < τ.1) (hP : P (.inl (some (iV (tf (repT Pn τ n))))) (S, g, u)) : Sp l E M_isLeaf (d + 2) [rV (2 * T + 269), iV (n : Int)] (S, g, u) P := by
  have ht2 := hw.2.1
  show aw l E M_isLeaf (d + 2) 0 [some (rV (2 * T + 269)), some (iV (n : Int)), none, none, none, none, none] [] (S, g, u) P
  refine aw_c M_isLeaf_0 ?_
  refine aw_is2 M_isLeaf_1 ?_
  refine aw_al0 M_isLeaf_2 ?_
  refine aw_gr (wx_r4_12 hW) M_isLeaf_3 (wx_o4 hW) ?_
  refine aw_il1 M_isLeaf_6 ?_
  refine aw_ia M_isLeaf_7 (wx_a_mparents hW) (by first | rfl | assumption) (by omega) ?_
  refine aw_is3 M_isLeaf_8 ?_
  refine c_M_isLeaf_lp hW h1 hw hR hn hP (τ.2.2.2.2.1 n) (τ.2.2.1 n) _ (fun hr => ?_) (fun hr => ?_) Iff.rfl
  · have hn0 : 0 < n := by
      rcases Nat.eq_zero_or_pos n with z | z
      · rw [z, hw.2.2.1] at hr; omega
      · exact z
    obtain ⟨z1, z2⟩ := hw.2.2.2.1 n hn0 hn
    exact ⟨(hR.2.2.2.1 n hn0 hn).1, by omega, by omega⟩
  · have hn0 : n = 0 := WT_0 hw hn hr
    rw [hn0, hR.2.1]; omega
/-- row v of the reference's markings is h -/
def rmG (Pn T : Nat) (g : aG) (v : Nat) (h : Nat → Int) : aG := fun a b => if a = 2 * T + 275 ∧ 6 * v ≤ b ∧ b < 6 * v + Pn then h (b - 6 * v) else g a b
theorem rmG_at {g : aG} {v p : Nat} {h : Nat → Int} (hp : p < Pn) : rmG Pn T g v h (2 * T + 275) (6 * v + p) = h p := by
  rw [show rmG Pn T g v h (2 * T + 275) (6 * v + p) = h (6 * v + p - 6 * v) from if_pos ⟨rfl, by omega, by omega⟩, show 6 * v + p - 6 * v = p by omega]
theorem rmG_ne {g : aG} {v a b : Nat} {h : Nat → Int} (hn : ¬ (a = 2 * T + 275 ∧ 6 * v ≤ b ∧ b < 6 * v + Pn)) : rmG Pn T g v h a b = g a b := if_neg hn
theorem rmG_up {g : aG} {v p : Nat} {h : Nat → Int} {x : Int} (hp : p < Pn) : upA (rmG Pn T g v h) (2 * T + 275) (6 * v + p) x = rmG Pn T g v (up1 h p x) := by
  funext a b
  unfold upA rmG up1
  by_cases hc : a = 2 * T + 275 ∧ b = 6 * v + p
  · rw [if_pos hc, if_pos ⟨hc.1, by omega, by omega⟩, if_pos (by omega)]
  · rw [if_neg hc]
    by_cases hd : a = 2 * T + 275 ∧ 6 * v ≤ b ∧ b < 6 * v + Pn
    · rw [if_pos hd, if_pos hd, if_neg (by omega)]
    · rw [if_neg hd, if_neg hd]
theorem rmG_comm {g : aG} {v c i : Nat} {h : Nat → Int} {x : Int} (hc : c ≠ 2 * T + 275) : upA (rmG Pn T g v h) c i x = rmG Pn T (upA g c i x) v h := by
  funext a b
  show (if a = c ∧ b = i then x else if a = 2 * T + 275 ∧ 6 * v ≤ b ∧ b < 6 * v + Pn then h (b - 6 * v) else g a b) = (if a = 2 * T + 275 ∧ 6 * v ≤ b ∧ b < 6 * v + Pn then h (b - 6 * v) else if a = c ∧ b = i then x else g a b)
  by_cases h1 : a = c ∧ b = i
  · rw [if_pos h1, if_neg (by omega), if_pos h1]
  · rw [if_neg h1, if_neg h1]
noncomputable def lop (k : Nat) (low h : Nat → Int) : Nat → Int := fun r => cI (r < k ∧ h r ≠ 1000000000 ∧ low r < h r) 1000000000 (h r)
theorem lop_0 (low h : Nat → Int) : lop 0 low h = h := by
  funext r
  exact cI_n (fun z => absurd z.1 (Nat.not_lt_zero r))
theorem lop_s {k : Nat} {low h : Nat → Int} (hy : h k ≠ 1000000000 ∧ low k < h k) : up1 (lop k low h) k 1000000000 = lop (k + 1) low h := by
  funext r
  unfold up1
  by_cases e : r = k
  · rw [if_pos e, e]; exact (cI_p ⟨by omega, hy⟩).symm
  · rw [if_neg e]
    unfold lop
    have e2 : (r < k ∧ h r ≠ 1000000000 ∧ low r < h r) ↔ (r < k + 1 ∧ h r ≠ 1000000000 ∧ low r < h r) := ⟨fun z => ⟨by omega, z.2⟩, fun z => ⟨by omega, z.2⟩⟩
    rw [propext e2]
theorem lop_n {k : Nat} {low h : Nat → Int} (hy : ¬ (h k ≠ 1000000000 ∧ low k < h k)) : lop (k + 1) low h = lop k low h := by
  funext r
  unfold lop
  have e2 : (r < k + 1 ∧ h r ≠ 1000000000 ∧ low r < h r) ↔ (r < k ∧ h r ≠ 1000000000 ∧ low r < h r) := by
    constructor
    · rintro ⟨z1, z2⟩
      have hne : r ≠ k := fun e => hy (by rw [← e]; exact z2)
      exact ⟨by omega, z2⟩
    · rintro ⟨z1, z2⟩
      exact ⟨by omega, z2⟩
  rw [propext e2]
theorem lop_end {low h : Nat → Int} (hb : bl Pn low h) : lop Pn low h = lo Pn low h := by
  funext r
  unfold lop lo
  have e2 : (r < Pn ∧ h r ≠ 1000000000 ∧ low r < h r) ↔ (r < Pn ∧ bl Pn low h ∧ h r ≠ 1000000000 ∧ low r < h r) := ⟨fun z => ⟨z.1, hb, z.2⟩, fun z => ⟨z.1, z.2.2⟩⟩
  rw [propext e2]
theorem lo_n {low h : Nat → Int} (hb : ¬ bl Pn low h) : lo Pn low h = h := by
  funext r
  exact cI_n (fun z => hb z.2.1)
theorem flp_n {p : Nat} {low h : Nat → Int} (hy : ¬ (h p ≠ 1000000000 ∧ low p < h p)) : (∃ r, r < p + 1 ∧ h r ≠ 1000000000 ∧ low r < h r) ↔ (∃ r, r < p ∧ h r ≠ 1000000000 ∧ low r < h r) := by
  constructor
  · rintro ⟨r, z1, z2⟩
    exact ⟨r, by have : r ≠ p := fun e => hy (by rw [← e]; exact z2)
                 omega, z2⟩
  · rintro ⟨r, z1, z2⟩
    exact ⟨r, by omega, z2⟩
theorem c_M_raise_in {v a : Nat} {low h : Nat → Int} {F : Prop} (hW : WX S Pn T) (h1 : g (2 * T + 269) 1 = (Pn : Int)) (hv : v ≤ 200) (ha : a < v) (hlow : ∀ p, p < Pn → g (2 * T + 275) (6 * a + p) = low p) (hh : ∀ p, p < Pn → h p ≤ 1000000000) (hbl : bl Pn low h)
    (hK : ∀ x4 x5 : Option aA, aw l E M_raise (d + 1) 104 [some (rV (2 * T + 269)), some (iV (v : Int)), some (iV (tf (F ∨ fl Pn low h))), some (iV (a : Int)), x4, x5, none] [] (S, rmG Pn T g v (lo Pn low h), u) P) : ∀ (m p : Nat), Pn - p < m → p ≤ Pn → aw l E M_raise (d + 1) 24 [some (rV (2 * T + 269)), some (iV (v : Int)), some (iV (tf (F ∨ ∃ r, r < p ∧ h r ≠ 1000000000 ∧ low r < h r))), some (iV (a : Int)), some (iV (1)), some (iV ((p : Int))), none] [] (S, rmG Pn T g v (lop p low h), u) P := by
  intro m
  have hp6 := wx_P hW
  induction m with
  | zero => intro p hm; omega
  | succ m ih =>
    intro p hm hp
    have e1 : rmG Pn T g v (lop p low h) (2 * T + 269) 1 = (Pn : Int) := (rmG_ne (by omega)).trans h1
    have e2 : p < Pn → rmG Pn T g v (lop p low h) (2 * T + 275) (6 * v + p) = h p := fun hp => (rmG_at hp).trans (cI_n (fun z => absurd z.1 (Nat.lt_irrefl p)))
    have e3 : p < Pn → rmG Pn T g v (lop p low h) (2 * T + 275) (6 * a + p) = low p := fun hp => (rmG_ne (by omega)).trans (hlow p hp)
    have b1 := hh p
    refine aw_il5 M_raise_24 ?_
    refine aw_al0 M_raise_26 ?_
    refine aw_gi M_raise_27 (wx_o4 hW) ?_
    refine aw_cge M_raise_30 (fun h30 => ?_) (fun h30 => ?_)
    · skip
      have e : p = Pn := by omega
      subst e
      have hk := hK (some (iV 1)) (some (iV (p : Int)))
      rw [← lop_end hbl, tfE (or_congr_right (show fl p low h ↔ ∃ r, r < p ∧ h r ≠ 1000000000 ∧ low r < h r from ⟨fun ⟨r, z1, z2, z3⟩ => ⟨r, z1, z3⟩, fun ⟨r, z1, z3⟩ => ⟨r, z1, hbl, z3⟩⟩))] at hk
      exact hk
    · skip
      refine aw_il4 M_raise_33 ?_
      refine aw_zeq M_raise_35 (fun h35 => ?_) (fun h35 => ?_)
      · skip
        omega
      · skip
        refine aw_al0 M_raise_38 ?_
        refine aw_gr (wx_r4_11 hW) M_raise_39 (wx_o4 hW) ?_
        refine aw_c M_raise_42 ?_
        refine aw_il1 M_raise_44 ?_
        refine aw_mul M_raise_45 (by constructor <;> omega) ?_
        refine aw_il5 M_raise_46 ?_
        refine aw_add M_raise_48 (by constructor <;> omega) ?_
        refine aw_ia M_raise_49 (wx_a_mmarks hW) (show 6 * (v : Int) + (p : Int) = ((6 * v + p : Nat) : Int) by omega) (by omega) ?_
        rw [e2 (by omega)]
        refine aw_c M_raise_50 ?_
        refine aw_cge M_raise_52 (fun h52 => ?_) (fun h52 => ?_)
        · skip
          refine aw_ip5 M_raise_98 (by omega) ?_
          refine aw_go M_raise_101 ?_
          have hno : ¬ (h p ≠ 1000000000 ∧ low p < h p) := by omega
          have hk := ih (p + 1) (by omega) (by omega)
          rw [lop_n hno, tfE (or_congr_right (flp_n hno))] at hk
          exact hk
        · skip
          refine aw_al0 M_raise_55 ?_
          refine aw_gr (wx_r4_11 hW) M_raise_56 (wx_o4 hW) ?_
          refine aw_c M_raise_59 ?_
          refine aw_il3 M_raise_61 ?_
          refine aw_mul M_raise_62 (by constructor <;> omega) ?_
          refine aw_il5 M_raise_63 ?_
          refine aw_add M_raise_65 (by constructor <;> omega) ?_
          refine aw_ia M_raise_66 (wx_a_mmarks hW) (show 6 * (a : Int) + (p : Int) = ((6 * a + p : Nat) : Int) by omega) (by omega) ?_
          refine aw_al0 M_raise_67 ?_
          refine aw_gr (wx_r4_11 hW) M_raise_68 (wx_o4 hW) ?_
          refine aw_c M_raise_71 ?_
          refine aw_il1 M_raise_73 ?_
          refine aw_mul M_raise_74 (by constructor <;> omega) ?_
          refine aw_il5 M_raise_75 ?_
          refine aw_add M_raise_77 (by constructor <;> omega) ?_
          refine aw_ia M_raise_78 (wx_a_mmarks hW) (show 6 * (v : Int) + (p : Int) = ((6 * v + p : Nat) : Int) by omega) (by omega) ?_
          rw [e2 (by omega), e3 (by omega)]
          refine aw_cge M_raise_79 (fun h79 => ?_) (fun h79 => ?_)
          · skip
            refine aw_ip5 M_raise_98 (by omega) ?_
            refine aw_go M_raise_101 ?_
            have hno : ¬ (h p ≠ 1000000000 ∧ low p < h p) := by omega
            have hk := ih (p + 1) (by omega) (by omega)
            rw [lop_n hno, tfE (or_congr_right (flp_n hno))] at hk
            exact hk
          · skip
            refine aw_al0 M_raise_82 ?_
            refine aw_gr (wx_r4_11 hW) M_raise_83 (wx_o4 hW) ?_
            refine aw_c M_raise_86 ?_
            refine aw_il1 M_raise_88 ?_
            refine aw_mul M_raise_89 (by constructor <;> omega) ?_
            refine aw_il5 M_raise_90 ?_
            refine aw_add M_raise_92 (by constructor <;> omega) ?_
            refine aw_c M_raise_93 ?_
            refine aw_iast M_raise_95 (wx_a_mmarks hW) (show 6 * (v : Int) + (p : Int) = ((6 * v + p : Nat) : Int) by omega) (by omega) ?_
            refine aw_c M_raise_96 ?_
            refine aw_is2 M_raise_97 ?_
            refine aw_ip5 M_raise_98 (by omega) ?_
            refine aw_go M_raise_101 ?_
            have hy : h p ≠ 1000000000 ∧ low p < h p := by omega
            have hk := ih (p + 1) (by omega) (by omega)
            rw [← lop_s hy, ← rmG_up (by omega), show tf (F ∨ ∃ r, r < p + 1 ∧ h r ≠ 1000000000 ∧ low r < h r) = 1 from cI_p (Or.inr ⟨p, by omega, hy⟩)] at hk
            exact hk
theorem c_M_raise_lp {v : Nat} {τ : Tz} {zz : Int} (hW : WX S Pn T) (h1 : g (2 * T + 269) 1 = (Pn : Int)) (hv : v ≤ 200) (hw : WT Pn τ) (hR : RMz Pn T g τ zz) (hv2 : τ.1 ≤ v) : ∀ (r a : Nat) (h : Nat → Int) (F : Prop) (x : Int), (0 < r → x = (a : Int) ∧ a < τ.1 ∧ τ.2.2.2.2.1 a + 1 = r) → (r = 0 → x < 0) → (∀ p, p < Pn → h p ≤ 1000000000) → P (.inl (some (iV (tf (F ∨ rnF Pn τ.2.1 τ.2.2.1 r a h))))) (S, rmG Pn T g v (rnH Pn τ.2.1 τ.2.2.1 r a h), u) → ∀ x4 x5 : Option aA, aw l E M_raise (d + 1) 9 [some (rV (2 * T + 269)), some (iV (v : Int)), some (iV (tf F)), some (iV x), x4, x5, none] [] (S, rmG Pn T g v h, u) P := by
  intro r
  have hp6 := wx_P hW
  have ht2 := hw.2.1
  induction r with
  | zero =>
    intro a h F x hx h0 hh hP x4 x5
    have hx0 := h0 rfl
    refine aw_il3 M_raise_9 ?_
    refine aw_zlt M_raise_10 (fun h10 => ?_) (fun h10 => ?_)
    · skip
      refine aw_il2 M_raise_114 ?_
      refine aw_reti M_raise_115 (Or.inr ⟨rfl, (tf01 _)⟩) ?_
      rw [tfE (show (F ∨ rnF Pn τ.2.1 τ.2.2.1 0 a h) ↔ F from ⟨fun z => z.elim id (fun f => f.elim), Or.inl⟩)] at hP
      exact hP
    · skip
      omega
  | succ r ih =>
    intro a h F x hx h0 hh hP x4 x5
    obtain ⟨rfl, ha, hda⟩ := hx (by omega)
    have e1 : rmG Pn T g v h (2 * T + 269) 1 = (Pn : Int) := (rmG_ne (by omega)).trans h1
    have hb : bl Pn (rwM T (rmG Pn T g v h) a) (rwM T (rmG Pn T g v h) v) ↔ bl Pn (τ.2.1 a) h := blC (fun p hp => (rmG_ne (by omega)).trans (hR.1 a ha p hp)) (fun p hp => rmG_at hp)
    have go : ∀ x4 x5 : Option aA, aw l E M_raise (d + 1) 104 [some (rV (2 * T + 269)), some (iV (v : Int)), some (iV (tf (F ∨ fl Pn (τ.2.1 a) h))), some (iV (a : Int)), x4, x5, none] [] (S, rmG Pn T g v (lo Pn (τ.2.1 a) h), u) P := by
      intro x4 x5
      refine aw_al0 M_raise_104 ?_
      refine aw_gr (wx_r4_12 hW) M_raise_105 (wx_o4 hW) ?_
      refine aw_il3 M_raise_108 ?_
      refine aw_ia M_raise_109 (wx_a_mparents hW) (by first | rfl | assumption) (by omega) ?_
      refine aw_is3 M_raise_110 ?_
      refine aw_go M_raise_111 ?_
      refine ih (τ.2.2.1 a) (lo Pn (τ.2.1 a) h) (F ∨ fl Pn (τ.2.1 a) h) _ (fun hr => ?_) (fun hr => ?_) (fun p hp => ?_) ?_ x4 x5
      · have ha0 : 0 < a := by
          rcases Nat.eq_zero_or_pos a with z | z
          · rw [z, hw.2.2.1] at hda; omega
          · exact z
        obtain ⟨z1, z2⟩ := hw.2.2.2.1 a ha0 ha
        rw [rmG_ne (by omega)]
        exact ⟨(hR.2.2.2.1 a ha0 ha).1, by omega, by omega⟩
      · have ha0 : a = 0 := WT_0 hw ha (by omega)
        rw [rmG_ne (by omega), ha0, hR.2.1]; omega
      · rcases lo_val (P := Pn) (low := τ.2.1 a) (h := h) p with z | z
        · rw [z]; exact hh p hp
        · rw [z]; omega
      · rw [tfE (show (F ∨ rnF Pn τ.2.1 τ.2.2.1 (r + 1) a h) ↔ ((F ∨ fl Pn (τ.2.1 a) h) ∨ rnF Pn τ.2.1 τ.2.2.1 r (τ.2.2.1 a) (lo Pn (τ.2.1 a) h)) from or_assoc.symm)] at hP
        exact hP
    refine aw_il3 M_raise_9 ?_
    refine aw_zlt M_raise_10 (fun h10 => ?_) (fun h10 => ?_)
    · skip
      omega
    · skip
      refine aw_al0 M_raise_13 ?_
      refine aw_il3 M_raise_14 ?_
      refine aw_il1 M_raise_15 ?_
      refine aw_V2 M_raise_16 rfl rfl rfl rfl (wx_o4 hW) ?_
      refine c_M_isBelow hW e1 (by omega) (by omega) ?_
      show aw _ _ _ _ _ _ _ _ _
      refine aw_is4 M_raise_19 ?_
      refine aw_c M_raise_21 ?_
      refine aw_is5 M_raise_22 ?_
      by_cases hbl : bl Pn (τ.2.1 a) h
      · rw [show tf (bl Pn (rwM T (rmG Pn T g v h) a) (rwM T (rmG Pn T g v h) v)) = 1 from cI_p (hb.mpr hbl)]
        have hk := c_M_raise_in (l := l) (E := E) (d := d) (u := u) (P := P) (F := F) hW h1 hv (by omega) (hR.1 a ha) hh hbl go (Pn + 1) 0 (by omega) (by omega)
        rw [lop_0, tfE (show (F ∨ ∃ r, r < 0 ∧ h r ≠ 1000000000 ∧ τ.2.1 a r < h r) ↔ F from ⟨fun z => z.elim id (fun ⟨r, z1, _⟩ => absurd z1 (Nat.not_lt_zero r)), Or.inl⟩)] at hk
        exact hk
      · rw [show tf (bl Pn (rwM T (rmG Pn T g v h) a) (rwM T (rmG Pn T g v h) v)) = 0 from cI_n (fun z => hbl (hb.mp z))]
        have hk := go (some (iV 0)) (some (iV ((0 : Nat) : Int)))
        rw [lo_n hbl, tfE (show (F ∨ fl Pn (τ.2.1 a) h) ↔ F from ⟨fun z => z.elim id (fun ⟨r, _, z1, _⟩ => absurd z1 hbl), Or.inl⟩)] at hk
        refine aw_il5 M_raise_24 ?_
        refine aw_al0 M_raise_26 ?_
        refine aw_gi M_raise_27 (wx_o4 hW) ?_
        refine aw_cge M_raise_30 (fun _ => hk) (fun _ => ?_)
        refine aw_il4 M_raise_33 ?_
        exact aw_zeq M_raise_35 (fun _ => hk) (fun z => absurd rfl z)
theorem c_M_raise {v a0 : Nat} {τ : Tz} {zz : Int} {h : Nat → Int} (hW : WX S Pn T) (h1 : g (2 * T + 269) 1 = (Pn : Int)) (hv : v ≤ 200) (hw : WT Pn τ) (hR : RMz Pn T g τ zz) (hv2 : τ.1 ≤ v) (ha0 : a0 < τ.1) (h6 : g (2 * T + 276) v = (a0 : Int)) (hh : ∀ p, p < Pn → h p ≤ 1000000000) (hP : P (.inl (some (iV (tf (rnF Pn τ.2.1 τ.2.2.1 (τ.2.2.2.2.1 a0 + 1) a0 h))))) (S, rmG Pn T g v (rnH Pn τ.2.1 τ.2.2.1 (τ.2.2.2.2.1 a0 + 1) a0 h), u)) : Sp l E M_raise (d + 1) [rV (2 * T + 269), iV (v : Int)] (S, rmG Pn T g v h, u) P := by
  show aw l E M_raise (d + 1) 0 [some (rV (2 * T + 269)), some (iV (v : Int)), none, none, none, none, none] [] (S, rmG Pn T g v h, u) P
  refine aw_c M_raise_0 ?_
  refine aw_is2 M_raise_1 ?_
  refine aw_al0 M_raise_2 ?_
  refine aw_gr (wx_r4_12 hW) M_raise_3 (wx_o4 hW) ?_
  refine aw_il1 M_raise_6 ?_
  refine aw_ia M_raise_7 (wx_a_mparents hW) (by first | rfl | assumption) (by omega) ?_
  refine aw_is3 M_raise_8 ?_
  have hk := c_M_raise_lp (l := l) (E := E) (d := d) (u := u) (P := P) hW h1 hv hw hR hv2 (τ.2.2.2.2.1 a0 + 1) a0 h False (rmG Pn T g v h (2 * T + 276) v) (fun _ => ⟨(rmG_ne (by omega)).trans h6, ha0, rfl⟩) (fun z => by omega) hh ?_ none none
  · rw [show tf False = 0 from cI_n id] at hk
    exact hk
  · rw [tfE (show (False ∨ rnF Pn τ.2.1 τ.2.2.1 (τ.2.2.2.2.1 a0 + 1) a0 h) ↔ rnF Pn τ.2.1 τ.2.2.1 (τ.2.2.2.2.1 a0 + 1) a0 h from ⟨fun z => z.elim (fun f => f.elim) id, Or.inr⟩)]
    exact hP
end NC
