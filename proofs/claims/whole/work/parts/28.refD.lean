section ND
variable {l : Launch} {E : aE} {d : Nat} {S : aS} {g : aG} {u : aU} {P : aP} {Pn T : Nat} {nd gv : Nat → Nat → Int} {fs wn pr : Nat → Int} {fi : Nat} {tm gm : Prop}
theorem rmG_self (g : aG) (v : Nat) : rmG Pn T g v (fun r => g (2 * T + 275) (6 * v + r)) = g := by
  funext a b
  unfold rmG
  by_cases h : a = 2 * T + 275 ∧ 6 * v ≤ b ∧ b < 6 * v + Pn
  · rw [if_pos h, h.1]
    show g (2 * T + 275) (6 * v + (b - 6 * v)) = _
    rw [show 6 * v + (b - 6 * v) = b by omega]
  · rw [if_neg h]
theorem RM_fr2 {g' : aG} {τ : Tz} {z : Int} (h : RMz Pn T g τ z) (h1 : 1 ≤ τ.1) (hp6 : Pn ≤ 6) (hg : ∀ x y, ((x = 2 * T + 275 ∧ y < 6 * τ.1) ∨ ((x = 2 * T + 276 ∨ x = 2 * T + 277) ∧ y < τ.1) ∨ (x = 2 * T + 269 ∧ y = 10)) → g' x y = g x y) : RMz Pn T g' τ z := by
  obtain ⟨r1, r2, r3, r4, r5⟩ := h
  refine ⟨fun n hn p hp => (hg _ _ (by omega)).trans (r1 n hn p hp), (hg _ _ (by omega)).trans r2, (hg _ _ (by omega)).trans r3, fun n h0 hn => ?_, (hg _ _ (by omega)).trans r5⟩
  obtain ⟨z1, z2⟩ := r4 n h0 hn
  exact ⟨(hg _ _ (by omega)).trans z1, (hg _ _ (by omega)).trans z2⟩
/-- nothing but the reference's nodes has changed; of the leaves at most v's -/
def FE (T v : Nat) (g g' : aG) : Prop := ∀ x y, x ≠ 2 * T + 275 → x ≠ 2 * T + 276 → x ≠ 2 * T + 277 → ¬ (x = 2 * T + 278 ∧ y = v) → ¬ (x = 2 * T + 269 ∧ y = 10) → g' x y = g x y
theorem mv_le {f n v : Int} (h1 : f = 1000000000 ∨ f ≤ 2000) (h2 : 0 ≤ n) (h3 : v ≤ 9) : mv f n v ≤ 1000000000 := by
  unfold mv
  split <;> omega
theorem c_M_grow_w {k t v : Nat} {τ : Tz} {zz : Int} {x5 : Option aA} (hW : WX S Pn T) (h1 : g (2 * T + 269) 1 = (Pn : Int)) (hv : v ≤ 200) (hw : WT Pn τ) (hR : RMz Pn T g τ zz) (hv2 : τ.1 ≤ v) (hk : k < τ.1) (h6 : g (2 * T + 276) v = (k : Int)) : ∀ (f : Nat) (h : Nat → Int), cnE h Pn < f → (∀ p, p < Pn → h p ≤ 1000000000) → aw l E M_grow (d + 2) 128 [some (rV (2 * T + 269)), some (iV (k : Int)), some (iV (t : Int)), some (iV (v : Int)), some (iV 0), x5, none] [] (S, rmG Pn T g v (liH Pn τ.2.1 τ.2.2.1 (τ.2.2.2.2.1 k + 1) k f h), u) P → aw l E M_grow (d + 2) 113 [some (rV (2 * T + 269)), some (iV (k : Int)), some (iV (t : Int)), some (iV (v : Int)), some (iV 1), x5, none] [] (S, rmG Pn T g v h, u) P := by
  intro f
  induction f with
  | zero => intro h hc; omega
  | succ f ih =>
    intro h hc hh hP
    refine aw_il4 M_grow_113 ?_
    refine aw_zeq M_grow_115 (fun h115 => ?_) (fun h115 => ?_)
    · skip
      omega
    · skip
      refine aw_al0 M_grow_118 ?_
      refine aw_il3 M_grow_119 ?_
      refine aw_V1 M_grow_120 rfl rfl rfl (wx_o4 hW) ?_
      refine c_M_raise (d := d) hW h1 hv hw hR hv2 hk h6 hh ?_
      show aw _ _ _ _ _ _ _ _ _
      refine aw_is4 M_grow_123 ?_
      refine aw_go M_grow_125 ?_
      by_cases hf : rnF Pn τ.2.1 τ.2.2.1 (τ.2.2.2.2.1 k + 1) k h
      · rw [show tf (rnF Pn τ.2.1 τ.2.2.1 (τ.2.2.2.2.1 k + 1) k h) = 1 from cI_p hf]
        refine ih _ (by have := rn_cnt hf; omega) (fun p hp => ?_) ?_
        · rcases rn_val (P := Pn) (mk := τ.2.1) (pa := τ.2.2.1) (τ.2.2.2.2.1 k + 1) k h p with e | e
          · rw [e]; exact hh p hp
          · rw [e]; omega
        · rw [show liH Pn τ.2.1 τ.2.2.1 (τ.2.2.2.2.1 k + 1) k (f + 1) h = liH Pn τ.2.1 τ.2.2.1 (τ.2.2.2.2.1 k + 1) k f (rnH Pn τ.2.1 τ.2.2.1 (τ.2.2.2.2.1 k + 1) k h) from cI_p hf] at hP
          exact hP
      · rw [show tf (rnF Pn τ.2.1 τ.2.2.1 (τ.2.2.2.2.1 k + 1) k h) = 0 from cI_n hf]
        rw [show liH Pn τ.2.1 τ.2.2.1 (τ.2.2.2.2.1 k + 1) k (f + 1) h = rnH Pn τ.2.1 τ.2.2.1 (τ.2.2.2.2.1 k + 1) k h from cI_n hf] at hP
        refine aw_il4 M_grow_113 ?_
        exact aw_zeq M_grow_115 (fun _ => hP) (fun z => absurd rfl z)
theorem c_M_grow_89 {k t : Nat} {τ : Tz} {h : Nat → Int} {x5 : Option aA} {x4 : Int} (hW : WX S Pn T) (hN : NM Pn T g nd gv fs) (hB : BX Pn T nd gv fs) (hw : WT Pn τ) (hR : RM Pn T g τ) (hk : k < τ.1) (ht : t < T) (hP : ∀ g', RM Pn T g' (addT τ k t (newT Pn nd gv τ k t)) → FE T τ.1 g g' → P (.inl none) (S, g', u)) (hh : ∀ p, p < Pn → h p = mv (τ.2.1 k p) (nd t p) (gv t p)) : aw l E M_grow (d + 2) 89 [some (rV (2 * T + 269)), some (iV (k : Int)), some (iV (t : Int)), some (iV (τ.1 : Int)), some (iV x4), x5, none] [] (S, rmG Pn T g τ.1 h, u) P := by
  have hp6 := wx_P hW
  have hT8 := wx_T hW
  have ht2 := hw.2.1
  have ht1 := hw.1
  refine aw_al0 M_grow_89 ?_
  refine aw_gr (wx_r4_12 hW) M_grow_90 (wx_o4 hW) ?_
  refine aw_il3 M_grow_93 ?_
  refine aw_il1 M_grow_94 ?_
  refine aw_iast M_grow_95 (wx_a_mparents hW) (by first | rfl | assumption) (by omega) ?_
  refine aw_al0 M_grow_96 ?_
  refine aw_gr (wx_r4_13 hW) M_grow_97 (wx_o4 hW) ?_
  refine aw_il3 M_grow_100 ?_
  refine aw_il2 M_grow_101 ?_
  refine aw_iast M_grow_102 (wx_a_mby hW) (by first | rfl | assumption) (by omega) ?_
  refine aw_al0 M_grow_103 ?_
  refine aw_gr (wx_r4_14 hW) M_grow_104 (wx_o4 hW) ?_
  refine aw_il3 M_grow_107 ?_
  refine aw_c M_grow_108 ?_
  refine aw_zast M_grow_109 (wx_a_mleaves hW) (by first | rfl | assumption) (by omega) (by first | exact Or.inl rfl | exact Or.inr rfl | assumption) ?_
  refine aw_c M_grow_110 ?_
  refine aw_is4 M_grow_111 ?_
  rw [rmG_comm (by omega), rmG_comm (by omega), rmG_comm (by omega)]
  have q : ∀ x y, (x ≠ 2 * T + 276 ∨ y ≠ τ.1) → (x ≠ 2 * T + 277 ∨ y ≠ τ.1) → (x ≠ 2 * T + 278 ∨ y ≠ τ.1) → (upA (upA (upA g (2 * T + 276) τ.1 (k : Int)) (2 * T + 277) τ.1 (t : Int)) (2 * T + 278) τ.1 0) x y = g x y := fun x y z1 z2 z3 => by
    rw [upA_ne (by omega), upA_ne (by omega), upA_ne (by omega)]
  have hR' : RMz Pn T (upA (upA (upA g (2 * T + 276) τ.1 (k : Int)) (2 * T + 277) τ.1 (t : Int)) (2 * T + 278) τ.1 0) τ (τ.1 : Int) := RM_fr2 hR ht1 hp6.2 (fun x y z => q x y (by omega) (by omega) (by omega))
  refine c_M_grow_w (d := d) hW ((q _ _ (by omega) (by omega) (by omega)).trans hN.1) ht2 hw hR' (Nat.le_refl _) hk ?_ (Pn + 1) h (by have := cnE_ub h Pn; omega) (fun p hp => ?_) ?_
  · rw [upA_ne (by omega), upA_ne (by omega), upA_eq]
  · rw [hh p hp]
    have b1 := (hw.2.2.2.2 k hk p hp).2
    have b2 := hB.1 t ht p hp
    exact mv_le (by omega) b2.1 b2.2.2.2
  have e10 : (rmG Pn T (upA (upA (upA g (2 * T + 276) τ.1 (k : Int)) (2 * T + 277) τ.1 (t : Int)) (2 * T + 278) τ.1 0) τ.1 (liH Pn τ.2.1 τ.2.2.1 (τ.2.2.2.2.1 k + 1) k (Pn + 1) h)) (2 * T + 269) 10 = (τ.1 : Int) := (rmG_ne (by omega)).trans ((q _ _ (by omega) (by omega) (by omega)).trans hR.2.2.2.2)
  refine aw_al0 M_grow_128 ?_
  refine aw_dup M_grow_129 ?_
  refine aw_gi M_grow_130 (wx_o4 hW) ?_
  refine aw_c M_grow_133 ?_
  refine aw_add M_grow_134 (by constructor <;> omega) ?_
  refine aw_pi M_grow_135 (wx_o4 hW) ?_
  refine aw_retv M_grow_138 rfl ?_
  refine hP _ ⟨fun n hn p hp => ?_, ?_, ?_, fun n h0 hn => ?_, ?_⟩ (fun x y z1 z2 z3 z4 z5 => ?_)
  · have hn' : n < τ.1 + 1 := hn
    rw [upA_ne (by omega)]
    show _ = (if n = τ.1 then newT Pn nd gv τ k t else τ.2.1 n) p
    by_cases e : n = τ.1
    · rw [if_pos e, e, rmG_at hp]
      exact li_cong (Pn + 1) _ _ hh p hp
    · rw [if_neg e, rmG_ne (by omega), q _ _ (by omega) (by omega) (by omega)]
      exact hR.1 n (by omega) p hp
  · rw [upA_ne (by omega), rmG_ne (by omega), q _ _ (by omega) (by omega) (by omega)]; exact hR.2.1
  · rw [upA_ne (by omega), rmG_ne (by omega), q _ _ (by omega) (by omega) (by omega)]; exact hR.2.2.1
  · have hn' : n < τ.1 + 1 := hn
    have q3 : ∀ x y, x ≠ 2 * T + 269 → x ≠ 2 * T + 275 → (upA (rmG Pn T (upA (upA (upA g (2 * T + 276) τ.1 (k : Int)) (2 * T + 277) τ.1 (t : Int)) (2 * T + 278) τ.1 0) τ.1 (liH Pn τ.2.1 τ.2.2.1 (τ.2.2.2.2.1 k + 1) k (Pn + 1) h)) (2 * T + 269) 10 ((rmG Pn T (upA (upA (upA g (2 * T + 276) τ.1 (k : Int)) (2 * T + 277) τ.1 (t : Int)) (2 * T + 278) τ.1 0) τ.1 (liH Pn τ.2.1 τ.2.2.1 (τ.2.2.2.2.1 k + 1) k (Pn + 1) h)) (2 * T + 269) 10 + 1)) x y = (upA (upA (upA g (2 * T + 276) τ.1 (k : Int)) (2 * T + 277) τ.1 (t : Int)) (2 * T + 278) τ.1 0) x y := fun x y z1 z2 => by
      rw [upA_ne (by omega), rmG_ne (by omega)]
    rw [q3 _ _ (by omega) (by omega), q3 _ _ (by omega) (by omega)]
    show _ = (((if n = τ.1 then k else τ.2.2.1 n) : Nat) : Int) ∧ _ = (((if n = τ.1 then t else τ.2.2.2.1 n) : Nat) : Int)
    by_cases e : n = τ.1
    · rw [if_pos e, if_pos e, e]
      constructor
      · rw [upA_ne (by omega), upA_ne (by omega), upA_eq]
      · rw [upA_ne (by omega), upA_eq]
    · rw [if_neg e, if_neg e, q _ _ (by omega) (by omega) (by omega), q _ _ (by omega) (by omega) (by omega)]
      exact hR.2.2.2.1 n h0 (by omega)
  · rw [upA_eq, e10]
    show (τ.1 : Int) + 1 = ((τ.1 + 1 : Nat) : Int)
    omega
  · rw [upA_ne (by omega), rmG_ne (by omega), q _ _ (by omega) (by omega) (by omega)]
theorem c_M_grow_lp {k t : Nat} {τ : Tz} (hW : WX S Pn T) (hN : NM Pn T g nd gv fs) (hB : BX Pn T nd gv fs) (hw : WT Pn τ) (hR : RM Pn T g τ) (hk : k < τ.1) (ht : t < T) (hP : ∀ g', RM Pn T g' (addT τ k t (newT Pn nd gv τ k t)) → FE T τ.1 g g' → P (.inl none) (S, g', u)) : ∀ (m p : Nat) (h : Nat → Int) (x5 : Option aA), Pn - p < m → p ≤ Pn → (∀ r, r < p → h r = mv (τ.2.1 k r) (nd t r) (gv t r)) → aw l E M_grow (d + 2) 8 [some (rV (2 * T + 269)), some (iV (k : Int)), some (iV (t : Int)), some (iV (τ.1 : Int)), some (iV (p : Int)), x5, none] [] (S, rmG Pn T g τ.1 h, u) P := by
  intro m
  have hp6 := wx_P hW
  have hT8 := wx_T hW
  have ht2 := hw.2.1
  induction m with
  | zero => intro p h x5 hm; omega
  | succ m ih =>
    intro p h x5 hm hp hh
    have e1 : rmG Pn T g τ.1 h (2 * T + 269) 1 = (Pn : Int) := (rmG_ne (by omega)).trans hN.1
    have e2 : p < Pn → rmG Pn T g τ.1 h (2 * T + 275) (6 * k + p) = τ.2.1 k p := fun hp => (rmG_ne (by omega)).trans (hR.1 k hk p hp)
    have e3 : p < Pn → rmG Pn T g τ.1 h (2 * T + 270) (6 * t + p) = nd t p := fun hp => (rmG_ne (by omega)).trans (hN.2.2.1 t ht p hp).1
    have e4 : p < Pn → rmG Pn T g τ.1 h (2 * T + 271) (6 * t + p) = gv t p := fun hp => (rmG_ne (by omega)).trans (hN.2.2.1 t ht p hp).2
    have b1 := fun hp => hw.2.2.2.2 k hk p hp
    have b2 := fun hp => hB.1 t ht p hp
    refine aw_il4 M_grow_8 ?_
    refine aw_al0 M_grow_10 ?_
    refine aw_gi M_grow_11 (wx_o4 hW) ?_
    refine aw_cge M_grow_14 (fun h14 => ?_) (fun h14 => ?_)
    · skip
      have e : p = Pn := by omega
      subst e
      exact c_M_grow_89 hW hN hB hw hR hk ht hP hh
    · skip
      refine aw_al0 M_grow_17 ?_
      refine aw_gr (wx_r4_11 hW) M_grow_18 (wx_o4 hW) ?_
      refine aw_c M_grow_21 ?_
      refine aw_il1 M_grow_23 ?_
      refine aw_mul M_grow_24 (by constructor <;> omega) ?_
      refine aw_il4 M_grow_25 ?_
      refine aw_add M_grow_27 (by constructor <;> omega) ?_
      refine aw_ia M_grow_28 (wx_a_mmarks hW) (show 6 * (k : Int) + (p : Int) = ((6 * k + p : Nat) : Int) by omega) (by omega) ?_
      rw [e2 (by omega)]
      obtain ⟨c1, c2⟩ := b1 (by omega)
      obtain ⟨c3, c4, c5, c6⟩ := b2 (by omega)
      refine aw_is5 M_grow_29 ?_
      refine aw_al0 M_grow_31 ?_
      refine aw_gr (wx_r4_11 hW) M_grow_32 (wx_o4 hW) ?_
      refine aw_c M_grow_35 ?_
      refine aw_il3 M_grow_37 ?_
      refine aw_mul M_grow_38 (by constructor <;> omega) ?_
      refine aw_il4 M_grow_39 ?_
      refine aw_add M_grow_41 (by constructor <;> omega) ?_
      refine aw_il5 M_grow_42 ?_
      refine aw_c M_grow_44 ?_
      refine aw_cne M_grow_46 (fun h46 => ?_) (fun h46 => ?_)
      · skip
        refine aw_il5 M_grow_54 ?_
        refine aw_al0 M_grow_56 ?_
        refine aw_gr (wx_r4_3 hW) M_grow_57 (wx_o4 hW) ?_
        refine aw_c M_grow_60 ?_
        refine aw_il2 M_grow_62 ?_
        refine aw_mul M_grow_63 (by constructor <;> omega) ?_
        refine aw_il4 M_grow_64 ?_
        refine aw_add M_grow_66 (by constructor <;> omega) ?_
        refine aw_ia M_grow_67 (wx_a_mneeds hW) (show 6 * (t : Int) + (p : Int) = ((6 * t + p : Nat) : Int) by omega) (by omega) ?_
        rw [e3 (by omega)]
        refine aw_sub M_grow_68 (by constructor <;> omega) ?_
        refine aw_al0 M_grow_69 ?_
        refine aw_gr (wx_r4_4 hW) M_grow_70 (wx_o4 hW) ?_
        refine aw_c M_grow_73 ?_
        refine aw_il2 M_grow_75 ?_
        refine aw_mul M_grow_76 (by constructor <;> omega) ?_
        refine aw_il4 M_grow_77 ?_
        refine aw_add M_grow_79 (by constructor <;> omega) ?_
        refine aw_ia M_grow_80 (wx_a_mgives hW) (show 6 * (t : Int) + (p : Int) = ((6 * t + p : Nat) : Int) by omega) (by omega) ?_
        rw [e4 (by omega)]
        refine aw_add M_grow_81 (by constructor <;> omega) ?_
        refine aw_iast M_grow_82 (wx_a_mmarks hW) (show 6 * (τ.1 : Int) + (p : Int) = ((6 * τ.1 + p : Nat) : Int) by omega) (by omega) ?_
        refine aw_ip4 M_grow_83 (by omega) ?_
        refine aw_go M_grow_86 ?_
        rw [rmG_up (by omega)]
        refine ih (p + 1) _ _ (by omega) (by omega) (fun r hr => ?_)
        unfold up1
        by_cases e : r = p
        · rw [if_pos e, e]
          unfold mv
          rw [if_neg (by omega)]
        · rw [if_neg e]; exact hh r (by omega)
      · skip
        refine aw_il5 M_grow_49 ?_
        refine aw_go M_grow_51 ?_
        refine aw_iast M_grow_82 (wx_a_mmarks hW) (show 6 * (τ.1 : Int) + (p : Int) = ((6 * τ.1 + p : Nat) : Int) by omega) (by omega) ?_
        refine aw_ip4 M_grow_83 (by omega) ?_
        refine aw_go M_grow_86 ?_
        rw [rmG_up (by omega)]
        refine ih (p + 1) _ _ (by omega) (by omega) (fun r hr => ?_)
        unfold up1
        by_cases e : r = p
        · rw [if_pos e, e]
          unfold mv
          rw [if_pos (by omega)]; omega
        · rw [if_neg e]; exact hh r (by omega)
theorem c_M_grow {k t : Nat} {τ : Tz} (hW : WX S Pn T) (hN : NM Pn T g nd gv fs) (hB : BX Pn T nd gv fs) (hw : WT Pn τ) (hR : RM Pn T g τ) (hk : k < τ.1) (ht : t < T) (hP : ∀ g', RM Pn T g' (addT τ k t (newT Pn nd gv τ k t)) → FE T τ.1 g g' → P (.inl none) (S, g', u)) : Sp l E M_grow (d + 2) [rV (2 * T + 269), iV (k : Int), iV (t : Int)] (S, g, u) P := by
  have e10 : g (2 * T + 269) 10 = (τ.1 : Int) := hR.2.2.2.2
  show aw l E M_grow (d + 2) 0 [some (rV (2 * T + 269)), some (iV (k : Int)), some (iV (t : Int)), none, none, none, none] [] (S, g, u) P
  refine aw_al0 M_grow_0 ?_
  refine aw_gi M_grow_1 (wx_o4 hW) ?_
  rw [e10]
  refine aw_is3 M_grow_4 ?_
  refine aw_c M_grow_5 ?_
  refine aw_is4 M_grow_6 ?_
  have hk0 := c_M_grow_lp (l := l) (E := E) (d := d) (u := u) (P := P) hW hN hB hw hR hk ht hP (Pn + 1) 0 (fun r => g (2 * T + 275) (6 * τ.1 + r)) none (by omega) (by omega) (fun r hr => absurd hr (Nat.not_lt_zero r))
  rw [rmG_self] at hk0
  exact hk0
/-- nothing but the reference's tree has changed -/
def FN (T : Nat) (g g' : aG) : Prop := ∀ x y, x ≠ 2 * T + 275 → x ≠ 2 * T + 276 → x ≠ 2 * T + 277 → x ≠ 2 * T + 278 → ¬ (x = 2 * T + 269 ∧ y = 10) → g' x y = g x y
theorem FE.toN {T v : Nat} {g g' : aG} (h : FE T v g g') : FN T g g' := fun x y z1 z2 z3 z4 z5 => h x y z1 z2 z3 (fun z => z4 z.1) z5
theorem FN.tr {T : Nat} {g g' g'' : aG} (h : FN T g g') (h' : FN T g' g'') : FN T g g'' := fun x y z1 z2 z3 z4 z5 => (h' x y z1 z2 z3 z4 z5).trans (h x y z1 z2 z3 z4 z5)
theorem NM_FN {g' : aG} (h : NM Pn T g nd gv fs) (hF : FN T g g') : NM Pn T g' nd gv fs := NM_fr h (fun x y z => hF x y (by omega) (by omega) (by omega) (by omega) (by omega))
theorem c_M_explore_0 {k : Int} {x2 : Option aA} {g' : aG} (hW : WX S Pn T) (hS : MS Pn T g nd gv fs wn pr fi tm gm) (h0 : (grT Pn T nd gv fs 200).1 = true → ∀ g', MS Pn T g' nd gv fs wn pr fi True gm → g' (2 * T + 269) 0 = 0 → FM T g g' → P (.inl (some (iV ((grT Pn T nd gv fs 200).2.1 : Int)))) (S, g', u)) (h1 : (grT Pn T nd gv fs 200).1 = false → ∀ g', MS Pn T g' nd gv fs wn pr fi False gm → g' (2 * T + 269) 0 = 1 → FM T g g' → P (.inl (some (iV 0))) (S, g', u)) (hF : FN T g g') (h10 : g' (2 * T + 269) 10 = 201) (hf : (grT Pn T nd gv fs 200).1 = false) : aw l E M_explore (d + 3) 143 [some (rV (2 * T + 269)), some (iV (k : Int)), x2, none, none, none, none] [] (S, g', u) P := by
  obtain ⟨s1, s2, s3, s4, s5, s6, s7⟩ := hS
  refine aw_al0 M_explore_143 ?_
  refine aw_al0 M_explore_144 ?_
  refine aw_gi M_explore_145 (wx_o4 hW) ?_
  refine aw_c M_explore_148 ?_
  refine aw_cgt M_explore_151 (fun h151 => ?_) (fun h151 => ?_)
  · skip
    refine aw_c M_explore_158 ?_
    refine aw_pz M_explore_159 (wx_o4 hW) (by first | exact Or.inl rfl | exact Or.inr rfl | assumption) ?_
    refine aw_al0 M_explore_162 ?_
    refine aw_al0 M_explore_163 ?_
    refine aw_gi M_explore_164 (wx_o4 hW) ?_
    refine aw_zeq M_explore_167 (fun h167 => ?_) (fun h167 => ?_)
    · skip
      refine aw_c M_explore_174 ?_
      refine aw_pi M_explore_175 (wx_o4 hW) ?_
      refine aw_al0 M_explore_178 ?_
      refine aw_gi M_explore_179 (wx_o4 hW) ?_
      refine aw_zeq M_explore_182 (fun h182 => ?_) (fun h182 => ?_)
      · skip
        refine aw_c M_explore_192 ?_
        refine aw_reti M_explore_193 (Or.inl rfl) ?_
        have q : ∀ x y, ¬ (x = 2 * T + 269 ∧ (y = 0 ∨ y = 9 ∨ y = 10)) → x ≠ 2 * T + 275 → x ≠ 2 * T + 276 → x ≠ 2 * T + 277 → x ≠ 2 * T + 278 → (upA (upA g' (2 * T + 269) 9 0) (2 * T + 269) 0 1) x y = g x y := fun x y z1 z2 z3 z4 z5 => by
          rw [upA_ne (by omega), upA_ne (by omega)]; exact hF x y z2 z3 z4 z5 (by omega)
        refine h1 hf _ ⟨NM_fr s1 (fun x y z => q x y (by omega) (by omega) (by omega) (by omega) (by omega)), fun p hp => ⟨(q _ _ (by omega) (by omega) (by omega) (by omega) (by omega)).trans (s2 p hp).1, (q _ _ (by omega) (by omega) (by omega) (by omega) (by omega)).trans (s2 p hp).2⟩, (q _ _ (by omega) (by omega) (by omega) (by omega) (by omega)).trans s3, ?_, (q _ _ (by omega) (by omega) (by omega) (by omega) (by omega)).trans s5, fun z => z.elim, fun z => ⟨(s7 z).1, RN_fr (s7 z).2 (fun x y z => q x y (by omega) (by omega) (by omega) (by omega) (by omega))⟩⟩ (upA_eq _ _ _ _) (fun x y z => q x y (by omega) (by omega) (by omega) (by omega) (by omega))
        rw [upA_ne (by omega), upA_eq]; exact (cI_n id).symm
      · skip
        exact absurd ((upA_ne (by omega)).trans (upA_eq _ _ _ _)) h182
    · skip
      exact absurd (upA_eq _ _ _ _) h167
  · skip
    omega
theorem c_M_explore_1 {k : Int} {x2 : Option aA} {g' : aG} (hW : WX S Pn T) (hS : MS Pn T g nd gv fs wn pr fi tm gm) (h0 : (grT Pn T nd gv fs 200).1 = true → ∀ g', MS Pn T g' nd gv fs wn pr fi True gm → g' (2 * T + 269) 0 = 0 → FM T g g' → P (.inl (some (iV ((grT Pn T nd gv fs 200).2.1 : Int)))) (S, g', u)) (h1 : (grT Pn T nd gv fs 200).1 = false → ∀ g', MS Pn T g' nd gv fs wn pr fi False gm → g' (2 * T + 269) 0 = 1 → FM T g g' → P (.inl (some (iV 0))) (S, g', u)) (hF : FN T g g') (hR : RM Pn T g' (grT Pn T nd gv fs 200).2) (hs : (grT Pn T nd gv fs 200).2.1 ≤ 200) (hlf : ∀ n, n < (grT Pn T nd gv fs 200).2.1 → g' (2 * T + 278) n = tf ((grT Pn T nd gv fs 200).2.2.2.2.2.2 n)) (hf : (grT Pn T nd gv fs 200).1 = true) : aw l E M_explore (d + 3) 143 [some (rV (2 * T + 269)), some (iV (k : Int)), x2, none, none, none, none] [] (S, g', u) P := by
  obtain ⟨s1, s2, s3, s4, s5, s6, s7⟩ := hS
  have h10 : g' (2 * T + 269) 10 = ((grT Pn T nd gv fs 200).2.1 : Int) := hR.2.2.2.2
  refine aw_al0 M_explore_143 ?_
  refine aw_al0 M_explore_144 ?_
  refine aw_gi M_explore_145 (wx_o4 hW) ?_
  refine aw_c M_explore_148 ?_
  refine aw_cgt M_explore_151 (fun h151 => ?_) (fun h151 => ?_)
  · skip
    omega
  · skip
    refine aw_c M_explore_154 ?_
    refine aw_go M_explore_155 ?_
    refine aw_pz M_explore_159 (wx_o4 hW) (by first | exact Or.inl rfl | exact Or.inr rfl | assumption) ?_
    refine aw_al0 M_explore_162 ?_
    refine aw_al0 M_explore_163 ?_
    refine aw_gi M_explore_164 (wx_o4 hW) ?_
    refine aw_zeq M_explore_167 (fun h167 => ?_) (fun h167 => ?_)
    · skip
      exact absurd (h167.symm.trans (upA_eq _ _ _ _)) (by decide)
    · skip
      refine aw_c M_explore_170 ?_
      refine aw_go M_explore_171 ?_
      refine aw_pi M_explore_175 (wx_o4 hW) ?_
      refine aw_al0 M_explore_178 ?_
      refine aw_gi M_explore_179 (wx_o4 hW) ?_
      refine aw_zeq M_explore_182 (fun h182 => ?_) (fun h182 => ?_)
      · skip
        exact absurd (h182.symm.trans ((upA_ne (by omega)).trans (upA_eq _ _ _ _))) (by decide)
      · skip
        refine aw_al0 M_explore_185 ?_
        refine aw_gi M_explore_186 (wx_o4 hW) ?_
        refine aw_go M_explore_189 ?_
        refine aw_reti M_explore_193 (Or.inl rfl) ?_
        have q : ∀ x y, ¬ (x = 2 * T + 269 ∧ (y = 0 ∨ y = 9 ∨ y = 10)) → x ≠ 2 * T + 275 → x ≠ 2 * T + 276 → x ≠ 2 * T + 277 → x ≠ 2 * T + 278 → (upA (upA g' (2 * T + 269) 9 1) (2 * T + 269) 0 0) x y = g x y := fun x y z1 z2 z3 z4 z5 => by
          rw [upA_ne (by omega), upA_ne (by omega)]; exact hF x y z2 z3 z4 z5 (by omega)
        have q2 : ∀ x y, ¬ (x = 2 * T + 269 ∧ (y = 0 ∨ y = 9)) → (upA (upA g' (2 * T + 269) 9 1) (2 * T + 269) 0 0) x y = g' x y := fun x y z => by
          rw [upA_ne (by omega), upA_ne (by omega)]
        rw [q2 _ _ (by omega), h10]
        refine h0 hf _ ⟨NM_fr s1 (fun x y z => q x y (by omega) (by omega) (by omega) (by omega) (by omega)), fun p hp => ⟨(q _ _ (by omega) (by omega) (by omega) (by omega) (by omega)).trans (s2 p hp).1, (q _ _ (by omega) (by omega) (by omega) (by omega) (by omega)).trans (s2 p hp).2⟩, (q _ _ (by omega) (by omega) (by omega) (by omega) (by omega)).trans s3, ?_, (q _ _ (by omega) (by omega) (by omega) (by omega) (by omega)).trans s5, fun z => ⟨hf, RM_fr hR (fun x y z => q2 x y (by omega)), fun n hn => (q2 _ _ (by omega)).trans (hlf n hn)⟩, fun z => ⟨(s7 z).1, RN_fr (s7 z).2 (fun x y z => q x y (by omega) (by omega) (by omega) (by omega) (by omega))⟩⟩ (upA_eq _ _ _ _) (fun x y z => q x y (by omega) (by omega) (by omega) (by omega) (by omega))
        rw [upA_ne (by omega), upA_eq]; exact (cI_p trivial).symm
theorem c_M_explore_in {k : Nat} {τ : Tz} (hW : WX S Pn T) (hN : NM Pn T g nd gv fs) (hB : BX Pn T nd gv fs) (hw : WT Pn τ) (hk : k < τ.1) (hlf : g (2 * T + 278) k = 0)
    (h0 : (brT Pn nd gv τ k T).1 = true → ∀ g' x2, RM Pn T g' (brT Pn nd gv τ k T).2 → FN T g g' → (∀ n, n ≤ k → g' (2 * T + 278) n = g (2 * T + 278) n) → aw l E M_explore (d + 3) 58 [some (rV (2 * T + 269)), some (iV (k + 1 : Int)), x2, none, none, none, none] [] (S, g', u) P)
    (h1 : (brT Pn nd gv τ k T).1 = false → ∀ g' x2, FN T g g' → g' (2 * T + 269) 10 = 201 → aw l E M_explore (d + 3) 58 [some (rV (2 * T + 269)), some (iV (k + 1 : Int)), x2, none, none, none, none] [] (S, g', u) P) : ∀ (m t : Nat) (g' : aG), T - t < m → t ≤ T → (brT Pn nd gv τ k t).1 = true → RM Pn T g' (brT Pn nd gv τ k t).2 → FN T g g' → (∀ n, n ≤ k → g' (2 * T + 278) n = g (2 * T + 278) n) → aw l E M_explore (d + 3) 89 [some (rV (2 * T + 269)), some (iV (k : Int)), some (iV (t : Int)), none, none, none, none] [] (S, g', u) P := by
  intro m
  have hp6 := wx_P hW
  have hT8 := wx_T hW
  induction m with
  | zero => intro t g' h; omega
  | succ m ih =>
    intro t g' hm ht hok hR hF hlk
    obtain ⟨hwb, hsb⟩ := WT_br (P := Pn) (nd := nd) (gv := gv) (τ := τ) (n := k) hw hk t (fun s hs p hp => (hB.1 s (by omega) p hp).1) (fun s hs p hp => ⟨(hB.1 s (by omega) p hp).2.2.1, (hB.1 s (by omega) p hp).2.2.2⟩)
    have h2b := hwb.2.1
    have hN' := NM_FN hN hF
    have e2 : g' (2 * T + 269) 2 = (T : Int) := hN'.2.1
    have e10 : g' (2 * T + 269) 10 = ((brT Pn nd gv τ k t).2.1 : Int) := hR.2.2.2.2
    have el : g' (2 * T + 278) k = 0 := (hlk k (Nat.le_refl _)).trans hlf
    have hen : t < T → (bl Pn (rwN T g' t) (rwM T g' k) ↔ bl Pn (nd t) ((brT Pn nd gv τ k t).2.2.1 k)) := fun h => blC (fun p hp => (hN'.2.2.1 t h p hp).1) (hR.1 k (by omega))
    refine aw_il2 M_explore_89 ?_
    refine aw_al0 M_explore_90 ?_
    refine aw_gi M_explore_91 (wx_o4 hW) ?_
    refine aw_cge M_explore_94 (fun h94 => ?_) (fun h94 => ?_)
    · skip
      have e : t = T := by omega
      subst e
      refine aw_ip1 M_explore_137 (by omega) ?_
      refine aw_go M_explore_140 ?_
      exact h0 hok g' _ hR hF hlk
    · skip
      refine aw_al0 M_explore_97 ?_
      refine aw_gr (wx_r4_14 hW) M_explore_98 (wx_o4 hW) ?_
      refine aw_il1 M_explore_101 ?_
      refine aw_za M_explore_102 (wx_a_mleaves hW) (by first | rfl | assumption) (by omega) ?_
      refine aw_zne M_explore_103 (fun h103 => ?_) (fun h103 => ?_)
      · skip
        omega
      · skip
        refine aw_al0 M_explore_106 ?_
        refine aw_gi M_explore_107 (wx_o4 hW) ?_
        refine aw_c M_explore_110 ?_
        refine aw_cgt M_explore_113 (fun h113 => ?_) (fun h113 => ?_)
        · skip
          omega
        · skip
          refine aw_al0 M_explore_116 ?_
          refine aw_il1 M_explore_117 ?_
          refine aw_il2 M_explore_118 ?_
          refine aw_V2 M_explore_119 rfl rfl rfl rfl (wx_o4 hW) ?_
          refine c_M_isEnabled (d := d + 2) hW hN'.1 (by omega) (by omega) ?_
          show aw _ _ _ _ _ _ _ _ _
          refine aw_zeq M_explore_122 (fun h122 => ?_) (fun h122 => ?_)
          · skip
            refine aw_ip2 M_explore_131 (by omega) ?_
            refine aw_go M_explore_134 ?_
            have hno : ¬ bl Pn (nd t) ((brT Pn nd gv τ k t).2.2.1 k) := fun z => iz h122 ((hen (by omega)).mpr z)
            have e : brT Pn nd gv τ k (t + 1) = brT Pn nd gv τ k t := cI_n (fun z => hno z.2)
            exact ih (t + 1) g' (by omega) (by omega) (by rw [e]; exact hok) (by rw [e]; exact hR) hF hlk
          · skip
            refine aw_al0 M_explore_125 ?_
            refine aw_il1 M_explore_126 ?_
            refine aw_il2 M_explore_127 ?_
            refine aw_V2 M_explore_128 rfl rfl rfl rfl (wx_o4 hW) ?_
            refine c_M_grow (d := d) hW hN' hB hwb hR (by omega) (by omega) (fun g2 hR2 hF2 => ?_)
            show aw _ _ _ _ _ _ _ _ _
            refine aw_ip2 M_explore_131 (by omega) ?_
            refine aw_go M_explore_134 ?_
            have hy : bl Pn (nd t) ((brT Pn nd gv τ k t).2.2.1 k) := (hen (by omega)).mp (nz h122)
            have hF3 := hF.tr hF2.toN
            have hlk3 : ∀ n, n ≤ k → g2 (2 * T + 278) n = g (2 * T + 278) n := fun n hn => (hF2 _ _ (by omega) (by omega) (by omega) (by omega) (by omega)).trans (hlk n hn)
            by_cases hs : (brT Pn nd gv τ k t).2.1 = 200
            · have e : brT Pn nd gv τ k (t + 1) = (false, (brT Pn nd gv τ k t).2) := (cI_p ⟨hok, hy⟩).trans (cI_p hs)
              have hf : (brT Pn nd gv τ k (t + 1)).1 = false := by rw [e]
              have hff : (brT Pn nd gv τ k T).1 = false := by
                have h9 := br_false (P := Pn) (nd := nd) (gv := gv) (τ := τ) (n := k) (k := t + 1) hf (T - (t + 1))
                rw [show t + 1 + (T - (t + 1)) = T by omega] at h9
                rw [h9]; exact hf
              have e201 : g2 (2 * T + 269) 10 = 201 := hR2.2.2.2.2.trans (show (((brT Pn nd gv τ k t).2.1 + 1 : Nat) : Int) = 201 by omega)
              have e2b : g2 (2 * T + 269) 2 = (T : Int) := (NM_FN hN hF3).2.1
              have elb : g2 (2 * T + 278) k = 0 := (hlk3 k (Nat.le_refl _)).trans hlf
              have hq : aw l E M_explore (d + 3) 137 [some (rV (2 * T + 269)), some (iV (k : Int)), some (iV ((t : Int) + 1)), none, none, none, none] [] (S, g2, u) P := by
                refine aw_ip1 M_explore_137 (by omega) ?_
                refine aw_go M_explore_140 ?_
                exact h1 hff g2 _ hF3 e201
              refine aw_il2 M_explore_89 ?_
              refine aw_al0 M_explore_90 ?_
              refine aw_gi M_explore_91 (wx_o4 hW) ?_
              refine aw_cge M_explore_94 (fun q94 => ?_) (fun q94 => ?_)
              · skip
                exact hq
              · skip
                refine aw_al0 M_explore_97 ?_
                refine aw_gr (wx_r4_14 hW) M_explore_98 (wx_o4 hW) ?_
                refine aw_il1 M_explore_101 ?_
                refine aw_za M_explore_102 (wx_a_mleaves hW) (by first | rfl | assumption) (by omega) ?_
                refine aw_zne M_explore_103 (fun q103 => ?_) (fun q103 => ?_)
                · skip
                  exact hq
                · skip
                  refine aw_al0 M_explore_106 ?_
                  refine aw_gi M_explore_107 (wx_o4 hW) ?_
                  refine aw_c M_explore_110 ?_
                  refine aw_cgt M_explore_113 (fun q113 => ?_) (fun q113 => ?_)
                  · skip
                    exact hq
                  · skip
                    omega
            · have e : brT Pn nd gv τ k (t + 1) = (true, addT (brT Pn nd gv τ k t).2 k t (newT Pn nd gv (brT Pn nd gv τ k t).2 k t)) := (cI_p ⟨hok, hy⟩).trans (cI_n hs)
              exact ih (t + 1) g2 (by omega) (by omega) (by rw [e]) (by rw [e]; exact hR2) hF3 hlk3
theorem c_M_explore_lp (hW : WX S Pn T) (hS : MS Pn T g nd gv fs wn pr fi tm gm) (hB : BX Pn T nd gv fs) (h0 : (grT Pn T nd gv fs 200).1 = true → ∀ g', MS Pn T g' nd gv fs wn pr fi True gm → g' (2 * T + 269) 0 = 0 → FM T g g' → P (.inl (some (iV ((grT Pn T nd gv fs 200).2.1 : Int)))) (S, g', u)) (h1 : (grT Pn T nd gv fs 200).1 = false → ∀ g', MS Pn T g' nd gv fs wn pr fi False gm → g' (2 * T + 269) 0 = 1 → FM T g g' → P (.inl (some (iV 0))) (S, g', u)) : ∀ (m k : Nat) (g' : aG) (x2 : Option aA), 201 - k < m → k ≤ 200 → (grT Pn T nd gv fs k).1 = true → RM Pn T g' (grT Pn T nd gv fs k).2 → (∀ n, n < k → n < (grT Pn T nd gv fs k).2.1 → g' (2 * T + 278) n = tf ((grT Pn T nd gv fs k).2.2.2.2.2.2 n)) → FN T g g' → aw l E M_explore (d + 3) 58 [some (rV (2 * T + 269)), some (iV (k : Int)), x2, none, none, none, none] [] (S, g', u) P := by
  intro m
  have hp6 := wx_P hW
  have hT8 := wx_T hW
  have hwg : ∀ k, WT Pn (grT Pn T nd gv fs k).2 := BX_wt hB
  induction m with
  | zero => intro k g' x2 h; omega
  | succ m ih =>
    intro k g' x2 hm hk hok hR hlf hF
    have hw := hwg k
    have hw2 := hw.2.1
    have hN' := NM_FN hS.1 hF
    have e10 : g' (2 * T + 269) 10 = ((grT Pn T nd gv fs k).2.1 : Int) := hR.2.2.2.2
    refine aw_il1 M_explore_58 ?_
    refine aw_al0 M_explore_59 ?_
    refine aw_gi M_explore_60 (wx_o4 hW) ?_
    refine aw_cge M_explore_63 (fun h63 => ?_) (fun h63 => ?_)
    · skip
      have e : grT Pn T nd gv fs 200 = grT Pn T nd gv fs k := by
        have h9 := gr_false (P := Pn) (T := T) (nd := nd) (gv := gv) (first := fs) (k := k) (Or.inr (by omega)) (200 - k)
        rw [show k + (200 - k) = 200 by omega] at h9
        exact h9
      exact c_M_explore_1 hW hS h0 h1 hF (by rw [e]; exact hR) (by rw [e]; exact hw2) (fun n hn => by rw [e] at hn ⊢; exact hlf n (by omega) hn) (by rw [e]; exact hok)
    · skip
      refine aw_al0 M_explore_66 ?_
      refine aw_gi M_explore_67 (wx_o4 hW) ?_
      refine aw_c M_explore_70 ?_
      refine aw_cgt M_explore_73 (fun h73 => ?_) (fun h73 => ?_)
      · skip
        omega
      · skip
        refine aw_al0 M_explore_76 ?_
        refine aw_gr (wx_r4_14 hW) M_explore_77 (wx_o4 hW) ?_
        refine aw_il1 M_explore_80 ?_
        refine aw_al0 M_explore_81 ?_
        refine aw_il1 M_explore_82 ?_
        refine aw_V1 M_explore_83 rfl rfl rfl (wx_o4 hW) ?_
        refine c_M_isLeaf (d := d) hW hN'.1 hw hR (by omega) ?_
        show aw _ _ _ _ _ _ _ _ _
        refine aw_zast M_explore_86 (wx_a_mleaves hW) (by first | rfl | assumption) (by omega) (tf01 _) ?_
        refine aw_c M_explore_87 ?_
        refine aw_is2 M_explore_88 ?_
        have hFL : FN T g' (upA g' (2 * T + 278) k (tf (repT Pn (grT Pn T nd gv fs k).2 k))) := fun x y z1 z2 z3 z4 z5 => upA_ne (fun z => z4 z.1)
        have hRL : RM Pn T (upA g' (2 * T + 278) k (tf (repT Pn (grT Pn T nd gv fs k).2 k))) (lfT Pn (grT Pn T nd gv fs k).2 k) := RM_fr (τ := lfT Pn (grT Pn T nd gv fs k).2 k) hR (fun x y z => upA_ne (by omega))
        have hll : ∀ n, n < k + 1 → n < (grT Pn T nd gv fs k).2.1 → (upA g' (2 * T + 278) k (tf (repT Pn (grT Pn T nd gv fs k).2 k))) (2 * T + 278) n = tf ((lfT Pn (grT Pn T nd gv fs k).2 k).2.2.2.2.2 n) := fun n h1 h2 => by
          show _ = tf (if n = k then repT Pn (grT Pn T nd gv fs k).2 k else (grT Pn T nd gv fs k).2.2.2.2.2.2 n)
          by_cases e : n = k
          · subst e; rw [upA_eq, if_pos rfl]
          · rw [upA_ne (by omega), if_neg e]; exact hlf n (by omega) h2
        have hNL := NM_FN hN' hFL
        have eT : (upA g' (2 * T + 278) k (tf (repT Pn (grT Pn T nd gv fs k).2 k))) (2 * T + 269) 2 = (T : Int) := hNL.2.1
        by_cases hr : repT Pn (grT Pn T nd gv fs k).2 k
        · have e : grT Pn T nd gv fs (k + 1) = (true, lfT Pn (grT Pn T nd gv fs k).2 k) := (cI_p ⟨hok, by omega⟩).trans (cI_p hr)
          have e1 : (upA g' (2 * T + 278) k (tf (repT Pn (grT Pn T nd gv fs k).2 k))) (2 * T + 278) k = 1 := (upA_eq _ _ _ _).trans (cI_p hr)
          have hq : aw l E M_explore (d + 3) 137 [some (rV (2 * T + 269)), some (iV (k : Int)), some (iV ((0 : Nat) : Int)), none, none, none, none] [] (S, upA g' (2 * T + 278) k (tf (repT Pn (grT Pn T nd gv fs k).2 k)), u) P := by
            refine aw_ip1 M_explore_137 (by omega) ?_
            refine aw_go M_explore_140 ?_
            exact ih (k + 1) _ _ (by omega) (by omega) (by rw [e]) (by rw [e]; exact hRL) (fun n h1 h2 => by rw [e] at h2 ⊢; exact hll n h1 h2) (hF.tr hFL)
          refine aw_il2 M_explore_89 ?_
          refine aw_al0 M_explore_90 ?_
          refine aw_gi M_explore_91 (wx_o4 hW) ?_
          refine aw_cge M_explore_94 (fun q94 => ?_) (fun q94 => ?_)
          · skip
            exact hq
          · skip
            refine aw_al0 M_explore_97 ?_
            refine aw_gr (wx_r4_14 hW) M_explore_98 (wx_o4 hW) ?_
            refine aw_il1 M_explore_101 ?_
            refine aw_za M_explore_102 (wx_a_mleaves hW) (by first | rfl | assumption) (by omega) ?_
            refine aw_zne M_explore_103 (fun q103 => ?_) (fun q103 => ?_)
            · skip
              exact hq
            · skip
              omega
        · have e : grT Pn T nd gv fs (k + 1) = brT Pn nd gv (lfT Pn (grT Pn T nd gv fs k).2 k) k T := (cI_p ⟨hok, by omega⟩).trans (cI_n hr)
          refine c_M_explore_in (d := d) (τ := lfT Pn (grT Pn T nd gv fs k).2 k) hW hNL hB hw (show k < (grT Pn T nd gv fs k).2.1 by omega) ((upA_eq _ _ _ _).trans (cI_n hr)) (fun ht g2 y2 hR2 hF2 hl2 => ?_) (fun ht g2 y2 hF2 h201 => ?_) (T + 1) 0 _ (by omega) (by omega) rfl hRL (fun x y _ _ _ _ _ => rfl) (fun n hn => rfl)
          · refine ih (k + 1) g2 _ (by omega) (by omega) (by rw [e]; exact ht) (by rw [e]; exact hR2) (fun n h1 h2 => ?_) ((hF.tr hFL).tr hF2)
            rw [e] at h2 ⊢
            rw [br_lf, hl2 n (by omega)]
            exact hll n h1 (by omega)
          · have hfa : (grT Pn T nd gv fs (k + 1)).1 = false := by rw [e]; exact ht
            have e2 : grT Pn T nd gv fs 200 = grT Pn T nd gv fs (k + 1) := by
              have h9 := gr_false (P := Pn) (T := T) (nd := nd) (gv := gv) (first := fs) (k := k + 1) (Or.inl hfa) (200 - (k + 1))
              rw [show k + 1 + (200 - (k + 1)) = 200 by omega] at h9
              exact h9
            have hq : aw l E M_explore (d + 3) 143 [some (rV (2 * T + 269)), some (iV (k + 1 : Int)), y2, none, none, none, none] [] (S, g2, u) P := c_M_explore_0 hW hS h0 h1 ((hF.tr hFL).tr hF2) h201 (by rw [e2]; exact hfa)
            refine aw_il1 M_explore_58 ?_
            refine aw_al0 M_explore_59 ?_
            refine aw_gi M_explore_60 (wx_o4 hW) ?_
            refine aw_cge M_explore_63 (fun q63 => ?_) (fun q63 => ?_)
            · skip
              exact hq
            · skip
              refine aw_al0 M_explore_66 ?_
              refine aw_gi M_explore_67 (wx_o4 hW) ?_
              refine aw_c M_explore_70 ?_
              refine aw_cgt M_explore_73 (fun q73 => ?_) (fun q73 => ?_)
              · skip
                exact hq
              · skip
                omega
theorem c_M_explore_in0 (hW : WX S Pn T) (hS : MS Pn T g nd gv fs wn pr fi tm gm) (hB : BX Pn T nd gv fs) (h0 : (grT Pn T nd gv fs 200).1 = true → ∀ g', MS Pn T g' nd gv fs wn pr fi True gm → g' (2 * T + 269) 0 = 0 → FM T g g' → P (.inl (some (iV ((grT Pn T nd gv fs 200).2.1 : Int)))) (S, g', u)) (h1 : (grT Pn T nd gv fs 200).1 = false → ∀ g', MS Pn T g' nd gv fs wn pr fi False gm → g' (2 * T + 269) 0 = 1 → FM T g g' → P (.inl (some (iV 0))) (S, g', u)) : ∀ (m p : Nat) (g' : aG), Pn - p < m → p ≤ Pn → FN T g g' → g' (2 * T + 269) 10 = 1 → g' (2 * T + 276) 0 = -2 → g' (2 * T + 277) 0 = -2 → (∀ r, r < p → g' (2 * T + 275) r = fs r) → aw l E M_explore (d + 3) 30 [some (rV (2 * T + 269)), some (iV (p : Int)), none, none, none, none, none] [] (S, g', u) P := by
  intro m
  have hp6 := wx_P hW
  have hT8 := wx_T hW
  induction m with
  | zero => intro p g' h; omega
  | succ m ih =>
    intro p g' hm hp hF a1 a2 a3 a4
    have hN' := NM_FN hS.1 hF
    have e1 := hN'.1
    have e2 : p < Pn → g' (2 * T + 272) p = fs p := fun h => hN'.2.2.2 p h
    refine aw_il1 M_explore_30 ?_
    refine aw_al0 M_explore_31 ?_
    refine aw_gi M_explore_32 (wx_o4 hW) ?_
    refine aw_cge M_explore_35 (fun h35 => ?_) (fun h35 => ?_)
    · skip
      refine aw_c M_explore_56 ?_
      refine aw_is1 M_explore_57 ?_
      have e : p = Pn := by omega
      subst e
      exact c_M_explore_lp hW hS hB h0 h1 202 0 g' none (by omega) (by omega) rfl ⟨fun n hn r hr => by
        have hn' : n < 1 := hn
        rw [show n = 0 by omega, show 6 * 0 + r = r by omega]; exact a4 r hr, a2, a3, fun n z1 z2 => by
        have hn' : n < 1 := z2
        omega, a1⟩ (fun n h => absurd h (Nat.not_lt_zero n)) hF
    · skip
      refine aw_al0 M_explore_38 ?_
      refine aw_gr (wx_r4_11 hW) M_explore_39 (wx_o4 hW) ?_
      refine aw_il1 M_explore_42 ?_
      refine aw_al0 M_explore_43 ?_
      refine aw_gr (wx_r4_5 hW) M_explore_44 (wx_o4 hW) ?_
      refine aw_il1 M_explore_47 ?_
      refine aw_ia M_explore_48 (wx_a_mstarts hW) (by first | rfl | assumption) (by omega) ?_
      rw [e2 (by omega)]
      refine aw_iast M_explore_49 (wx_a_mmarks hW) (by first | rfl | assumption) (by omega) ?_
      refine aw_ip1 M_explore_50 (by omega) ?_
      refine aw_go M_explore_53 ?_
      refine ih (p + 1) _ (by omega) (by omega) (hF.tr (fun x y z1 z2 z3 z4 z5 => upA_ne (fun z => z1 z.1))) ((upA_ne (by omega)).trans a1) ((upA_ne (by omega)).trans a2) ((upA_ne (by omega)).trans a3) (fun r hr => ?_)
      by_cases e : r = p
      · rw [e, upA_eq]
      · rw [upA_ne (by omega)]; exact a4 r (by omega)
theorem c_M_explore (hW : WX S Pn T) (hS : MS Pn T g nd gv fs wn pr fi tm gm) (hB : BX Pn T nd gv fs) (h0 : (grT Pn T nd gv fs 200).1 = true → ∀ g', MS Pn T g' nd gv fs wn pr fi True gm → g' (2 * T + 269) 0 = 0 → FM T g g' → P (.inl (some (iV ((grT Pn T nd gv fs 200).2.1 : Int)))) (S, g', u)) (h1 : (grT Pn T nd gv fs 200).1 = false → ∀ g', MS Pn T g' nd gv fs wn pr fi False gm → g' (2 * T + 269) 0 = 1 → FM T g g' → P (.inl (some (iV 0))) (S, g', u)) : Sp l E M_explore (d + 3) [rV (2 * T + 269)] (S, g, u) P := by
  show aw l E M_explore (d + 3) 0 [some (rV (2 * T + 269)), none, none, none, none, none, none] [] (S, g, u) P
  refine aw_al0 M_explore_0 ?_
  refine aw_c M_explore_1 ?_
  refine aw_pi M_explore_2 (wx_o4 hW) ?_
  refine aw_al0 M_explore_5 ?_
  refine aw_gr (wx_r4_12 hW) M_explore_6 (wx_o4 hW) ?_
  refine aw_c M_explore_9 ?_
  refine aw_c M_explore_10 ?_
  refine aw_iast M_explore_12 (wx_a_mparents hW) (show (0 : Int) = ((0 : Nat) : Int) from rfl) (by omega) ?_
  refine aw_al0 M_explore_13 ?_
  refine aw_gr (wx_r4_13 hW) M_explore_14 (wx_o4 hW) ?_
  refine aw_c M_explore_17 ?_
  refine aw_c M_explore_18 ?_
  refine aw_iast M_explore_20 (wx_a_mby hW) (show (0 : Int) = ((0 : Nat) : Int) from rfl) (by omega) ?_
  refine aw_al0 M_explore_21 ?_
  refine aw_gr (wx_r4_14 hW) M_explore_22 (wx_o4 hW) ?_
  refine aw_c M_explore_25 ?_
  refine aw_c M_explore_26 ?_
  refine aw_zast M_explore_27 (wx_a_mleaves hW) (show (0 : Int) = ((0 : Nat) : Int) from rfl) (by omega) (by first | exact Or.inl rfl | exact Or.inr rfl | assumption) ?_
  refine aw_c M_explore_28 ?_
  refine aw_is1 M_explore_29 ?_
  refine c_M_explore_in0 hW hS hB h0 h1 (Pn + 1) 0 _ (by omega) (by omega) (fun x y z1 z2 z3 z4 z5 => ?_) ?_ ?_ ?_ (fun r hr => absurd hr (Nat.not_lt_zero r))
  · rw [upA_ne (by omega), upA_ne (by omega), upA_ne (by omega), upA_ne (by omega)]
  · rw [upA_ne (by omega), upA_ne (by omega), upA_ne (by omega), upA_eq]
  · rw [upA_ne (by omega), upA_ne (by omega), upA_eq]
  · rw [upA_ne (by omega), upA_eq]
end ND
