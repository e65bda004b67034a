section MU
variable {l : Launch} {E : aE} {d : Nat} {S : aS} {g : aG} {u : aU} {P : aP} {Pn T : Nat} {nd gv : Nat → Nat → Int} {fs : Nat → Int}
/-- the net's cells hold nd, gv, fs -/
def NX (Pn T : Nat) (g : aG) (nd gv : Nat → Nat → Int) (fs : Nat → Int) : Prop := g 1 0 = (Pn : Int) ∧ g 1 1 = (T : Int) ∧ (∀ t, t < T → ∀ p, p < Pn → g (3 + t) p = nd t p ∧ g (T + 4 + t) p = gv t p) ∧ ∀ p, p < Pn → g (2 * T + 4) p = fs p
def BX (Pn T : Nat) (nd gv : Nat → Nat → Int) (fs : Nat → Int) : Prop := (∀ t, t < T → ∀ p, p < Pn → 0 ≤ nd t p ∧ nd t p ≤ 9 ∧ 0 ≤ gv t p ∧ gv t p ≤ 9) ∧ ∀ p, p < Pn → 0 ≤ fs p ∧ fs p ≤ 100
theorem NX_lo {g' : aG} (h : NX Pn T g nd gv fs) (hT : 1 ≤ T) (hg : ∀ a b, a < 2 * T + 5 → g' a b = g a b) : NX Pn T g' nd gv fs := by
  obtain ⟨h1, h2, h3, h4⟩ := h
  refine ⟨(hg _ _ (by omega)).trans h1, (hg _ _ (by omega)).trans h2, fun t ht p hp => ?_, fun p hp => (hg _ _ (by omega)).trans (h4 p hp)⟩
  obtain ⟨z1, z2⟩ := h3 t ht p hp
  exact ⟨(hg _ _ (by omega)).trans z1, (hg _ _ (by omega)).trans z2⟩
/-- nothing but nodes has changed -/
def FT (T : Nat) (g g' : aG) : Prop := ∀ a b, (a < 2 * T + 5 ∨ (a = 2 * T + 5 ∧ b ≠ 7) ∨ a = 2 * T + 9 ∨ a = 2 * T + 10 ∨ 2 * T + 212 ≤ a) → g' a b = g a b
theorem FT.rf (T : Nat) (g : aG) : FT T g g := fun _ _ _ => rfl
theorem FT.tr {T : Nat} {g g' g'' : aG} (h : FT T g g') (h' : FT T g' g'') : FT T g g'' := fun a b z => (h' a b z).trans (h a b z)
theorem mvk_ne {g : aG} {fr to n v k a b : Nat} (h : a ≠ to) : mvk g fr to n v k a b = g a b := if_neg (fun z => h z.1)
theorem RC_add {G : aG} {τ : Tz} {n t : Nat} (hw : WT Pn τ) (hR : RC Pn T g τ) (hn : n < τ.1) (hN : NX Pn T g nd gv fs) (ht : t < T) (hs : τ.1 < 200)
    (a1 : ∀ a b, ¬ (a = 2 * T + 5 ∧ b = 7) → ¬ (a = 2 * T + 6 ∧ b = τ.1) → ¬ (a = 2 * T + 7 ∧ b = τ.1) → ¬ (a = 2 * T + 8 ∧ b = τ.1) → G a b = g a b) (a2 : G (2 * T + 5) 7 = (τ.1 : Int) + 1) (a3 : G (2 * T + 6) τ.1 = (n : Int)) (a4 : G (2 * T + 7) τ.1 = (t : Int)) (a5 : G (2 * T + 8) τ.1 = (τ.2.2.2.2.1 n : Int) + 1) :
    RCz Pn T (mvk G (2 * T + 12 + n) (2 * T + 12 + τ.1) (3 + t) (T + 4 + t) Pn) τ ((τ.1 : Int) + 1) ∧
    RC Pn T (rwG T (mvk G (2 * T + 12 + n) (2 * T + 12 + τ.1) (3 + t) (T + 4 + t) Pn) τ.1 (liH Pn τ.2.1 τ.2.2.1 (τ.2.2.2.2.1 n + 1) n (Pn + 1) (mvk G (2 * T + 12 + n) (2 * T + 12 + τ.1) (3 + t) (T + 4 + t) Pn (2 * T + 12 + τ.1)))) (addT τ n t (newT Pn nd gv τ n t)) ∧
    FT T g (rwG T (mvk G (2 * T + 12 + n) (2 * T + 12 + τ.1) (3 + t) (T + 4 + t) Pn) τ.1 (liH Pn τ.2.1 τ.2.2.1 (τ.2.2.2.2.1 n + 1) n (Pn + 1) (mvk G (2 * T + 12 + n) (2 * T + 12 + τ.1) (3 + t) (T + 4 + t) Pn (2 * T + 12 + τ.1)))) := by
  obtain ⟨r1, r2, r3, r4, r5, r6⟩ := hR
  have hw1 := hw.1
  have hrow : ∀ p, p < Pn → mvk G (2 * T + 12 + n) (2 * T + 12 + τ.1) (3 + t) (T + 4 + t) Pn (2 * T + 12 + τ.1) p = mv (τ.2.1 n p) (nd t p) (gv t p) := by
    intro p hp
    obtain ⟨z1, z2⟩ := hN.2.2.1 t ht p hp
    rw [show mvk G (2 * T + 12 + n) (2 * T + 12 + τ.1) (3 + t) (T + 4 + t) Pn (2 * T + 12 + τ.1) p = mv (G (2 * T + 12 + n) p) (G (3 + t) p) (G (T + 4 + t) p) from if_pos ⟨rfl, hp⟩,
      a1 (2 * T + 12 + n) p (by omega) (by omega) (by omega) (by omega), a1 (3 + t) p (by omega) (by omega) (by omega) (by omega), a1 (T + 4 + t) p (by omega) (by omega) (by omega) (by omega), r1 n hn p hp, z1, z2]
  have old : ∀ a b, a ≠ 2 * T + 12 + τ.1 → rwG T (mvk G (2 * T + 12 + n) (2 * T + 12 + τ.1) (3 + t) (T + 4 + t) Pn) τ.1 (liH Pn τ.2.1 τ.2.2.1 (τ.2.2.2.2.1 n + 1) n (Pn + 1) (mvk G (2 * T + 12 + n) (2 * T + 12 + τ.1) (3 + t) (T + 4 + t) Pn (2 * T + 12 + τ.1))) a b = G a b := fun a b h => by
    rw [rwG_ne h, mvk_ne h]
  refine ⟨⟨fun k hk p hp => ?_, ?_, ?_, fun k h0 hk => ?_, fun k hk => ?_, ?_⟩, ⟨fun k hk p hp => ?_, ?_, ?_, fun k h0 hk => ?_, fun k hk => ?_, ?_⟩, fun a b hab => ?_⟩
  · rw [mvk_ne (by omega), a1 _ _ (by omega) (by omega) (by omega) (by omega)]; exact r1 k hk p hp
  · rw [mvk_ne (by omega), a1 _ _ (by omega) (by omega) (by omega) (by omega)]; exact r2
  · rw [mvk_ne (by omega), a1 _ _ (by omega) (by omega) (by omega) (by omega)]; exact r3
  · rw [mvk_ne (by omega), mvk_ne (by omega), a1 _ _ (by omega) (by omega) (by omega) (by omega), a1 _ _ (by omega) (by omega) (by omega) (by omega)]; exact r4 k h0 hk
  · rw [mvk_ne (by omega), a1 _ _ (by omega) (by omega) (by omega) (by omega)]; exact r5 k hk
  · rw [mvk_ne (by omega)]; exact a2
  · have hk' : k < τ.1 + 1 := hk
    show _ = (if k = τ.1 then newT Pn nd gv τ n t else τ.2.1 k) p
    by_cases e : k = τ.1
    · rw [if_pos e, e, rwG_at]
      exact li_cong (Pn + 1) _ _ hrow p hp
    · rw [if_neg e, old _ _ (by omega), a1 _ _ (by omega) (by omega) (by omega) (by omega)]
      exact r1 k (by omega) p hp
  · rw [old _ _ (by omega), a1 _ _ (by omega) (by omega) (by omega) (by omega)]; exact r2
  · rw [old _ _ (by omega), a1 _ _ (by omega) (by omega) (by omega) (by omega)]; exact r3
  · have hk' : k < τ.1 + 1 := hk
    show _ = (((if k = τ.1 then n else τ.2.2.1 k : Nat)) : Int) ∧ _ = (((if k = τ.1 then t else τ.2.2.2.1 k : Nat)) : Int)
    rw [old _ _ (by omega), old _ _ (by omega)]
    by_cases e : k = τ.1
    · rw [if_pos e, if_pos e, e]; exact ⟨a3, a4⟩
    · rw [if_neg e, if_neg e, a1 _ _ (by omega) (by omega) (by omega) (by omega), a1 _ _ (by omega) (by omega) (by omega) (by omega)]
      exact r4 k h0 (by omega)
  · have hk' : k < τ.1 + 1 := hk
    show _ = (((if k = τ.1 then τ.2.2.2.2.1 n + 1 else τ.2.2.2.2.1 k : Nat)) : Int)
    rw [old _ _ (by omega)]
    by_cases e : k = τ.1
    · rw [if_pos e, e]; exact a5
    · rw [if_neg e, a1 _ _ (by omega) (by omega) (by omega) (by omega)]
      exact r5 k (by omega)
  · rw [old _ _ (by omega)]; exact a2
  · rw [old _ _ (by omega)]
    exact a1 _ _ (by omega) (by omega) (by omega) (by omega)
theorem c_addNode {n t : Nat} {τ : Tz} (hW : WX S Pn T) (hN : NX Pn T g nd gv fs) (hB : BX Pn T nd gv fs) (hw : WT Pn τ) (hR : RC Pn T g τ) (hn : n < τ.1) (hs : τ.1 < 200) (ht : t < T) (hP : ∀ g', RC Pn T g' (addT τ n t (newT Pn nd gv τ n t)) → FT T g g' → P (.inl none) (S, g', u)) : Sp l E T_addNode (d + 3) [rV (2 * T + 5), iV (n : Int), iV (t : Int)] (S, g, u) P := by
  have hp6 := wx_P hW
  have hT8 := wx_T hW
  have hsz : g (2 * T + 5) 7 = (τ.1 : Int) := hR.2.2.2.2.2
  have hdn := WT_dp hw n hn
  have e38 : (upA (upA (upA g (2 * T + 5) 7 (g (2 * T + 5) 7 + 1)) (2 * T + 6) τ.1 (n : Int)) (2 * T + 7) τ.1 (t : Int)) (2 * T + 8) n = (τ.2.2.2.2.1 n : Int) := by
    rw [← hR.2.2.2.2.1 n hn]; simp only [upA]; (repeat' split) <;> first | rfl | omega
  show aw l E T_addNode (d + 3) 0 [some (rV (2 * T + 5)), some (iV (n : Int)), some (iV (t : Int)), none, none, none, none] [] (S, g, u) P
  refine aw_al0 T_addNode_0 ?_
  refine aw_gi T_addNode_1 (wx_o2 hW) ?_
  refine aw_is3 T_addNode_4 ?_
  refine aw_al0 T_addNode_5 ?_
  refine aw_dup T_addNode_6 ?_
  refine aw_gi T_addNode_7 (wx_o2 hW) ?_
  refine aw_c T_addNode_10 ?_
  refine aw_add T_addNode_11 (by constructor <;> omega) ?_
  refine aw_pi T_addNode_12 (wx_o2 hW) ?_
  refine aw_al0 T_addNode_15 ?_
  refine aw_gr (wx_r2_2 hW) T_addNode_16 (wx_o2 hW) ?_
  refine aw_il3 T_addNode_19 ?_
  refine aw_il1 T_addNode_20 ?_
  refine aw_iast T_addNode_21 (wx_a_tpar hW) (by first | rfl | assumption) (by omega) ?_
  refine aw_al0 T_addNode_22 ?_
  refine aw_gr (wx_r2_3 hW) T_addNode_23 (wx_o2 hW) ?_
  refine aw_il3 T_addNode_26 ?_
  refine aw_il2 T_addNode_27 ?_
  refine aw_iast T_addNode_28 (wx_a_ttra hW) (by first | rfl | assumption) (by omega) ?_
  refine aw_al0 T_addNode_29 ?_
  refine aw_gr (wx_r2_4 hW) T_addNode_30 (wx_o2 hW) ?_
  refine aw_il3 T_addNode_33 ?_
  refine aw_al0 T_addNode_34 ?_
  refine aw_gr (wx_r2_4 hW) T_addNode_35 (wx_o2 hW) ?_
  refine aw_il1 T_addNode_38 ?_
  refine aw_ia T_addNode_39 (wx_a_tdep hW) (by first | rfl | assumption) (by omega) ?_
  refine aw_c T_addNode_40 ?_
  refine aw_add T_addNode_41 (by constructor <;> omega) ?_
  refine aw_iast T_addNode_42 (wx_a_tdep hW) (by first | rfl | assumption) (by omega) ?_
  have b1 : ∀ a b, ¬ (a = 2 * T + 5 ∧ b = 7) → ¬ (a = 2 * T + 6 ∧ b = τ.1) → ¬ (a = 2 * T + 7 ∧ b = τ.1) → ¬ (a = 2 * T + 8 ∧ b = τ.1) → (upA (upA (upA (upA g (2 * T + 5) 7 (g (2 * T + 5) 7 + 1)) (2 * T + 6) τ.1 (n : Int)) (2 * T + 7) τ.1 (t : Int)) (2 * T + 8) τ.1 ((upA (upA (upA g (2 * T + 5) 7 (g (2 * T + 5) 7 + 1)) (2 * T + 6) τ.1 (n : Int)) (2 * T + 7) τ.1 (t : Int)) (2 * T + 8) n + 1)) a b = g a b := by
    intro a b h1 h2 h3 h4
    simp only [upA]; (repeat' split) <;> first | rfl | omega
  have b2 : (upA (upA (upA (upA g (2 * T + 5) 7 (g (2 * T + 5) 7 + 1)) (2 * T + 6) τ.1 (n : Int)) (2 * T + 7) τ.1 (t : Int)) (2 * T + 8) τ.1 ((upA (upA (upA g (2 * T + 5) 7 (g (2 * T + 5) 7 + 1)) (2 * T + 6) τ.1 (n : Int)) (2 * T + 7) τ.1 (t : Int)) (2 * T + 8) n + 1)) (2 * T + 5) 7 = (τ.1 : Int) + 1 := by
    rw [upA_ne (by omega), upA_ne (by omega), upA_ne (by omega), upA_eq, hsz]
  have b3 : (upA (upA (upA (upA g (2 * T + 5) 7 (g (2 * T + 5) 7 + 1)) (2 * T + 6) τ.1 (n : Int)) (2 * T + 7) τ.1 (t : Int)) (2 * T + 8) τ.1 ((upA (upA (upA g (2 * T + 5) 7 (g (2 * T + 5) 7 + 1)) (2 * T + 6) τ.1 (n : Int)) (2 * T + 7) τ.1 (t : Int)) (2 * T + 8) n + 1)) (2 * T + 6) τ.1 = (n : Int) := by
    rw [upA_ne (by omega), upA_ne (by omega), upA_eq]
  have b4 : (upA (upA (upA (upA g (2 * T + 5) 7 (g (2 * T + 5) 7 + 1)) (2 * T + 6) τ.1 (n : Int)) (2 * T + 7) τ.1 (t : Int)) (2 * T + 8) τ.1 ((upA (upA (upA g (2 * T + 5) 7 (g (2 * T + 5) 7 + 1)) (2 * T + 6) τ.1 (n : Int)) (2 * T + 7) τ.1 (t : Int)) (2 * T + 8) n + 1)) (2 * T + 7) τ.1 = (t : Int) := by
    rw [upA_ne (by omega), upA_eq]
  have b5 : (upA (upA (upA (upA g (2 * T + 5) 7 (g (2 * T + 5) 7 + 1)) (2 * T + 6) τ.1 (n : Int)) (2 * T + 7) τ.1 (t : Int)) (2 * T + 8) τ.1 ((upA (upA (upA g (2 * T + 5) 7 (g (2 * T + 5) 7 + 1)) (2 * T + 6) τ.1 (n : Int)) (2 * T + 7) τ.1 (t : Int)) (2 * T + 8) n + 1)) (2 * T + 8) τ.1 = (τ.2.2.2.2.1 n : Int) + 1 := by
    rw [← e38]; exact upA_eq _ _ _ _
  generalize upA (upA (upA (upA g (2 * T + 5) 7 (g (2 * T + 5) 7 + 1)) (2 * T + 6) τ.1 (n : Int)) (2 * T + 7) τ.1 (t : Int)) (2 * T + 8) τ.1 ((upA (upA (upA g (2 * T + 5) 7 (g (2 * T + 5) 7 + 1)) (2 * T + 6) τ.1 (n : Int)) (2 * T + 7) τ.1 (t : Int)) (2 * T + 8) n + 1) = G at b1 b2 b3 b4 b5 ⊢
  obtain ⟨k1, k2, k3⟩ := RC_add hw hR hn hN ht hs b1 b2 b3 b4 b5
  have hbd : ∀ p, p < Pn → 0 ≤ G (2 * T + 12 + n) p ∧ G (2 * T + 12 + n) p ≤ 1000000000 := fun p hp => by
    rw [b1 _ _ (by omega) (by omega) (by omega) (by omega), hR.1 n hn p hp]
    have := hw.2.2.2.2 n hn p hp
    have := hw.2.1
    omega
  have hb2 : ∀ p, p < Pn → 0 ≤ G (3 + t) p ∧ G (3 + t) p ≤ 9 := fun p hp => by
    rw [b1 _ _ (by omega) (by omega) (by omega) (by omega), (hN.2.2.1 t ht p hp).1]
    have := hB.1 t ht p hp
    omega
  have hb3 : ∀ p, p < Pn → 0 ≤ G (T + 4 + t) p ∧ G (T + 4 + t) p ≤ 9 := fun p hp => by
    rw [b1 _ _ (by omega) (by omega) (by omega) (by omega), (hN.2.2.1 t ht p hp).2]
    have := hB.1 t ht p hp
    omega
  have h10 : G 1 0 = (Pn : Int) := (b1 _ _ (by omega) (by omega) (by omega) (by omega)).trans hN.1
  rw [hsz]
  refine aw_al0 T_addNode_43 ?_
  refine aw_gr (wx_r2_0 hW) T_addNode_44 (wx_o2 hW) ?_
  refine aw_al0 T_addNode_47 ?_
  refine aw_gr (wx_r2_1 hW) T_addNode_48 (wx_o2 hW) ?_
  refine aw_il1 T_addNode_51 ?_
  refine aw_aa T_addNode_52 (wx_a_tmarks hW) (by first | rfl | assumption) (by omega) (wx_rr_tmarks hW (by omega)) ?_
  refine aw_il2 T_addNode_53 ?_
  refine aw_al0 T_addNode_54 ?_
  refine aw_gr (wx_r2_1 hW) T_addNode_55 (wx_o2 hW) ?_
  refine aw_il3 T_addNode_58 ?_
  refine aw_aa T_addNode_59 (wx_a_tmarks hW) (by first | rfl | assumption) (by omega) (wx_rr_tmarks hW (by omega)) ?_
  refine aw_V3 T_addNode_60 rfl rfl rfl rfl rfl (wx_o1 hW) ?_
  refine c_move hW (wx_ra_tmarks hW (by omega)) (wx_ra_tmarks hW (by omega)) ht (by omega) h10 hbd hb2 hb3 ?_
  show aw _ _ _ _ _ _ _ _ _
  refine aw_al0 T_addNode_63 ?_
  refine aw_il3 T_addNode_64 ?_
  refine aw_V1 T_addNode_65 rfl rfl rfl (wx_o2 hW) ?_
  refine c_lift (D := τ.2.2.2.2.1 n + 1) (a0 := n) hW (by omega) hw k1 (Nat.le_refl _) (by rw [mvk_ne (by omega)]; exact h10) (by rw [mvk_ne (by omega)]; exact b5) (by omega) hn rfl (by rw [mvk_ne (by omega)]; exact b3) ?_
  show aw _ _ _ _ _ _ _ _ _
  refine aw_retv T_addNode_68 rfl ?_
  exact hP _ k2 k3
theorem c_branch_lp {n : Nat} {τ : Tz} (hW : WX S Pn T) (hN : NX Pn T g nd gv fs) (hB : BX Pn T nd gv fs) (hw : WT Pn τ) (hn : n < τ.1) (hP : ∀ g', RC Pn T g' (brT Pn nd gv τ n T).2 → FT T g g' → P (.inl (some (iV (tf ((brT Pn nd gv τ n T).1 = true))))) (S, g', u)) : ∀ (m t : Nat) (g' : aG), T - t < m → t ≤ T → (brT Pn nd gv τ n t).1 = true → RC Pn T g' (brT Pn nd gv τ n t).2 → FT T g g' → aw l E T_branch (d + 4) 2 [some (rV (2 * T + 5)), some (iV (n : Int)), some (iV (t : Int)), none, none, none, none] [] (S, g', u) P := by
  intro m
  have hp6 := wx_P hW
  have hT8 := wx_T hW
  induction m with
  | zero => intro t g' h; omega
  | succ m ih =>
    intro t g' hm ht hok hR hF
    have hN' : NX Pn T g' nd gv fs := NX_lo hN (by omega) (fun a b h => hF a b (Or.inl h))
    obtain ⟨hw', hle⟩ := WT_br (nd := nd) (gv := gv) hw hn t (fun k hk p hp => (hB.1 k (by omega) p hp).1) (fun k hk p hp => ⟨(hB.1 k (by omega) p hp).2.2.1, (hB.1 k (by omega) p hp).2.2.2⟩)
    have hn' : n < (brT Pn nd gv τ n t).2.1 := by omega
    have h200 := hw'.2.1
    have e11 : g' 1 1 = (T : Int) := hN'.2.1
    have hsz : g' (2 * T + 5) 7 = ((brT Pn nd gv τ n t).2.1 : Int) := hR.2.2.2.2.2
    have hbl : t < T → (bl Pn (g' (3 + t)) (g' (2 * T + 12 + n)) ↔ bl Pn (nd t) ((brT Pn nd gv τ n t).2.2.1 n)) := fun h => blC (fun p hp => (hN'.2.2.1 t h p hp).1) (hR.1 n hn')
    refine aw_il2 T_branch_2 ?_
    refine aw_al0 T_branch_3 ?_
    refine aw_gr (wx_r2_0 hW) T_branch_4 (wx_o2 hW) ?_
    refine aw_gi T_branch_7 (wx_o1 hW) ?_
    refine aw_cge T_branch_10 (fun h10 => ?_) (fun h10 => ?_)
    · skip
      refine aw_c T_branch_54 ?_
      refine aw_reti T_branch_55 (Or.inr ⟨rfl, (by first | exact Or.inl rfl | exact Or.inr rfl | assumption)⟩) ?_
      have e : t = T := by omega
      subst e
      have hk := hP g' hR hF
      rw [show tf ((brT Pn nd gv τ n t).1 = true) = 1 from cI_p hok] at hk
      exact hk
    · skip
      refine aw_al0 T_branch_13 ?_
      refine aw_gr (wx_r2_0 hW) T_branch_14 (wx_o2 hW) ?_
      refine aw_al0 T_branch_17 ?_
      refine aw_gr (wx_r2_1 hW) T_branch_18 (wx_o2 hW) ?_
      refine aw_il1 T_branch_21 ?_
      refine aw_aa T_branch_22 (wx_a_tmarks hW) (by first | rfl | assumption) (by omega) (wx_rr_tmarks hW (by omega)) ?_
      refine aw_il2 T_branch_23 ?_
      refine aw_V2 T_branch_24 rfl rfl rfl rfl (wx_o1 hW) ?_
      refine c_enables hW (wx_ra_tmarks hW (by omega)) (by omega) ?_
      show aw _ _ _ _ _ _ _ _ _
      refine aw_zeq T_branch_27 (fun h27 => ?_) (fun h27 => ?_)
      · skip
        refine aw_ip2 T_branch_48 (by omega) ?_
        refine aw_go T_branch_51 ?_
        have e : brT Pn nd gv τ n (t + 1) = brT Pn nd gv τ n t := cI_n (fun z => iz h27 ((hbl (by omega)).mpr z.2))
        exact ih (t + 1) g' (by omega) (by omega) (by rw [e]; exact hok) (by rw [e]; exact hR) hF
      · skip
        refine aw_al0 T_branch_30 ?_
        refine aw_gi T_branch_31 (wx_o2 hW) ?_
        refine aw_c T_branch_34 ?_
        refine aw_cne T_branch_37 (fun h37 => ?_) (fun h37 => ?_)
        · skip
          refine aw_al0 T_branch_42 ?_
          refine aw_il1 T_branch_43 ?_
          refine aw_il2 T_branch_44 ?_
          refine aw_V2 T_branch_45 rfl rfl rfl rfl (wx_o2 hW) ?_
          refine c_addNode hW hN' hB hw' hR hn' (by omega) (by omega) (fun g2 hR2 hF2 => ?_)
          show aw _ _ _ _ _ _ _ _ _
          refine aw_ip2 T_branch_48 (by omega) ?_
          refine aw_go T_branch_51 ?_
          have e : brT Pn nd gv τ n (t + 1) = (true, addT (brT Pn nd gv τ n t).2 n t (newT Pn nd gv (brT Pn nd gv τ n t).2 n t)) := (cI_p ⟨hok, (hbl (by omega)).mp (nz h27)⟩).trans (cI_n (by omega))
          refine ih (t + 1) g2 (by omega) (by omega) (by rw [e]) (by rw [e]; exact hR2) (hF.tr hF2)
        · skip
          refine aw_c T_branch_40 ?_
          refine aw_reti T_branch_41 (Or.inr ⟨rfl, (by first | exact Or.inl rfl | exact Or.inr rfl | assumption)⟩) ?_
          have e : brT Pn nd gv τ n (t + 1) = (false, (brT Pn nd gv τ n t).2) := (cI_p ⟨hok, (hbl (by omega)).mp (nz h27)⟩).trans (cI_p (by omega))
          have e2 : brT Pn nd gv τ n T = (false, (brT Pn nd gv τ n t).2) := by
            have := br_false (P := Pn) (nd := nd) (gv := gv) (τ := τ) (n := n) (k := t + 1) (by rw [e]) (T - (t + 1))
            rw [show t + 1 + (T - (t + 1)) = T by omega] at this
            rw [this, e]
          have hk := hP g' (by rw [e2]; exact hR) hF
          rw [show tf ((brT Pn nd gv τ n T).1 = true) = 0 from cI_n (by rw [e2]; exact fun z => by cases z)] at hk
          exact hk
theorem c_branch {n : Nat} {τ : Tz} (hW : WX S Pn T) (hN : NX Pn T g nd gv fs) (hB : BX Pn T nd gv fs) (hw : WT Pn τ) (hR : RC Pn T g τ) (hn : n < τ.1) (hP : ∀ g', RC Pn T g' (brT Pn nd gv τ n T).2 → FT T g g' → P (.inl (some (iV (tf ((brT Pn nd gv τ n T).1 = true))))) (S, g', u)) : Sp l E T_branch (d + 4) [rV (2 * T + 5), iV (n : Int)] (S, g, u) P := by
  show aw l E T_branch (d + 4) 0 [some (rV (2 * T + 5)), some (iV (n : Int)), none, none, none, none, none] [] (S, g, u) P
  refine aw_c T_branch_0 ?_
  refine aw_is2 T_branch_1 ?_
  exact c_branch_lp hW hN hB hw hn hP (T + 1) 0 g (by omega) (by omega) rfl hR (FT.rf T g)
end MU
