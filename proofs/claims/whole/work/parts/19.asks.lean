section MX
variable {l : Launch} {E : aE} {d : Nat} {S : aS} {g : aG} {u : aU} {P : aP} {Pn T : Nat} {nd gv : Nat → Nat → Int} {fs : Nat → Int}
/-- k parents up -/
def upT (pa : Nat → Nat) : Nat → Nat → Nat
  | 0, n => n
  | k + 1, n => upT pa k (pa n)
/-- the first of s numbers from k on with c, or -2 -/
noncomputable def fnd (c : Nat → Prop) : Nat → Nat → Int
  | 0, _ => -2
  | s + 1, k => cI (c k) (k : Int) (fnd c s (k + 1))
noncomputable def mxT (τ : Tz) (p : Nat) : Nat → Int
  | 0 => 0
  | k + 1 => if mxT τ p k < τ.2.1 k p then τ.2.1 k p else mxT τ p k
theorem c_stepTo_lp {n i : Nat} {τ : Tz} (hW : WX S Pn T) (hw : WT Pn τ) (hR : RC Pn T g τ) (hi : i ≤ 1000) {v : Nat} (hP : P (.inl (some (iV (v : Int)))) (S, g, u)) : ∀ (r b : Nat), b < τ.1 → τ.2.2.2.2.1 b = i + 1 + r → τ.2.2.2.1 (upT τ.2.2.1 r b) = v → aw l E T_stepTo d 10 [some (rV (2 * T + 5)), some (iV (n : Int)), some (iV (i : Int)), some (iV (b : Int)), some (iV ((i + 1 + r : Nat) : Int)), none, none] [] (S, g, u) P := by
  intro r
  have ht2 := hw.2.1
  induction r with
  | zero =>
    intro b hb hd hv
    have hb0 : 0 < b := by
      rcases Nat.eq_zero_or_pos b with z | z
      · rw [z, hw.2.2.1] at hd; omega
      · exact z
    refine aw_il4 T_stepTo_10 ?_
    refine aw_il2 T_stepTo_12 ?_
    refine aw_c T_stepTo_13 ?_
    refine aw_add T_stepTo_14 (by constructor <;> omega) ?_
    refine aw_cle T_stepTo_15 (fun h15 => ?_) (fun h15 => ?_)
    · skip
      refine aw_al0 T_stepTo_31 ?_
      refine aw_gr (wx_r2_3 hW) T_stepTo_32 (wx_o2 hW) ?_
      refine aw_il3 T_stepTo_35 ?_
      refine aw_ia T_stepTo_36 (wx_a_ttra hW) (by first | rfl | assumption) (by omega) ?_
      refine aw_reti T_stepTo_37 (Or.inl rfl) ?_
      rw [(hR.2.2.2.1 b hb0 hb).2, show τ.2.2.2.1 b = v from hv]
      exact hP
    · skip
      omega
  | succ r ih =>
    intro b hb hd hv
    have hb0 : 0 < b := by
      rcases Nat.eq_zero_or_pos b with z | z
      · rw [z, hw.2.2.1] at hd; omega
      · exact z
    have hdb := WT_dp hw b hb
    obtain ⟨z1, z2⟩ := hw.2.2.2.1 b hb0 hb
    have e6 := (hR.2.2.2.1 b hb0 hb).1
    refine aw_il4 T_stepTo_10 ?_
    refine aw_il2 T_stepTo_12 ?_
    refine aw_c T_stepTo_13 ?_
    refine aw_add T_stepTo_14 (by constructor <;> omega) ?_
    refine aw_cle T_stepTo_15 (fun h15 => ?_) (fun h15 => ?_)
    · skip
      omega
    · skip
      refine aw_al0 T_stepTo_18 ?_
      refine aw_gr (wx_r2_2 hW) T_stepTo_19 (wx_o2 hW) ?_
      refine aw_il3 T_stepTo_22 ?_
      refine aw_ia T_stepTo_23 (wx_a_tpar hW) (by first | rfl | assumption) (by omega) ?_
      refine aw_is3 T_stepTo_24 ?_
      refine aw_in4 T_stepTo_25 (by constructor <;> omega) ?_
      refine aw_go T_stepTo_28 ?_
      rw [e6, show ((i + 1 + (r + 1) : Nat) : Int) + -1 = ((i + 1 + r : Nat) : Int) by omega]
      exact ih (τ.2.2.1 b) (by omega) (by omega) hv
theorem c_stepTo {n i : Nat} {τ : Tz} (hW : WX S Pn T) (hw : WT Pn τ) (hR : RC Pn T g τ) (hn : n < τ.1) (hi : i < τ.2.2.2.2.1 n) (hP : P (.inl (some (iV (τ.2.2.2.1 (upT τ.2.2.1 (τ.2.2.2.2.1 n - (i + 1)) n) : Int)))) (S, g, u)) : Sp l E T_stepTo d [rV (2 * T + 5), iV (n : Int), iV (i : Int)] (S, g, u) P := by
  have ht2 := hw.2.1
  have hdn := WT_dp hw n hn
  have e8 := hR.2.2.2.2.1 n hn
  show aw l E T_stepTo d 0 [some (rV (2 * T + 5)), some (iV (n : Int)), some (iV (i : Int)), none, none, none, none] [] (S, g, u) P
  refine aw_il1 T_stepTo_0 ?_
  refine aw_is3 T_stepTo_1 ?_
  refine aw_al0 T_stepTo_2 ?_
  refine aw_gr (wx_r2_4 hW) T_stepTo_3 (wx_o2 hW) ?_
  refine aw_il1 T_stepTo_6 ?_
  refine aw_ia T_stepTo_7 (wx_a_tdep hW) (by first | rfl | assumption) (by omega) ?_
  refine aw_is4 T_stepTo_8 ?_
  rw [e8]
  have hk := c_stepTo_lp (l := l) (E := E) (d := d) (u := u) (n := n) (i := i) hW hw hR (by omega) hP (τ.2.2.2.2.1 n - (i + 1)) n hn (by omega) rfl
  rw [show i + 1 + (τ.2.2.2.2.1 n - (i + 1)) = τ.2.2.2.2.1 n by omega] at hk
  exact hk
theorem c_greatest_lp {p : Nat} {τ : Tz} (hW : WX S Pn T) (hs : τ.1 ≤ 200) (hR : RC Pn T g τ) (hp : p < Pn) (hd : 1 ≤ d) (hP : P (.inl (some (iV (mxT τ p τ.1)))) (S, g, u)) : ∀ (m k : Nat), τ.1 - k < m → k ≤ τ.1 → aw l E T_greatest d 4 [some (rV (2 * T + 5)), some (iV (p : Int)), some (iV (mxT τ p k)), some (iV (k : Int)), none, none, none] [] (S, g, u) P := by
  intro m
  have hsz : g (2 * T + 5) 7 = (τ.1 : Int) := hR.2.2.2.2.2
  induction m with
  | zero => intro k h; omega
  | succ m ih =>
    intro k hm hk
    refine aw_il3 T_greatest_4 ?_
    refine aw_al0 T_greatest_5 ?_
    refine aw_gi T_greatest_6 (wx_o2 hW) ?_
    refine aw_cge T_greatest_9 (fun h9 => ?_) (fun h9 => ?_)
    · skip
      refine aw_il2 T_greatest_31 ?_
      refine aw_reti T_greatest_32 (Or.inl rfl) ?_
      have e : k = τ.1 := by omega
      subst e
      exact hP
    · skip
      refine aw_il2 T_greatest_12 ?_
      refine aw_al0 T_greatest_13 ?_
      refine aw_gr (wx_r2_1 hW) T_greatest_14 (wx_o2 hW) ?_
      refine aw_il3 T_greatest_17 ?_
      refine aw_aa T_greatest_18 (wx_a_tmarks hW) (by first | rfl | assumption) (by omega) (wx_rr_tmarks hW (by omega)) ?_
      refine aw_il1 T_greatest_19 ?_
      refine aw_ia T_greatest_20 (wx_ra_tmarks hW (by omega)) (by first | rfl | assumption) (by omega) ?_
      refine aw_max T_greatest_21 (by omega) rfl ?_
      rw [hR.1 k (by omega) p hp]
      refine aw_is2 T_greatest_24 ?_
      refine aw_ip3 T_greatest_25 (by omega) ?_
      refine aw_go T_greatest_28 ?_
      exact ih (k + 1) (by omega) (by omega)
theorem c_greatest {p : Nat} {τ : Tz} (hW : WX S Pn T) (hs : τ.1 ≤ 200) (hR : RC Pn T g τ) (hp : p < Pn) (hd : 1 ≤ d) (hP : P (.inl (some (iV (mxT τ p τ.1)))) (S, g, u)) : Sp l E T_greatest d [rV (2 * T + 5), iV (p : Int)] (S, g, u) P := by
  show aw l E T_greatest d 0 [some (rV (2 * T + 5)), some (iV (p : Int)), none, none, none, none, none] [] (S, g, u) P
  refine aw_c T_greatest_0 ?_
  refine aw_is2 T_greatest_1 ?_
  refine aw_c T_greatest_2 ?_
  refine aw_is3 T_greatest_3 ?_
  exact c_greatest_lp hW hs hR hp hd hP (τ.1 + 1) 0 (by omega) (by omega)
def cvT (P : Nat) (τ : Tz) (f : Nat → Int) : Prop := ∃ n, n < τ.1 ∧ bl P f (τ.2.1 n)
theorem c_reachesAbove_lp {i : Nat} {τ : Tz} {f : Nat → Int} (hW : WX S Pn T) (hs : τ.1 ≤ 200) (hR : RC Pn T g τ) (hi : hasA S i 0 Pn) (hf : ∀ p, p < Pn → g i p = f p) (hP : P (.inl (some (iV (tf (cvT Pn τ f))))) (S, g, u)) : ∀ (m k : Nat), τ.1 - k < m → k ≤ τ.1 → (∀ r, r < k → ¬ bl Pn f (τ.2.1 r)) → aw l E T_reachesAbove (d + 1) 2 [some (rV (2 * T + 5)), some (rV i), some (iV (k : Int)), none, none, none, none] [] (S, g, u) P := by
  intro m
  have hp6 := wx_P hW
  have hsz : g (2 * T + 5) 7 = (τ.1 : Int) := hR.2.2.2.2.2
  induction m with
  | zero => intro k h; omega
  | succ m ih =>
    intro k hm hk hno
    have hb : k < τ.1 → (bl Pn (g i) (g (2 * T + 12 + k)) ↔ bl Pn f (τ.2.1 k)) := fun h => blC hf (hR.1 k h)
    refine aw_il2 T_reachesAbove_2 ?_
    refine aw_al0 T_reachesAbove_3 ?_
    refine aw_gi T_reachesAbove_4 (wx_o2 hW) ?_
    refine aw_cge T_reachesAbove_7 (fun h7 => ?_) (fun h7 => ?_)
    · skip
      refine aw_c T_reachesAbove_31 ?_
      refine aw_reti T_reachesAbove_32 (Or.inr ⟨rfl, (by first | exact Or.inl rfl | exact Or.inr rfl | assumption)⟩) ?_
      rw [show tf (cvT Pn τ f) = 0 from cI_n (fun ⟨r, z1, z2⟩ => hno r (by omega) z2)] at hP
      exact hP
    · skip
      refine aw_al1 T_reachesAbove_10 ?_
      refine aw_al0 T_reachesAbove_11 ?_
      refine aw_gr (wx_r2_1 hW) T_reachesAbove_12 (wx_o2 hW) ?_
      refine aw_il2 T_reachesAbove_15 ?_
      refine aw_aa T_reachesAbove_16 (wx_a_tmarks hW) (by first | rfl | assumption) (by omega) (wx_rr_tmarks hW (by omega)) ?_
      refine aw_S2 T_reachesAbove_17 rfl rfl rfl rfl ?_
      refine c_isBelow hi (wx_ra_tmarks hW (by omega)) (by omega) ?_
      show aw _ _ _ _ _ _ _ _ _
      refine aw_zeq T_reachesAbove_20 (fun h20 => ?_) (fun h20 => ?_)
      · skip
        refine aw_ip2 T_reachesAbove_25 (by omega) ?_
        refine aw_go T_reachesAbove_28 ?_
        exact ih (k + 1) (by omega) (by omega) (fun r hr => by
          by_cases e : r = k
          · subst e; exact fun z => iz h20 ((hb (by omega)).mpr z)
          · exact hno r (by omega))
      · skip
        refine aw_c T_reachesAbove_23 ?_
        refine aw_reti T_reachesAbove_24 (Or.inr ⟨rfl, (by first | exact Or.inl rfl | exact Or.inr rfl | assumption)⟩) ?_
        rw [show tf (cvT Pn τ f) = 1 from cI_p ⟨k, by omega, (hb (by omega)).mp (nz h20)⟩] at hP
        exact hP
theorem c_reachesAbove {i : Nat} {τ : Tz} {f : Nat → Int} (hW : WX S Pn T) (hs : τ.1 ≤ 200) (hR : RC Pn T g τ) (hi : hasA S i 0 Pn) (hf : ∀ p, p < Pn → g i p = f p) (hP : P (.inl (some (iV (tf (cvT Pn τ f))))) (S, g, u)) : Sp l E T_reachesAbove (d + 1) [rV (2 * T + 5), rV i] (S, g, u) P := by
  show aw l E T_reachesAbove (d + 1) 0 [some (rV (2 * T + 5)), some (rV i), none, none, none, none, none] [] (S, g, u) P
  refine aw_c T_reachesAbove_0 ?_
  refine aw_is2 T_reachesAbove_1 ?_
  exact c_reachesAbove_lp hW hs hR hi hf hP (τ.1 + 1) 0 (by omega) (by omega) (fun r hr => absurd hr (Nat.not_lt_zero r))
theorem c_everEnables {t : Nat} {τ : Tz} (hW : WX S Pn T) (hN : NX Pn T g nd gv fs) (hs : τ.1 ≤ 200) (hR : RC Pn T g τ) (ht : t < T) (hP : P (.inl (some (iV (tf (cvT Pn τ (nd t)))))) (S, g, u)) : Sp l E T_everEnables (d + 2) [rV (2 * T + 5), iV (t : Int)] (S, g, u) P := by
  show aw l E T_everEnables (d + 2) 0 [some (rV (2 * T + 5)), some (iV (t : Int)), none, none, none, none, none] [] (S, g, u) P
  refine aw_al0 T_everEnables_0 ?_
  refine aw_al0 T_everEnables_1 ?_
  refine aw_gr (wx_r2_0 hW) T_everEnables_2 (wx_o2 hW) ?_
  refine aw_gr (wx_r1_2 hW) T_everEnables_5 (wx_o1 hW) ?_
  refine aw_il1 T_everEnables_8 ?_
  refine aw_aa T_everEnables_9 (wx_a_needs hW) (by first | rfl | assumption) (by omega) (wx_rr_needs hW (by omega)) ?_
  refine aw_V1 T_everEnables_10 rfl rfl rfl (wx_o2 hW) ?_
  refine c_reachesAbove hW hs hR (wx_ra_needs hW (by omega)) (fun p hp => (hN.2.2.1 t ht p hp).1) ?_
  show aw _ _ _ _ _ _ _ _ _
  refine aw_reti T_everEnables_13 (Or.inr ⟨rfl, (tf01 _)⟩) ?_
  exact hP
def suT (P T : Nat) (nd : Nat → Nat → Int) (τ : Tz) (n : Nat) : Prop := ∀ t, t < T → ¬ bl P (nd t) (τ.2.1 n)
theorem c_firstStuck_lp {τ : Tz} (hW : WX S Pn T) (hN : NX Pn T g nd gv fs) (hs : τ.1 ≤ 200) (hR : RC Pn T g τ) : ∀ (s k : Nat), k + s = τ.1 → P (.inl (some (iV (fnd (suT Pn T nd τ) s k)))) (S, g, u) → aw l E T_firstStuck (d + 3) 2 [some (rV (2 * T + 5)), some (iV (k : Int)), none, none, none, none, none] [] (S, g, u) P := by
  intro s
  have hp6 := wx_P hW
  have hsz : g (2 * T + 5) 7 = (τ.1 : Int) := hR.2.2.2.2.2
  induction s with
  | zero =>
    intro k hk hP
    refine aw_il1 T_firstStuck_2 ?_
    refine aw_al0 T_firstStuck_3 ?_
    refine aw_gi T_firstStuck_4 (wx_o2 hW) ?_
    refine aw_cge T_firstStuck_7 (fun h7 => ?_) (fun h7 => ?_)
    · skip
      refine aw_c T_firstStuck_34 ?_
      refine aw_reti T_firstStuck_36 (Or.inl rfl) ?_
      exact hP
    · skip
      omega
  | succ s ih =>
    intro k hk hP
    have hb : (∀ t, t < T → ¬ bl Pn (g (3 + t)) (g (2 * T + 12 + k))) ↔ suT Pn T nd τ k := forall_congr' fun t => ⟨fun h ht z => h ht ((blC (fun p hp => (hN.2.2.1 t ht p hp).1) (hR.1 k (by omega))).mpr z), fun h ht z => h ht ((blC (fun p hp => (hN.2.2.1 t ht p hp).1) (hR.1 k (by omega))).mp z)⟩
    refine aw_il1 T_firstStuck_2 ?_
    refine aw_al0 T_firstStuck_3 ?_
    refine aw_gi T_firstStuck_4 (wx_o2 hW) ?_
    refine aw_cge T_firstStuck_7 (fun h7 => ?_) (fun h7 => ?_)
    · skip
      omega
    · skip
      refine aw_al0 T_firstStuck_10 ?_
      refine aw_gr (wx_r2_0 hW) T_firstStuck_11 (wx_o2 hW) ?_
      refine aw_al0 T_firstStuck_14 ?_
      refine aw_gr (wx_r2_1 hW) T_firstStuck_15 (wx_o2 hW) ?_
      refine aw_il1 T_firstStuck_18 ?_
      refine aw_aa T_firstStuck_19 (wx_a_tmarks hW) (by first | rfl | assumption) (by omega) (wx_rr_tmarks hW (by omega)) ?_
      refine aw_V1 T_firstStuck_20 rfl rfl rfl (wx_o1 hW) ?_
      refine c_isStuck (d := d) hW (wx_ra_tmarks hW (by omega)) hN.2.1 ?_
      show aw _ _ _ _ _ _ _ _ _
      refine aw_zeq T_firstStuck_23 (fun h23 => ?_) (fun h23 => ?_)
      · skip
        refine aw_ip1 T_firstStuck_28 (by omega) ?_
        refine aw_go T_firstStuck_31 ?_
        refine ih (k + 1) (by omega) ?_
        rw [show fnd (suT Pn T nd τ) (s + 1) k = fnd (suT Pn T nd τ) s (k + 1) from cI_n (fun z => iz h23 (hb.mpr z))] at hP
        exact hP
      · skip
        refine aw_il1 T_firstStuck_26 ?_
        refine aw_reti T_firstStuck_27 (Or.inl rfl) ?_
        rw [show fnd (suT Pn T nd τ) (s + 1) k = (k : Int) from cI_p (hb.mp (nz h23))] at hP
        exact hP
theorem c_firstStuck {τ : Tz} (hW : WX S Pn T) (hN : NX Pn T g nd gv fs) (hs : τ.1 ≤ 200) (hR : RC Pn T g τ) (hP : P (.inl (some (iV (fnd (suT Pn T nd τ) τ.1 0)))) (S, g, u)) : Sp l E T_firstStuck (d + 3) [rV (2 * T + 5)] (S, g, u) P := by
  show aw l E T_firstStuck (d + 3) 0 [some (rV (2 * T + 5)), none, none, none, none, none, none] [] (S, g, u) P
  refine aw_c T_firstStuck_0 ?_
  refine aw_is1 T_firstStuck_1 ?_
  exact c_firstStuck_lp hW hN hs hR τ.1 0 (by omega) hP
end MX
