section MT
variable {l : Launch} {E : aE} {d : Nat} {S : aS} {g : aG} {u : aU} {P : aP} {Pn T : Nat}
noncomputable def loG (Pn : Nat) (g : aG) (i j : Nat) : aG := fun a b => if a = j then lo Pn (g i) (g j) b else g a b
noncomputable def lok (g : aG) (i j k : Nat) : aG := fun a b => cI (a = j ∧ b < k ∧ g j b ≠ 1000000000 ∧ g i b < g j b) 1000000000 (g a b)
theorem lok_0 (g : aG) (i j : Nat) : lok g i j 0 = g := by
  funext a b
  exact cI_n (fun z => absurd z.2.1 (Nat.not_lt_zero b))
theorem lok_s {g : aG} {i j k : Nat} (h : g j k ≠ 1000000000 ∧ g i k < g j k) : upA (lok g i j k) j k 1000000000 = lok g i j (k + 1) := by
  funext a b
  unfold upA
  by_cases hc : a = j ∧ b = k
  · obtain ⟨rfl, rfl⟩ := hc
    rw [if_pos ⟨rfl, rfl⟩]
    exact (cI_p ⟨rfl, by omega, h⟩).symm
  · rw [if_neg hc]
    unfold lok
    have e : (a = j ∧ b < k ∧ g j b ≠ 1000000000 ∧ g i b < g j b) ↔ (a = j ∧ b < k + 1 ∧ g j b ≠ 1000000000 ∧ g i b < g j b) := by
      constructor
      · rintro ⟨h1, h2, h3⟩; exact ⟨h1, by omega, h3⟩
      · rintro ⟨h1, h2, h3⟩; exact ⟨h1, by have : b ≠ k := fun e => hc ⟨h1, e⟩; omega, h3⟩
    rw [propext e]
theorem lok_n {g : aG} {i j k : Nat} (h : ¬ (g j k ≠ 1000000000 ∧ g i k < g j k)) : lok g i j (k + 1) = lok g i j k := by
  funext a b
  unfold lok
  have e : (a = j ∧ b < k + 1 ∧ g j b ≠ 1000000000 ∧ g i b < g j b) ↔ (a = j ∧ b < k ∧ g j b ≠ 1000000000 ∧ g i b < g j b) := by
    constructor
    · rintro ⟨h1, h2, h3⟩
      exact ⟨h1, by have : b ≠ k := fun e => h (by rw [← e]; exact h3); omega, h3⟩
    · rintro ⟨h1, h2, h3⟩; exact ⟨h1, by omega, h3⟩
  rw [propext e]
theorem lok_end {g : aG} {i j : Nat} (hb : bl Pn (g i) (g j)) : lok g i j Pn = loG Pn g i j := by
  funext a b
  unfold lok loG lo
  by_cases ha : a = j
  · subst ha
    rw [if_pos rfl]
    have e : (a = a ∧ b < Pn ∧ g a b ≠ 1000000000 ∧ g i b < g a b) ↔ (b < Pn ∧ bl Pn (g i) (g a) ∧ g a b ≠ 1000000000 ∧ g i b < g a b) := ⟨fun z => ⟨z.2.1, hb, z.2.2⟩, fun z => ⟨rfl, z.1, z.2.2⟩⟩
    rw [propext e]
  · rw [if_neg ha]
    exact cI_n (fun z => ha z.1)
theorem loG_n {g : aG} {i j : Nat} (hb : ¬ bl Pn (g i) (g j)) : loG Pn g i j = g := by
  funext a b
  unfold loG
  split
  · next h => rw [h]; exact cI_n (fun z => hb z.2.1)
  · rfl
theorem flg_n {g : aG} {i j p : Nat} (h : ¬ (g j p ≠ 1000000000 ∧ g i p < g j p)) : (∃ r, r < p + 1 ∧ g j r ≠ 1000000000 ∧ g i r < g j r) ↔ (∃ r, r < p ∧ g j r ≠ 1000000000 ∧ g i r < g j r) := by
  constructor
  · rintro ⟨r, z1, z2⟩
    exact ⟨r, by have : r ≠ p := fun e => h (by rw [← e]; exact z2)
                 omega, z2⟩
  · rintro ⟨r, z1, z2⟩
    exact ⟨r, by omega, z2⟩
theorem c_liftOver_lp {i j : Nat} (hW : WX S Pn T) (hi : hasA S i 0 Pn) (hj : hasA S j 0 Pn) (hij : i ≠ j) (hj2 : 2 * T + 12 ≤ j) (h10 : g 1 0 = (Pn : Int)) (hbl : bl Pn (g i) (g j)) (hP : P (.inl (some (iV (tf (fl Pn (g i) (g j)))))) (S, loG Pn g i j, u)) : ∀ (m p : Nat), Pn - p < m → p ≤ Pn → aw l E T_liftOver (d + 1) 15 [some (rV (2 * T + 5)), some (rV i), some (rV j), some (iV (tf (∃ r, r < p ∧ g j r ≠ 1000000000 ∧ g i r < g j r))), some (iV (p : Int)), none, none] [] (S, lok g i j p, u) P := by
  intro m
  have hp6 := wx_P hW
  induction m with
  | zero => intro p h; omega
  | succ m ih =>
    intro p hm hp
    have e0 : lok g i j p 1 0 = (Pn : Int) := (cI_n (fun z => by omega)).trans h10
    have e1 : lok g i j p j p = g j p := cI_n (fun z => absurd z.2.1 (Nat.lt_irrefl p))
    have e2 : lok g i j p i p = g i p := cI_n (fun z => absurd z.2.1 (Nat.lt_irrefl p))
    refine aw_il4 T_liftOver_15 ?_
    refine aw_al0 T_liftOver_17 ?_
    refine aw_gr (wx_r2_0 hW) T_liftOver_18 (wx_o2 hW) ?_
    refine aw_gi T_liftOver_21 (wx_o1 hW) ?_
    refine aw_cge T_liftOver_24 (fun h24 => ?_) (fun h24 => ?_)
    · skip
      refine aw_il3 T_liftOver_61 ?_
      refine aw_reti T_liftOver_62 (Or.inr ⟨rfl, (tf01 _)⟩) ?_
      have e : p = Pn := by omega
      subst e
      rw [← lok_end hbl, tfE (show fl p (g i) (g j) ↔ ∃ r, r < p ∧ g j r ≠ 1000000000 ∧ g i r < g j r from ⟨fun ⟨r, z1, z2, z3⟩ => ⟨r, z1, z3⟩, fun ⟨r, z1, z3⟩ => ⟨r, z1, hbl, z3⟩⟩)] at hP
      exact hP
    · skip
      refine aw_al2 T_liftOver_27 ?_
      refine aw_il4 T_liftOver_28 ?_
      refine aw_ia T_liftOver_30 hj (by first | rfl | assumption) (by omega) ?_
      refine aw_c T_liftOver_31 ?_
      refine aw_ceq T_liftOver_33 (fun h33 => ?_) (fun h33 => ?_)
      · skip
        refine aw_ip4 T_liftOver_55 (by omega) ?_
        refine aw_go T_liftOver_58 ?_
        have hno : ¬ (g j p ≠ 1000000000 ∧ g i p < g j p) := by omega
        have hk := ih (p + 1) (by omega) (by omega)
        rw [lok_n hno, tfE (flg_n hno)] at hk
        exact hk
      · skip
        refine aw_al1 T_liftOver_36 ?_
        refine aw_il4 T_liftOver_37 ?_
        refine aw_ia T_liftOver_39 hi (by first | rfl | assumption) (by omega) ?_
        refine aw_al2 T_liftOver_40 ?_
        refine aw_il4 T_liftOver_41 ?_
        refine aw_ia T_liftOver_43 hj (by first | rfl | assumption) (by omega) ?_
        refine aw_cge T_liftOver_44 (fun h44 => ?_) (fun h44 => ?_)
        · skip
          refine aw_ip4 T_liftOver_55 (by omega) ?_
          refine aw_go T_liftOver_58 ?_
          have hno : ¬ (g j p ≠ 1000000000 ∧ g i p < g j p) := by omega
          have hk := ih (p + 1) (by omega) (by omega)
          rw [lok_n hno, tfE (flg_n hno)] at hk
          exact hk
        · skip
          refine aw_al2 T_liftOver_47 ?_
          refine aw_il4 T_liftOver_48 ?_
          refine aw_c T_liftOver_50 ?_
          refine aw_iast T_liftOver_52 hj (by first | rfl | assumption) (by omega) ?_
          refine aw_c T_liftOver_53 ?_
          refine aw_is3 T_liftOver_54 ?_
          refine aw_ip4 T_liftOver_55 (by omega) ?_
          refine aw_go T_liftOver_58 ?_
          have hyes : g j p ≠ 1000000000 ∧ g i p < g j p := by omega
          have hk := ih (p + 1) (by omega) (by omega)
          rw [← lok_s hyes, show tf (∃ r, r < p + 1 ∧ g j r ≠ 1000000000 ∧ g i r < g j r) = 1 from cI_p ⟨p, by omega, hyes⟩] at hk
          exact hk
theorem c_liftOver {i j : Nat} (hW : WX S Pn T) (hi : hasA S i 0 Pn) (hj : hasA S j 0 Pn) (hij : i ≠ j) (hj2 : 2 * T + 12 ≤ j) (h10 : g 1 0 = (Pn : Int)) (hP : P (.inl (some (iV (tf (fl Pn (g i) (g j)))))) (S, loG Pn g i j, u)) : Sp l E T_liftOver (d + 1) [rV (2 * T + 5), rV i, rV j] (S, g, u) P := by
  have hp6 := wx_P hW
  show aw l E T_liftOver (d + 1) 0 [some (rV (2 * T + 5)), some (rV i), some (rV j), none, none, none, none] [] (S, g, u) P
  refine aw_al1 T_liftOver_0 ?_
  refine aw_al2 T_liftOver_1 ?_
  refine aw_S2 T_liftOver_2 rfl rfl rfl rfl ?_
  refine c_isBelow hi hj (by omega) ?_
  show aw _ _ _ _ _ _ _ _ _
  refine aw_zne T_liftOver_5 (fun h5 => ?_) (fun h5 => ?_)
  · skip
    refine aw_c T_liftOver_10 ?_
    refine aw_is3 T_liftOver_11 ?_
    refine aw_c T_liftOver_12 ?_
    refine aw_is4 T_liftOver_13 ?_
    have hk := c_liftOver_lp (l := l) (E := E) (d := d) (u := u) hW hi hj hij hj2 h10 (nz h5) hP (Pn + 1) 0 (by omega) (by omega)
    rw [lok_0, show tf (∃ r, r < 0 ∧ g j r ≠ 1000000000 ∧ g i r < g j r) = 0 from cI_n (fun ⟨r, z, _⟩ => absurd z (Nat.not_lt_zero r))] at hk
    exact hk
  · skip
    refine aw_c T_liftOver_8 ?_
    refine aw_reti T_liftOver_9 (Or.inr ⟨rfl, (by first | exact Or.inl rfl | exact Or.inr rfl | assumption)⟩) ?_
    rw [loG_n (iz h5), show tf (fl Pn (g i) (g j)) = 0 from cI_n (fun ⟨r, _, z, _⟩ => iz h5 z)] at hP
    exact hP
/-- the class's tree cells hold τ -/
def RCz (Pn T : Nat) (g : aG) (τ : Tz) (z : Int) : Prop := (∀ n, n < τ.1 → ∀ p, p < Pn → g (2 * T + 12 + n) p = τ.2.1 n p) ∧ g (2 * T + 6) 0 = -2 ∧ g (2 * T + 7) 0 = -2 ∧ (∀ n, 0 < n → n < τ.1 → g (2 * T + 6) n = (τ.2.2.1 n : Int) ∧ g (2 * T + 7) n = (τ.2.2.2.1 n : Int)) ∧ (∀ n, n < τ.1 → g (2 * T + 8) n = (τ.2.2.2.2.1 n : Int)) ∧ g (2 * T + 5) 7 = z
abbrev RC (Pn T : Nat) (g : aG) (τ : Tz) : Prop := RCz Pn T g τ (τ.1 : Int)
def rwG (T : Nat) (g : aG) (v : Nat) (h : Nat → Int) : aG := fun a b => if a = 2 * T + 12 + v then h b else g a b
theorem rwG_at (T : Nat) (g : aG) (v : Nat) (h : Nat → Int) : rwG T g v h (2 * T + 12 + v) = h := by funext b; exact if_pos rfl
theorem rwG_ne {T : Nat} {g : aG} {v a : Nat} {h : Nat → Int} (ha : a ≠ 2 * T + 12 + v) : rwG T g v h a = g a := by funext b; exact if_neg ha
theorem rwG_lo {T : Nat} {g : aG} {v a : Nat} {h : Nat → Int} (ha : a ≠ v) : loG Pn (rwG T g v h) (2 * T + 12 + a) (2 * T + 12 + v) = rwG T g v (lo Pn (g (2 * T + 12 + a)) h) := by
  funext c b
  unfold loG
  rw [rwG_at, rwG_ne (show 2 * T + 12 + a ≠ 2 * T + 12 + v by omega)]
  by_cases hc : c = 2 * T + 12 + v
  · rw [if_pos hc, hc, rwG_at]
  · rw [if_neg hc, rwG_ne hc, rwG_ne hc]
theorem rwG_self (T : Nat) (g : aG) (v : Nat) : rwG T g v (g (2 * T + 12 + v)) = g := by
  funext a b
  unfold rwG
  split
  · next h => rw [h]
  · rfl
theorem c_lift_in {v D rd : Nat} {τ : Tz} {zz : Int} (hW : WX S Pn T) (hv : v < 200) (hw : WT Pn τ) (hR : RCz Pn T g τ zz) (hv2 : τ.1 ≤ v) (h10 : g 1 0 = (Pn : Int)) (h8 : g (2 * T + 8) v = (D : Int)) (hD : D ≤ 1000) : ∀ (r a s : Nat) (h : Nat → Int) (F : Prop) (x : Int), s + r = D → (0 < r → x = (a : Int) ∧ a < τ.1 ∧ τ.2.2.2.2.1 a + 1 = r) →
    (∀ x4 x5 : Option aA, aw l E T_lift (d + 2) 78 [some (rV (2 * T + 5)), some (iV (v : Int)), some (iV (tf (F ∨ rnF Pn τ.2.1 τ.2.2.1 r a h))), some (iV (rd : Int)), x4, x5, none] [] (S, rwG T g v (rnH Pn τ.2.1 τ.2.2.1 r a h), u) P) →
    aw l E T_lift (d + 2) 32 [some (rV (2 * T + 5)), some (iV (v : Int)), some (iV (tf F)), some (iV (rd : Int)), some (iV x), some (iV (s : Int)), none] [] (S, rwG T g v h, u) P := by
  intro r
  have hp6 := wx_P hW
  have ht2 := hw.2.1
  induction r with
  | zero =>
    intro a s h F x hs hx hK
    have e8 : rwG T g v h (2 * T + 8) v = (D : Int) := by rw [rwG_ne (by omega)]; exact h8
    refine aw_il5 T_lift_32 ?_
    refine aw_al0 T_lift_34 ?_
    refine aw_gr (wx_r2_4 hW) T_lift_35 (wx_o2 hW) ?_
    refine aw_il1 T_lift_38 ?_
    refine aw_ia T_lift_39 (wx_a_tdep hW) (by first | rfl | assumption) (by omega) ?_
    refine aw_cge T_lift_40 (fun h40 => ?_) (fun h40 => ?_)
    · skip
      have hk := hK (some (iV x)) (some (iV (s : Int)))
      rw [tfE (show (F ∨ rnF Pn τ.2.1 τ.2.2.1 0 a h) ↔ F from ⟨fun z => z.elim id (fun f => f.elim), Or.inl⟩)] at hk
      exact hk
    · skip
      omega
  | succ r ih =>
    intro a s h F x hs hx hK
    obtain ⟨rfl, ha, hda⟩ := hx (by omega)
    have e8 : rwG T g v h (2 * T + 8) v = (D : Int) := by rw [rwG_ne (by omega)]; exact h8
    have e10 : rwG T g v h 1 0 = (Pn : Int) := by rw [rwG_ne (by omega)]; exact h10
    refine aw_il5 T_lift_32 ?_
    refine aw_al0 T_lift_34 ?_
    refine aw_gr (wx_r2_4 hW) T_lift_35 (wx_o2 hW) ?_
    refine aw_il1 T_lift_38 ?_
    refine aw_ia T_lift_39 (wx_a_tdep hW) (by first | rfl | assumption) (by omega) ?_
    refine aw_cge T_lift_40 (fun h40 => ?_) (fun h40 => ?_)
    · skip
      omega
    · skip
      refine aw_il2 T_lift_43 ?_
      refine aw_al0 T_lift_44 ?_
      refine aw_al0 T_lift_45 ?_
      refine aw_gr (wx_r2_1 hW) T_lift_46 (wx_o2 hW) ?_
      refine aw_il4 T_lift_49 ?_
      refine aw_aa T_lift_51 (wx_a_tmarks hW) (by first | rfl | assumption) (by omega) (wx_rr_tmarks hW (by omega)) ?_
      refine aw_al0 T_lift_52 ?_
      refine aw_gr (wx_r2_1 hW) T_lift_53 (wx_o2 hW) ?_
      refine aw_il1 T_lift_56 ?_
      refine aw_aa T_lift_57 (wx_a_tmarks hW) (by first | rfl | assumption) (by omega) (wx_rr_tmarks hW (by omega)) ?_
      refine aw_V2 T_lift_58 rfl rfl rfl rfl (wx_o2 hW) ?_
      refine c_liftOver hW (wx_ra_tmarks hW (by omega)) (wx_ra_tmarks hW (by omega)) (by omega) (by omega) e10 ?_
      show aw _ _ _ _ _ _ _ _ _
      rw [rwG_lo (by omega : a ≠ v), loC h (fun p hp => hR.1 a ha p hp), rwG_at, rwG_ne (by omega : 2 * T + 12 + a ≠ 2 * T + 12 + v), tfE (flC h (fun p hp => hR.1 a ha p hp))]
      refine aw_ior T_lift_61 (ok_tf _) tfor ?_
      refine aw_is2 T_lift_62 ?_
      refine aw_al0 T_lift_63 ?_
      refine aw_gr (wx_r2_2 hW) T_lift_64 (wx_o2 hW) ?_
      refine aw_il4 T_lift_67 ?_
      refine aw_ia T_lift_69 (wx_a_tpar hW) (by first | rfl | assumption) (by omega) ?_
      refine aw_is4 T_lift_70 ?_
      refine aw_ip5 T_lift_72 (by omega) ?_
      refine aw_go T_lift_75 ?_
      refine ih (τ.2.2.1 a) (s + 1) (lo Pn (τ.2.1 a) h) (F ∨ fl Pn (τ.2.1 a) h) _ (by omega) (fun hr => ?_) (fun x4 x5 => ?_)
      · have ha0 : 0 < a := by
          rcases Nat.eq_zero_or_pos a with z | z
          · rw [z, hw.2.2.1] at hda; omega
          · exact z
        obtain ⟨z1, z2⟩ := hw.2.2.2.1 a ha0 ha
        rw [rwG_ne (by omega)]
        exact ⟨(hR.2.2.2.1 a ha0 ha).1, by omega, by omega⟩
      · have hk := hK x4 x5
        rw [tfE (show (F ∨ rnF Pn τ.2.1 τ.2.2.1 (r + 1) a h) ↔ ((F ∨ fl Pn (τ.2.1 a) h) ∨ rnF Pn τ.2.1 τ.2.2.1 r (τ.2.2.1 a) (lo Pn (τ.2.1 a) h)) from or_assoc.symm)] at hk
        exact hk
theorem c_lift_ex {v rd : Nat} {h : Nat → Int} {x4 x5 : Option aA} (hP : P (.inl none) (S, rwG T g v h, u)) : aw l E T_lift (d + 2) 4 [some (rV (2 * T + 5)), some (iV (v : Int)), some (iV 0), some (iV (rd : Int)), x4, x5, none] [] (S, rwG T g v h, u) P := by
  refine aw_il2 T_lift_4 ?_
  refine aw_zeq T_lift_5 (fun h5 => ?_) (fun h5 => ?_)
  · skip
    refine aw_retv T_lift_84 rfl ?_
    exact hP
  · skip
    omega
theorem c_lift_out {v D a0 : Nat} {τ : Tz} {zz : Int} (hW : WX S Pn T) (hv : v < 200) (hw : WT Pn τ) (hR : RCz Pn T g τ zz) (hv2 : τ.1 ≤ v) (h10 : g 1 0 = (Pn : Int)) (h8 : g (2 * T + 8) v = (D : Int)) (hD : D ≤ 1000) (ha0 : a0 < τ.1) (hDa : τ.2.2.2.2.1 a0 + 1 = D) (h6 : g (2 * T + 6) v = (a0 : Int)) : ∀ (f : Nat) (h : Nat → Int) (rd : Nat), rd + f = Pn + 1 → P (.inl none) (S, rwG T g v (liH Pn τ.2.1 τ.2.2.1 D a0 f h), u) → ∀ x4 x5 : Option aA, aw l E T_lift (d + 2) 4 [some (rV (2 * T + 5)), some (iV (v : Int)), some (iV 1), some (iV (rd : Int)), x4, x5, none] [] (S, rwG T g v h, u) P := by
  intro f
  have hp6 := wx_P hW
  induction f with
  | zero =>
    intro h rd hr hP x4 x5
    have e10 : rwG T g v h 1 0 = (Pn : Int) := by rw [rwG_ne (by omega)]; exact h10
    refine aw_il2 T_lift_4 ?_
    refine aw_zeq T_lift_5 (fun h5 => ?_) (fun h5 => ?_)
    · skip
      refine aw_retv T_lift_84 rfl ?_
      omega
    · skip
      refine aw_il3 T_lift_8 ?_
      refine aw_al0 T_lift_9 ?_
      refine aw_gr (wx_r2_0 hW) T_lift_10 (wx_o2 hW) ?_
      refine aw_gi T_lift_13 (wx_o1 hW) ?_
      refine aw_cgt T_lift_16 (fun h16 => ?_) (fun h16 => ?_)
      · skip
        refine aw_retv T_lift_84 rfl ?_
        exact hP
      · skip
        omega
  | succ f ih =>
    intro h rd hr hP x4 x5
    have e10 : rwG T g v h 1 0 = (Pn : Int) := by rw [rwG_ne (by omega)]; exact h10
    have e6 : rwG T g v h (2 * T + 6) v = (a0 : Int) := by rw [rwG_ne (by omega)]; exact h6
    refine aw_il2 T_lift_4 ?_
    refine aw_zeq T_lift_5 (fun h5 => ?_) (fun h5 => ?_)
    · skip
      refine aw_retv T_lift_84 rfl ?_
      omega
    · skip
      refine aw_il3 T_lift_8 ?_
      refine aw_al0 T_lift_9 ?_
      refine aw_gr (wx_r2_0 hW) T_lift_10 (wx_o2 hW) ?_
      refine aw_gi T_lift_13 (wx_o1 hW) ?_
      refine aw_cgt T_lift_16 (fun h16 => ?_) (fun h16 => ?_)
      · skip
        refine aw_retv T_lift_84 rfl ?_
        omega
      · skip
        refine aw_c T_lift_19 ?_
        refine aw_is2 T_lift_20 ?_
        refine aw_al0 T_lift_21 ?_
        refine aw_gr (wx_r2_2 hW) T_lift_22 (wx_o2 hW) ?_
        refine aw_il1 T_lift_25 ?_
        refine aw_ia T_lift_26 (wx_a_tpar hW) (by first | rfl | assumption) (by omega) ?_
        refine aw_is4 T_lift_27 ?_
        refine aw_c T_lift_29 ?_
        refine aw_is5 T_lift_30 ?_
        have hk := c_lift_in (l := l) (E := E) (d := d) (u := u) (P := P) (rd := rd) hW hv hw hR hv2 h10 h8 hD D a0 0 h False (rwG T g v h (2 * T + 6) v) (by omega) (fun _ => ⟨e6, ha0, hDa⟩) ?_
        · rw [show tf False = 0 from cI_n id] at hk
          exact hk
        · intro x4 x5
          refine aw_ip3 T_lift_78 (by omega) ?_
          refine aw_go T_lift_81 ?_
          by_cases hF : rnF Pn τ.2.1 τ.2.2.1 D a0 h
          · rw [show tf (False ∨ rnF Pn τ.2.1 τ.2.2.1 D a0 h) = 1 from cI_p (Or.inr hF)]
            refine ih _ (rd + 1) (by omega) ?_ x4 x5
            rw [show liH Pn τ.2.1 τ.2.2.1 D a0 (f + 1) h = liH Pn τ.2.1 τ.2.2.1 D a0 f (rnH Pn τ.2.1 τ.2.2.1 D a0 h) from cI_p hF] at hP
            exact hP
          · rw [show tf (False ∨ rnF Pn τ.2.1 τ.2.2.1 D a0 h) = 0 from cI_n (fun z => z.elim id hF)]
            rw [show liH Pn τ.2.1 τ.2.2.1 D a0 (f + 1) h = rnH Pn τ.2.1 τ.2.2.1 D a0 h from cI_n hF] at hP
            exact c_lift_ex hP
theorem c_lift {v D a0 : Nat} {τ : Tz} {zz : Int} (hW : WX S Pn T) (hv : v < 200) (hw : WT Pn τ) (hR : RCz Pn T g τ zz) (hv2 : τ.1 ≤ v) (h10 : g 1 0 = (Pn : Int)) (h8 : g (2 * T + 8) v = (D : Int)) (hD : D ≤ 1000) (ha0 : a0 < τ.1) (hDa : τ.2.2.2.2.1 a0 + 1 = D) (h6 : g (2 * T + 6) v = (a0 : Int)) (hP : P (.inl none) (S, rwG T g v (liH Pn τ.2.1 τ.2.2.1 D a0 (Pn + 1) (g (2 * T + 12 + v))), u)) : Sp l E T_lift (d + 2) [rV (2 * T + 5), iV (v : Int)] (S, g, u) P := by
  show aw l E T_lift (d + 2) 0 [some (rV (2 * T + 5)), some (iV (v : Int)), none, none, none, none, none] [] (S, g, u) P
  refine aw_c T_lift_0 ?_
  refine aw_is2 T_lift_1 ?_
  refine aw_c T_lift_2 ?_
  refine aw_is3 T_lift_3 ?_
  have hk := c_lift_out (l := l) (E := E) (d := d) (u := u) (P := P) hW hv hw hR hv2 h10 h8 hD ha0 hDa h6 (Pn + 1) (g (2 * T + 12 + v)) 0 (by omega) hP none none
  rw [rwG_self] at hk
  exact hk
theorem c_rep_lp {n : Nat} {τ : Tz} (hW : WX S Pn T) (hw : WT Pn τ) (hR : RC Pn T g τ) (hn : n < τ.1) (hP : P (.inl (some (iV (tf (repT Pn τ n))))) (S, g, u)) : ∀ (r a s : Nat) (x : Int), s + r = τ.2.2.2.2.1 n → (0 < r → x = (a : Int) ∧ a < τ.1 ∧ τ.2.2.2.2.1 a + 1 = r) → (repT Pn τ n ↔ rpT Pn τ.2.1 τ.2.2.1 r a (τ.2.1 n)) → aw l E T_repeatsOneAbove (d + 2) 9 [some (rV (2 * T + 5)), some (iV (n : Int)), some (iV x), some (iV (s : Int)), none, none, none] [] (S, g, u) P := by
  intro r
  have hp6 := wx_P hW
  have ht2 := hw.2.1
  have hdn := WT_dp hw n hn
  have e8 := hR.2.2.2.2.1 n hn
  induction r with
  | zero =>
    intro a s x hs hx hi
    refine aw_il3 T_repeatsOneAbove_9 ?_
    refine aw_al0 T_repeatsOneAbove_10 ?_
    refine aw_gr (wx_r2_4 hW) T_repeatsOneAbove_11 (wx_o2 hW) ?_
    refine aw_il1 T_repeatsOneAbove_14 ?_
    refine aw_ia T_repeatsOneAbove_15 (wx_a_tdep hW) (by first | rfl | assumption) (by omega) ?_
    refine aw_cge T_repeatsOneAbove_16 (fun h16 => ?_) (fun h16 => ?_)
    · skip
      refine aw_c T_repeatsOneAbove_52 ?_
      refine aw_reti T_repeatsOneAbove_53 (Or.inr ⟨rfl, (by first | exact Or.inl rfl | exact Or.inr rfl | assumption)⟩) ?_
      rw [show tf (repT Pn τ n) = 0 from cI_n (fun z => hi.mp z)] at hP
      exact hP
    · skip
      omega
  | succ r ih =>
    intro a s x hs hx hi
    obtain ⟨rfl, ha, hda⟩ := hx (by omega)
    have hsm : (bl Pn (g (2 * T + 12 + a)) (g (2 * T + 12 + n)) ∧ bl Pn (g (2 * T + 12 + n)) (g (2 * T + 12 + a))) ↔ (bl Pn (τ.2.1 a) (τ.2.1 n) ∧ bl Pn (τ.2.1 n) (τ.2.1 a)) := and_congr (blC (hR.1 a ha) (hR.1 n hn)) (blC (hR.1 n hn) (hR.1 a ha))
    refine aw_il3 T_repeatsOneAbove_9 ?_
    refine aw_al0 T_repeatsOneAbove_10 ?_
    refine aw_gr (wx_r2_4 hW) T_repeatsOneAbove_11 (wx_o2 hW) ?_
    refine aw_il1 T_repeatsOneAbove_14 ?_
    refine aw_ia T_repeatsOneAbove_15 (wx_a_tdep hW) (by first | rfl | assumption) (by omega) ?_
    refine aw_cge T_repeatsOneAbove_16 (fun h16 => ?_) (fun h16 => ?_)
    · skip
      omega
    · skip
      refine aw_al0 T_repeatsOneAbove_19 ?_
      refine aw_gr (wx_r2_1 hW) T_repeatsOneAbove_20 (wx_o2 hW) ?_
      refine aw_il2 T_repeatsOneAbove_23 ?_
      refine aw_aa T_repeatsOneAbove_24 (wx_a_tmarks hW) (by first | rfl | assumption) (by omega) (wx_rr_tmarks hW (by omega)) ?_
      refine aw_al0 T_repeatsOneAbove_25 ?_
      refine aw_gr (wx_r2_1 hW) T_repeatsOneAbove_26 (wx_o2 hW) ?_
      refine aw_il1 T_repeatsOneAbove_29 ?_
      refine aw_aa T_repeatsOneAbove_30 (wx_a_tmarks hW) (by first | rfl | assumption) (by omega) (wx_rr_tmarks hW (by omega)) ?_
      refine aw_S2 T_repeatsOneAbove_31 rfl rfl rfl rfl ?_
      refine c_isSame (wx_ra_tmarks hW (by omega)) (wx_ra_tmarks hW (by omega)) (by omega) ?_
      show aw _ _ _ _ _ _ _ _ _
      refine aw_zeq T_repeatsOneAbove_34 (fun h34 => ?_) (fun h34 => ?_)
      · skip
        refine aw_al0 T_repeatsOneAbove_39 ?_
        refine aw_gr (wx_r2_2 hW) T_repeatsOneAbove_40 (wx_o2 hW) ?_
        refine aw_il2 T_repeatsOneAbove_43 ?_
        refine aw_ia T_repeatsOneAbove_44 (wx_a_tpar hW) (by first | rfl | assumption) (by omega) ?_
        refine aw_is2 T_repeatsOneAbove_45 ?_
        refine aw_ip3 T_repeatsOneAbove_46 (by omega) ?_
        refine aw_go T_repeatsOneAbove_49 ?_
        refine ih (τ.2.2.1 a) (s + 1) _ (by omega) (fun hr => ?_) ?_
        · have ha0 : 0 < a := by
            rcases Nat.eq_zero_or_pos a with z | z
            · rw [z, hw.2.2.1] at hda; omega
            · exact z
          obtain ⟨z1, z2⟩ := hw.2.2.2.1 a ha0 ha
          exact ⟨(hR.2.2.2.1 a ha0 ha).1, by omega, by omega⟩
        · rw [hi]
          exact ⟨fun z => z.elim (fun f => absurd (hsm.mpr f) (iz h34)) id, Or.inr⟩
      · skip
        refine aw_c T_repeatsOneAbove_37 ?_
        refine aw_reti T_repeatsOneAbove_38 (Or.inr ⟨rfl, (by first | exact Or.inl rfl | exact Or.inr rfl | assumption)⟩) ?_
        rw [show tf (repT Pn τ n) = 1 from cI_p (hi.mpr (Or.inl (hsm.mp (nz h34))))] at hP
        exact hP
theorem c_rep {n : Nat} {τ : Tz} (hW : WX S Pn T) (hw : WT Pn τ) (hR : RC Pn T g τ) (hn : n < τ.1) (hP : P (.inl (some (iV (tf (repT Pn τ n))))) (S, g, u)) : Sp l E T_repeatsOneAbove (d + 2) [rV (2 * T + 5), iV (n : Int)] (S, g, u) P := by
  have ht2 := hw.2.1
  show aw l E T_repeatsOneAbove (d + 2) 0 [some (rV (2 * T + 5)), some (iV (n : Int)), none, none, none, none, none] [] (S, g, u) P
  refine aw_al0 T_repeatsOneAbove_0 ?_
  refine aw_gr (wx_r2_2 hW) T_repeatsOneAbove_1 (wx_o2 hW) ?_
  refine aw_il1 T_repeatsOneAbove_4 ?_
  refine aw_ia T_repeatsOneAbove_5 (wx_a_tpar hW) (by first | rfl | assumption) (by omega) ?_
  refine aw_is2 T_repeatsOneAbove_6 ?_
  refine aw_c T_repeatsOneAbove_7 ?_
  refine aw_is3 T_repeatsOneAbove_8 ?_
  exact c_rep_lp hW hw hR hn hP (τ.2.2.2.2.1 n) (τ.2.2.1 n) 0 _ (by omega) (fun hr => by
    have hn0 : 0 < n := by
      rcases Nat.eq_zero_or_pos n with z | z
      · rw [z, hw.2.2.1] at hr; omega
      · exact z
    obtain ⟨z1, z2⟩ := hw.2.2.2.1 n hn0 hn
    exact ⟨(hR.2.2.2.1 n hn0 hn).1, by omega, by omega⟩) Iff.rfl
end MT
