section MA
variable {l : Launch} {E : aE} {d : Nat} {S : aS} {g : aG} {u : aU} {P : aP} {Pn T : Nat}
abbrev bl (n : Nat) (a b : Nat → Int) : Prop := ∀ p, p < n → a p ≤ b p
abbrev xIO : String := "java/lang/IndexOutOfBoundsException"
abbrev xIA : String := "java/lang/IllegalArgumentException"
abbrev xIS : String := "java/lang/IllegalStateException"
abbrev xUO : String := "java/lang/UnsupportedOperationException"
theorem nz {c : Prop} {i : Decidable c} (h : ¬ (@ite Int c i 1 0 = 0)) : c := by
  by_cases hc : c
  · exact hc
  · rw [if_neg hc] at h; exact absurd rfl h
theorem iz {c : Prop} {i : Decidable c} (h : @ite Int c i 1 0 = 0) : ¬ c := by
  intro hc
  rw [if_pos hc] at h
  omega
theorem pT {c : Prop} {i : Decidable c} {M : aM} (h : c) (hP : P (.inl (some (iV (@ite Int c i 1 0)))) M) : P (.inl (some (iV 1))) M := by rw [if_pos h] at hP; exact hP
theorem pF {c : Prop} {i : Decidable c} {M : aM} (h : ¬ c) (hP : P (.inl (some (iV (@ite Int c i 1 0)))) M) : P (.inl (some (iV 0))) M := by rw [if_neg h] at hP; exact hP
theorem c_isBelow_lp {n i j : Nat} (hi : hasA S i 0 n) (hj : hasA S j 0 n) (hn : n ≤ 1000) (hP : P (.inl (some (iV (if bl n (g i) (g j) then 1 else 0)))) (S, g, u)) : ∀ (m p : Nat), n - p < m → p ≤ n → (∀ r, r < p → g i r ≤ g j r) → aw l E O_isBelow d 2 [some (rV i), some (rV j), some (iV (p : Int)), none, none, none, none] [] (S, g, u) P := by
  intro m
  induction m with
  | zero => intro p h; omega
  | succ m ih =>
    intro p hm hp hb
    refine aw_il2 O_isBelow_2 ?_
    refine aw_al0 O_isBelow_3 ?_
    refine aw_len O_isBelow_4 hi (by constructor <;> omega) ?_
    refine aw_cge O_isBelow_5 (fun h5 => ?_) (fun h5 => ?_)
    · skip
      refine aw_c O_isBelow_31 ?_
      refine aw_reti O_isBelow_32 (Or.inr ⟨rfl, (by first | exact Or.inl rfl | exact Or.inr rfl | assumption)⟩) ?_
      exact pT (fun r hr => hb r (by omega)) hP
    · skip
      refine aw_il2 O_isBelow_8 ?_
      refine aw_al1 O_isBelow_9 ?_
      refine aw_len O_isBelow_10 hj (by constructor <;> omega) ?_
      refine aw_cge O_isBelow_11 (fun h11 => ?_) (fun h11 => ?_)
      · skip
        refine aw_c O_isBelow_31 ?_
        refine aw_reti O_isBelow_32 (Or.inr ⟨rfl, (by first | exact Or.inl rfl | exact Or.inr rfl | assumption)⟩) ?_
        exact pT (fun r hr => hb r (by omega)) hP
      · skip
        refine aw_al0 O_isBelow_14 ?_
        refine aw_il2 O_isBelow_15 ?_
        refine aw_ia O_isBelow_16 hi (by first | rfl | assumption) (by omega) ?_
        refine aw_al1 O_isBelow_17 ?_
        refine aw_il2 O_isBelow_18 ?_
        refine aw_ia O_isBelow_19 hj (by first | rfl | assumption) (by omega) ?_
        refine aw_cle O_isBelow_20 (fun h20 => ?_) (fun h20 => ?_)
        · skip
          refine aw_ip2 O_isBelow_25 (by omega) ?_
          refine aw_go O_isBelow_28 ?_
          exact ih (p + 1) (by omega) (by omega) (fun r hr => by
            by_cases e : r = p
            · subst e; omega
            · exact hb r (by omega))
        · skip
          refine aw_c O_isBelow_23 ?_
          refine aw_reti O_isBelow_24 (Or.inr ⟨rfl, (by first | exact Or.inl rfl | exact Or.inr rfl | assumption)⟩) ?_
          exact pF (fun z => by have := z p (by omega); omega) hP
theorem c_isBelow {n i j : Nat} (hi : hasA S i 0 n) (hj : hasA S j 0 n) (hn : n ≤ 1000) (hP : P (.inl (some (iV (if bl n (g i) (g j) then 1 else 0)))) (S, g, u)) : Sp l E O_isBelow d [rV i, rV j] (S, g, u) P := by
  show aw l E O_isBelow d 0 [some (rV i), some (rV j), none, none, none, none, none] [] (S, g, u) P
  refine aw_c O_isBelow_0 ?_
  refine aw_is2 O_isBelow_1 ?_
  exact c_isBelow_lp hi hj hn hP (n + 1) 0 (by omega) (by omega) (fun r hr => absurd hr (Nat.not_lt_zero r))
theorem c_isSame {n i j : Nat} (hi : hasA S i 0 n) (hj : hasA S j 0 n) (hn : n ≤ 1000) (hP : P (.inl (some (iV (if bl n (g i) (g j) ∧ bl n (g j) (g i) then 1 else 0)))) (S, g, u)) : Sp l E O_isSame (d + 1) [rV i, rV j] (S, g, u) P := by
  show aw l E O_isSame (d + 1) 0 [some (rV i), some (rV j), none, none, none, none, none] [] (S, g, u) P
  refine aw_al0 O_isSame_0 ?_
  refine aw_al1 O_isSame_1 ?_
  refine aw_S2 O_isSame_2 rfl rfl rfl rfl ?_
  refine c_isBelow hi hj hn ?_
  show aw _ _ _ _ _ _ _ _ _
  refine aw_zeq O_isSame_5 (fun h5 => ?_) (fun h5 => ?_)
  · skip
    refine aw_c O_isSame_20 ?_
    refine aw_reti O_isSame_21 (Or.inr ⟨rfl, (by first | exact Or.inl rfl | exact Or.inr rfl | assumption)⟩) ?_
    exact pF (fun z => iz h5 z.1) hP
  · skip
    refine aw_al1 O_isSame_8 ?_
    refine aw_al0 O_isSame_9 ?_
    refine aw_S2 O_isSame_10 rfl rfl rfl rfl ?_
    refine c_isBelow hj hi hn ?_
    show aw _ _ _ _ _ _ _ _ _
    refine aw_zeq O_isSame_13 (fun h13 => ?_) (fun h13 => ?_)
    · skip
      refine aw_c O_isSame_20 ?_
      refine aw_reti O_isSame_21 (Or.inr ⟨rfl, (by first | exact Or.inl rfl | exact Or.inr rfl | assumption)⟩) ?_
      exact pF (fun z => iz h13 z.2) hP
    · skip
      refine aw_c O_isSame_16 ?_
      refine aw_go O_isSame_17 ?_
      refine aw_reti O_isSame_21 (Or.inr ⟨rfl, (by first | exact Or.inl rfl | exact Or.inr rfl | assumption)⟩) ?_
      exact pT ⟨nz h5, nz h13⟩ hP
theorem c_enables {i t : Nat} (hW : WX S Pn T) (hi : hasA S i 0 Pn) (ht : t < T) (hP : P (.inl (some (iV (if bl Pn (g (3 + t)) (g i) then 1 else 0)))) (S, g, u)) : Sp l E N_enables (d + 1) [rV 1, rV i, iV (t : Int)] (S, g, u) P := by
  have hp6 := wx_P hW
  show aw l E N_enables (d + 1) 0 [some (rV 1), some (rV i), some (iV (t : Int)), none, none, none, none] [] (S, g, u) P
  refine aw_al0 N_enables_0 ?_
  refine aw_gr (wx_r1_2 hW) N_enables_1 (wx_o1 hW) ?_
  refine aw_il2 N_enables_4 ?_
  refine aw_aa N_enables_5 (wx_a_needs hW) (by first | rfl | assumption) (by omega) (wx_rr_needs hW (by omega)) ?_
  refine aw_al1 N_enables_6 ?_
  refine aw_S2 N_enables_7 rfl rfl rfl rfl ?_
  refine c_isBelow (wx_ra_needs hW (by omega)) hi (by omega) ?_
  show aw _ _ _ _ _ _ _ _ _
  refine aw_reti N_enables_10 (Or.inr ⟨rfl, (ok01 _)⟩) ?_
  exact hP
theorem c_isStuck_lp {i : Nat} (hW : WX S Pn T) (hi : hasA S i 0 Pn) (hT : g 1 1 = (T : Int)) (hP : P (.inl (some (iV (if ∀ t, t < T → ¬ bl Pn (g (3 + t)) (g i) then 1 else 0)))) (S, g, u)) : ∀ (m t : Nat), T - t < m → t ≤ T → (∀ r, r < t → ¬ bl Pn (g (3 + r)) (g i)) → aw l E N_isStuck (d + 2) 2 [some (rV 1), some (rV i), some (iV (t : Int)), none, none, none, none] [] (S, g, u) P := by
  intro m
  have hT8 := wx_T hW
  induction m with
  | zero => intro p h; omega
  | succ m ih =>
    intro t hm hp hb
    refine aw_il2 N_isStuck_2 ?_
    refine aw_al0 N_isStuck_3 ?_
    refine aw_gi N_isStuck_4 (wx_o1 hW) ?_
    refine aw_cge N_isStuck_7 (fun h7 => ?_) (fun h7 => ?_)
    · skip
      refine aw_c N_isStuck_27 ?_
      refine aw_reti N_isStuck_28 (Or.inr ⟨rfl, (by first | exact Or.inl rfl | exact Or.inr rfl | assumption)⟩) ?_
      exact pT (fun r hr => hb r (by omega)) hP
    · skip
      refine aw_al0 N_isStuck_10 ?_
      refine aw_al1 N_isStuck_11 ?_
      refine aw_il2 N_isStuck_12 ?_
      refine aw_V2 N_isStuck_13 rfl rfl rfl rfl (wx_o1 hW) ?_
      refine c_enables hW hi (by omega) ?_
      show aw _ _ _ _ _ _ _ _ _
      refine aw_zeq N_isStuck_16 (fun h16 => ?_) (fun h16 => ?_)
      · skip
        refine aw_ip2 N_isStuck_21 (by omega) ?_
        refine aw_go N_isStuck_24 ?_
        exact ih (t + 1) (by omega) (by omega) (fun r hr => by
          by_cases e : r = t
          · subst e; exact iz h16
          · exact hb r (by omega))
      · skip
        refine aw_c N_isStuck_19 ?_
        refine aw_reti N_isStuck_20 (Or.inr ⟨rfl, (by first | exact Or.inl rfl | exact Or.inr rfl | assumption)⟩) ?_
        exact pF (fun z => z t (by omega) (nz h16)) hP
theorem c_isStuck {i : Nat} (hW : WX S Pn T) (hi : hasA S i 0 Pn) (hT : g 1 1 = (T : Int)) (hP : P (.inl (some (iV (if ∀ t, t < T → ¬ bl Pn (g (3 + t)) (g i) then 1 else 0)))) (S, g, u)) : Sp l E N_isStuck (d + 2) [rV 1, rV i] (S, g, u) P := by
  show aw l E N_isStuck (d + 2) 0 [some (rV 1), some (rV i), none, none, none, none, none] [] (S, g, u) P
  refine aw_c N_isStuck_0 ?_
  refine aw_is2 N_isStuck_1 ?_
  exact c_isStuck_lp hW hi hT hP (T + 1) 0 (by omega) (by omega) (fun r hr => absurd hr (Nat.not_lt_zero r))
def mv (f n v : Int) : Int := if f = 1000000000 then 1000000000 else f - n + v
def mvk (g : aG) (fr to nd gv k : Nat) : aG := fun a b => if a = to ∧ b < k then mv (g fr b) (g nd b) (g gv b) else g a b
theorem mvk_0 (g : aG) (fr to nd gv : Nat) : mvk g fr to nd gv 0 = g := by
  funext a b
  exact if_neg (fun z => absurd z.2 (Nat.not_lt_zero b))
theorem mvk_s (g : aG) (fr to nd gv k : Nat) : upA (mvk g fr to nd gv k) to k (mv (g fr k) (g nd k) (g gv k)) = mvk g fr to nd gv (k + 1) := by
  funext a b
  unfold upA mvk
  by_cases ha : a = to
  · by_cases hb : b = k
    · subst hb; simp [ha]
    · by_cases hc : b < k
      · simp [ha, hb, hc, show b < k + 1 by omega]
      · simp [ha, hb, hc, show ¬ b < k + 1 by omega]
  · simp [ha]
def mb (f n v : Int) : Int := if n < f - v + n then f - v + n else n
def mbk (g : aG) (fr to nd gv k : Nat) : aG := fun a b => if a = to ∧ b < k then mb (g fr b) (g nd b) (g gv b) else g a b
theorem mbk_0 (g : aG) (fr to nd gv : Nat) : mbk g fr to nd gv 0 = g := by
  funext a b
  exact if_neg (fun z => absurd z.2 (Nat.not_lt_zero b))
theorem mbk_s (g : aG) (fr to nd gv k : Nat) : upA (mbk g fr to nd gv k) to k (mb (g fr k) (g nd k) (g gv k)) = mbk g fr to nd gv (k + 1) := by
  funext a b
  unfold upA mbk
  by_cases ha : a = to
  · by_cases hb : b = k
    · subst hb; simp [ha]
    · by_cases hc : b < k
      · simp [ha, hb, hc, show b < k + 1 by omega]
      · simp [ha, hb, hc, show ¬ b < k + 1 by omega]
  · simp [ha]
theorem c_move_lp {fr to t : Nat} (hW : WX S Pn T) (hi : hasA S fr 0 Pn) (hj : hasA S to 0 Pn) (ht : t < T) (hto : 2 * T + 5 ≤ to) (h10 : g 1 0 = (Pn : Int)) (hB1 : ∀ b, b < Pn → 0 ≤ g fr b ∧ g fr b ≤ 1000000000) (hB2 : ∀ b, b < Pn → 0 ≤ g (3 + t) b ∧ g (3 + t) b ≤ 9) (hB3 : ∀ b, b < Pn → 0 ≤ g (T + 4 + t) b ∧ g (T + 4 + t) b ≤ 9) (hP : P (.inl none) (S, mvk g fr to (3 + t) (T + 4 + t) Pn, u)) : ∀ (m p : Nat), Pn - p < m → p ≤ Pn → aw l E N_move d 3 [some (rV 1), some (rV fr), some (iV (t : Int)), some (rV to), some (iV (p : Int)), none, none] [] (S, mvk g fr to (3 + t) (T + 4 + t) p, u) P := by
  intro m
  have hp6 := wx_P hW
  induction m with
  | zero => intro p h; omega
  | succ m ih =>
    intro p hm hp
    have e0 : mvk g fr to (3 + t) (T + 4 + t) p 1 0 = (Pn : Int) := (if_neg (by omega)).trans h10
    have e1 : mvk g fr to (3 + t) (T + 4 + t) p fr p = g fr p := if_neg (fun z => absurd z.2 (Nat.lt_irrefl p))
    have e2 : mvk g fr to (3 + t) (T + 4 + t) p (3 + t) p = g (3 + t) p := if_neg (fun z => absurd z.2 (Nat.lt_irrefl p))
    have e3 : mvk g fr to (3 + t) (T + 4 + t) p (T + 4 + t) p = g (T + 4 + t) p := if_neg (fun z => absurd z.2 (Nat.lt_irrefl p))
    have b1 := hB1 p
    have b2 := hB2 p
    have b3 := hB3 p
    refine aw_il4 N_move_3 ?_
    refine aw_al0 N_move_5 ?_
    refine aw_gi N_move_6 (wx_o1 hW) ?_
    refine aw_cge N_move_9 (fun h9 => ?_) (fun h9 => ?_)
    · skip
      refine aw_retv N_move_60 rfl ?_
      have e : p = Pn := by omega
      subst e
      exact hP
    · skip
      refine aw_al3 N_move_12 ?_
      refine aw_il4 N_move_13 ?_
      refine aw_al1 N_move_15 ?_
      refine aw_il4 N_move_16 ?_
      refine aw_ia N_move_18 hi (by first | rfl | assumption) (by omega) ?_
      refine aw_c N_move_19 ?_
      refine aw_cne N_move_21 (fun h21 => ?_) (fun h21 => ?_)
      · skip
        refine aw_al1 N_move_29 ?_
        refine aw_il4 N_move_30 ?_
        refine aw_ia N_move_32 hi (by first | rfl | assumption) (by omega) ?_
        refine aw_al0 N_move_33 ?_
        refine aw_gr (wx_r1_2 hW) N_move_34 (wx_o1 hW) ?_
        refine aw_il2 N_move_37 ?_
        refine aw_aa N_move_38 (wx_a_needs hW) (by first | rfl | assumption) (by omega) (wx_rr_needs hW (by omega)) ?_
        refine aw_il4 N_move_39 ?_
        refine aw_ia N_move_41 (wx_ra_needs hW (by omega)) (by first | rfl | assumption) (by omega) ?_
        refine aw_sub N_move_42 (by constructor <;> omega) ?_
        refine aw_al0 N_move_43 ?_
        refine aw_gr (wx_r1_3 hW) N_move_44 (wx_o1 hW) ?_
        refine aw_il2 N_move_47 ?_
        refine aw_aa N_move_48 (wx_a_gives hW) (by first | rfl | assumption) (by omega) (wx_rr_gives hW (by omega)) ?_
        refine aw_il4 N_move_49 ?_
        refine aw_ia N_move_51 (wx_ra_gives hW (by omega)) (by first | rfl | assumption) (by omega) ?_
        refine aw_add N_move_52 (by constructor <;> omega) ?_
        refine aw_iast N_move_53 hj (by first | rfl | assumption) (by omega) ?_
        refine aw_ip4 N_move_54 (by omega) ?_
        refine aw_go N_move_57 ?_
        rw [show mvk g fr to (3 + t) (T + 4 + t) p fr p - mvk g fr to (3 + t) (T + 4 + t) p (3 + t) p + mvk g fr to (3 + t) (T + 4 + t) p (T + 4 + t) p = mv (g fr p) (g (3 + t) p) (g (T + 4 + t) p) by rw [e1, e2, e3]; exact (if_neg (by omega)).symm]
        rw [mvk_s]
        exact ih (p + 1) (by omega) (by omega)
      · skip
        refine aw_c N_move_24 ?_
        refine aw_go N_move_26 ?_
        refine aw_iast N_move_53 hj (by first | rfl | assumption) (by omega) ?_
        refine aw_ip4 N_move_54 (by omega) ?_
        refine aw_go N_move_57 ?_
        rw [show (1000000000 : Int) = mv (g fr p) (g (3 + t) p) (g (T + 4 + t) p) from (if_pos (by omega)).symm]
        rw [mvk_s]
        exact ih (p + 1) (by omega) (by omega)
theorem c_move {fr to t : Nat} (hW : WX S Pn T) (hi : hasA S fr 0 Pn) (hj : hasA S to 0 Pn) (ht : t < T) (hto : 2 * T + 5 ≤ to) (h10 : g 1 0 = (Pn : Int)) (hB1 : ∀ b, b < Pn → 0 ≤ g fr b ∧ g fr b ≤ 1000000000) (hB2 : ∀ b, b < Pn → 0 ≤ g (3 + t) b ∧ g (3 + t) b ≤ 9) (hB3 : ∀ b, b < Pn → 0 ≤ g (T + 4 + t) b ∧ g (T + 4 + t) b ≤ 9) (hP : P (.inl none) (S, mvk g fr to (3 + t) (T + 4 + t) Pn, u)) : Sp l E N_move d [rV 1, rV fr, iV (t : Int), rV to] (S, g, u) P := by
  show aw l E N_move d 0 [some (rV 1), some (rV fr), some (iV (t : Int)), some (rV to), none, none, none] [] (S, g, u) P
  refine aw_c N_move_0 ?_
  refine aw_is4 N_move_1 ?_
  have k0 := c_move_lp (l := l) (E := E) (d := d) (u := u) hW hi hj ht hto h10 hB1 hB2 hB3 hP (Pn + 1) 0 (by omega) (by omega)
  rw [mvk_0] at k0
  exact k0
theorem c_moveBack_lp {fr to t : Nat} (hW : WX S Pn T) (hi : hasA S fr 0 Pn) (hj : hasA S to 0 Pn) (ht : t < T) (hto : 2 * T + 5 ≤ to) (h10 : g 1 0 = (Pn : Int)) (hB1 : ∀ b, b < Pn → 0 ≤ g fr b ∧ g fr b ≤ 1000000000) (hB2 : ∀ b, b < Pn → 0 ≤ g (3 + t) b ∧ g (3 + t) b ≤ 9) (hB3 : ∀ b, b < Pn → 0 ≤ g (T + 4 + t) b ∧ g (T + 4 + t) b ≤ 9) (hd : 1 ≤ d) (hP : P (.inl none) (S, mbk g fr to (3 + t) (T + 4 + t) Pn, u)) : ∀ (m p : Nat), Pn - p < m → p ≤ Pn → aw l E N_moveBack d 3 [some (rV 1), some (rV fr), some (iV (t : Int)), some (rV to), some (iV (p : Int)), none, none] [] (S, mbk g fr to (3 + t) (T + 4 + t) p, u) P := by
  intro m
  have hp6 := wx_P hW
  induction m with
  | zero => intro p h; omega
  | succ m ih =>
    intro p hm hp
    have e0 : mbk g fr to (3 + t) (T + 4 + t) p 1 0 = (Pn : Int) := (if_neg (by omega)).trans h10
    have e1 : mbk g fr to (3 + t) (T + 4 + t) p fr p = g fr p := if_neg (fun z => absurd z.2 (Nat.lt_irrefl p))
    have e2 : mbk g fr to (3 + t) (T + 4 + t) p (3 + t) p = g (3 + t) p := if_neg (fun z => absurd z.2 (Nat.lt_irrefl p))
    have e3 : mbk g fr to (3 + t) (T + 4 + t) p (T + 4 + t) p = g (T + 4 + t) p := if_neg (fun z => absurd z.2 (Nat.lt_irrefl p))
    have b1 := hB1 p
    have b2 := hB2 p
    have b3 := hB3 p
    refine aw_il4 N_moveBack_3 ?_
    refine aw_al0 N_moveBack_5 ?_
    refine aw_gi N_moveBack_6 (wx_o1 hW) ?_
    refine aw_cge N_moveBack_9 (fun h9 => ?_) (fun h9 => ?_)
    · skip
      refine aw_retv N_moveBack_58 rfl ?_
      have e : p = Pn := by omega
      subst e
      exact hP
    · skip
      refine aw_al3 N_moveBack_12 ?_
      refine aw_il4 N_moveBack_13 ?_
      refine aw_al0 N_moveBack_15 ?_
      refine aw_gr (wx_r1_2 hW) N_moveBack_16 (wx_o1 hW) ?_
      refine aw_il2 N_moveBack_19 ?_
      refine aw_aa N_moveBack_20 (wx_a_needs hW) (by first | rfl | assumption) (by omega) (wx_rr_needs hW (by omega)) ?_
      refine aw_il4 N_moveBack_21 ?_
      refine aw_ia N_moveBack_23 (wx_ra_needs hW (by omega)) (by first | rfl | assumption) (by omega) ?_
      refine aw_al1 N_moveBack_24 ?_
      refine aw_il4 N_moveBack_25 ?_
      refine aw_ia N_moveBack_27 hi (by first | rfl | assumption) (by omega) ?_
      refine aw_al0 N_moveBack_28 ?_
      refine aw_gr (wx_r1_3 hW) N_moveBack_29 (wx_o1 hW) ?_
      refine aw_il2 N_moveBack_32 ?_
      refine aw_aa N_moveBack_33 (wx_a_gives hW) (by first | rfl | assumption) (by omega) (wx_rr_gives hW (by omega)) ?_
      refine aw_il4 N_moveBack_34 ?_
      refine aw_ia N_moveBack_36 (wx_ra_gives hW (by omega)) (by first | rfl | assumption) (by omega) ?_
      refine aw_sub N_moveBack_37 (by constructor <;> omega) ?_
      refine aw_al0 N_moveBack_38 ?_
      refine aw_gr (wx_r1_2 hW) N_moveBack_39 (wx_o1 hW) ?_
      refine aw_il2 N_moveBack_42 ?_
      refine aw_aa N_moveBack_43 (wx_a_needs hW) (by first | rfl | assumption) (by omega) (wx_rr_needs hW (by omega)) ?_
      refine aw_il4 N_moveBack_44 ?_
      refine aw_ia N_moveBack_46 (wx_ra_needs hW (by omega)) (by first | rfl | assumption) (by omega) ?_
      refine aw_add N_moveBack_47 (by constructor <;> omega) ?_
      refine aw_max N_moveBack_48 (by omega) rfl ?_
      refine aw_iast N_moveBack_51 hj (by first | rfl | assumption) (by omega) ?_
      refine aw_ip4 N_moveBack_52 (by omega) ?_
      refine aw_go N_moveBack_55 ?_
      rw [show (if mbk g fr to (3 + t) (T + 4 + t) p (3 + t) p < mbk g fr to (3 + t) (T + 4 + t) p fr p - mbk g fr to (3 + t) (T + 4 + t) p (T + 4 + t) p + mbk g fr to (3 + t) (T + 4 + t) p (3 + t) p then mbk g fr to (3 + t) (T + 4 + t) p fr p - mbk g fr to (3 + t) (T + 4 + t) p (T + 4 + t) p + mbk g fr to (3 + t) (T + 4 + t) p (3 + t) p else mbk g fr to (3 + t) (T + 4 + t) p (3 + t) p) = mb (g fr p) (g (3 + t) p) (g (T + 4 + t) p) by rw [e1, e2, e3]; rfl]
      rw [mbk_s]
      exact ih (p + 1) (by omega) (by omega)
theorem c_moveBack {fr to t : Nat} (hW : WX S Pn T) (hi : hasA S fr 0 Pn) (hj : hasA S to 0 Pn) (ht : t < T) (hto : 2 * T + 5 ≤ to) (h10 : g 1 0 = (Pn : Int)) (hB1 : ∀ b, b < Pn → 0 ≤ g fr b ∧ g fr b ≤ 1000000000) (hB2 : ∀ b, b < Pn → 0 ≤ g (3 + t) b ∧ g (3 + t) b ≤ 9) (hB3 : ∀ b, b < Pn → 0 ≤ g (T + 4 + t) b ∧ g (T + 4 + t) b ≤ 9) (hd : 1 ≤ d) (hP : P (.inl none) (S, mbk g fr to (3 + t) (T + 4 + t) Pn, u)) : Sp l E N_moveBack d [rV 1, rV fr, iV (t : Int), rV to] (S, g, u) P := by
  show aw l E N_moveBack d 0 [some (rV 1), some (rV fr), some (iV (t : Int)), some (rV to), none, none, none] [] (S, g, u) P
  refine aw_c N_moveBack_0 ?_
  refine aw_is4 N_moveBack_1 ?_
  have k0 := c_moveBack_lp (l := l) (E := E) (d := d) (u := u) hW hi hj ht hto h10 hB1 hB2 hB3 hd hP (Pn + 1) 0 (by omega) (by omega)
  rw [mbk_0] at k0
  exact k0
theorem c_checkIndex {i n : Int} {a b : Nat} {f : Bool} (hd : 6 ≤ d) (ha : 1 ≤ a) (hb : 6 ≤ b) (h1 : 0 ≤ i → i < n → P (.inl none) (S, g, a, b, f)) (h2 : ¬ (0 ≤ i ∧ i < n) → P (.inr xIO) (S, g, a - 1, b - 6, false)) : Sp l E O_checkIndex d [iV i, iV n] (S, g, a, b, f) P := by
  show aw l E O_checkIndex d 0 [some (iV i), some (iV n), none, none, none, none, none] [] (S, g, a, b, f) P
  refine aw_il0 O_checkIndex_0 ?_
  refine aw_zlt O_checkIndex_1 (fun k1 => ?_) (fun k1 => ?_)
  · skip
    refine aw_throw O_checkIndex_9 (by omega) (Nat.le_of_ble_eq_true rfl) (by omega) (by omega) ?_
    exact h2 (by omega)
  · skip
    refine aw_il0 O_checkIndex_4 ?_
    refine aw_il1 O_checkIndex_5 ?_
    refine aw_clt O_checkIndex_6 (fun k6 => ?_) (fun k6 => ?_)
    · skip
      refine aw_retv O_checkIndex_19 rfl ?_
      exact h1 (by omega) (by omega)
    · skip
      refine aw_throw O_checkIndex_9 (by omega) (Nat.le_of_ble_eq_true rfl) (by omega) (by omega) ?_
      exact h2 (by omega)
theorem c_checkNumber {i n : Int} {a b : Nat} {f : Bool} (hd : 6 ≤ d) (ha : 1 ≤ a) (hb : 6 ≤ b) (h1 : 0 ≤ i → i ≤ n → P (.inl none) (S, g, a, b, f)) (h2 : ¬ (0 ≤ i ∧ i ≤ n) → P (.inr xIA) (S, g, a - 1, b - 6, false)) : Sp l E O_checkNumber d [iV i, iV n] (S, g, a, b, f) P := by
  show aw l E O_checkNumber d 0 [some (iV i), some (iV n), none, none, none, none, none] [] (S, g, a, b, f) P
  refine aw_il0 O_checkNumber_0 ?_
  refine aw_zlt O_checkNumber_1 (fun k1 => ?_) (fun k1 => ?_)
  · skip
    refine aw_throw O_checkNumber_9 (by omega) (Nat.le_of_ble_eq_true rfl) (by omega) (by omega) ?_
    exact h2 (by omega)
  · skip
    refine aw_il0 O_checkNumber_4 ?_
    refine aw_il1 O_checkNumber_5 ?_
    refine aw_cle O_checkNumber_6 (fun k6 => ?_) (fun k6 => ?_)
    · skip
      refine aw_retv O_checkNumber_19 rfl ?_
      exact h1 (by omega) (by omega)
    · skip
      refine aw_throw O_checkNumber_9 (by omega) (Nat.le_of_ble_eq_true rfl) (by omega) (by omega) ?_
      exact h2 (by omega)
theorem c_within {n lo hi : Int} {M : aM} (hd : 1 ≤ d) (hP : P (.inl (some (iV (if lo < (if n < hi then n else hi) then (if n < hi then n else hi) else lo)))) M) : Sp l E O_within d [iV n, iV lo, iV hi] M P := by
  show aw l E O_within d 0 [some (iV n), some (iV lo), some (iV hi), none, none, none, none] [] M P
  refine aw_il1 O_within_0 ?_
  refine aw_il2 O_within_1 ?_
  refine aw_il0 O_within_2 ?_
  refine aw_min O_within_3 (by omega) rfl ?_
  refine aw_max O_within_6 (by omega) rfl ?_
  refine aw_reti O_within_9 (Or.inl rfl) ?_
  exact hP
theorem c_shown {n : Int} {M : aM} (hP : P (.inl (some (iV (if n = 1000000000 then -1 else n)))) M) : Sp l E O_shown d [iV n] M P := by
  show aw l E O_shown d 0 [some (iV n), none, none, none, none, none, none] [] M P
  refine aw_il0 O_shown_0 ?_
  refine aw_c O_shown_1 ?_
  refine aw_cne O_shown_3 (fun h3 => ?_) (fun h3 => ?_)
  · skip
    refine aw_il0 O_shown_10 ?_
    refine aw_reti O_shown_11 (Or.inl rfl) ?_
    rw [if_neg h3] at hP; exact hP
  · skip
    refine aw_c O_shown_6 ?_
    refine aw_go O_shown_7 ?_
    refine aw_reti O_shown_11 (Or.inl rfl) ?_
    rw [if_pos h3] at hP; exact hP
end MA
