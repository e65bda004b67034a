/-! ===== the tree, as mathematics ===== -/
noncomputable abbrev cI {α : Type} (c : Prop) (x y : α) : α := @ite α c (Classical.propDecidable c) x y
theorem cI_p {α : Type} {c : Prop} {x y : α} (h : c) : cI c x y = x := if_pos h
theorem cI_n {α : Type} {c : Prop} {x y : α} (h : ¬ c) : cI c x y = y := if_neg h
/-- 1 or 0 -/
noncomputable abbrev tf (c : Prop) : Int := cI c 1 0
theorem tf01 (c : Prop) : tf c = 0 ∨ tf c = 1 := by
  by_cases h : c
  · exact Or.inr (if_pos h)
  · exact Or.inl (if_neg h)
theorem tfE {c c' : Prop} (h : c ↔ c') : tf c = tf c' := by rw [propext h]
theorem iteT {c : Prop} {i : Decidable c} : @ite Int c i 1 0 = tf c := by
  by_cases h : c
  · rw [if_pos h]; exact (cI_p h).symm
  · rw [if_neg h]; exact (cI_n h).symm
theorem tfor {a b : Prop} : Int32.ofInt (tf (a ∨ b)) = Int32.ofInt (tf a) ||| Int32.ofInt (tf b) := by
  by_cases ha : a <;> by_cases hb : b
  · rw [show tf (a ∨ b) = 1 from cI_p (Or.inl ha), show tf a = 1 from cI_p ha, show tf b = 1 from cI_p hb]; decide
  · rw [show tf (a ∨ b) = 1 from cI_p (Or.inl ha), show tf a = 1 from cI_p ha, show tf b = 0 from cI_n hb]; decide
  · rw [show tf (a ∨ b) = 1 from cI_p (Or.inr hb), show tf a = 0 from cI_n ha, show tf b = 1 from cI_p hb]; decide
  · rw [show tf (a ∨ b) = 0 from cI_n (fun z => z.elim ha hb), show tf a = 0 from cI_n ha, show tf b = 0 from cI_n hb]; decide
theorem ok_tf (c : Prop) : okI (tf c) := by
  rcases tf01 c with h | h <;> rw [h] <;> decide
theorem blC {P : Nat} {a a' b b' : Nat → Int} (h1 : ∀ p, p < P → a p = a' p) (h2 : ∀ p, p < P → b p = b' p) : bl P a b ↔ bl P a' b' :=
  ⟨fun h p hp => by rw [← h1 p hp, ← h2 p hp]; exact h p hp, fun h p hp => by rw [h1 p hp, h2 p hp]; exact h p hp⟩
/-- h, lifted over low -/
noncomputable def lo (P : Nat) (low h : Nat → Int) : Nat → Int := fun p => cI (p < P ∧ bl P low h ∧ h p ≠ 1000000000 ∧ low p < h p) 1000000000 (h p)
def fl (P : Nat) (low h : Nat → Int) : Prop := ∃ p, p < P ∧ bl P low h ∧ h p ≠ 1000000000 ∧ low p < h p
theorem loC {P : Nat} {a b : Nat → Int} (h : Nat → Int) (hab : ∀ p, p < P → a p = b p) : lo P a h = lo P b h := by
  funext p
  unfold lo
  have e : (p < P ∧ bl P a h ∧ h p ≠ 1000000000 ∧ a p < h p) ↔ (p < P ∧ bl P b h ∧ h p ≠ 1000000000 ∧ b p < h p) := by
    constructor
    · rintro ⟨h1, h2, h3, h4⟩
      exact ⟨h1, (blC hab (fun _ _ => rfl)).mp h2, h3, by rw [← hab p h1]; exact h4⟩
    · rintro ⟨h1, h2, h3, h4⟩
      exact ⟨h1, (blC hab (fun _ _ => rfl)).mpr h2, h3, by rw [hab p h1]; exact h4⟩
  rw [propext e]
theorem flC {P : Nat} {a b : Nat → Int} (h : Nat → Int) (hab : ∀ p, p < P → a p = b p) : fl P a h ↔ fl P b h := by
  constructor
  · rintro ⟨p, h1, h2, h3, h4⟩
    exact ⟨p, h1, (blC hab (fun _ _ => rfl)).mp h2, h3, by rw [← hab p h1]; exact h4⟩
  · rintro ⟨p, h1, h2, h3, h4⟩
    exact ⟨p, h1, (blC hab (fun _ _ => rfl)).mpr h2, h3, by rw [hab p h1]; exact h4⟩
/-- a round over the k nodes from a upwards -/
noncomputable def rnH (P : Nat) (mk : Nat → Nat → Int) (pa : Nat → Nat) : Nat → Nat → (Nat → Int) → (Nat → Int)
  | 0, _, h => h
  | k + 1, a, h => rnH P mk pa k (pa a) (lo P (mk a) h)
def rnF (P : Nat) (mk : Nat → Nat → Int) (pa : Nat → Nat) : Nat → Nat → (Nat → Int) → Prop
  | 0, _, _ => False
  | k + 1, a, h => fl P (mk a) h ∨ rnF P mk pa k (pa a) (lo P (mk a) h)
noncomputable def liH (P : Nat) (mk : Nat → Nat → Int) (pa : Nat → Nat) (k a : Nat) : Nat → (Nat → Int) → (Nat → Int)
  | 0, h => h
  | f + 1, h => cI (rnF P mk pa k a h) (liH P mk pa k a f (rnH P mk pa k a h)) (rnH P mk pa k a h)
theorem lo_cong {P : Nat} {low h h' : Nat → Int} (hh : ∀ p, p < P → h p = h' p) : (∀ p, p < P → lo P low h p = lo P low h' p) ∧ (fl P low h ↔ fl P low h') := by
  have key : ∀ p, p < P → ((p < P ∧ bl P low h ∧ h p ≠ 1000000000 ∧ low p < h p) ↔ (p < P ∧ bl P low h' ∧ h' p ≠ 1000000000 ∧ low p < h' p)) := fun p hp => by
    rw [hh p hp, propext (blC (fun _ _ => rfl) hh : bl P low h ↔ bl P low h')]
  refine ⟨fun p hp => ?_, ?_⟩
  · unfold lo
    rw [propext (key p hp), hh p hp]
  · constructor
    · rintro ⟨p, hp, h2⟩
      exact ⟨p, (key p hp).mp ⟨hp, h2⟩⟩
    · rintro ⟨p, hp, h2⟩
      exact ⟨p, (key p hp).mpr ⟨hp, h2⟩⟩
theorem rn_cong {P : Nat} {mk : Nat → Nat → Int} {pa : Nat → Nat} : ∀ (k a : Nat) (h h' : Nat → Int), (∀ p, p < P → h p = h' p) → (∀ p, p < P → rnH P mk pa k a h p = rnH P mk pa k a h' p) ∧ (rnF P mk pa k a h ↔ rnF P mk pa k a h')
  | 0, _, _, _, hh => ⟨hh, Iff.rfl⟩
  | k + 1, a, h, h', hh => by
    obtain ⟨e1, e2⟩ := lo_cong (low := mk a) hh
    obtain ⟨e3, e4⟩ := rn_cong (mk := mk) (pa := pa) k (pa a) _ _ e1
    exact ⟨e3, or_congr e2 e4⟩
theorem li_cong {P : Nat} {mk : Nat → Nat → Int} {pa : Nat → Nat} {k a : Nat} : ∀ (f : Nat) (h h' : Nat → Int), (∀ p, p < P → h p = h' p) → ∀ p, p < P → liH P mk pa k a f h p = liH P mk pa k a f h' p
  | 0, _, _, hh => hh
  | f + 1, h, h', hh => by
    obtain ⟨e1, e2⟩ := rn_cong (P := P) (mk := mk) (pa := pa) k a h h' hh
    intro p hp
    show (cI _ _ _ : Nat → Int) p = (cI _ _ _ : Nat → Int) p
    by_cases hc : rnF P mk pa k a h
    · rw [cI_p hc, cI_p (e2.mp hc)]
      exact li_cong f _ _ e1 p hp
    · rw [cI_n hc, cI_n (fun z => hc (e2.mpr z))]
      exact e1 p hp
theorem lo_val {P : Nat} {low h : Nat → Int} (p : Nat) : lo P low h p = h p ∨ lo P low h p = 1000000000 := by
  unfold lo
  by_cases hc : p < P ∧ bl P low h ∧ h p ≠ 1000000000 ∧ low p < h p
  · exact Or.inr (cI_p hc)
  · exact Or.inl (cI_n hc)
theorem rn_val {P : Nat} {mk : Nat → Nat → Int} {pa : Nat → Nat} : ∀ (k a : Nat) (h : Nat → Int) (p : Nat), rnH P mk pa k a h p = h p ∨ rnH P mk pa k a h p = 1000000000
  | 0, _, _, _ => Or.inl rfl
  | k + 1, a, h, p => by
    rcases rn_val (mk := mk) (pa := pa) (P := P) k (pa a) (lo P (mk a) h) p with e | e
    · rcases lo_val (P := P) (low := mk a) (h := h) p with e2 | e2
      · exact Or.inl (e.trans e2)
      · exact Or.inr (e.trans e2)
    · exact Or.inr e
theorem li_val {P : Nat} {mk : Nat → Nat → Int} {pa : Nat → Nat} {k a : Nat} : ∀ (f : Nat) (h : Nat → Int) (p : Nat), liH P mk pa k a f h p = h p ∨ liH P mk pa k a f h p = 1000000000
  | 0, _, _ => Or.inl rfl
  | f + 1, h, p => by
    show (cI _ _ _ : Nat → Int) p = h p ∨ (cI _ _ _ : Nat → Int) p = 1000000000
    by_cases hc : rnF P mk pa k a h
    · rw [cI_p hc]
      rcases li_val (P := P) (mk := mk) (pa := pa) (k := k) (a := a) f (rnH P mk pa k a h) p with e | e
      · rcases rn_val (P := P) (mk := mk) (pa := pa) k a h p with e2 | e2
        · exact Or.inl (e.trans e2)
        · exact Or.inr (e.trans e2)
      · exact Or.inr e
    · rw [cI_n hc]
      exact rn_val k a h p
/-- how many places of h are not without bound -/
def cnE (h : Nat → Int) : Nat → Nat
  | 0 => 0
  | k + 1 => cnE h k + (if h k = 1000000000 then 0 else 1)
theorem cnE_le {h h' : Nat → Int} : ∀ P : Nat, (∀ p, p < P → h p = 1000000000 → h' p = 1000000000) → cnE h' P ≤ cnE h P
  | 0, _ => Nat.le_refl _
  | P + 1, hh => by
    have := cnE_le P fun p hp => hh p (by omega)
    have h2 := hh P (by omega)
    show cnE h' P + _ ≤ cnE h P + _
    by_cases e1 : h P = 1000000000
    · rw [if_pos e1, if_pos (h2 e1)]; exact this
    · rw [if_neg e1]
      split <;> omega
theorem cnE_lt {h h' : Nat → Int} : ∀ P : Nat, (∀ p, p < P → h p = 1000000000 → h' p = 1000000000) → (∃ p, p < P ∧ h p ≠ 1000000000 ∧ h' p = 1000000000) → cnE h' P < cnE h P
  | 0, _, hx => by obtain ⟨p, hp, -⟩ := hx; omega
  | P + 1, hh, hx => by
    have h1 := cnE_le (h := h) (h' := h') P fun p hp => hh p (by omega)
    have h2 := hh P (by omega)
    show cnE h' P + _ < cnE h P + _
    obtain ⟨p, hp, e1, e2⟩ := hx
    by_cases e : p = P
    · subst e
      rw [if_neg e1, if_pos e2]
      omega
    · have h3 := cnE_lt P (fun p hp => hh p (by omega)) ⟨p, by omega, e1, e2⟩
      by_cases e3 : h P = 1000000000
      · rw [if_pos e3, if_pos (h2 e3)]; exact h3
      · rw [if_neg e3]
        split <;> omega
theorem cnE_ub (h : Nat → Int) : ∀ P : Nat, cnE h P ≤ P
  | 0 => Nat.le_refl _
  | P + 1 => by
    have := cnE_ub h P
    show cnE h P + _ ≤ P + 1
    split <;> omega
theorem rn_keep {P : Nat} {mk : Nat → Nat → Int} {pa : Nat → Nat} {k a : Nat} {h : Nat → Int} {p : Nat} (hp : h p = 1000000000) : rnH P mk pa k a h p = 1000000000 := by
  rcases rn_val (P := P) (mk := mk) (pa := pa) k a h p with e | e
  · rw [e, hp]
  · exact e
theorem rn_some {P : Nat} {mk : Nat → Nat → Int} {pa : Nat → Nat} : ∀ (k a : Nat) (h : Nat → Int), rnF P mk pa k a h → ∃ p, p < P ∧ h p ≠ 1000000000 ∧ rnH P mk pa k a h p = 1000000000
  | 0, _, _, hf => hf.elim
  | k + 1, a, h, hf => by
    rcases hf with ⟨p, hp, h2, h3, h4⟩ | hf
    · exact ⟨p, hp, h3, rn_keep (h := lo P (mk a) h) (show lo P (mk a) h p = 1000000000 from cI_p ⟨hp, h2, h3, h4⟩)⟩
    · obtain ⟨p, hp, h2, h3⟩ := rn_some k (pa a) (lo P (mk a) h) hf
      refine ⟨p, hp, fun e => h2 ?_, h3⟩
      rcases lo_val (P := P) (low := mk a) (h := h) p with e2 | e2
      · rw [e2, e]
      · exact e2
theorem rn_cnt {P : Nat} {mk : Nat → Nat → Int} {pa : Nat → Nat} {k a : Nat} {h : Nat → Int} (hf : rnF P mk pa k a h) : cnE (rnH P mk pa k a h) P < cnE h P :=
  cnE_lt P (fun _ _ e => rn_keep e) (rn_some k a h hf)
/-! a tree: its size, markings, parents, transitions, depths, leaves -/
abbrev Tz : Type := Nat × (Nat → Nat → Int) × (Nat → Nat) × (Nat → Nat) × (Nat → Nat) × (Nat → Prop)
def addT (τ : Tz) (n t : Nat) (row : Nat → Int) : Tz := (τ.1 + 1, fun k => if k = τ.1 then row else τ.2.1 k, fun k => if k = τ.1 then n else τ.2.2.1 k, fun k => if k = τ.1 then t else τ.2.2.2.1 k, fun k => if k = τ.1 then τ.2.2.2.2.1 n + 1 else τ.2.2.2.2.1 k, τ.2.2.2.2.2)
noncomputable def newT (P : Nat) (nd gv : Nat → Nat → Int) (τ : Tz) (n t : Nat) : Nat → Int := liH P τ.2.1 τ.2.2.1 (τ.2.2.2.2.1 n + 1) n (P + 1) (fun p => mv (τ.2.1 n p) (nd t p) (gv t p))
noncomputable def brT (P : Nat) (nd gv : Nat → Nat → Int) (τ : Tz) (n : Nat) : Nat → Bool × Tz
  | 0 => (true, τ)
  | k + 1 => cI ((brT P nd gv τ n k).1 = true ∧ bl P (nd k) ((brT P nd gv τ n k).2.2.1 n)) (cI ((brT P nd gv τ n k).2.1 = 200) (false, (brT P nd gv τ n k).2) (true, addT (brT P nd gv τ n k).2 n k (newT P nd gv (brT P nd gv τ n k).2 n k))) (brT P nd gv τ n k)
/-- one of the k nodes from a upwards has h's marking -/
def rpT (P : Nat) (mk : Nat → Nat → Int) (pa : Nat → Nat) : Nat → Nat → (Nat → Int) → Prop
  | 0, _, _ => False
  | k + 1, a, h => (bl P (mk a) h ∧ bl P h (mk a)) ∨ rpT P mk pa k (pa a) h
def repT (P : Nat) (τ : Tz) (n : Nat) : Prop := rpT P τ.2.1 τ.2.2.1 (τ.2.2.2.2.1 n) (τ.2.2.1 n) (τ.2.1 n)
def lfT (P : Nat) (τ : Tz) (n : Nat) : Tz := (τ.1, τ.2.1, τ.2.2.1, τ.2.2.2.1, τ.2.2.2.2.1, fun k => if k = n then repT P τ n else τ.2.2.2.2.2 k)
def plT (first : Nat → Int) : Tz := (1, fun _ => first, fun _ => 0, fun _ => 0, fun _ => 0, fun _ => False)
noncomputable def grT (P T : Nat) (nd gv : Nat → Nat → Int) (first : Nat → Int) : Nat → Bool × Tz
  | 0 => (true, plT first)
  | k + 1 => cI ((grT P T nd gv first k).1 = true ∧ k < (grT P T nd gv first k).2.1) (cI (repT P (grT P T nd gv first k).2 k) (true, lfT P (grT P T nd gv first k).2 k) (brT P nd gv (lfT P (grT P T nd gv first k).2 k) k T)) (grT P T nd gv first k)
/-- parents below, depths by one -/
def WT (P : Nat) (τ : Tz) : Prop := 1 ≤ τ.1 ∧ τ.1 ≤ 200 ∧ τ.2.2.2.2.1 0 = 0 ∧ (∀ n, 0 < n → n < τ.1 → τ.2.2.1 n < n ∧ τ.2.2.2.2.1 n = τ.2.2.2.2.1 (τ.2.2.1 n) + 1) ∧ ∀ n, n < τ.1 → ∀ p, p < P → 0 ≤ τ.2.1 n p ∧ (τ.2.1 n p = 1000000000 ∨ τ.2.1 n p ≤ 100 + 9 * n)
theorem WT_dp {P : Nat} {τ : Tz} (h : WT P τ) : ∀ n, n < τ.1 → τ.2.2.2.2.1 n ≤ n := by
  intro n
  induction n using Nat.strongRecOn with
  | ind n ih =>
    intro hn
    by_cases h0 : n = 0
    · subst h0; rw [h.2.2.1]; omega
    · obtain ⟨h1, h2⟩ := h.2.2.2.1 n (by omega) hn
      have := ih _ h1 (by omega)
      omega
theorem WT_0 {P : Nat} {τ : Tz} (h : WT P τ) {n : Nat} (hn : n < τ.1) (hd : τ.2.2.2.2.1 n = 0) : n = 0 := by
  by_cases h0 : n = 0
  · exact h0
  · have := (h.2.2.2.1 n (by omega) hn).2
    omega
theorem WT_add {P : Nat} {nd gv : Nat → Nat → Int} {τ : Tz} {n t : Nat} (h : WT P τ) (hn : n < τ.1) (hs : τ.1 < 200) (hen : bl P (nd t) (τ.2.1 n)) (hnd : ∀ p, p < P → 0 ≤ nd t p) (hgv : ∀ p, p < P → 0 ≤ gv t p ∧ gv t p ≤ 9) : WT P (addT τ n t (newT P nd gv τ n t)) := by
  obtain ⟨h1, h2, h3, h4, h5⟩ := h
  refine ⟨by show 1 ≤ τ.1 + 1; omega, by show τ.1 + 1 ≤ 200; omega, ?_, fun k hk0 hk => ?_, fun k hk p hp => ?_⟩
  · show (if 0 = τ.1 then _ else _) = 0
    rw [if_neg (by omega)]; exact h3
  · have hk' : k < τ.1 + 1 := hk
    show (if k = τ.1 then n else τ.2.2.1 k) < k ∧ (if k = τ.1 then τ.2.2.2.2.1 n + 1 else τ.2.2.2.2.1 k) = (if (if k = τ.1 then n else τ.2.2.1 k) = τ.1 then _ else τ.2.2.2.2.1 (if k = τ.1 then n else τ.2.2.1 k)) + 1
    by_cases e : k = τ.1
    · rw [if_pos e, if_pos e, if_neg (by omega)]
      exact ⟨by omega, rfl⟩
    · obtain ⟨g1, g2⟩ := h4 k hk0 (by omega)
      rw [if_neg e, if_neg e, if_neg (by omega)]
      exact ⟨g1, g2⟩
  · have hk' : k < τ.1 + 1 := hk
    show 0 ≤ (if k = τ.1 then newT P nd gv τ n t else τ.2.1 k) p ∧ _
    by_cases e : k = τ.1
    · have e9 : (addT τ n t (newT P nd gv τ n t)).2.1 k p = newT P nd gv τ n t p := by
        show (if k = τ.1 then newT P nd gv τ n t else τ.2.1 k) p = _
        rw [if_pos e]
      rw [e9, if_pos e]
      obtain ⟨b1, b2⟩ := h5 n hn p hp
      have b3 := hen p hp
      have b4 := hnd p hp
      have b5 := hgv p hp
      have hmv : 0 ≤ mv (τ.2.1 n p) (nd t p) (gv t p) ∧ (mv (τ.2.1 n p) (nd t p) (gv t p) = 1000000000 ∨ mv (τ.2.1 n p) (nd t p) (gv t p) ≤ 100 + 9 * k) := by
        unfold mv
        split
        · exact ⟨by omega, Or.inl rfl⟩
        · refine ⟨by omega, Or.inr ?_⟩
          rcases b2 with b2 | b2
          · omega
          · omega
      unfold newT
      rcases li_val (P := P) (mk := τ.2.1) (pa := τ.2.2.1) (k := τ.2.2.2.2.1 n + 1) (a := n) (P + 1) (fun p => mv (τ.2.1 n p) (nd t p) (gv t p)) p with e2 | e2
      · rw [e2]; exact hmv
      · rw [e2]; exact ⟨by omega, Or.inl rfl⟩
    · have e9 : (addT τ n t (newT P nd gv τ n t)).2.1 k p = τ.2.1 k p := by
        show (if k = τ.1 then newT P nd gv τ n t else τ.2.1 k) p = _
        rw [if_neg e]
      rw [e9, if_neg e]
      exact h5 k (by omega) p hp
theorem WT_br {P : Nat} {nd gv : Nat → Nat → Int} {τ : Tz} {n : Nat} (h : WT P τ) (hn : n < τ.1) : ∀ k : Nat, (∀ t, t < k → ∀ p, p < P → 0 ≤ nd t p) → (∀ t, t < k → ∀ p, p < P → 0 ≤ gv t p ∧ gv t p ≤ 9) → WT P (brT P nd gv τ n k).2 ∧ τ.1 ≤ (brT P nd gv τ n k).2.1
  | 0, _, _ => ⟨h, Nat.le_refl _⟩
  | k + 1, hnd, hgv => by
    obtain ⟨h1, h2⟩ := WT_br h hn k (fun t ht => hnd t (by omega)) (fun t ht => hgv t (by omega))
    show WT P (cI _ _ _ : Bool × Tz).2 ∧ τ.1 ≤ (cI _ _ _ : Bool × Tz).2.1
    by_cases hc : (brT P nd gv τ n k).1 = true ∧ bl P (nd k) ((brT P nd gv τ n k).2.2.1 n)
    · rw [cI_p hc]
      by_cases hs : (brT P nd gv τ n k).2.1 = 200
      · rw [cI_p hs]; exact ⟨h1, h2⟩
      · rw [cI_n hs]
        refine ⟨WT_add h1 (by omega) (by have := h1.2.1; omega) hc.2 (hnd k (by omega)) (hgv k (by omega)), ?_⟩
        show τ.1 ≤ (brT P nd gv τ n k).2.1 + 1
        omega
    · rw [cI_n hc]; exact ⟨h1, h2⟩
theorem WT_lf {P : Nat} {τ : Tz} {n : Nat} (h : WT P τ) : WT P (lfT P τ n) := h
theorem WT_gr {P T : Nat} {nd gv : Nat → Nat → Int} {first : Nat → Int} (hf : ∀ p, p < P → 0 ≤ first p ∧ first p ≤ 100) (hnd : ∀ t, t < T → ∀ p, p < P → 0 ≤ nd t p) (hgv : ∀ t, t < T → ∀ p, p < P → 0 ≤ gv t p ∧ gv t p ≤ 9) : ∀ k : Nat, WT P (grT P T nd gv first k).2
  | 0 => ⟨Nat.le_refl _, (by decide : 1 ≤ 200), rfl, fun n h1 h2 => by have h3 : n < 1 := h2; omega, fun n hn p hp => ⟨(hf p hp).1, Or.inr (by have := (hf p hp).2; show first p ≤ _; omega)⟩⟩
  | k + 1 => by
    have h1 := WT_gr hf hnd hgv k
    show WT P (cI _ _ _ : Bool × Tz).2
    by_cases hc : (grT P T nd gv first k).1 = true ∧ k < (grT P T nd gv first k).2.1
    · rw [cI_p hc]
      by_cases hr : repT P (grT P T nd gv first k).2 k
      · rw [cI_p hr]; exact h1
      · rw [cI_n hr]
        exact (WT_br (τ := lfT P (grT P T nd gv first k).2 k) h1 hc.2 T hnd hgv).1
    · rw [cI_n hc]; exact h1
theorem br_false {P : Nat} {nd gv : Nat → Nat → Int} {τ : Tz} {n k : Nat} (h : (brT P nd gv τ n k).1 = false) : ∀ j, brT P nd gv τ n (k + j) = brT P nd gv τ n k
  | 0 => rfl
  | j + 1 => by
    have h1 := br_false h j
    show brT P nd gv τ n ((k + j) + 1) = _
    refine (cI_n (fun z => ?_)).trans h1
    have z1 : (brT P nd gv τ n (k + j)).1 = true := z.1
    rw [h1, h] at z1
    cases z1
theorem gr_false {P T : Nat} {nd gv : Nat → Nat → Int} {first : Nat → Int} {k : Nat} (h : (grT P T nd gv first k).1 = false ∨ (grT P T nd gv first k).2.1 ≤ k) : ∀ j, grT P T nd gv first (k + j) = grT P T nd gv first k
  | 0 => rfl
  | j + 1 => by
    have h1 := gr_false h j
    show grT P T nd gv first ((k + j) + 1) = _
    refine (cI_n (fun z => ?_)).trans h1
    have z1 : (grT P T nd gv first (k + j)).1 = true := z.1
    have z2 : k + j < (grT P T nd gv first (k + j)).2.1 := z.2
    rw [h1] at z1 z2
    rcases h with h | h
    · rw [h] at z1; cases z1
    · omega
