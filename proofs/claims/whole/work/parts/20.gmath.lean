/-! ===== the goals, as mathematics ===== -/
def knG (P : Nat) (γ : Tz) (c : Nat → Int) : Prop := ∃ k, k < γ.1 ∧ ¬ γ.2.2.2.2.2 k ∧ bl P (γ.2.1 k) c
def adG (P : Nat) (γ : Tz) (n t : Nat) (c : Nat → Int) : Tz := (γ.1 + 1, fun k => if k = γ.1 then c else γ.2.1 k, fun k => if k = γ.1 then n else γ.2.2.1 k, fun k => if k = γ.1 then t else γ.2.2.2.1 k, fun k => if k = γ.1 then γ.2.2.2.2.1 n + 1 else γ.2.2.2.2.1 k, fun k => if k = γ.1 then False else (γ.2.2.2.2.2 k ∨ bl P c (γ.2.1 k)))
def cdG (nd gv : Nat → Nat → Int) (γ : Tz) (n t : Nat) : Nat → Int := fun p => mb (γ.2.1 n p) (nd t p) (gv t p)
noncomputable def bkG (P : Nat) (nd gv : Nat → Nat → Int) (γ : Tz) (n : Nat) : Nat → Bool × Tz
  | 0 => (true, γ)
  | k + 1 => cI ((bkG P nd gv γ n k).1 = true ∧ ¬ knG P (bkG P nd gv γ n k).2 (cdG nd gv (bkG P nd gv γ n k).2 n k)) (cI ((bkG P nd gv γ n k).2.1 = 48) (false, (bkG P nd gv γ n k).2) (true, adG P (bkG P nd gv γ n k).2 n k (cdG nd gv (bkG P nd gv γ n k).2 n k))) (bkG P nd gv γ n k)
noncomputable def gtG (P T : Nat) (nd gv : Nat → Nat → Int) (wn : Nat → Int) : Nat → Bool × Tz
  | 0 => (true, plT wn)
  | k + 1 => cI ((gtG P T nd gv wn k).1 = true ∧ k < (gtG P T nd gv wn k).2.1 ∧ ¬ (gtG P T nd gv wn k).2.2.2.2.2.2 k) (bkG P nd gv (gtG P T nd gv wn k).2 k T) (gtG P T nd gv wn k)
def WG (P : Nat) (γ : Tz) : Prop := 1 ≤ γ.1 ∧ γ.1 ≤ 48 ∧ γ.2.2.2.2.1 0 = 0 ∧ (∀ n, 0 < n → n < γ.1 → γ.2.2.1 n < n ∧ γ.2.2.2.2.1 n = γ.2.2.2.2.1 (γ.2.2.1 n) + 1) ∧ ∀ n, n < γ.1 → ∀ p, p < P → 0 ≤ γ.2.1 n p ∧ γ.2.1 n p ≤ 100 + 9 * n
theorem WG_dp {P : Nat} {τ : Tz} (h : WG P τ) : ∀ n, n < τ.1 → τ.2.2.2.2.1 n ≤ n := by
  intro n
  induction n using Nat.strongRecOn with
  | ind n ih =>
    intro hn
    by_cases h0 : n = 0
    · subst h0; rw [h.2.2.1]; omega
    · obtain ⟨h1, h2⟩ := h.2.2.2.1 n (by omega) hn
      have := ih _ h1 (by omega)
      omega
theorem WG_ad {P : Nat} {nd gv : Nat → Nat → Int} {γ : Tz} {n t : Nat} (h : WG P γ) (hn : n < γ.1) (hs : γ.1 < 48) (hnd : ∀ p, p < P → 0 ≤ nd t p ∧ nd t p ≤ 9) (hgv : ∀ p, p < P → 0 ≤ gv t p ∧ gv t p ≤ 9) : WG P (adG P γ n t (cdG nd gv γ n t)) := by
  obtain ⟨h1, h2, h3, h4, h5⟩ := h
  refine ⟨by show 1 ≤ γ.1 + 1; omega, by show γ.1 + 1 ≤ 48; omega, ?_, fun k hk0 hk => ?_, fun k hk p hp => ?_⟩
  · show (if 0 = γ.1 then _ else _) = 0
    rw [if_neg (by omega)]; exact h3
  · have hk' : k < γ.1 + 1 := hk
    show (if k = γ.1 then n else γ.2.2.1 k) < k ∧ (if k = γ.1 then γ.2.2.2.2.1 n + 1 else γ.2.2.2.2.1 k) = (if (if k = γ.1 then n else γ.2.2.1 k) = γ.1 then _ else γ.2.2.2.2.1 (if k = γ.1 then n else γ.2.2.1 k)) + 1
    by_cases e : k = γ.1
    · rw [if_pos e, if_pos e, if_neg (by omega)]
      exact ⟨by omega, rfl⟩
    · obtain ⟨g1, g2⟩ := h4 k hk0 (by omega)
      rw [if_neg e, if_neg e, if_neg (by omega)]
      exact ⟨g1, g2⟩
  · have hk' : k < γ.1 + 1 := hk
    by_cases e : k = γ.1
    · have e9 : (adG P γ n t (cdG nd gv γ n t)).2.1 k p = mb (γ.2.1 n p) (nd t p) (gv t p) := by
        show (if k = γ.1 then cdG nd gv γ n t else γ.2.1 k) p = _
        rw [if_pos e]; rfl
      rw [e9]
      obtain ⟨b1, b2⟩ := h5 n hn p hp
      have b4 := hnd p hp
      have b5 := hgv p hp
      unfold mb
      split <;> omega
    · have e9 : (adG P γ n t (cdG nd gv γ n t)).2.1 k p = γ.2.1 k p := by
        show (if k = γ.1 then cdG nd gv γ n t else γ.2.1 k) p = _
        rw [if_neg e]
      rw [e9]
      exact h5 k (by omega) p hp
theorem WG_bk {P : Nat} {nd gv : Nat → Nat → Int} {γ : Tz} {n : Nat} (h : WG P γ) (hn : n < γ.1) : ∀ k : Nat, (∀ t, t < k → ∀ p, p < P → 0 ≤ nd t p ∧ nd t p ≤ 9) → (∀ t, t < k → ∀ p, p < P → 0 ≤ gv t p ∧ gv t p ≤ 9) → WG P (bkG P nd gv γ n k).2 ∧ γ.1 ≤ (bkG P nd gv γ n k).2.1
  | 0, _, _ => ⟨h, Nat.le_refl _⟩
  | k + 1, hnd, hgv => by
    obtain ⟨h1, h2⟩ := WG_bk h hn k (fun t ht => hnd t (by omega)) (fun t ht => hgv t (by omega))
    show WG P (cI _ _ _ : Bool × Tz).2 ∧ γ.1 ≤ (cI _ _ _ : Bool × Tz).2.1
    by_cases hc : (bkG P nd gv γ n k).1 = true ∧ ¬ knG P (bkG P nd gv γ n k).2 (cdG nd gv (bkG P nd gv γ n k).2 n k)
    · rw [cI_p hc]
      by_cases hs : (bkG P nd gv γ n k).2.1 = 48
      · rw [cI_p hs]; exact ⟨h1, h2⟩
      · rw [cI_n hs]
        refine ⟨WG_ad h1 (by omega) (by have := h1.2.1; omega) (hnd k (by omega)) (hgv k (by omega)), ?_⟩
        show γ.1 ≤ (bkG P nd gv γ n k).2.1 + 1
        omega
    · rw [cI_n hc]; exact ⟨h1, h2⟩
theorem WG_gt {P T : Nat} {nd gv : Nat → Nat → Int} {wn : Nat → Int} (hf : ∀ p, p < P → 0 ≤ wn p ∧ wn p ≤ 100) (hnd : ∀ t, t < T → ∀ p, p < P → 0 ≤ nd t p ∧ nd t p ≤ 9) (hgv : ∀ t, t < T → ∀ p, p < P → 0 ≤ gv t p ∧ gv t p ≤ 9) : ∀ k : Nat, WG P (gtG P T nd gv wn k).2
  | 0 => ⟨Nat.le_refl _, (by decide : 1 ≤ 48), rfl, fun n h1 h2 => by have h3 : n < 1 := h2; omega, fun n hn p hp => ⟨(hf p hp).1, by have := (hf p hp).2; show wn p ≤ _; omega⟩⟩
  | k + 1 => by
    have h1 := WG_gt hf hnd hgv k
    show WG P (cI _ _ _ : Bool × Tz).2
    by_cases hc : (gtG P T nd gv wn k).1 = true ∧ k < (gtG P T nd gv wn k).2.1 ∧ ¬ (gtG P T nd gv wn k).2.2.2.2.2.2 k
    · rw [cI_p hc]
      exact (WG_bk h1 hc.2.1 T hnd hgv).1
    · rw [cI_n hc]; exact h1
theorem bk_false {P : Nat} {nd gv : Nat → Nat → Int} {τ : Tz} {n k : Nat} (h : (bkG P nd gv τ n k).1 = false) : ∀ j, bkG P nd gv τ n (k + j) = bkG P nd gv τ n k
  | 0 => rfl
  | j + 1 => by
    have h1 := bk_false h j
    show bkG P nd gv τ n ((k + j) + 1) = _
    refine (cI_n (fun z => ?_)).trans h1
    have z1 : (bkG P nd gv τ n (k + j)).1 = true := z.1
    rw [h1, h] at z1
    cases z1
theorem gt_false {P T : Nat} {nd gv : Nat → Nat → Int} {wn : Nat → Int} {k : Nat} (h : (gtG P T nd gv wn k).1 = false ∨ (gtG P T nd gv wn k).2.1 ≤ k) : ∀ j, gtG P T nd gv wn (k + j) = gtG P T nd gv wn k
  | 0 => rfl
  | j + 1 => by
    have h1 := gt_false h j
    show gtG P T nd gv wn ((k + j) + 1) = _
    refine (cI_n (fun z => ?_)).trans h1
    have z1 : (gtG P T nd gv wn (k + j)).1 = true := z.1
    have z2 : k + j < (gtG P T nd gv wn (k + j)).2.1 := z.2.1
    rw [h1] at z1 z2
    rcases h with h | h
    · rw [h] at z1; cases z1
    · omega
/-- how many of the first k are kept -/
noncomputable def kcG (γ : Tz) : Nat → Nat
  | 0 => 0
  | k + 1 => kcG γ k + cI (γ.2.2.2.2.2 k) 0 1
theorem kcG_le (γ : Tz) : ∀ k, kcG γ k ≤ k
  | 0 => Nat.le_refl _
  | k + 1 => by
    have := kcG_le γ k
    show kcG γ k + cI (γ.2.2.2.2.2 k) 0 1 ≤ k + 1
    by_cases h : γ.2.2.2.2.2 k
    · rw [cI_p h]; omega
    · rw [cI_n h]; omega
theorem kcG_lt {γ : Tz} {v : Nat} (hv : ¬ γ.2.2.2.2.2 v) : ∀ k, v < k → kcG γ v < kcG γ k
  | 0, h => by omega
  | k + 1, h => by
    show kcG γ v < kcG γ k + cI (γ.2.2.2.2.2 k) 0 1
    by_cases e : v = k
    · subst e; rw [cI_n hv]; omega
    · have := kcG_lt hv k (by omega)
      omega
/-- an int, wrapped -/
def wr (x : Int) : Int := (Int32.ofInt x).toInt
theorem wr_ok (x : Int) : okI (wr x) := okT _
theorem wr_of (x : Int) : Int32.ofInt (wr x) = Int32.ofInt x := i32R _
theorem wr_id {x : Int} (h : okI x) : wr x = x := i32T h
theorem wr_0 {x : Int} (h1 : -2147483648 - 1000 ≤ x) (h2 : x ≤ 2147483647) : wr x = 0 ↔ x = 0 := by
  unfold wr
  rw [Int32.toInt_ofInt]
  have e : (Int32.size : Nat) = 4294967296 := by decide
  simp only [e, Int.bmod]
  split <;> omega
theorem wr_s (x : Int) : wr (wr x + -1) = wr (x - 1) := by
  unfold wr
  congr 1
  rw [Int32.ofInt_add, i32R, ← Int32.ofInt_add]
  rfl
section WRR
variable {l : Launch} {E : aE} {q : aK} {d pc nx : Nat} {L : List (Option aA)} {st : List aA} {M : aM} {P : aP}
theorem aw_inw {k : Nat} {x n : Int} (h : Kn q pc k n nx) (hk : L[k]? = some (some (iV x))) (kk : aw l E q d nx (L.set k (some (iV (wr (x + n))))) st M P) : aw l E q d pc L st M P := by
  intro p e R s m args below meth cd H locs cells slots kc ks ls hx hG hM hd hl hR hS hL hst c1 c2 s1 s2
  obtain ⟨hkn, h1, h2⟩ := h
  subst h2
  obtain ⟨lv, g1, g2⟩ := lsA_set (v := iV (wr (x + n))) hL hkn (wr_ok _) rfl
  obtain ⟨g3, -, -⟩ := hL.2.2 k _ hk
  have g4 : lv_has ls q.2.2.1 ((k, Value.int (Int32.ofInt x)) :: lv) := ⟨g1.1, g1.2.1, fun y hy => (List.mem_cons.mp hy).elim (fun e => by rw [e]; exact g3) (g1.2.2 y)⟩
  refine lv_iinc (k := 0) (lv := (k, Value.int (Int32.ofInt x)) :: lv) hx hM.2.2.1 h1 g4 rfl (v := Int32.ofInt (wr (x + n))) (by rw [wr_of, Int32.ofInt_add]) hkn rfl fun ls' h' => ?_
  have h'' : lv_has ls' q.2.2.1 ((k, cvA E (iV (wr (x + n)))) :: lv.filter (fun q => !(q.1 == k) && !(q.1 + 1 == k && q.2.category == 2))) := by
    have e : ((k, Value.int (Int32.ofInt x)) :: lv).filter (fun q => !(q.1 == k) && !(q.1 + 1 == k && q.2.category == 2)) = lv.filter (fun q => !(q.1 == k) && !(q.1 + 1 == k && q.2.category == 2)) := by
      rw [List.filter_cons_of_neg]
      simp
    rw [e] at h'
    exact h'
  exact kk p e R s m args below meth cd H locs cells slots kc ks ls' hx hG hM hd hl hR hS (g2 ls' h'') hst c1 c2 s1 s2
theorem aw_inw2 {x0 x1 x3 x4 x5 x6 : Option aA} {x n : Int} (h : Kn q pc 2 n nx) (kk : aw l E q d nx [x0, x1, some (iV (wr (x + n))), x3, x4, x5, x6] st M P) : aw l E q d pc [x0, x1, some (iV x), x3, x4, x5, x6] st M P := aw_inw h rfl kk
end WRR
