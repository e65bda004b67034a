section AW4
variable {l : Launch} {E : aE} {q : aK} {d pc nx tg : Nat} {L : List (Option aA)} {st : List aA} {M : aM} {P : aP} {S : aS} {g : aG} {u : aU}
theorem i32nn {x : Int} (h : okI x) (h0 : 0 ≤ x) : ¬ Int32.ofInt x < 0 := fun hz => by
  have := (i32L h ok0).mp hz
  omega
/-- a new cell of kind kn behind S's -/
def nwA (S : aS) (kn : Nat × Nat) : aS := (S.1 + 1, fun a => if a = S.1 then kn else S.2.1 a, fun a b => if a = S.1 then none else S.2.2 a b)
def nwG (S : aS) (g : aG) : aG := fun a b => if a = S.1 then 0 else g a b
theorem nwG_ok (h : ∀ i j, okI (g i j)) : ∀ i j, okI (nwG S g i j) := by
  intro i j
  unfold nwG
  split
  · exact ok0
  · exact h i j
theorem wsA_new (E : aE) (S : aS) (g : aG) (kn : Nat × Nat) : wsA E (nwA S kn) (nwG S g) = wsA E S g ++ [(E.1.2.1 + S.1, picA E kn (fun _ => none) (fun _ => 0))] := by
  unfold wsA
  show (List.range (S.1 + 1)).map _ = _
  rw [List.range_succ, List.map_append]
  congr 1
  · apply List.map_congr_left
    intro a ha
    have hne : a ≠ S.1 := by have := List.mem_range.mp ha; omega
    have e1 : (nwA S kn).2.1 a = S.2.1 a := if_neg hne
    have e2 : (nwA S kn).2.2 a = S.2.2 a := by funext b; exact if_neg hne
    have e3 : nwG S g a = g a := by funext b; exact if_neg hne
    rw [e1, e2, e3]
  · have e1 : (nwA S kn).2.1 S.1 = kn := if_pos rfl
    have e2 : (nwA S kn).2.2 S.1 = fun _ => none := by funext b; exact if_pos rfl
    have e3 : nwG S g S.1 = fun _ => 0 := by funext b; exact if_pos rfl
    rw [List.map_cons, List.map_nil, e1, e2, e3]
theorem rlA_new {E : aE} {S : aS} {g : aG} {a b a' b' : Nat} {H H1 : Heap} {kn : Nat × Nat} (hR : rlA E (S, g, a, b, true) H) (z : H1.size = H.size + 1) (o : ∀ q, q < H.size → H1[q]? = H[q]?) (hn : va_at E.2.1 vwCl (E.1.2.1 + S.1, picA E kn (fun _ => none) (fun _ => 0)) H1) : rlA E (nwA S kn, nwG S g, a', b', true) H1 := by
  have hz : H.size = E.1.2.1 + S.1 := hR.2.2 rfl
  refine ⟨?_, nwG_ok hR.2.1, fun _ => by show H1.size = E.1.2.1 + (S.1 + 1); omega⟩
  show va_P E.2.1 vwCl (wsA E (nwA S kn) (nwG S g)) H1
  rw [wsA_new]
  refine (hR.1.kept (fun k x hx => o x.1 (hR.1 k x hx).lt)).app (fun k x hx => ?_)
  have hk : k < 1 := (List.getElem?_eq_some_iff.mp hx).1
  rw [show k = 0 by omega] at hx
  cases hx
  exact hn
theorem vaS_new {A : Nat → Prop} {H0 H H1 : Heap} {locs : List Loc} (hS : va_S A H0 H locs) (z : H.size ≤ H1.size) (o : ∀ q, q < H.size → H1[q]? = H[q]?) : va_S A H0 H1 locs :=
  ⟨Nat.le_trans hS.1 z, fun x h1 h2 => (o x (Nat.lt_of_lt_of_le h1 hS.1)).trans (hS.2.1 x h1 h2), hS.2.2⟩
/-- new: an object of class c -/
abbrev KN (q : aK) (pc c N nx : Nat) : Prop := ∃ (idx : Nat) (r : vw_C) (t0 : Nat → FieldType), decode q.2.1 pc = .ok (.new idx, 3) ∧ pc + 3 = nx ∧ vwCl[c]? = some r ∧ r.2.2 = N ∧ Cond.classLink q.1.cls idx r.1 ∈ lw_tbl ∧ Cond.instantiable r.1 N ∈ lw_tbl ∧ Cond.initialized r.1 ∈ lw_tbl ∧ (∀ w ∈ u_ws r.1 r.2.1 r.2.2, w ∈ lw_tbl) ∧ (∀ j, j < r.2.2 → parseFieldDescriptor (r.2.1 j).2.2.1 = some (t0 j)) ∧ ∀ j, j < r.2.2 → ∃ b, (rfX c)[j]? = some b ∧ defaultValue (t0 j) = if b then .null else .int 0
theorem aw_new {c N a b : Nat} (h : KN q pc c N nx) (ha : 1 ≤ a) (hb : N ≤ b) (kk : aw l E q d nx L (rV S.1 :: st) (nwA S (c + 4, 0), nwG S g, a - 1, b - N, true) P) : aw l E q d pc L st (S, g, a, b, true) P := by
  intro p e R s m args below meth cd H locs cells slots kc ks ls hx hG hM hd hl hR hS hL hst c1 c2 s1 s2
  obtain ⟨idx, ⟨C, T, N'⟩, t0, h1, h2, r1, r2, r3, r4, r5, r6, r7, r8⟩ := h
  subst h2
  have c1' : cells + a ≤ kc := c1
  have s1' : slots + b ≤ ks := s1
  have hz : H.size = E.1.2.1 + S.1 := hR.2.2 rfl
  have hKn := hG.2.2.2.2.1.1 c _ r1
  have hts : ∀ w ∈ u_ws C T N', w.before args s = true := fun w hw => cxW hG (r6 w hw) (u_stW w hw) args
  have hcN : (Cond.instantiable C N).before args s = true := cxW hG r4 rfl args
  refine W.newcK hx hM.2.2.1 (findClass_of_methodNamed hM.1) (cxW hG r3 rfl args) hcN (cxW hG r5 rfl args) rfl h1 (by omega) (by omega) hKn.2.1 hz fun H1 kC hkC e1 z1 o1 => ?_
  rw [← hz] at z1 o1 
  have hnew : va_at E.2.1 vwCl (E.1.2.1 + S.1, picA E (c + 4, 0) (fun _ => none) (fun _ => 0)) H1 := by
    refine ⟨_, r1, (u_born t0 hts (fun w hw => hw) hKn hkC e1 r7).to (fun j hj => ?_)⟩
    obtain ⟨b', hb1, hb2⟩ := r8 j hj
    show defaultValue (t0 j) = (fsA E c (fun _ => none) (fun _ => 0)).getD j .null
    rw [hb2, List.getD_eq_getElem?_getD, fsA_get hb1]
    cases b' <;> rfl
  exact kk p e R s m args below meth cd H1 locs (cells + 1) (slots + N) kc ks ls hx hG hM hd hl (rlA_new hR z1 o1 hnew) (vaS_new hS (by omega) o1) hL (ok_cons (v := rV S.1) trivial hst) (by show cells + 1 + (a - 1) ≤ kc; omega) c2 (by show slots + N + (b - N) ≤ ks; omega) s2
abbrev KA (q : aK) (pc : Nat) (t : ArrayType) (nx : Nat) : Prop := decode q.2.1 pc = .ok (.newarray t, 2) ∧ pc + 2 = nx ∧ Cond.arrayClass (newarray.typeOf t) ∈ lw_tbl
theorem aw_na {x : Int} {k a b : Nat} (h : KA q pc .int nx) (hk : x = (k : Int)) (hk2 : k ≤ 100000) (ha : 1 ≤ a) (hb : k ≤ b) (kk : aw l E q d nx L (rV S.1 :: st) (nwA S (0, k), nwG S g, a - 1, b - k, true) P) : aw l E q d pc L (iV x :: st) (S, g, a, b, true) P := by
  intro p e R s m args below meth cd H locs cells slots kc ks ls hx hG hM hd hl hR hS hL hst c1 c2 s1 s2
  obtain ⟨h1, h2, h3⟩ := h
  subst h2
  have c1' : cells + a ≤ kc := c1
  have s1' : slots + b ≤ ks := s1
  have hxo : okI x := ok_hd hst
  have hz : H.size = E.1.2.1 + S.1 := hR.2.2 rfl
  refine va_newaK hx hM.2.2.1 (cxW hG h3 rfl args) rfl h1 (n := Int32.ofInt x) (N := k) rfl (i32nn hxo (by omega)) (by rw [i32N hxo]; omega) (by show k * _ ≤ 536870912; simp [componentBytes, newarray.typeOf]; omega) (by omega) (by omega) hz fun H1 cA e1 z1 o1 hA hf => ?_
  rw [← hz] at z1 o1
  have hcA : cA = E.2.2 0 := Option.some.inj (hf.symm.trans (hG.2.2.2.2.1.2 0 (E.2.2 0, .int) rfl).2)
  subst hcA
  have hnew : va_at E.2.1 vwCl (E.1.2.1 + S.1, picA E (0, k) (fun _ => none) (fun _ => 0)) H1 := e1
  exact kk p e R s m args below meth cd H1 locs (cells + 1) (slots + k) kc ks ls hx hG hM hd hl (rlA_new hR z1 o1 hnew) (vaS_new hS (by omega) o1) hL (ok_cons (v := rV S.1) trivial (ok_tl hst)) (by show cells + 1 + (a - 1) ≤ kc; omega) c2 (by show slots + k + (b - k) ≤ ks; omega) s2
theorem aw_nz {x : Int} {k a b : Nat} (h : KA q pc .boolean nx) (hk : x = (k : Int)) (hk2 : k ≤ 100000) (ha : 1 ≤ a) (hb : k ≤ b) (kk : aw l E q d nx L (rV S.1 :: st) (nwA S (1, k), nwG S g, a - 1, b - k, true) P) : aw l E q d pc L (iV x :: st) (S, g, a, b, true) P := by
  intro p e R s m args below meth cd H locs cells slots kc ks ls hx hG hM hd hl hR hS hL hst c1 c2 s1 s2
  obtain ⟨h1, h2, h3⟩ := h
  subst h2
  have c1' : cells + a ≤ kc := c1
  have s1' : slots + b ≤ ks := s1
  have hxo : okI x := ok_hd hst
  have hz : H.size = E.1.2.1 + S.1 := hR.2.2 rfl
  refine va_newaK hx hM.2.2.1 (cxW hG h3 rfl args) rfl h1 (n := Int32.ofInt x) (N := k) rfl (i32nn hxo (by omega)) (by rw [i32N hxo]; omega) (by show k * _ ≤ 536870912; simp [componentBytes, newarray.typeOf]; omega) (by omega) (by omega) hz fun H1 cA e1 z1 o1 hA hf => ?_
  rw [← hz] at z1 o1
  have hcA : cA = E.2.2 1 := Option.some.inj (hf.symm.trans (hG.2.2.2.2.1.2 1 (E.2.2 1, .boolean) rfl).2)
  subst hcA
  have hnew : va_at E.2.1 vwCl (E.1.2.1 + S.1, picA E (1, k) (fun _ => none) (fun _ => 0)) H1 := e1
  exact kk p e R s m args below meth cd H1 locs (cells + 1) (slots + k) kc ks ls hx hG hM hd hl (rlA_new hR z1 o1 hnew) (vaS_new hS (by omega) o1) hL (ok_cons (v := rV S.1) trivial (ok_tl hst)) (by show cells + 1 + (a - 1) ≤ kc; omega) c2 (by show slots + k + (b - k) ≤ ks; omega) s2
theorem aw_nl {x : Int} {k a b : Nat} (h : KA q pc .long nx) (hk : x = (k : Int)) (hk2 : k ≤ 100000) (ha : 1 ≤ a) (hb : k ≤ b) (kk : aw l E q d nx L (rV S.1 :: st) (nwA S (2, k), nwG S g, a - 1, b - k, true) P) : aw l E q d pc L (iV x :: st) (S, g, a, b, true) P := by
  intro p e R s m args below meth cd H locs cells slots kc ks ls hx hG hM hd hl hR hS hL hst c1 c2 s1 s2
  obtain ⟨h1, h2, h3⟩ := h
  subst h2
  have c1' : cells + a ≤ kc := c1
  have s1' : slots + b ≤ ks := s1
  have hxo : okI x := ok_hd hst
  have hz : H.size = E.1.2.1 + S.1 := hR.2.2 rfl
  refine va_newaK hx hM.2.2.1 (cxW hG h3 rfl args) rfl h1 (n := Int32.ofInt x) (N := k) rfl (i32nn hxo (by omega)) (by rw [i32N hxo]; omega) (by show k * _ ≤ 536870912; simp [componentBytes, newarray.typeOf]; omega) (by omega) (by omega) hz fun H1 cA e1 z1 o1 hA hf => ?_
  rw [← hz] at z1 o1
  have hcA : cA = E.2.2 2 := Option.some.inj (hf.symm.trans (hG.2.2.2.2.1.2 2 (E.2.2 2, .long) rfl).2)
  subst hcA
  have hnew : va_at E.2.1 vwCl (E.1.2.1 + S.1, picA E (2, k) (fun _ => none) (fun _ => 0)) H1 := e1
  exact kk p e R s m args below meth cd H1 locs (cells + 1) (slots + k) kc ks ls hx hG hM hd hl (rlA_new hR z1 o1 hnew) (vaS_new hS (by omega) o1) hL (ok_cons (v := rV S.1) trivial (ok_tl hst)) (by show cells + 1 + (a - 1) ≤ kc; omega) c2 (by show slots + k + (b - k) ≤ ks; omega) s2
/-- int[n][m]: the outer array, its n rows behind it -/
def nmA (S : aS) (n m : Nat) : aS := (S.1 + 1 + n, fun a => if a = S.1 then (3, n) else if S.1 < a ∧ a ≤ S.1 + n then (0, m) else S.2.1 a, fun a b => if a = S.1 then (if b < n then some (S.1 + 1 + b) else none) else if S.1 < a ∧ a ≤ S.1 + n then none else S.2.2 a b)
def nmG (S : aS) (n : Nat) (g : aG) : aG := fun a b => if S.1 ≤ a ∧ a ≤ S.1 + n then 0 else g a b
abbrev KM (q : aK) (pc nx : Nat) : Prop := ∃ idx, decode q.2.1 pc = .ok (.multianewarray idx 2, 4) ∧ pc + 4 = nx ∧ Cond.classLink q.1.cls idx "[[I" ∈ lw_tbl ∧ Cond.arrayOver (.array .int) ∈ lw_tbl ∧ Cond.arrayClass .int ∈ lw_tbl
theorem aw_nm {x y : Int} {n m a b : Nat} (h : KM q pc nx) (hx1 : x = (n : Int)) (hy1 : y = (m : Int)) (hn : n ≤ 10000) (hm : m ≤ 10000) (ha : 1 + n ≤ a) (hb : n + n * m ≤ b) (kk : aw l E q d nx L (rV S.1 :: st) (nmA S n m, nmG S n g, a - (1 + n), b - (n + n * m), true) P) : aw l E q d pc L (iV y :: iV x :: st) (S, g, a, b, true) P := by
  intro p e R s mi args below meth cd H locs cells slots kc ks ls hx hG hM hd hl hR hS hL hst c1 c2 s1 s2
  obtain ⟨idx, h1, h2, h3, h4, h5⟩ := h
  subst h2
  have c1' : cells + a ≤ kc := c1
  have s1' : slots + b ≤ ks := s1
  have hyo : okI y := ok_hd hst
  have hxo : okI x := ok_hd (ok_tl hst)
  have hz : H.size = E.1.2.1 + S.1 := hR.2.2 rfl
  have hnx : (Int32.ofInt x).toNatClampNeg = n := by rw [i32N hxo]; omega
  have hny : (Int32.ofInt y).toNatClampNeg = m := by rw [i32N hyo]; omega
  intro T hT Xs
  obtain ⟨vm₁, cA, comp, -, fA, fC, hO, -, X', step⟩ := Xs.multianewarray2F (ty := .int) hx (findClass_of_methodNamed hM.1) (cxW hG h3 rfl args) (cxW hG h4 rfl args) (cxW hG h5 rfl args) (g := F0 mi pc ls (.int (Int32.ofInt y) :: .int (Int32.ofInt x) :: st.map (cvA E))) rfl (by rw [hM.2.2.1]; exact h1) rfl (i32nn hxo (by omega)) (i32nn hyo (by omega)) (by rw [hnx]; omega) (by rw [hny]; simp [componentBytes]; omega) (by rw [hny]; omega) rfl rfl (by rw [hnx]; omega) (by rw [hnx, hny]; omega)
  rw [hnx, hny] at X' step
  have hcA : cA = E.2.2 3 := Option.some.inj (fA.symm.trans (hG.2.2.2.2.1.2 3 (E.2.2 3, .array .int) rfl).2)
  have hcI : comp = E.2.2 0 := Option.some.inj (fC.symm.trans (hG.2.2.2.2.1.2 0 (E.2.2 0, .int) rfl).2)
  subst hcA
  subst hcI
  generalize hF : Jvm.Free.Multi.fill (T.setVm vm₁) (E.2.2 3) (E.2.2 0) n m (defaultValue .int) n = F at X' step
  have hTh : (T.setVm vm₁).heap = H := hT
  obtain ⟨f1, f2, -, -⟩ := Jvm.Free.Multi.fill_facts (T.setVm vm₁) (E.2.2 3) (E.2.2 0) n m (defaultValue .int) n
  rw [hF, hTh] at f1 f2
  have hold : ∀ z : Nat, z < H.size → F.heap[z]? = H[z]? := fun z hz9 => by
    have := Jvm.Free.Multi.fill_old (T.setVm vm₁) (E.2.2 3) (E.2.2 0) n m (defaultValue .int) (a := z) (by rw [hTh]; exact hz9) n
    rw [hF, hTh] at this
    exact this
  have hrow : ∀ j : Nat, j < n → F.heap[H.size + 1 + j]? = some (Jvm.Free.Multi.innerC (E.2.2 0) m (defaultValue .int)) := fun j hj => by
    have := Jvm.Free.Multi.fill_inner (T.setVm vm₁) (E.2.2 3) (E.2.2 0) n m (defaultValue .int) n j hj
    rw [hF, hTh] at this
    exact this
  rw [vr_outer] at f2
  have hin : Jvm.Free.Multi.innerC (E.2.2 0) m (defaultValue .int) = vp_cell (E.2.2 0) (m, .inl (fun _ => Int32.ofInt 0)) := by
    rw [vp_cell_i]
    exact arrV_new (E.2.2 0) m (defaultValue .int)
  have hR' : rlA E (nmA S n m, nmG S n g, a - (1 + n), b - (n + n * m), true) F.heap := by
    refine ⟨fun k z hk => ?_, fun i j => ?_, fun _ => ?_⟩
    · have hkl : k < S.1 + 1 + n := by
        have := (List.getElem?_eq_some_iff.mp hk).1
        simpa [wsA, nmA] using this
      have hk2 := wsA_get (E := E) (S := nmA S n m) (g := nmG S n g) (i := k) hkl
      rw [hk2] at hk
      cases hk
      by_cases e1 : k < S.1
      · have e2 : picA E ((nmA S n m).2.1 k) ((nmA S n m).2.2 k) (nmG S n g k) = picA E (S.2.1 k) (S.2.2 k) (g k) := by
          have n1 : ¬ k = S.1 := by omega
          have n2 : ¬ (S.1 < k ∧ k ≤ S.1 + n) := by omega
          have n3 : ¬ (S.1 ≤ k ∧ k ≤ S.1 + n) := by omega
          have a1 : (nmA S n m).2.1 k = S.2.1 k := by simp only [nmA, if_neg n1, if_neg n2]
          have a2 : (nmA S n m).2.2 k = S.2.2 k := by funext j; simp only [nmA, if_neg n1, if_neg n2]
          have a3 : nmG S n g k = g k := by funext j; simp only [nmG, if_neg n3]
          rw [a1, a2, a3]
        rw [e2]
        exact (hR.1 k _ (wsA_get e1)).kept (hold _ (by omega))
      · by_cases e2 : k = S.1
        · subst e2
          have a1 : (nmA S n m).2.1 S.1 = (3, n) := by simp [nmA]
          have a2 : (nmA S n m).2.2 S.1 = fun j => if j < n then some (S.1 + 1 + j) else none := by funext j; simp [nmA]
          rw [a1, a2]
          show F.heap[E.1.2.1 + S.1]? = some (arrV (E.2.2 3) n (fun j => va_rf ((if j < n then some (S.1 + 1 + j) else none).map (E.1.2.1 + ·))))
          rw [← hz, f2]
          refine congrArg (fun z => some (arrV (E.2.2 3) n z)) (funext fun j => ?_)
          by_cases hj : j < n
          · simp only [if_pos hj, Option.map_some, va_rf]
            rw [hz, show E.1.2.1 + S.1 + 1 + j = E.1.2.1 + (S.1 + 1 + j) by omega]
          · simp only [if_neg hj, Option.map_none, va_rf]
        · have n1 : ¬ k = S.1 := e2
          have n2 : S.1 < k ∧ k ≤ S.1 + n := by omega
          have n3 : S.1 ≤ k ∧ k ≤ S.1 + n := by omega
          have a1 : (nmA S n m).2.1 k = (0, m) := by simp only [nmA, if_neg n1, if_pos n2]
          have a3 : nmG S n g k = fun _ => 0 := by funext j; simp only [nmG, if_pos n3]
          rw [a1, a3]
          show F.heap[E.1.2.1 + k]? = some (vp_cell (E.2.2 0) (m, .inl (fun _ => Int32.ofInt 0)))
          rw [← hin, ← hrow (k - S.1 - 1) (by omega), hz, show E.1.2.1 + S.1 + 1 + (k - S.1 - 1) = E.1.2.1 + k by omega]
    · show okI (nmG S n g i j)
      unfold nmG
      split
      · exact ok0
      · exact hR.2.1 i j
    · show F.heap.size = E.1.2.1 + (S.1 + 1 + n)
      rw [f1]; omega
  have hTz : T.heap.size = E.1.2.1 + S.1 := by rw [hT]; exact hz
  rw [hTz] at step
  obtain ⟨t, a1, b1⟩ := kk p e R s mi args below meth cd F.heap locs (cells + 1 + n) (slots + n + n * m) kc ks ls hx hG hM hd hl hR' (vaS_new hS (by rw [f1]; omega) hold) hL (ok_cons (v := rV S.1) trivial (ok_tl (ok_tl hst))) (by show cells + 1 + n + (a - (1 + n)) ≤ kc; omega) c2 (by show slots + n + n * m + (b - (n + n * m)) ≤ ks; omega) s2 F rfl X'
  exact ⟨t, step t a1, b1⟩
abbrev KO (q : aK) (pc nx : Nat) : Prop := ∃ idx, decode q.2.1 pc = .ok (.invokespecial idx, 3) ∧ pc + 3 = nx ∧ Cond.methodLink q.1.cls idx Lib.objectInit ∈ lw_tbl ∧ Cond.instanceMethod Lib.objectInit ∈ lw_tbl ∧ Cond.code Lib.objectInit ⟨#[0xb1]⟩ 1 none ∈ lw_tbl
theorem aw_oi {i : Nat} (h : KO q pc nx) (hd1 : 1 ≤ d) (hrm : Nat.ble st.length 12 = true) (kk : aw l E q d nx L st M P) : aw l E q d pc L (rV i :: st) M P := by
  intro p e R s m args below meth cd H locs cells slots kc ks ls hx hG hM hd hl hR hS hL hst c1 c2 s1 s2
  obtain ⟨idx, h1, h2, h3, h4, h5⟩ := h
  subst h2
  have hsum := sumC E st
  have hrm := Nat.le_of_ble_eq_true hrm
  have hlc : 2 * 0 + ((st.map (cvA E)).map fun v => v.category).sum + 12 ≤ R.locals := by omega
  exact W.objInit hx hM.2.2.1 (findClass_of_methodNamed hM.1) (cxW hG h3 rfl args) (cxW hG h4 rfl args) (cxW hG h5 rfl args) (g := F0 m pc ls (.ref (E.1.2.1 + i) :: st.map (cvA E))) rfl (by show ls.size = _; rw [hL.1, hM.2.2.2.1]) rfl h1 (by omega) hlc (kk p e R s m args below meth cd H locs cells slots kc ks ls hx hG hM hd hl hR hS hL (ok_tl hst) c1 c2 s1 s2)
abbrev KX (q : aK) (pc : Nat) (y : MethodName) (nx : Nat) : Prop := ∃ idx, decode q.2.1 pc = .ok (.invokestatic idx, 3) ∧ pc + 3 = nx ∧ Cond.methodLink q.1.cls idx y ∈ lw_tbl
theorem mxW : Cond.static Lib.Math.max.name ∈ lw_tbl ∧ Cond.initialized "java/lang/Math" ∈ lw_tbl ∧ Cond.code Lib.Math.max.name Lib.Math.max.code 2 (some .int) ∈ lw_tbl := ⟨List.mem_append_right _ (List.mem_of_getElem? (i := 32) (by decide +kernel)), List.mem_append_right _ (List.mem_of_getElem? (i := 3) (by decide +kernel)), List.mem_append_right _ (List.mem_of_getElem? (i := 33) (by decide +kernel))⟩
theorem mnW : Cond.static Lib.Math.min.name ∈ lw_tbl ∧ Cond.initialized "java/lang/Math" ∈ lw_tbl ∧ Cond.code Lib.Math.min.name Lib.Math.min.code 2 (some .int) ∈ lw_tbl := ⟨List.mem_append_right _ (List.mem_of_getElem? (i := 29) (by decide +kernel)), List.mem_append_right _ (List.mem_of_getElem? (i := 3) (by decide +kernel)), List.mem_append_right _ (List.mem_of_getElem? (i := 30) (by decide +kernel))⟩
theorem aw_max {x y : Int} (h : KX q pc Lib.Math.max.name nx) (hd1 : 1 ≤ d) (hrm : Nat.ble st.length 11 = true) (kk : aw l E q d nx L (iV (if x < y then y else x) :: st) M P) : aw l E q d pc L (iV y :: iV x :: st) M P := by
  intro p e R s m args below meth cd H locs cells slots kc ks ls hx hG hM hd hl hR hS hL hst c1 c2 s1 s2
  obtain ⟨idx, h1, h2, h3⟩ := h
  subst h2
  have hyo : okI y := ok_hd hst
  have hxo : okI x := ok_hd (ok_tl hst)
  have hsum := sumC E st
  have hrm := Nat.le_of_ble_eq_true hrm
  refine va_mmax hx hM.2.2.1 (by rw [hL.1, hM.2.2.2.1]) (findClass_of_methodNamed hM.1) (cxW hG h3 rfl args) (cxW hG mxW.1 rfl args) (cxW hG mxW.2.1 rfl args) (cxW hG mxW.2.2 rfl args) (by omega) (by omega) (by omega) (by omega) h1 ?_
  have e9 : (if Int32.ofInt x < Int32.ofInt y then Int32.ofInt y else Int32.ofInt x) = Int32.ofInt (if x < y then y else x) := by
    by_cases hc : x < y
    · rw [if_pos hc, if_pos ((i32L hxo hyo).mpr hc)]
    · rw [if_neg hc, if_neg (fun z => hc ((i32L hxo hyo).mp z))]
  rw [e9]
  have hro : okI (if x < y then y else x) := by split <;> assumption
  exact kk p e R s m args below meth cd H locs cells slots kc ks ls hx hG hM hd hl hR hS hL (ok_cons (v := iV (if x < y then y else x)) hro (ok_tl (ok_tl hst))) c1 c2 s1 s2
theorem aw_min {x y : Int} (h : KX q pc Lib.Math.min.name nx) (hd1 : 1 ≤ d) (hrm : Nat.ble st.length 11 = true) (kk : aw l E q d nx L (iV (if y < x then y else x) :: st) M P) : aw l E q d pc L (iV y :: iV x :: st) M P := by
  intro p e R s m args below meth cd H locs cells slots kc ks ls hx hG hM hd hl hR hS hL hst c1 c2 s1 s2
  obtain ⟨idx, h1, h2, h3⟩ := h
  subst h2
  have hyo : okI y := ok_hd hst
  have hxo : okI x := ok_hd (ok_tl hst)
  have hsum := sumC E st
  have hrm := Nat.le_of_ble_eq_true hrm
  refine va_mmin hx hM.2.2.1 (by rw [hL.1, hM.2.2.2.1]) (findClass_of_methodNamed hM.1) (cxW hG h3 rfl args) (cxW hG mnW.1 rfl args) (cxW hG mnW.2.1 rfl args) (cxW hG mnW.2.2 rfl args) (by omega) (by omega) (by omega) (by omega) h1 ?_
  have e9 : (if Int32.ofInt y < Int32.ofInt x then Int32.ofInt y else Int32.ofInt x) = Int32.ofInt (if y < x then y else x) := by
    by_cases hc : y < x
    · rw [if_pos hc, if_pos ((i32L hyo hxo).mpr hc)]
    · rw [if_neg hc, if_neg (fun z => hc ((i32L hyo hxo).mp z))]
  rw [e9]
  have hro : okI (if y < x then y else x) := by split <;> assumption
  exact kk p e R s m args below meth cd H locs cells slots kc ks ls hx hG hM hd hl hR hS hL (ok_cons (v := iV (if y < x then y else x)) hro (ok_tl (ok_tl hst))) c1 c2 s1 s2
/-- cell j's first k numbers are cell i's -/
def cpA (g : aG) (i j k : Nat) : aG := fun a b => if a = j ∧ b < k then g i b else g a b
theorem nfw : nativeFrameWords "java/lang/System" "arraycopy" 5 = 7 := by decide
theorem cyW : Cond.native arraycopyName ∈ lw_tbl ∧ Cond.static arraycopyName ∈ lw_tbl ∧ Cond.initialized "java/lang/System" ∈ lw_tbl := by
  refine ⟨List.mem_append_right _ (List.mem_of_getElem? (i := 183) (by decide +kernel)), ?_, List.mem_append_right _ (List.mem_of_getElem? (i := 12) (by decide +kernel))⟩
  exact List.mem_append_right _ (List.mem_of_getElem? (i := 182) (by decide +kernel))
theorem aw_cp {i j n0 n1 k a b : Nat} {x : Int} (h : KX q pc arraycopyName nx) (hd1 : 1 ≤ d) (hrm : Nat.ble st.length 9 = true) (hi : hasA S i 0 n0) (hj : hasA S j 0 n1) (hx1 : x = (k : Int)) (hk0 : k ≤ n0) (hk1 : k ≤ n1) (kk : aw l E q d nx L st (S, cpA g i j k, a, b, false) P) : aw l E q d pc L (iV x :: iV 0 :: rV j :: iV 0 :: rV i :: st) (S, g, a, b, false) P := by
  intro p e R s m args below meth cd H locs cells slots kc ks ls hx hG hM hd hl hR hS hL hst c1 c2 s1 s2
  obtain ⟨idx, h1, h2, h3⟩ := h
  subst h2
  have hxo : okI x := ok_hd hst
  have hsum := sumC E st
  have hrm := Nat.le_of_ble_eq_true hrm
  have he0 : (wsA E S g)[i]? = some (E.1.2.1 + i, .inl (E.2.2 0, n0, .inl (fun b => Int32.ofInt (g i b)))) := by rw [wsA_get hi.1, hi.2]; rfl
  have he1 : (wsA E S g)[j]? = some (E.1.2.1 + j, .inl (E.2.2 0, n1, .inl (fun b => Int32.ofInt (g j b)))) := by rw [wsA_get hj.1, hj.2]; rfl
  have hkx : (Int32.ofInt x).toNatClampNeg = k := by rw [i32N hxo]; omega
  have h00 : (Int32.ofInt 0).toNatClampNeg = 0 := by decide
  refine va_copyi hx hM.2.2.1 (by rw [hL.1, hM.2.2.2.1]) (findClass_of_methodNamed hM.1) (cxW hG h3 rfl args) (cxW hG cyW.1 rfl args) (cxW hG cyW.2.1 rfl args) (cxW hG cyW.2.2 rfl args) hG.2.2.2.2.1 hR.1 (wsA_D E S g) hS i j 0 0 (sp := Int32.ofInt 0) (dp := Int32.ofInt 0) (n := Int32.ofInt x) (ty := .int) he0 he1 rfl rfl rfl (by decide) (by decide) (i32nn hxo (by omega)) (by rw [hkx, h00]; omega) (by rw [hkx, h00]; omega) (fun b hb => rfl) (by omega) (by rw [nfw]; omega) h1 fun H1 locs1 k1 k2 k3 => ?_
  rw [hkx, h00] at k1
  have ew : (wsA E S g).set j (E.1.2.1 + j, .inl (E.2.2 0, n1, .inl (va_cpy (fun b => Int32.ofInt (g i b)) (fun b => Int32.ofInt (g j b)) 0 0 k))) = wsA E S (cpA g i j k) := by
    refine wsA_set hj.1 rfl ?_ (fun z hz => ?_)
    · rw [hj.2]
      show Sum.inl (E.2.2 0, n1, Sum.inl _) = Sum.inl (E.2.2 0, n1, Sum.inl _)
      refine congrArg (fun f => Sum.inl (E.2.2 0, n1, Sum.inl f)) (funext fun b => ?_)
      show va_cpy _ _ 0 0 k b = Int32.ofInt (cpA g i j k j b)
      unfold va_cpy cpA
      by_cases hb : b < k
      · rw [if_pos ⟨Nat.zero_le _, by omega⟩, if_pos ⟨rfl, hb⟩]
        simp
      · rw [if_neg (by omega), if_neg (by omega)]
    · have e : cpA g i j k z = g z := by funext b; exact if_neg (fun w => hz w.1)
      rw [e]
  have k1 : va_P E.2.1 vwCl (wsA E S (cpA g i j k)) H1 := by rw [← ew]; exact k1
  have hok : ∀ c b, okI (cpA g i j k c b) := by
    intro c b
    unfold cpA
    split
    · exact hR.2.1 i b
    · exact hR.2.1 c b
  exact kk p e R s m args below meth cd H1 locs1 cells slots kc ks ls hx hG hM hd hl ⟨k1, hok, fun z => by cases z⟩ k3 hL (fun v hv => hst v (by simp [hv])) c1 c2 s1 s2
abbrev Kz (q : aK) (pc : Nat) (lo hi : Int) (dt : Nat) (tgs : List Nat) : Prop := ∃ (df : Int) (offs : Array Int) (len : Nat), decode q.2.1 pc = .ok (.tableswitch df lo hi offs, len) ∧ (pc : Int) + df = (dt : Int) ∧ offs.toList.map (fun o => (pc : Int) + o) = tgs.map (fun t : Nat => (t : Int))
theorem aw_swi {lo hi x : Int} {dt : Nat} {tgs : List Nat} (h : Kz q pc lo hi dt tgs) (k : Nat) (hx1 : x = lo + k) (hx2 : x ≤ hi) (ht : tgs[k]? = some tg) (kk : aw l E q d tg L st M P) : aw l E q d pc L (iV x :: st) M P := by
  intro p e R s m args below meth cd H locs cells slots kc ks ls hx hG hM hd hl hR hS hL hst c1 c2 s1 s2
  obtain ⟨df, offs, len, h1, h2, h3⟩ := h
  have hxo : okI x := ok_hd hst
  have h4 : (offs.toList.map (fun o => (pc : Int) + o))[k]? = some (tg : Int) := by rw [h3]; simp [ht]
  obtain ⟨off, h5, h6⟩ : ∃ off, offs.toList[k]? = some off ∧ (pc : Int) + off = (tg : Int) := by
    rw [List.getElem?_map] at h4
    cases ho : offs.toList[k]? with
    | none => rw [ho] at h4; cases h4
    | some o => rw [ho] at h4; exact ⟨o, rfl, Option.some.inj h4⟩
  exact lv_tableIn hx hM.2.2.1 h1 (by rw [i32T hxo]; omega) (by rw [i32T hxo]; omega) (by rw [i32T hxo, show (x - lo).toNat = k by omega, ← Array.getElem?_toList]; exact h5) h6 (kk p e R s m args below meth cd H locs cells slots kc ks ls hx hG hM hd hl hR hS hL (ok_tl hst) c1 c2 s1 s2)
theorem aw_swo {lo hi x : Int} {dt : Nat} {tgs : List Nat} (h : Kz q pc lo hi dt tgs) (hx1 : x < lo ∨ hi < x) (kk : aw l E q d dt L st M P) : aw l E q d pc L (iV x :: st) M P := by
  intro p e R s m args below meth cd H locs cells slots kc ks ls hx hG hM hd hl hR hS hL hst c1 c2 s1 s2
  obtain ⟨df, offs, len, h1, h2, h3⟩ := h
  have hxo : okI x := ok_hd hst
  exact lv_tableOut hx hM.2.2.1 h1 (by rw [i32T hxo]; exact hx1) h2 (kk p e R s m args below meth cd H locs cells slots kc ks ls hx hG hM hd hl hR hS hL (ok_tl hst) c1 c2 s1 s2)
theorem aw_V0 {q' : aK} {ci i nn : Nat} (h : KV q pc q' ci 0 nx) (h0 : q.2.2.2.2 = []) (hrm : Nat.ble (2 * st.length + q'.2.2.1) 25 = true) (hh : hasA S i (ci + 4) nn) (k : Sp l E q' d [rV i] (S, g, u) (cnA l E q (d + 1) nx L st P)) : aw l E q (d + 1) pc L (rV i :: st) (S, g, u) P := aw_V (as := []) h h0 rfl (Nat.le_of_ble_eq_true hrm) (fun v hv => nomatch hv) hh k
theorem aw_H0 {q' : aK} {ci i nn : Nat} (h : KV q pc q' ci 0 nx) (hrm : Nat.ble (2 * st.length + q'.2.2.1) 25 = true) (hh : hasA S i (ci + 4) nn) (k : Sp l E q' d [rV i] (S, g, u) (cnH l E q (d + 1) pc nx L st P)) : aw l E q (d + 1) pc L (rV i :: st) (S, g, u) P := aw_VH (as := []) h rfl (Nat.le_of_ble_eq_true hrm) (fun v hv => nomatch hv) hh k
theorem aw_I0 {q' : aK} {i : Nat} (h : KI q pc q' 0 nx) (h0 : q.2.2.2.2 = []) (hrm : Nat.ble (2 * st.length + q'.2.2.1) 25 = true) (k : Sp l E q' d [rV i] M (cnA l E q (d + 1) nx L st P)) : aw l E q (d + 1) pc L (rV i :: st) M P := aw_I (as := []) h h0 rfl (Nat.le_of_ble_eq_true hrm) (fun v hv => nomatch hv) k
theorem aw_S1 {q' : aK} {v0 : aA} (h : KS q pc q' 1 nx) (h0 : q.2.2.2.2 = []) (hrm : Nat.ble (2 * st.length + q'.2.2.1) 25 = true) (hv0 : (cvA E v0).category = 1) (k : Sp l E q' d [v0] M (cnA l E q (d + 1) nx L st P)) : aw l E q (d + 1) pc L (v0 :: st) M P := aw_S (as := [v0]) h h0 rfl (Nat.le_of_ble_eq_true hrm) (by intro v hv; simp only [List.mem_cons, List.not_mem_nil, or_false] at hv; rcases hv with rfl <;> assumption) k
theorem aw_V1 {q' : aK} {ci i nn : Nat} {v0 : aA} (h : KV q pc q' ci 1 nx) (h0 : q.2.2.2.2 = []) (hrm : Nat.ble (2 * st.length + q'.2.2.1) 25 = true) (hv0 : (cvA E v0).category = 1) (hh : hasA S i (ci + 4) nn) (k : Sp l E q' d [rV i, v0] (S, g, u) (cnA l E q (d + 1) nx L st P)) : aw l E q (d + 1) pc L (v0 :: rV i :: st) (S, g, u) P := aw_V (as := [v0]) h h0 rfl (Nat.le_of_ble_eq_true hrm) (by intro v hv; simp only [List.mem_cons, List.not_mem_nil, or_false] at hv; rcases hv with rfl <;> assumption) hh k
theorem aw_H1 {q' : aK} {ci i nn : Nat} {v0 : aA} (h : KV q pc q' ci 1 nx) (hrm : Nat.ble (2 * st.length + q'.2.2.1) 25 = true) (hv0 : (cvA E v0).category = 1) (hh : hasA S i (ci + 4) nn) (k : Sp l E q' d [rV i, v0] (S, g, u) (cnH l E q (d + 1) pc nx L st P)) : aw l E q (d + 1) pc L (v0 :: rV i :: st) (S, g, u) P := aw_VH (as := [v0]) h rfl (Nat.le_of_ble_eq_true hrm) (by intro v hv; simp only [List.mem_cons, List.not_mem_nil, or_false] at hv; rcases hv with rfl <;> assumption) hh k
theorem aw_I1 {q' : aK} {i : Nat} {v0 : aA} (h : KI q pc q' 1 nx) (h0 : q.2.2.2.2 = []) (hrm : Nat.ble (2 * st.length + q'.2.2.1) 25 = true) (hv0 : (cvA E v0).category = 1) (k : Sp l E q' d [rV i, v0] M (cnA l E q (d + 1) nx L st P)) : aw l E q (d + 1) pc L (v0 :: rV i :: st) M P := aw_I (as := [v0]) h h0 rfl (Nat.le_of_ble_eq_true hrm) (by intro v hv; simp only [List.mem_cons, List.not_mem_nil, or_false] at hv; rcases hv with rfl <;> assumption) k
theorem aw_S2 {q' : aK} {v0 v1 : aA} (h : KS q pc q' 2 nx) (h0 : q.2.2.2.2 = []) (hrm : Nat.ble (2 * st.length + q'.2.2.1) 25 = true) (hv0 : (cvA E v0).category = 1) (hv1 : (cvA E v1).category = 1) (k : Sp l E q' d [v0, v1] M (cnA l E q (d + 1) nx L st P)) : aw l E q (d + 1) pc L (v1 :: v0 :: st) M P := aw_S (as := [v0, v1]) h h0 rfl (Nat.le_of_ble_eq_true hrm) (by intro v hv; simp only [List.mem_cons, List.not_mem_nil, or_false] at hv; rcases hv with rfl | rfl <;> assumption) k
theorem aw_V2 {q' : aK} {ci i nn : Nat} {v0 v1 : aA} (h : KV q pc q' ci 2 nx) (h0 : q.2.2.2.2 = []) (hrm : Nat.ble (2 * st.length + q'.2.2.1) 25 = true) (hv0 : (cvA E v0).category = 1) (hv1 : (cvA E v1).category = 1) (hh : hasA S i (ci + 4) nn) (k : Sp l E q' d [rV i, v0, v1] (S, g, u) (cnA l E q (d + 1) nx L st P)) : aw l E q (d + 1) pc L (v1 :: v0 :: rV i :: st) (S, g, u) P := aw_V (as := [v0, v1]) h h0 rfl (Nat.le_of_ble_eq_true hrm) (by intro v hv; simp only [List.mem_cons, List.not_mem_nil, or_false] at hv; rcases hv with rfl | rfl <;> assumption) hh k
theorem aw_H2 {q' : aK} {ci i nn : Nat} {v0 v1 : aA} (h : KV q pc q' ci 2 nx) (hrm : Nat.ble (2 * st.length + q'.2.2.1) 25 = true) (hv0 : (cvA E v0).category = 1) (hv1 : (cvA E v1).category = 1) (hh : hasA S i (ci + 4) nn) (k : Sp l E q' d [rV i, v0, v1] (S, g, u) (cnH l E q (d + 1) pc nx L st P)) : aw l E q (d + 1) pc L (v1 :: v0 :: rV i :: st) (S, g, u) P := aw_VH (as := [v0, v1]) h rfl (Nat.le_of_ble_eq_true hrm) (by intro v hv; simp only [List.mem_cons, List.not_mem_nil, or_false] at hv; rcases hv with rfl | rfl <;> assumption) hh k
theorem aw_I2 {q' : aK} {i : Nat} {v0 v1 : aA} (h : KI q pc q' 2 nx) (h0 : q.2.2.2.2 = []) (hrm : Nat.ble (2 * st.length + q'.2.2.1) 25 = true) (hv0 : (cvA E v0).category = 1) (hv1 : (cvA E v1).category = 1) (k : Sp l E q' d [rV i, v0, v1] M (cnA l E q (d + 1) nx L st P)) : aw l E q (d + 1) pc L (v1 :: v0 :: rV i :: st) M P := aw_I (as := [v0, v1]) h h0 rfl (Nat.le_of_ble_eq_true hrm) (by intro v hv; simp only [List.mem_cons, List.not_mem_nil, or_false] at hv; rcases hv with rfl | rfl <;> assumption) k
theorem aw_S3 {q' : aK} {v0 v1 v2 : aA} (h : KS q pc q' 3 nx) (h0 : q.2.2.2.2 = []) (hrm : Nat.ble (2 * st.length + q'.2.2.1) 25 = true) (hv0 : (cvA E v0).category = 1) (hv1 : (cvA E v1).category = 1) (hv2 : (cvA E v2).category = 1) (k : Sp l E q' d [v0, v1, v2] M (cnA l E q (d + 1) nx L st P)) : aw l E q (d + 1) pc L (v2 :: v1 :: v0 :: st) M P := aw_S (as := [v0, v1, v2]) h h0 rfl (Nat.le_of_ble_eq_true hrm) (by intro v hv; simp only [List.mem_cons, List.not_mem_nil, or_false] at hv; rcases hv with rfl | rfl | rfl <;> assumption) k
theorem aw_V3 {q' : aK} {ci i nn : Nat} {v0 v1 v2 : aA} (h : KV q pc q' ci 3 nx) (h0 : q.2.2.2.2 = []) (hrm : Nat.ble (2 * st.length + q'.2.2.1) 25 = true) (hv0 : (cvA E v0).category = 1) (hv1 : (cvA E v1).category = 1) (hv2 : (cvA E v2).category = 1) (hh : hasA S i (ci + 4) nn) (k : Sp l E q' d [rV i, v0, v1, v2] (S, g, u) (cnA l E q (d + 1) nx L st P)) : aw l E q (d + 1) pc L (v2 :: v1 :: v0 :: rV i :: st) (S, g, u) P := aw_V (as := [v0, v1, v2]) h h0 rfl (Nat.le_of_ble_eq_true hrm) (by intro v hv; simp only [List.mem_cons, List.not_mem_nil, or_false] at hv; rcases hv with rfl | rfl | rfl <;> assumption) hh k
theorem aw_H3 {q' : aK} {ci i nn : Nat} {v0 v1 v2 : aA} (h : KV q pc q' ci 3 nx) (hrm : Nat.ble (2 * st.length + q'.2.2.1) 25 = true) (hv0 : (cvA E v0).category = 1) (hv1 : (cvA E v1).category = 1) (hv2 : (cvA E v2).category = 1) (hh : hasA S i (ci + 4) nn) (k : Sp l E q' d [rV i, v0, v1, v2] (S, g, u) (cnH l E q (d + 1) pc nx L st P)) : aw l E q (d + 1) pc L (v2 :: v1 :: v0 :: rV i :: st) (S, g, u) P := aw_VH (as := [v0, v1, v2]) h rfl (Nat.le_of_ble_eq_true hrm) (by intro v hv; simp only [List.mem_cons, List.not_mem_nil, or_false] at hv; rcases hv with rfl | rfl | rfl <;> assumption) hh k
theorem aw_S4 {q' : aK} {v0 v1 v2 v3 : aA} (h : KS q pc q' 4 nx) (h0 : q.2.2.2.2 = []) (hrm : Nat.ble (2 * st.length + q'.2.2.1) 25 = true) (hv0 : (cvA E v0).category = 1) (hv1 : (cvA E v1).category = 1) (hv2 : (cvA E v2).category = 1) (hv3 : (cvA E v3).category = 1) (k : Sp l E q' d [v0, v1, v2, v3] M (cnA l E q (d + 1) nx L st P)) : aw l E q (d + 1) pc L (v3 :: v2 :: v1 :: v0 :: st) M P := aw_S (as := [v0, v1, v2, v3]) h h0 rfl (Nat.le_of_ble_eq_true hrm) (by intro v hv; simp only [List.mem_cons, List.not_mem_nil, or_false] at hv; rcases hv with rfl | rfl | rfl | rfl <;> assumption) k
theorem aw_V4 {q' : aK} {ci i nn : Nat} {v0 v1 v2 v3 : aA} (h : KV q pc q' ci 4 nx) (h0 : q.2.2.2.2 = []) (hrm : Nat.ble (2 * st.length + q'.2.2.1) 25 = true) (hv0 : (cvA E v0).category = 1) (hv1 : (cvA E v1).category = 1) (hv2 : (cvA E v2).category = 1) (hv3 : (cvA E v3).category = 1) (hh : hasA S i (ci + 4) nn) (k : Sp l E q' d [rV i, v0, v1, v2, v3] (S, g, u) (cnA l E q (d + 1) nx L st P)) : aw l E q (d + 1) pc L (v3 :: v2 :: v1 :: v0 :: rV i :: st) (S, g, u) P := aw_V (as := [v0, v1, v2, v3]) h h0 rfl (Nat.le_of_ble_eq_true hrm) (by intro v hv; simp only [List.mem_cons, List.not_mem_nil, or_false] at hv; rcases hv with rfl | rfl | rfl | rfl <;> assumption) hh k
theorem aw_H4 {q' : aK} {ci i nn : Nat} {v0 v1 v2 v3 : aA} (h : KV q pc q' ci 4 nx) (hrm : Nat.ble (2 * st.length + q'.2.2.1) 25 = true) (hv0 : (cvA E v0).category = 1) (hv1 : (cvA E v1).category = 1) (hv2 : (cvA E v2).category = 1) (hv3 : (cvA E v3).category = 1) (hh : hasA S i (ci + 4) nn) (k : Sp l E q' d [rV i, v0, v1, v2, v3] (S, g, u) (cnH l E q (d + 1) pc nx L st P)) : aw l E q (d + 1) pc L (v3 :: v2 :: v1 :: v0 :: rV i :: st) (S, g, u) P := aw_VH (as := [v0, v1, v2, v3]) h rfl (Nat.le_of_ble_eq_true hrm) (by intro v hv; simp only [List.mem_cons, List.not_mem_nil, or_false] at hv; rcases hv with rfl | rfl | rfl | rfl <;> assumption) hh k
theorem aw_S5 {q' : aK} {v0 v1 v2 v3 v4 : aA} (h : KS q pc q' 5 nx) (h0 : q.2.2.2.2 = []) (hrm : Nat.ble (2 * st.length + q'.2.2.1) 25 = true) (hv0 : (cvA E v0).category = 1) (hv1 : (cvA E v1).category = 1) (hv2 : (cvA E v2).category = 1) (hv3 : (cvA E v3).category = 1) (hv4 : (cvA E v4).category = 1) (k : Sp l E q' d [v0, v1, v2, v3, v4] M (cnA l E q (d + 1) nx L st P)) : aw l E q (d + 1) pc L (v4 :: v3 :: v2 :: v1 :: v0 :: st) M P := aw_S (as := [v0, v1, v2, v3, v4]) h h0 rfl (Nat.le_of_ble_eq_true hrm) (by intro v hv; simp only [List.mem_cons, List.not_mem_nil, or_false] at hv; rcases hv with rfl | rfl | rfl | rfl | rfl <;> assumption) k
theorem aw_S6 {q' : aK} {v0 v1 v2 v3 v4 v5 : aA} (h : KS q pc q' 6 nx) (h0 : q.2.2.2.2 = []) (hrm : Nat.ble (2 * st.length + q'.2.2.1) 25 = true) (hv0 : (cvA E v0).category = 1) (hv1 : (cvA E v1).category = 1) (hv2 : (cvA E v2).category = 1) (hv3 : (cvA E v3).category = 1) (hv4 : (cvA E v4).category = 1) (hv5 : (cvA E v5).category = 1) (k : Sp l E q' d [v0, v1, v2, v3, v4, v5] M (cnA l E q (d + 1) nx L st P)) : aw l E q (d + 1) pc L (v5 :: v4 :: v3 :: v2 :: v1 :: v0 :: st) M P := aw_S (as := [v0, v1, v2, v3, v4, v5]) h h0 rfl (Nat.le_of_ble_eq_true hrm) (by intro v hv; simp only [List.mem_cons, List.not_mem_nil, or_false] at hv; rcases hv with rfl | rfl | rfl | rfl | rfl | rfl <;> assumption) k
end AW4
