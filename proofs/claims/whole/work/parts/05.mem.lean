section AW2
variable {l : Launch} {E : aE} {q : aK} {d pc nx tg : Nat} {L : List (Option aA)} {st : List aA} {M : aM} {P : aP} {S : aS} {g : aG} {u : aU}
theorem u_stW {C : String} {T : u_T} {N : Nat} : ∀ w ∈ u_ws C T N, stW w = true := by
  intro w hw
  obtain ⟨k, -, rfl⟩ := List.mem_map.mp hw
  unfold u_lay
  split <;> rfl
theorem aw_gi {c k i n : Nat} (h : Kg q pc c k false nx) (hh : hasA S i (c + 4) n) (kk : aw l E q d nx L (iV (g i k) :: st) (S, g, u) P) : aw l E q d pc L (rV i :: st) (S, g, u) P := by
  intro p e R s m args below meth cd H locs cells slots kc ks ls hx hG hM hd hl hR hS hL hst c1 c2 s1 s2
  obtain ⟨idx, h1, h2, ⟨C, T, N⟩, r1, r2, r3, r4, r5, r6⟩ := h
  subst h2
  have he : (wsA E S g)[i]? = some (E.1.2.1 + i, .inr (c, fsA E c (S.2.2 i) (g i))) := by rw [wsA_get hh.1, hh.2]; rfl
  exact va_get (ref := C) hx hM.2.2.1 (Ts := u_ws C T N) (fun w hw => cxW hG (r5 w hw) (u_stW w hw) args) (fun w hw => hw) (findClass_of_methodNamed hM.1) hG.2.2.2.2.1 hR.1 i he r1 k r2 (cxW hG r4 rfl args) (fun x hx => by rw [r3] at hx; exact hx) (fsA_get r6) h1 (kk p e R s m args below meth cd H locs cells slots kc ks ls hx hG hM hd hl hR hS hL (ok_cons (v := iV (g i k)) (hR.2.1 i k) (ok_tl hst)) c1 c2 s1 s2)
theorem aw_gr {c k i n : Nat} {j : Nat} (hr : S.2.2 i k = some j) (h : Kg q pc c k true nx) (hh : hasA S i (c + 4) n) (kk : aw l E q d nx L (rV j :: st) (S, g, u) P) : aw l E q d pc L (rV i :: st) (S, g, u) P := by
  intro p e R s m args below meth cd H locs cells slots kc ks ls hx hG hM hd hl hR hS hL hst c1 c2 s1 s2
  obtain ⟨idx, h1, h2, ⟨C, T, N⟩, r1, r2, r3, r4, r5, r6⟩ := h
  subst h2
  have he : (wsA E S g)[i]? = some (E.1.2.1 + i, .inr (c, fsA E c (S.2.2 i) (g i))) := by rw [wsA_get hh.1, hh.2]; rfl
  have hv := fsA_get (E := E) (rf := S.2.2 i) (sg := g i) r6
  rw [hr] at hv
  exact va_get (ref := C) hx hM.2.2.1 (Ts := u_ws C T N) (fun w hw => cxW hG (r5 w hw) (u_stW w hw) args) (fun w hw => hw) (findClass_of_methodNamed hM.1) hG.2.2.2.2.1 hR.1 i he r1 k r2 (cxW hG r4 rfl args) (fun x hx => by rw [r3] at hx; exact hx) hv h1 (kk p e R s m args below meth cd H locs cells slots kc ks ls hx hG hM hd hl hR hS hL (ok_cons (v := rV j) trivial (ok_tl hst)) c1 c2 s1 s2)
theorem w_put {p : Program} {e : Env} {R : Room} {s : State} {m : MethodId} {args : Array Value} {below : List Frame} {meth : Method} {c0 : Code} {H : Heap} {locs : List Loc} {cells slots : Nat} {Q : State → Prop} {ls : Array Slot} {rest : List Value} {c k i n : Nat} {b : Bool} {ty : FieldType} {fin : Bool} {v : Value}
    (hx : p.tables.exec = Jvm.exec) (hG : cxG l E s) (hM : cxM q s m meth c0) (hP : va_P E.2.1 vwCl (wsA E S g) H) (hS : va_S (fun a => E.1.2.1 ≤ a) s.heap H locs) (h : Kp q pc c k b ty fin nx) (hh : hasA S i (c + 4) n) (hn : narrow ty v = v) (hfit : fits ty v = true)
    (kk : ∀ (H1 : Heap) (locs1 : List Loc), va_P E.2.1 vwCl ((wsA E S g).set i (E.1.2.1 + i, .inr (c, (fsA E c (S.2.2 i) (g i)).set k v))) H1 → va_S (fun a => E.1.2.1 ≤ a) s.heap H1 locs1 → H1.size = H.size → W p l e R s m args below meth c0 H1 locs1 cells slots Q (F0 m nx ls rest)) :
    W p l e R s m args below meth c0 H locs cells slots Q (F0 m pc ls (v :: .ref (E.1.2.1 + i) :: rest)) := by
  obtain ⟨⟨idx, d1, d2, ⟨C, T, N⟩, r1, r2, r3, r4, r5, r6⟩, ⟨r', t0, o1, o2, o3, o4, o5, o6⟩, o7⟩ := h
  cases r1.symm.trans o1
  subst d2
  have he : (wsA E S g)[i]? = some (E.1.2.1 + i, .inr (c, fsA E c (S.2.2 i) (g i))) := by rw [wsA_get hh.1, hh.2]; rfl
  have hK := hG.2.2.2.2.1
  have hown : s.vm.findClass q.1.cls = some m.cls := findClass_of_methodNamed hM.1
  have hts : ∀ w ∈ u_ws C T N, w.before args s = true := fun w hw => cxW hG (r5 w hw) (u_stW w hw) args
  have hin : ∀ w ∈ u_ws C T N, w ∈ u_ws C T N := fun w hw => hw
  have hlink : (Cond.fieldLink q.1.cls idx C (T k).2.1 (T k).2.2.1).before args s = true := cxW hG r4 rfl args
  have hl : k < (fsA E c (S.2.2 i) (g i)).length := by rw [fsA_len]; exact (List.getElem?_eq_some_iff.mp r6).1
  have hD := wsA_D E S g
  have hd : parseFieldDescriptor (T k).2.2.1 = some ty := by rw [← o4]; exact o2 k r2
  have hap := va_apart (own := q.1.cls) hts hin t0 o2 o3 hK r1
  obtain ⟨r, h1, cell, q1, q2, q3, q4⟩ := hP i _ he
  have hr : r = (C, T, N) := Option.some.inj (h1.symm.trans r1)
  subst hr
  obtain ⟨hSl, hfc, kC, hkC, hkind⟩ := hK.1 c _ r1
  obtain ⟨cf, kf, fi, f, hi, hsl⟩ := hSl k r2
  have hi' : s.fieldFound? C (T k).2.1 (T k).2.2.1 = some (cf, kf, fi, f) := by rw [r3] at hi; exact hi
  have hlay := hts _ (hin _ (u_in_lay r2))
  unfold u_lay at hlay
  have hst := (u_facts hfc hkC (u_lays hts hin r2) hi).1
  cases fin with
  | false =>
    rw [if_neg (by rw [o5]; decide)] at hlay
    have h6 := u_store hfc hkC hkind hlay hi hd hn hfit
    refine W.putK hx hM.2.2.1 (f := f) ⟨hown, hlink, ⟨_, _, _, hi'⟩, hst⟩ (by rw [q2]; exact h6) q1 q3 (by rw [hsl]; exact k2_hasslot (q4 k r2)) rfl rfl d1 fun H' e1 e2 e3 => ?_
    rw [hsl] at e1 ⊢
    exact kk H' _ (hP.set hD he ⟨_, r1, t_OB.to (V := updV (vp_V (fsA E c (S.2.2 i) (g i))) k v) ⟨_, e1, q2, q3, t_set q4 hap r2 v⟩ (fun j _ => vp_updV_set hl v j)⟩ e3) (hS.put e2 e3 (hD.2 i _ he)) e2
  | true =>
    rw [if_pos o5] at hlay
    have hin2 : meth.name = "<init>" := ((name_of_methodNamed hM.1 hM.2.1).1).trans (o7 rfl)
    have hdecl : (T k).1 = q.1.cls := r3.trans (o6 rfl)
    have hcf : m.cls = cf := by
      obtain ⟨_, _, c', _, _, _, -, -, hf', -, -, -, hown2, -⟩ := Cond.laysFinal_spec hlay
      have e1 : c' = cf := by have := hi.symm.trans hf'; simp at this; exact this.1.symm
      rw [hdecl] at hown2
      rw [← e1]; exact Option.some.inj (hown.symm.trans hown2)
    have h6 := u_fits hfc hkC hkind (Or.inr hlay) hi hd hn hfit
    refine W.putFinK hx hM.2.2.1 hown hlink hi' hst hcf hin2 (by rw [q2]; exact h6) q1 q3 (by rw [hsl]; exact k2_hasslot (q4 k r2)) rfl rfl d1 fun H' e1 e2 e3 => ?_
    rw [hsl] at e1 ⊢
    exact kk H' _ (hP.set hD he ⟨_, r1, t_OB.to (V := updV (vp_V (fsA E c (S.2.2 i) (g i))) k v) ⟨_, e1, q2, q3, t_set q4 hap r2 v⟩ (fun j _ => vp_updV_set hl v j)⟩ e3) (hS.put e2 e3 (hD.2 i _ he)) e2
theorem nbz {x : Int} (h : x = 0 ∨ x = 1) : narrow .boolean (.int (Int32.ofInt x)) = .int (Int32.ofInt x) ∧ fits .boolean (.int (Int32.ofInt x)) = true := by
  rcases h with rfl | rfl <;> decide
theorem okG {g : aG} {i j : Nat} {x : Int} (h : ∀ a b, okI (g a b)) (hx : okI x) : ∀ a b, okI (upA g i j x a b) := by
  intro a b
  unfold upA
  split
  · exact hx
  · exact h a b
theorem pic_ne {E : aE} {S : aS} {g : aG} {i j : Nat} {x : Int} : ∀ a, a ≠ i → picA E (S.2.1 a) (S.2.2 a) (upA g i j x a) = picA E (S.2.1 a) (S.2.2 a) (g a) := by
  intro a ha
  have e : upA g i j x a = g a := by funext b; exact upA_ne (fun z => ha z.1)
  rw [e]
theorem aw_pi {c k i n : Nat} {x : Int} {fin : Bool} (h : Kp q pc c k false .int fin nx) (hh : hasA S i (c + 4) n) (kk : aw l E q d nx L st (S, upA g i k x, u) P) : aw l E q d pc L (iV x :: rV i :: st) (S, g, u) P := by
  intro p e R s m args below meth cd H locs cells slots kc ks ls hx hG hM hd hl hR hS hL hst c1 c2 s1 s2
  refine w_put hx hG hM hR.1 hS h hh rfl rfl fun H1 locs1 k1 k2 k3 => ?_
  have ew : (wsA E S g).set i (E.1.2.1 + i, .inr (c, (fsA E c (S.2.2 i) (g i)).set k (.int (Int32.ofInt x)))) = wsA E S (upA g i k x) := wsA_set hh.1 rfl (by rw [hh.2]; show _ = Sum.inr (c, fsA E c (S.2.2 i) (upA g i k x i)); rw [fsA_set (rf' := S.2.2 i) (sg' := upA g i k x i) h.1.choose_spec.2.2.choose_spec.2.2.2.2.2 (by simp [upA]) (fun j hj => ⟨rfl, upA_ne (fun z => hj z.2)⟩)]) pic_ne
  have k1 : va_P E.2.1 vwCl (wsA E S (upA g i k x)) H1 := by rw [← ew]; exact k1
  exact kk p e R s m args below meth cd H1 locs1 cells slots kc ks ls hx hG hM hd hl ⟨k1, okG hR.2.1 (ok_hd hst), fun z => k3.trans (hR.2.2 z)⟩ k2 hL (ok_tl (ok_tl hst)) c1 c2 s1 s2
theorem aw_pz {c k i n : Nat} {x : Int} {fin : Bool} (h : Kp q pc c k false .boolean fin nx) (hh : hasA S i (c + 4) n) (hz : x = 0 ∨ x = 1) (kk : aw l E q d nx L st (S, upA g i k x, u) P) : aw l E q d pc L (iV x :: rV i :: st) (S, g, u) P := by
  intro p e R s m args below meth cd H locs cells slots kc ks ls hx hG hM hd hl hR hS hL hst c1 c2 s1 s2
  refine w_put hx hG hM hR.1 hS h hh (nbz hz).1 (nbz hz).2 fun H1 locs1 k1 k2 k3 => ?_
  have ew : (wsA E S g).set i (E.1.2.1 + i, .inr (c, (fsA E c (S.2.2 i) (g i)).set k (.int (Int32.ofInt x)))) = wsA E S (upA g i k x) := wsA_set hh.1 rfl (by rw [hh.2]; show _ = Sum.inr (c, fsA E c (S.2.2 i) (upA g i k x i)); rw [fsA_set (rf' := S.2.2 i) (sg' := upA g i k x i) h.1.choose_spec.2.2.choose_spec.2.2.2.2.2 (by simp [upA]) (fun j hj => ⟨rfl, upA_ne (fun z => hj z.2)⟩)]) pic_ne
  have k1 : va_P E.2.1 vwCl (wsA E S (upA g i k x)) H1 := by rw [← ew]; exact k1
  exact kk p e R s m args below meth cd H1 locs1 cells slots kc ks ls hx hG hM hd hl ⟨k1, okG hR.2.1 (ok_hd hst), fun z => k3.trans (hR.2.2 z)⟩ k2 hL (ok_tl (ok_tl hst)) c1 c2 s1 s2
theorem aw_pr {c k i n j : Nat} {ty : FieldType} {fin : Bool} (h : Kp q pc c k true ty fin nx) (hh : hasA S i (c + 4) n) (hty : ∀ a, narrow ty (.ref a) = .ref a ∧ fits ty (.ref a) = true) (kk : aw l E q d nx L st ((S.1, S.2.1, upR S.2.2 i k (some j)), g, u) P) : aw l E q d pc L (rV j :: rV i :: st) (S, g, u) P := by
  intro p e R s m args below meth cd H locs cells slots kc ks ls hx hG hM hd hl hR hS hL hst c1 c2 s1 s2
  refine w_put hx hG hM hR.1 hS h hh (hty _).1 (hty _).2 fun H1 locs1 k1 k2 k3 => ?_
  have ew : (wsA E S g).set i (E.1.2.1 + i, .inr (c, (fsA E c (S.2.2 i) (g i)).set k (.ref (E.1.2.1 + j)))) = wsA E (S.1, S.2.1, upR S.2.2 i k (some j)) g := wsA_set (S' := (S.1, S.2.1, upR S.2.2 i k (some j))) hh.1 rfl (by show _ = picA E (S.2.1 i) (upR S.2.2 i k (some j) i) (g i); rw [hh.2]; show _ = Sum.inr (c, fsA E c (upR S.2.2 i k (some j) i) (g i)); rw [fsA_set (rf' := upR S.2.2 i k (some j) i) (sg' := g i) h.1.choose_spec.2.2.choose_spec.2.2.2.2.2 (by simp [upR, va_rf]) (fun j' hj => ⟨if_neg (fun z => hj z.2), rfl⟩)]) (fun a ha => by
    show picA E (S.2.1 a) (upR S.2.2 i k (some j) a) (g a) = _
    have e : upR S.2.2 i k (some j) a = S.2.2 a := by funext b; exact if_neg (fun z => ha z.1)
    rw [e])
  have k1 : va_P E.2.1 vwCl (wsA E (S.1, S.2.1, upR S.2.2 i k (some j)) g) H1 := by rw [← ew]; exact k1
  exact kk p e R s m args below meth cd H1 locs1 cells slots kc ks ls hx hG hM hd hl ⟨k1, hR.2.1, fun z => k3.trans (hR.2.2 z)⟩ k2 hL (ok_tl (ok_tl hst)) c1 c2 s1 s2
theorem aw_ia {i n j : Nat} {x : Int} (h : K1 q pc .iaload nx) (hh : hasA S i 0 n) (hj : x = (j : Int)) (hn : j < n) (kk : aw l E q d nx L (iV (g i j) :: st) (S, g, u) P) : aw l E q d pc L (iV x :: rV i :: st) (S, g, u) P := by
  intro p e R s m args below meth cd H locs cells slots kc ks ls hx hG hM hd hl hR hS hL hst c1 c2 s1 s2
  obtain ⟨h1, h2⟩ := h
  subst h2
  have hxo : okI x := ok_hd hst
  have he : (wsA E S g)[i]? = some (E.1.2.1 + i, .inl (E.2.2 0, n, .inl (fun j => Int32.ofInt (g i j)))) := by rw [wsA_get hh.1, hh.2]; rfl
  refine va_iald hx hM.2.2.1 hG.2.2.2.2.1 hR.1 i 0 he rfl (i32In hxo (by omega) (by omega)) h1 ?_
  rw [i32N hxo, show x.toNat = j by omega]
  exact kk p e R s m args below meth cd H locs cells slots kc ks ls hx hG hM hd hl hR hS hL (ok_cons (v := iV (g i j)) (hR.2.1 i j) (ok_tl (ok_tl hst))) c1 c2 s1 s2
theorem aw_za {i n j : Nat} {x : Int} (h : K1 q pc .baload nx) (hh : hasA S i 1 n) (hj : x = (j : Int)) (hn : j < n) (kk : aw l E q d nx L (iV (g i j) :: st) (S, g, u) P) : aw l E q d pc L (iV x :: rV i :: st) (S, g, u) P := by
  intro p e R s m args below meth cd H locs cells slots kc ks ls hx hG hM hd hl hR hS hL hst c1 c2 s1 s2
  obtain ⟨h1, h2⟩ := h
  subst h2
  have hxo : okI x := ok_hd hst
  have he : (wsA E S g)[i]? = some (E.1.2.1 + i, .inl (E.2.2 1, n, .inl (fun j => Int32.ofInt (g i j)))) := by rw [wsA_get hh.1, hh.2]; rfl
  refine va_zald hx hM.2.2.1 hG.2.2.2.2.1 hR.1 i 1 he rfl (i32In hxo (by omega) (by omega)) h1 ?_
  rw [i32N hxo, show x.toNat = j by omega]
  exact kk p e R s m args below meth cd H locs cells slots kc ks ls hx hG hM hd hl hR hS hL (ok_cons (v := iV (g i j)) (hR.2.1 i j) (ok_tl (ok_tl hst))) c1 c2 s1 s2
theorem aw_la {i n j : Nat} {x : Int} (h : K1 q pc .laload nx) (hh : hasA S i 2 n) (hj : x = (j : Int)) (hn : j < n) (kk : aw l E q d nx L (lV (g i j) :: st) (S, g, u) P) : aw l E q d pc L (iV x :: rV i :: st) (S, g, u) P := by
  intro p e R s m args below meth cd H locs cells slots kc ks ls hx hG hM hd hl hR hS hL hst c1 c2 s1 s2
  obtain ⟨h1, h2⟩ := h
  subst h2
  have hxo : okI x := ok_hd hst
  have he : (wsA E S g)[i]? = some (E.1.2.1 + i, .inl (E.2.2 2, n, .inr (.inl (fun j => Int64.ofInt (g i j))))) := by rw [wsA_get hh.1, hh.2]; rfl
  refine va_lald hx hM.2.2.1 hG.2.2.2.2.1 hR.1 i 2 he rfl (i32In hxo (by omega) (by omega)) h1 ?_
  rw [i32N hxo, show x.toNat = j by omega]
  exact kk p e R s m args below meth cd H locs cells slots kc ks ls hx hG hM hd hl hR hS hL (ok_cons (v := lV (g i j)) (hR.2.1 i j) (ok_tl (ok_tl hst))) c1 c2 s1 s2
theorem aw_aa {i n j i2 : Nat} {x : Int} (h : K1 q pc .aaload nx) (hh : hasA S i 3 n) (hj : x = (j : Int)) (hn : j < n) (hr : S.2.2 i j = some i2) (kk : aw l E q d nx L (rV i2 :: st) (S, g, u) P) : aw l E q d pc L (iV x :: rV i :: st) (S, g, u) P := by
  intro p e R s m args below meth cd H locs cells slots kc ks ls hx hG hM hd hl hR hS hL hst c1 c2 s1 s2
  obtain ⟨h1, h2⟩ := h
  subst h2
  have hxo : okI x := ok_hd hst
  have he : (wsA E S g)[i]? = some (E.1.2.1 + i, .inl (E.2.2 3, n, .inr (.inr (.inr (.inr (fun j => (S.2.2 i j).map (E.1.2.1 + ·))))))) := by rw [wsA_get hh.1, hh.2]; rfl
  have hc : H[E.1.2.1 + i]? = some (arrV (E.2.2 3) n (fun j => va_rf ((S.2.2 i j).map (E.1.2.1 + ·)))) := hR.1 i _ he
  refine W.aald (v := .ref (E.1.2.1 + i2)) hx hM.2.2.1 hc ((hG.2.2.2.2.1.2 3 (E.2.2 3, .array .int) rfl).1 n _) rfl (fun z => by cases z) (by rw [arrV_size]; exact i32In hxo (by omega) (by omega)) ?_ rfl rfl h1 ?_
  · rw [i32N hxo, show x.toNat = j by omega, arrV_read _ _ hn, hr]
    rfl
  · exact kk p e R s m args below meth cd H locs cells slots kc ks ls hx hG hM hd hl hR hS hL (ok_cons (v := rV i2) trivial (ok_tl (ok_tl hst))) c1 c2 s1 s2
theorem aw_len {i n : Nat} (h : K1 q pc .arraylength nx) (hh : hasA S i 0 n) (hn : okI (n : Int)) (kk : aw l E q d nx L (iV (n : Int) :: st) (S, g, u) P) : aw l E q d pc L (rV i :: st) (S, g, u) P := by
  intro p e R s m args below meth cd H locs cells slots kc ks ls hx hG hM hd hl hR hS hL hst c1 c2 s1 s2
  obtain ⟨h1, h2⟩ := h
  subst h2
  have he : (wsA E S g)[i]? = some (E.1.2.1 + i, .inl (E.2.2 0, n, .inl (fun j => Int32.ofInt (g i j)))) := by rw [wsA_get hh.1, hh.2]; rfl
  refine va_alen hx hM.2.2.1 hG.2.2.2.2.1 hR.1 i 0 he rfl (v := Int32.ofInt (n : Int)) (Int32.ofInt_eq_ofNat ..).symm h1 ?_
  exact kk p e R s m args below meth cd H locs cells slots kc ks ls hx hG hM hd hl hR hS hL (ok_cons (v := iV (n : Int)) hn (ok_tl hst)) c1 c2 s1 s2
theorem aw_slen (h : K1 q pc .arraylength nx) (hn : okI (E.1.2.2.1 : Int)) (kk : aw l E q d nx L (iV (E.1.2.2.1 : Int) :: st) M P) : aw l E q d pc L (sV :: st) M P := by
  intro p e R s m args below meth cd H locs cells slots kc ks ls hx hG hM hd hl hR hS hL hst c1 c2 s1 s2
  obtain ⟨h1, h2⟩ := h
  subst h2
  have g8 := hG.2.2.2.2.2.2.2.1
  have g9 := hG.2.2.2.2.2.2.2.2.1
  have g10 := hG.2.2.2.2.2.2.2.2.2
  refine va_slen hx hM.2.2.1 g8 (by omega) (by omega) hS h1 ?_
  rw [show Int32.ofNat E.1.2.2.1 = Int32.ofInt (E.1.2.2.1 : Int) from (Int32.ofInt_eq_ofNat ..).symm]
  exact kk p e R s m args below meth cd H locs cells slots kc ks ls hx hG hM hd hl hR hS hL (ok_cons (v := iV (E.1.2.2.1 : Int)) hn (ok_tl hst)) c1 c2 s1 s2
theorem aw_sld {j : Nat} {x : Int} (h : K1 q pc .iaload nx) (hj : x = (j : Int)) (hn : j < E.1.2.2.1) (kk : aw l E q d nx L (iV (E.1.2.2.2 j).toInt :: st) M P) : aw l E q d pc L (iV x :: sV :: st) M P := by
  intro p e R s m args below meth cd H locs cells slots kc ks ls hx hG hM hd hl hR hS hL hst c1 c2 s1 s2
  obtain ⟨h1, h2⟩ := h
  subst h2
  have hxo : okI x := ok_hd hst
  have g8 := hG.2.2.2.2.2.2.2.1
  have g9 := hG.2.2.2.2.2.2.2.2.1
  have g10 := hG.2.2.2.2.2.2.2.2.2
  refine va_sld hx hM.2.2.1 g8 (by omega) (by omega) hS (i32In hxo (by omega) (by omega)) h1 ?_
  rw [i32N hxo, show x.toNat = j by omega, ← i32R (E.1.2.2.2 j)]
  exact kk p e R s m args below meth cd H locs cells slots kc ks ls hx hG hM hd hl hR hS hL (ok_cons (v := iV (E.1.2.2.2 j).toInt) (okT _) (ok_tl (ok_tl hst))) c1 c2 s1 s2
theorem aw_iast {i n j : Nat} {x v : Int} (h : K1 q pc .iastore nx) (hh : hasA S i 0 n) (hj : x = (j : Int)) (hn : j < n) (kk : aw l E q d nx L st (S, upA g i j v, u) P) : aw l E q d pc L (iV v :: iV x :: rV i :: st) (S, g, u) P := by
  intro p e R s m args below meth cd H locs cells slots kc ks ls hx hG hM hd hl hR hS hL hst c1 c2 s1 s2
  obtain ⟨h1, h2⟩ := h
  subst h2
  have hvo : okI v := ok_hd hst
  have hxo : okI x := ok_hd (ok_tl hst)
  have hD := wsA_D E S g
  have he : (wsA E S g)[i]? = some (E.1.2.1 + i, .inl (E.2.2 0, n, .inl (fun b => Int32.ofInt ((g i) b)))) := by rw [wsA_get hh.1, hh.2]; rfl
  have hc : H[E.1.2.1 + i]? = some (arrV (E.2.2 0) n (fun j => Value.int (Int32.ofInt (g i j)))) := hR.1 i _ he
  refine W.iast hx hM.2.2.1 hc ((hG.2.2.2.2.1.2 0 (E.2.2 0, .int) rfl).1 n _) (fun z => by cases z) (by rw [arrV_size]; exact i32In hxo (by omega) (by omega)) rfl rfl h1 fun H1 e1 e2 e3 => ?_
  rw [i32N hxo, show x.toNat = j by omega, arrV_store] at e1
  have e4 : H1[E.1.2.1 + i]? = some (arrV (E.2.2 0) n (fun b => Value.int (Int32.ofInt (upA g i j v i b)))) := by
    rw [e1]; refine congrArg (fun z => some (arrV (E.2.2 0) n z)) (funext fun b => ?_)
    by_cases hb : b = j
    · subst hb; simp [updV, upA]
    · simp [updV, upA, hb]
  have k1 : va_P E.2.1 vwCl (wsA E S (upA g i j v)) H1 := by
    rw [← wsA_set (S := S) (S' := S) (g := g) (g' := upA g i j v) (e := .inl (E.2.2 0, n, .inl (fun b => Int32.ofInt ((upA g i j v i) b)))) hh.1 rfl (by rw [hh.2]; rfl) pic_ne]
    exact hR.1.set hD he e4 e3
  exact kk p e R s m args below meth cd H1 _ cells slots kc ks ls hx hG hM hd hl ⟨k1, okG hR.2.1 hvo, fun z => e2.trans (hR.2.2 z)⟩ (hS.put e2 e3 (hD.2 i _ he)) hL (ok_tl (ok_tl (ok_tl hst))) c1 c2 s1 s2
theorem aw_zast {i n j : Nat} {x v : Int} (h : K1 q pc .bastore nx) (hh : hasA S i 1 n) (hj : x = (j : Int)) (hn : j < n) (hz : v = 0 ∨ v = 1) (kk : aw l E q d nx L st (S, upA g i j v, u) P) : aw l E q d pc L (iV v :: iV x :: rV i :: st) (S, g, u) P := by
  intro p e R s m args below meth cd H locs cells slots kc ks ls hx hG hM hd hl hR hS hL hst c1 c2 s1 s2
  obtain ⟨h1, h2⟩ := h
  subst h2
  have hvo : okI v := ok_hd hst
  have hxo : okI x := ok_hd (ok_tl hst)
  have hnr : narrow .boolean (.int (Int32.ofInt v)) = .int (Int32.ofInt v) := by rcases hz with rfl | rfl <;> decide
  have hD := wsA_D E S g
  have he : (wsA E S g)[i]? = some (E.1.2.1 + i, .inl (E.2.2 1, n, .inl (fun b => Int32.ofInt ((g i) b)))) := by rw [wsA_get hh.1, hh.2]; rfl
  have hc : H[E.1.2.1 + i]? = some (arrV (E.2.2 1) n (fun j => Value.int (Int32.ofInt (g i j)))) := hR.1 i _ he
  refine W.zast hx hM.2.2.1 hc ((hG.2.2.2.2.1.2 1 (E.2.2 1, .boolean) rfl).1 n _) (fun z => by cases z) (by rw [arrV_size]; exact i32In hxo (by omega) (by omega)) rfl rfl h1 fun H1 e1 e2 e3 => ?_
  rw [hnr] at e1
  rw [i32N hxo, show x.toNat = j by omega, arrV_store] at e1
  have e4 : H1[E.1.2.1 + i]? = some (arrV (E.2.2 1) n (fun b => Value.int (Int32.ofInt (upA g i j v i b)))) := by
    rw [e1]; refine congrArg (fun z => some (arrV (E.2.2 1) n z)) (funext fun b => ?_)
    by_cases hb : b = j
    · subst hb; simp [updV, upA]
    · simp [updV, upA, hb]
  have k1 : va_P E.2.1 vwCl (wsA E S (upA g i j v)) H1 := by
    rw [← wsA_set (S := S) (S' := S) (g := g) (g' := upA g i j v) (e := .inl (E.2.2 1, n, .inl (fun b => Int32.ofInt ((upA g i j v i) b)))) hh.1 rfl (by rw [hh.2]; rfl) pic_ne]
    exact hR.1.set hD he e4 e3
  exact kk p e R s m args below meth cd H1 _ cells slots kc ks ls hx hG hM hd hl ⟨k1, okG hR.2.1 hvo, fun z => e2.trans (hR.2.2 z)⟩ (hS.put e2 e3 (hD.2 i _ he)) hL (ok_tl (ok_tl (ok_tl hst))) c1 c2 s1 s2
theorem aw_last {i n j : Nat} {x v : Int} (h : K1 q pc .lastore nx) (hh : hasA S i 2 n) (hj : x = (j : Int)) (hn : j < n) (kk : aw l E q d nx L st (S, upA g i j v, u) P) : aw l E q d pc L (lV v :: iV x :: rV i :: st) (S, g, u) P := by
  intro p e R s m args below meth cd H locs cells slots kc ks ls hx hG hM hd hl hR hS hL hst c1 c2 s1 s2
  obtain ⟨h1, h2⟩ := h
  subst h2
  have hvo : okI v := ok_hd hst
  have hxo : okI x := ok_hd (ok_tl hst)
  have hD := wsA_D E S g
  have he : (wsA E S g)[i]? = some (E.1.2.1 + i, .inl (E.2.2 2, n, .inr (.inl (fun b => Int64.ofInt ((g i) b))))) := by rw [wsA_get hh.1, hh.2]; rfl
  have hc : H[E.1.2.1 + i]? = some (arrV (E.2.2 2) n (fun j => Value.long (Int64.ofInt (g i j)))) := hR.1 i _ he
  refine W.last hx hM.2.2.1 hc ((hG.2.2.2.2.1.2 2 (E.2.2 2, .long) rfl).1 n _) (fun z => by cases z) (by rw [arrV_size]; exact i32In hxo (by omega) (by omega)) rfl rfl h1 fun H1 e1 e2 e3 => ?_
  rw [i32N hxo, show x.toNat = j by omega, arrV_store] at e1
  have e4 : H1[E.1.2.1 + i]? = some (arrV (E.2.2 2) n (fun b => Value.long (Int64.ofInt (upA g i j v i b)))) := by
    rw [e1]; refine congrArg (fun z => some (arrV (E.2.2 2) n z)) (funext fun b => ?_)
    by_cases hb : b = j
    · subst hb; simp [updV, upA]
    · simp [updV, upA, hb]
  have k1 : va_P E.2.1 vwCl (wsA E S (upA g i j v)) H1 := by
    rw [← wsA_set (S := S) (S' := S) (g := g) (g' := upA g i j v) (e := .inl (E.2.2 2, n, .inr (.inl (fun b => Int64.ofInt ((upA g i j v i) b))))) hh.1 rfl (by rw [hh.2]; rfl) pic_ne]
    exact hR.1.set hD he e4 e3
  exact kk p e R s m args below meth cd H1 _ cells slots kc ks ls hx hG hM hd hl ⟨k1, okG hR.2.1 hvo, fun z => e2.trans (hR.2.2 z)⟩ (hS.put e2 e3 (hD.2 i _ he)) hL (ok_tl (ok_tl (ok_tl hst))) c1 c2 s1 s2
theorem aw_reti {x : Int} (h : K1 q pc .ireturn nx) (ht : q.2.2.2.1 = some .int ∨ (q.2.2.2.1 = some .boolean ∧ (x = 0 ∨ x = 1))) (hp : P (.inl (some (iV x))) M) : aw l E q d pc L [iV x] M P := by
  intro p e R s m args below meth cd H locs cells slots kc ks ls hx hG hM hd hl hR hS hL hst c1 c2 s1 s2
  obtain ⟨h1, h2⟩ := h
  have key : ∃ ty, meth.sig.returnType = some ty ∧ narrow ty (.int (Int32.ofInt x)) = .int (Int32.ofInt x) := by
    rcases ht with ht | ⟨ht, hz⟩
    · exact ⟨_, hM.2.2.2.2.1.trans ht, rfl⟩
    · exact ⟨_, hM.2.2.2.2.1.trans ht, by rcases hz with rfl | rfl <;> decide⟩
  obtain ⟨ty, t1, t2⟩ := key
  have k := W.zret (p := p) (l := l) (e := e) (R := R) (s := s) (m := m) (args := args) (below := below) (meth := meth) (c := cd) (H := H) (locs := locs) (cells := cells) (slots := slots) (ls := ls) (Qc := fun _ _ o t => o = .returned (some (.int (Int32.ofInt x))) ∧ t.heap = H) (free := fun a => E.1.2.1 ≤ a) hx hM.2.2.1 t1 t2 (fun t e1 _ => ⟨rfl, e1⟩) hS.2.2 h1 hM.2.2.2.2.2.1
  intro T hT X
  obtain ⟨t, a1, o, b1, b2, ⟨b3, b4⟩, Lo, ⟨-, b5, b6⟩, b7⟩ := k T hT X
  exact ⟨t, a1, o, _, M, Lo, cells, slots, b1, b2, hp, ⟨b3, ok_hd hst⟩, b5, by rw [b4]; exact hR, b6, b7, c1, s1⟩
theorem aw_retv (h : K1 q pc .return_ nx) (ht : q.2.2.2.1 = none) (hp : P (.inl none) M) : aw l E q d pc L [] M P := by
  intro p e R s m args below meth cd H locs cells slots kc ks ls hx hG hM hd hl hR hS hL hst c1 c2 s1 s2
  obtain ⟨h1, h2⟩ := h
  have k := W.vret (p := p) (l := l) (e := e) (R := R) (s := s) (m := m) (args := args) (below := below) (meth := meth) (c := cd) (H := H) (locs := locs) (cells := cells) (slots := slots) (ls := ls) (Qc := fun _ _ o t => o = .returned none ∧ t.heap = H) (free := fun a => E.1.2.1 ≤ a) hx hM.2.2.1 (hM.2.2.2.2.1.trans ht) (fun t e1 _ => ⟨rfl, e1⟩) hS.2.2 h1 hM.2.2.2.2.2.1
  intro T hT X
  obtain ⟨t, a1, o, b1, b2, ⟨b3, b4⟩, Lo, ⟨-, b5, b6⟩, b7⟩ := k T hT X
  exact ⟨t, a1, o, _, M, Lo, cells, slots, b1, b2, hp, b3, b5, by rw [b4]; exact hR, b6, b7, c1, s1⟩
end AW2
