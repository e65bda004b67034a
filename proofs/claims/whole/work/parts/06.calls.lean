section AW3
variable {l : Launch} {E : aE} {q : aK} {d pc nx tg : Nat} {L : List (Option aA)} {st : List aA} {M : aM} {P : aP} {S : aS} {g : aG} {u : aU}
/-- a method that the tables hold -/
abbrev Kq (q : aK) : Prop := plainName q.1.cls = true ∧ (q.1.cls ≠ "java/lang/invoke/MethodHandle" ∧ q.1.cls ≠ "java/lang/invoke/VarHandle") ∧ q.2.2.1 ≤ 7 ∧ ((q.2.2.2.2 = [] ∧ Cond.code q.1 q.2.1 q.2.2.1 q.2.2.2.1 ∈ lw_tbl) ∨ Cond.codeWith q.1 q.2.1 q.2.2.1 q.2.2.2.1 q.2.2.2.2 ∈ lw_tbl) ∧ Cond.initialized q.1.cls ∈ lw_tbl
theorem cxM_of {s : State} (hG : cxG l E s) (h : Kq q) : ∃ m meth c, cxM q s m meth c ∧ meth.code = some c ∧ parseMethodDescriptor q.1.desc = some meth.sig := by
  obtain ⟨-, -, -, h | h, -⟩ := h
  · have hw : (Cond.code q.1 q.2.1 q.2.2.1 q.2.2.2.1).before #[] s = true := cxW hG h.2 rfl #[]
    obtain ⟨m, hn⟩ := Cond.code_named hw
    obtain ⟨meth, c, h1, h2, h3, h4, h5, h6, h7, h8⟩ := Cond.code_spec hn hw
    refine ⟨m, meth, c, ⟨hn, h1, h3, h4, h5, h6, ?_⟩, h2, h8⟩
    rw [h.1]
    have h9 : c.exceptionTable.toList = [] := by simpa using h7
    rw [h9]; rfl
  · have hw : (Cond.codeWith q.1 q.2.1 q.2.2.1 q.2.2.2.1 q.2.2.2.2).before #[] s = true := cxW hG h rfl #[]
    obtain ⟨m, meth, c, hn, h1, h2, h3, h4, h5, h6, h7, h8⟩ := Cond.codeWith_spec hw
    exact ⟨m, meth, c, ⟨hn, h1, h3, h4, h6, h7, h5⟩, h2, h8⟩
theorem lg_sl1 : ∀ {vs : List Value}, (∀ v ∈ vs, v.category = 1) → lg_sl vs = vs.map Slot.val
  | [], _ => rfl
  | v :: vs, h => by
    have h1 : v.category = 1 := h v List.mem_cons_self
    have h2 := lg_sl1 (vs := vs) fun w hw => h w (List.mem_cons_of_mem _ hw)
    show (if v.category = 2 then [Slot.val v, Slot.second] else [Slot.val v]) ++ lg_sl vs = _
    rw [h2, h1]
    rfl
theorem lvA_mem : ∀ (vs : List Value) (n : Nat), (∀ v ∈ vs, v.category = 1) → ∀ (k : Nat) (v : Value), vs[k]? = some v → (n + k, v) ∈ lv_args n vs
  | [], _, _, _, _, h => by simp at h
  | w :: vs, n, hc, 0, v, h => by
    have : w = v := by simpa using h
    subst this
    exact List.mem_cons_self
  | w :: vs, n, hc, k + 1, v, h => by
    have h1 : w.category = 1 := hc w List.mem_cons_self
    have h2 := lvA_mem vs (n + 1) (fun x hx => hc x (List.mem_cons_of_mem _ hx)) k v (by simpa using h)
    have e : lv_args n (w :: vs) = (n, w) :: lv_args (n + 1) vs := by
      show (n, w) :: lv_args (if w.category = 2 then n + 2 else n + 1) vs = _
      rw [h1]
      rfl
    rw [e, show n + (k + 1) = n + 1 + k by omega]
    exact List.mem_cons_of_mem _ h2
theorem lsA_entry {as : List aA} {n : Nat} (has : ∀ v ∈ as, okA v ∧ (cvA E v).category = 1) (hn : as.length ≤ n) : lsA E n (as.map some ++ List.replicate (7 - as.length) none) ((lg_sl (as.map (cvA E)) ++ List.replicate (n - (lg_sl (as.map (cvA E))).length) Slot.unset).toArray) := by
  have hc : ∀ v ∈ as.map (cvA E), v.category = 1 := by
    intro v hv
    obtain ⟨x, hx, rfl⟩ := List.mem_map.mp hv
    exact (has x hx).2
  have hl : (lg_sl (as.map (cvA E))).length ≤ n := by rw [lg_sl1 hc]; simpa using hn
  obtain ⟨e1, e2, e3⟩ := lv_entry (as.map (cvA E)) hl
  refine ⟨e1, e2, fun k v hk => ?_⟩
  by_cases hka : k < as.length
  · rw [List.getElem?_append_left (by simpa using hka)] at hk
    have h1 : as[k]? = some v := by simpa using hk
    refine ⟨?_, has v (List.mem_of_getElem? h1)⟩
    have h2 := e3 (0 + k, cvA E v) (lvA_mem _ 0 hc k _ (by simp [h1]))
    rw [Nat.zero_add] at h2
    exact h2
  · rw [List.getElem?_append_right (by simpa using Nat.not_lt.mp hka), List.getElem?_replicate] at hk
    split at hk <;> cases hk
theorem aw_call0 {p : Program} {e : Env} {R : Room} {s : State} {m : MethodId} {args : Array Value} {below : List Frame} {meth : Method} {c : Code} {U : State} {locs : List Loc} {cells slots : Nat} {q' : aK} {as : List aA} {P' : aP} {mk : MethodId} {methk : Method} {ck : Code}
    (X : Stand p l e R s m args below meth c U locs cells slots) (hx : p.tables.exec = Jvm.exec) (hG : cxG l E s) (hd : d + 1 ≤ R.frames) (hl : 36 * (d + 1) ≤ R.locals) (hR : rlA E M U.heap) (hS : va_S (fun a => E.1.2.1 ≤ a) s.heap U.heap locs) (hc : cells + M.2.2.1 ≤ R.cells) (hs : slots + M.2.2.2.1 ≤ R.slots)
    {g : JFrame} (hg : g.method = m) (hsize : g.locals.size = c.maxLocals) {ig : Instr} (hdg : decode c.code g.pc = .ok (ig, 3)) (hroom : 2 * g.monitorRoom + (g.stack.map fun v => v.category).sum + q'.2.2.1 ≤ 25)
    (hM' : cxM q' s mk methk ck) (hck : methk.code = some ck) (hpl : plainName q'.1.cls = true) (has : ∀ v ∈ as, okA v ∧ (cvA E v).category = 1) (hlen : as.length ≤ q'.2.2.1) (k : Sp l E q' d as M P') :
    ∃ (r : aR) (M' : aM) (B : State) (lo : List Loc) (kc ks : Nat), P' r M' ∧ Stand p l e R s m args below meth c B lo kc ks ∧ rlA E M' B.heap ∧ va_S (fun a => E.1.2.1 ≤ a) s.heap B.heap lo ∧ kc + M'.2.2.1 ≤ cells + M.2.2.1 ∧ ks + M'.2.2.2.1 ≤ slots + M.2.2.2.1 ∧
      ((∃ v : Option aA, r = .inl v ∧ (∀ w, v = some w → okA w) ∧ Steps p.tables e below (doInvoke e (U.setTop g) [] mk (as.map (cvA E)).toArray).1 (B.setTop { g with pc := g.pc + 3, stack := (v.map (cvA E)).toList ++ g.stack })) ∨
        ∃ (C : String) (a : Addr) (ce : Cell), r = .inr C ∧ B.heap[a]? = some ce ∧ ce.vm = .none ∧ s.vm.findClass C = some ce.cls ∧ Steps p.tables e below (doInvoke e (U.setTop g) [] mk (as.map (cvA E)).toArray).1 ((B.setTop g).pushFrame (.throwing a))) := by
  have hvm : (U.calling g mk (as.map (cvA E)).toArray).vm = U.vm := Stand.throwing_vm U g 0
  have hheap : (U.calling g mk (as.map (cvA E)).toArray).heap = U.heap := Stand.throwing_heap U g 0
  have hnU : U.methodNamed? q'.1 = some mk := X.named hM'.1
  have hmU : U.vm.method? mk = some methk := by rw [X.warmed.alike.method?]; exact hM'.2.1
  have hpk : U.plainMethod mk := by
    intro kx hkx
    obtain ⟨k2, h1, h2⟩ := className_of_methodNamed hnU
    cases h1.symm.trans hkx
    rw [h2, hpl]; rfl
  obtain ⟨Y, hdo⟩ := X.into hg hsize hdg (as.map (cvA E)).toArray (R' := { frames := d, locals := 36 * d, cells := M.2.2.1, slots := M.2.2.2.1 }) hmU hck hM'.2.2.2.2.2.1 hpk (by show d + 1 ≤ R.frames; omega) (by rw [hM'.2.2.2.1]; show _ + 36 * d ≤ R.locals; omega) hc hs
  have hW : s.WarmedH (U.calling g mk (as.map (cvA E)).toArray).vm := by rw [hvm]; exact X.warmed
  have hSc : va_S (fun a => E.1.2.1 ≤ a) s.heap (U.calling g mk (as.map (cvA E)).toArray).heap locs := by rw [hheap]; exact hS
  have hG' := hG.move hW hSc
  have hn' : (U.calling g mk (as.map (cvA E)).toArray).methodNamed? q'.1 = some mk := by
    have h1 : (s.setVm (U.calling g mk (as.map (cvA E)).toArray).vm).methodNamed? q'.1 = some mk := by rw [State.methodNamed?_setVm hW.alike]; exact hM'.1
    exact h1
  have hMc : cxM q' (U.calling g mk (as.map (cvA E)).toArray) mk methk ck := ⟨hn', by rw [hvm]; exact hmU, hM'.2.2⟩
  have kW := k p e { frames := d, locals := 36 * d, cells := M.2.2.1, slots := M.2.2.2.1 } (U.calling g mk (as.map (cvA E)).toArray) mk (as.map (cvA E)).toArray (.java g :: below) methk ck U.heap [] 0 0 M.2.2.1 M.2.2.2.1 _ hx hG' hMc (Nat.le_refl _) (Nat.le_refl _) hR (by rw [hheap]; exact va_S.rf) (lsA_entry has hlen) (fun v hv => nomatch hv) (by omega) (Nat.le_refl _) (by omega) (Nat.le_refl _)
  have he : entryFrame mk (as.map (cvA E)).toArray ck.maxLocals = F0 mk 0 ((lg_sl (as.map (cvA E)) ++ List.replicate (q'.2.2.1 - (lg_sl (as.map (cvA E))).length) Slot.unset).toArray) [] := by rw [lg_entry_eq, hM'.2.2.2.1]
  have hT0 : ((U.setTop g).pushFrame (.java (entryFrame mk (as.map (cvA E)).toArray ck.maxLocals))).heap = U.heap := by
    simp [State.pushFrame, State.setFrames, State.setTop, State.modifyTopJava]
  obtain ⟨t, a1, o, r, M', Lo, k', n', b1, b2, b3, b4, b5, b6, b7, b8, b9, b10⟩ := kW _ hT0 Y
  have a2 : Steps p.tables e below (doInvoke e (U.setTop g) [] mk (as.map (cvA E)).toArray).1 t := by
    rw [hdo [], he]
    rw [he] at a1
    exact Steps.weaken (mid := [.java g]) a1
  have hfr := vx_frame b7
  rw [hheap] at hfr
  have hSt : va_S (fun a => E.1.2.1 ≤ a) s.heap t.heap (locs ++ Lo) := ⟨Nat.le_trans hS.1 hfr.1, fun a h1 h2 => (hfr.2 a (Nat.lt_of_lt_of_le h1 hS.1) (fun z hz e => h2 (by rw [← e]; exact b8 z hz))).trans (hS.2.1 a h1 h2), fun z hz => (List.mem_append.mp hz).elim (hS.2.2 z) (b8 z)⟩
  match r, b4 with
  | .inl none, b4 =>
    have b4' : o = .returned none := b4
    subst b4'
    obtain ⟨B, XB, -, -, hB⟩ := X.outOf hg hdg b2 b5 b7
    have hBh : B.heap = t.heap := by rw [hB]; simp [State.setTop, State.modifyTopJava, State.setFrames]
    exact ⟨.inl none, M', B, locs ++ Lo, cells + k', slots + n', b3, XB, by rw [hBh]; exact b6, by rw [hBh]; exact hSt, by omega, by omega, Or.inl ⟨none, rfl, fun w hw => (by cases hw), by rw [hB] at a2; exact a2⟩⟩
  | .inl (some v), b4 =>
    have b4' : o = .returned (some (cvA E v)) ∧ okA v := b4
    obtain ⟨rfl, hv⟩ := b4'
    obtain ⟨B, XB, -, -, hB⟩ := X.outOf hg hdg b2 b5 b7
    have hBh : B.heap = t.heap := by rw [hB]; simp [State.setTop, State.modifyTopJava, State.setFrames]
    exact ⟨.inl (some v), M', B, locs ++ Lo, cells + k', slots + n', b3, XB, by rw [hBh]; exact b6, by rw [hBh]; exact hSt, by omega, by omega, Or.inl ⟨some v, rfl, fun w hw => (by cases hw; exact hv), by rw [hB] at a2; exact a2⟩⟩
  | .inr C, b4 =>
    obtain ⟨a, ce, rfl, f1, f2, f3⟩ := (b4 : ∃ (a : Addr) (ce : Cell), o = .threw a ∧ t.heap[a]? = some ce ∧ ce.vm = .none ∧ (U.calling g mk (as.map (cvA E)).toArray).vm.findClass C = some ce.cls)
    obtain ⟨B, XB, -, -, hB⟩ := X.outOfThrown hg b2 b5 b7
    have hBh : B.heap = t.heap := by rw [hB]; exact (Stand.throwing_heap B g a).symm
    exact ⟨.inr C, M', B, locs ++ Lo, cells + k', slots + n', b3, XB, by rw [hBh]; exact b6, by rw [hBh]; exact hSt, by omega, by omega, Or.inr ⟨C, a, ce, rfl, by rw [hBh]; exact f1, f2, by rw [← hW.alike.findClass]; exact f3, by rw [hB] at a2; exact a2⟩⟩
/-- what is owed behind a call -/
def cnA (l : Launch) (E : aE) (q : aK) (d nx : Nat) (L : List (Option aA)) (st : List aA) (P : aP) : aP := fun r M => match r with
  | .inl none => aw l E q d nx L st M P
  | .inl (some v) => aw l E q d nx L (v :: st) M P
  | .inr C => P (.inr C) M
theorem covN {c : Code} (h : c.exceptionTable.toList.map (fun h => (h.startPc, h.endPc, h.handlerPc, h.catchType)) = []) (pc : Nat) : ∀ x ∈ c.exceptionTable.toList, covers x pc = false := by
  intro x hx
  rw [List.map_eq_nil_iff.mp h] at hx
  cases hx
/-- the end of a call in a method without handlers -/
theorem aw_back {p : Program} {e : Env} {R : Room} {s : State} {m : MethodId} {args : Array Value} {below : List Frame} {meth : Method} {c : Code} {kc ks : Nat} {ls : Array Slot}
    (hx : p.tables.exec = Jvm.exec) (hG : cxG l E s) (hM : cxM q s m meth c) (hd : d ≤ R.frames) (hl : 36 * d ≤ R.locals) (hL : lsA E q.2.2.1 L ls) (hst : ∀ v ∈ st, okA v) (h0 : q.2.2.2.2 = []) (c2 : kc ≤ R.cells) (s2 : ks ≤ R.slots) {lo : List Loc} {c0 s0 : Nat} {B : State} {r : aR} {M' : aM} {D : State}
    (b1 : cnA l E q d (pc + 3) L st P r M') (b2 : Stand p l e R s m args below meth c B lo c0 s0) (b3 : rlA E M' B.heap) (b4 : va_S (fun a => E.1.2.1 ≤ a) s.heap B.heap lo) (b5 : c0 + M'.2.2.1 ≤ kc) (b6 : s0 + M'.2.2.2.1 ≤ ks)
    (b7 : (∃ v : Option aA, r = .inl v ∧ (∀ w, v = some w → okA w) ∧ Steps p.tables e below D (B.setTop { F0 m pc ls (st.map (cvA E)) with pc := pc + 3, stack := (v.map (cvA E)).toList ++ st.map (cvA E) })) ∨
        ∃ (C : String) (a : Addr) (ce : Cell), r = .inr C ∧ B.heap[a]? = some ce ∧ ce.vm = .none ∧ s.vm.findClass C = some ce.cls ∧ Steps p.tables e below D ((B.setTop (F0 m pc ls (st.map (cvA E)))).pushFrame (.throwing a))) :
    ∃ t, Steps p.tables e below D t ∧ enA E P below s kc ks t := by
  rcases b7 with ⟨v, rfl, hv, hsteps⟩ | ⟨C, a, ce, rfl, f1, f2, f3, hsteps⟩
  · cases v with
    | none =>
      have k1 : aw l E q d (pc + 3) L st M' P := b1
      obtain ⟨t, a1, a2⟩ := k1 p e R s m args below meth c B.heap lo c0 s0 kc ks ls hx hG hM hd hl b3 b4 hL hst b5 c2 b6 s2 B rfl b2
      exact ⟨t, hsteps.trans a1, a2⟩
    | some v =>
      have k1 : aw l E q d (pc + 3) L (v :: st) M' P := b1
      obtain ⟨t, a1, a2⟩ := k1 p e R s m args below meth c B.heap lo c0 s0 kc ks ls hx hG hM hd hl b3 b4 hL (ok_cons (hv v rfl) hst) b5 c2 b6 s2 B rfl b2
      exact ⟨t, hsteps.trans a1, a2⟩
  · have hex : c.exceptionTable.toList.map (fun h => (h.startPc, h.endPc, h.handlerPc, h.catchType)) = [] := by rw [hM.2.2.2.2.2.2, h0]
    obtain ⟨st1, hrun, hend, hW, hsm⟩ := b2.leaveThrown a (g := F0 m pc ls (st.map (cvA E))) rfl rfl rfl (covN hex pc) hM.2.2.2.2.2.1
    exact ⟨_, hsteps.trans st1, .threw a, .inr C, M', lo, c0, s0, hrun, hend, b1, ⟨a, ce, rfl, f1, f2, f3⟩, hW, b3, hsm, b4.2.2, b5, b6⟩
abbrev KS (q : aK) (pc : Nat) (q' : aK) (n nx : Nat) : Prop := Kq q' ∧ n ≤ q'.2.2.1 ∧ Cond.static q'.1 ∈ lw_tbl ∧ pc + 3 = nx ∧ (parseMethodDescriptor q'.1.desc).map (fun d => d.parameters.length) = some n ∧ ∃ idx, decode q.2.1 pc = .ok (.invokestatic idx, 3) ∧ (Cond.methodLink q.1.cls idx q'.1 ∈ lw_tbl ∨ ∃ host, Cond.methodLinkNest q.1.cls idx q'.1 host ∈ lw_tbl)
abbrev KV (q : aK) (pc : Nat) (q' : aK) (ci n nx : Nat) : Prop := Kq q' ∧ n + 1 ≤ q'.2.2.1 ∧ Cond.instanceMethod q'.1 ∈ lw_tbl ∧ Cond.selects q'.1.cls q'.1 q'.1 ∈ lw_tbl ∧ pc + 3 = nx ∧ (parseMethodDescriptor q'.1.desc).map (fun d => d.parameters.length) = some n ∧ (∃ r, vwCl[ci]? = some r ∧ r.1 = q'.1.cls) ∧ ∃ idx, decode q.2.1 pc = .ok (.invokevirtual idx, 3) ∧ Cond.methodLink q.1.cls idx q'.1 ∈ lw_tbl
abbrev KI (q : aK) (pc : Nat) (q' : aK) (n nx : Nat) : Prop := Kq q' ∧ n + 1 ≤ q'.2.2.1 ∧ q'.2.2.2.2 = [] ∧ q'.2.2.2.1 = none ∧ Cond.code q'.1 q'.2.1 q'.2.2.1 none ∈ lw_tbl ∧ q'.1.name = "<init>" ∧ Cond.instanceMethod q'.1 ∈ lw_tbl ∧ pc + 3 = nx ∧ (parseMethodDescriptor q'.1.desc).map (fun d => d.parameters.length) = some n ∧ ∃ idx, decode q.2.1 pc = .ok (.invokespecial idx, 3) ∧ Cond.methodLink q.1.cls idx q'.1 ∈ lw_tbl
theorem sumC (E : aE) : ∀ st : List aA, ((st.map (cvA E)).map fun v => v.category).sum ≤ 2 * st.length
  | [] => Nat.le_refl _
  | v :: st => by
    have h := sumC E st
    have h1 : (cvA E v).category ≤ 2 := by rcases lv_cat (cvA E v) with h | h <;> omega
    simp only [List.map_cons, List.sum_cons, List.length_cons] at h ⊢
    omega
theorem ok_as {i : Nat} {as : List aA} (h1 : ∀ v ∈ as, okA v) (h2 : ∀ v ∈ as, (cvA E v).category = 1) : ∀ v ∈ rV i :: as, okA v ∧ (cvA E v).category = 1 := List.forall_mem_cons.mpr ⟨⟨trivial, rfl⟩, fun v hv => ⟨h1 v hv, h2 v hv⟩⟩
theorem nparams {q' : aK} {n : Nat} (h : (parseMethodDescriptor q'.1.desc).map (fun d => d.parameters.length) = some n) {sig : MethodDescriptor} (hs : parseMethodDescriptor q'.1.desc = some sig) : n = sig.parameters.length := by
  rw [hs] at h
  exact (Option.some.inj h).symm
theorem aw_S {q' : aK} {n : Nat} {as : List aA} (h : KS q pc q' n nx) (h0 : q.2.2.2.2 = []) (hn : as.length = n) (hrm : 2 * st.length + q'.2.2.1 ≤ 25) (has : ∀ v ∈ as, (cvA E v).category = 1) (k : Sp l E q' d as M (cnA l E q (d + 1) nx L st P)) : aw l E q (d + 1) pc L (as.reverse ++ st) M P := by
  intro p e R s m args below meth cd H locs cells slots kc ks ls hx hG hM hd hl hR hS hL hst c1 c2 s1 s2
  obtain ⟨hq, hmx, hstat, h2, hnp, idx, h1, hlk⟩ := h
  subst h2
  obtain ⟨mk, methk, ck, hM', hck, hsig⟩ := cxM_of hG hq
  obtain ⟨kP, hkP, -⟩ := className_of_methodNamed hM'.1
  have hinitP : kP.init = .initialized := Cond.initialized_spec (findClass_of_methodNamed hM'.1) hkP (cxW hG hq.2.2.2.2 rfl args)
  have hstatic : methk.isStatic = true := Cond.static_spec hM'.1 hM'.2.1 (cxW hG hstat rfl args)
  have hst1 : ∀ v ∈ as, okA v := fun v hv => hst v (List.mem_append_left _ (List.mem_reverse.mpr hv))
  have hst2 : ∀ v ∈ st, okA v := fun v hv => hst v (List.mem_append_right _ hv)
  intro T hT X
  have hstk : (F0 m pc ls ((as.reverse ++ st).map (cvA E))).stack = (as.map (cvA E)).reverse ++ st.map (cvA E) := by
    show (as.reverse ++ st).map (cvA E) = _
    rw [List.map_append, List.map_reverse]
  have hdg : decode cd.code (F0 m pc ls ((as.reverse ++ st).map (cvA E))).pc = .ok (.invokestatic idx, 3) := by rw [hM.2.2.1]; exact h1
  have hl1 : (as.map (cvA E)).length = methk.sig.parameters.length := by rw [List.length_map, hn]; exact nparams hnp hsig
  have key : ∃ vm', Stand p l e R s m args below meth cd (T.setVm vm') locs cells slots ∧ ∀ target, (∀ acts, Steps p.tables e below (doInvoke e ((T.setVm vm').setTop { F0 m pc ls ((as.reverse ++ st).map (cvA E)) with stack := st.map (cvA E) }) acts mk (as.map (cvA E)).toArray).1 target) → Steps p.tables e below (T.setTop (F0 m pc ls ((as.reverse ++ st).map (cvA E)))) target := by
    rcases hlk with hlk | ⟨host, hlk⟩
    · exact X.invokestatic hx (findClass_of_methodNamed hM.1) (cxW hG hlk rfl args) hM'.1 hM'.2.1 hstatic hkP hinitP hq.2.1 (g := F0 m pc ls ((as.reverse ++ st).map (cvA E))) rfl hl1 hstk hdg
    · exact X.invokestaticNest hx (findClass_of_methodNamed hM.1) (cxW hG hlk rfl args) hM'.1 hM'.2.1 hstatic hkP hinitP hq.2.1 (g := F0 m pc ls ((as.reverse ++ st).map (cvA E))) rfl hl1 hstk hdg
  obtain ⟨vm', X', hstep⟩ := key
  obtain ⟨r, M', B, lo, c0, s0, b1, b2, b3, b4, b5, b6, b7⟩ := aw_call0 X' hx hG hd hl (by show rlA E M T.heap; rw [hT]; exact hR) (by show va_S _ _ T.heap _; rw [hT]; exact hS) (by omega) (by omega) (g := F0 m pc ls (st.map (cvA E))) rfl (by show ls.size = _; rw [hL.1, hM.2.2.2.1]) (ig := .invokestatic idx) (by rw [hM.2.2.1]; exact h1) (by have := sumC E st; show 2 * 0 + ((st.map (cvA E)).map fun v => v.category).sum + q'.2.2.1 ≤ 25; omega) hM' hck hq.1 (fun v hv => ⟨hst1 v hv, has v hv⟩) (by omega) k
  obtain ⟨t, a1, a2⟩ := aw_back hx hG hM hd hl hL hst2 h0 c2 s2 b1 b2 b3 b4 (by omega) (by omega) b7
  exact ⟨t, hstep t (fun acts => by rw [doInvoke_state]; exact a1), a2⟩
theorem aw_V {q' : aK} {ci n i nn : Nat} {S : aS} {g : aG} {u : aU} {as : List aA} (h : KV q pc q' ci n nx) (h0 : q.2.2.2.2 = []) (hn : as.length = n) (hrm : 2 * st.length + q'.2.2.1 ≤ 25) (has : ∀ v ∈ as, (cvA E v).category = 1) (hh : hasA S i (ci + 4) nn) (k : Sp l E q' d (rV i :: as) (S, g, u) (cnA l E q (d + 1) nx L st P)) : aw l E q (d + 1) pc L (as.reverse ++ rV i :: st) (S, g, u) P := by
  intro p e R s m args below meth cd H locs cells slots kc ks ls hx hG hM hd hl hR hS hL hst c1 c2 s1 s2
  obtain ⟨hq, hmx, hins, hsel, h2, hnp, ⟨rr, hr1, hr2⟩, idx, h1, hlk⟩ := h
  subst h2
  obtain ⟨mk, methk, ck, hM', hck, hsig⟩ := cxM_of hG hq
  obtain ⟨mk2, methM, hnamed, hmethM, hstM, habM⟩ := Cond.instanceMethod_spec (cxW hG hins rfl args)
  cases hM'.1.symm.trans hnamed
  cases hM'.2.1.symm.trans hmethM
  have he : (wsA E S g)[i]? = some (E.1.2.1 + i, .inr (ci, fsA E ci (S.2.2 i) (g i))) := by rw [wsA_get hh.1, hh.2]; rfl
  obtain ⟨cell, hcell, hobj, hcls⟩ := va_recv hG.2.2.2.2.1 hR.1 hr1 he
  rw [hr2] at hcls
  obtain ⟨c2', r2, m2, q1, q2, q3, q4, kP, hkP, hkPi⟩ := Cond.selects_spec (cxW hG hsel rfl args)
  cases hcls.symm.trans q1
  cases (State.methodFound?_of_named hnamed hq.2.1).symm.trans q2
  cases hnamed.symm.trans q3
  have hst1 : ∀ v ∈ as, okA v := fun v hv => hst v (List.mem_append_left _ (List.mem_reverse.mpr hv))
  have hst2 : ∀ v ∈ st, okA v := fun v hv => hst v (List.mem_append_right _ (List.mem_cons_of_mem _ hv))
  intro T hT X
  have hselP : selectMethod e.platform s.vm cell.cls mk = .method mk := by rw [Launch.admits_selectMethod X.admits]; exact q4
  have hstk : (F0 m pc ls ((as.reverse ++ rV i :: st).map (cvA E))).stack = (as.map (cvA E)).reverse ++ .ref (E.1.2.1 + i) :: st.map (cvA E) := by
    show (as.reverse ++ rV i :: st).map (cvA E) = _
    rw [List.map_append, List.map_reverse]
    rfl
  have hdg : decode cd.code (F0 m pc ls ((as.reverse ++ rV i :: st).map (cvA E))).pc = .ok (.invokevirtual idx, 3) := by rw [hM.2.2.1]; exact h1
  have hl1 : (as.map (cvA E)).length = methk.sig.parameters.length := by rw [List.length_map, hn]; exact nparams hnp hsig
  obtain ⟨vm', X', hstep⟩ := X.invokevirtual hx (findClass_of_methodNamed hM.1) (cxW hG hlk rfl args) hnamed hmethM hstM hkP hkPi hq.2.1 (a := E.1.2.1 + i) (cell := cell) (by rw [hT]; exact hcell) (fun z h => by rw [h] at hobj; cases hobj) hselP hmethM habM hkP hkPi (g := F0 m pc ls ((as.reverse ++ rV i :: st).map (cvA E))) rfl hl1 hstk hdg
  obtain ⟨r, M', B, lo, c0, s0, b1, b2, b3, b4, b5, b6, b7⟩ := aw_call0 X' hx hG hd hl (by show rlA E (S, g, u) T.heap; rw [hT]; exact hR) (by show va_S _ _ T.heap _; rw [hT]; exact hS) (by omega) (by omega) (g := F0 m pc ls (st.map (cvA E))) rfl (by show ls.size = _; rw [hL.1, hM.2.2.2.1]) (ig := .invokevirtual idx) (by rw [hM.2.2.1]; exact h1) (by have := sumC E st; show 2 * 0 + ((st.map (cvA E)).map fun v => v.category).sum + q'.2.2.1 ≤ 25; omega) hM' hck hq.1 (ok_as hst1 has) (by simp only [List.length_cons]; omega) k
  obtain ⟨t, a1, a2⟩ := aw_back hx hG hM hd hl hL hst2 h0 c2 s2 b1 b2 b3 b4 (by omega) (by omega) b7
  exact ⟨t, hstep t (fun acts => by rw [doInvoke_state]; exact a1), a2⟩
theorem aw_I {q' : aK} {n i : Nat} {as : List aA} (h : KI q pc q' n nx) (h0 : q.2.2.2.2 = []) (hn : as.length = n) (hrm : 2 * st.length + q'.2.2.1 ≤ 25) (has : ∀ v ∈ as, (cvA E v).category = 1) (k : Sp l E q' d (rV i :: as) M (cnA l E q (d + 1) nx L st P)) : aw l E q (d + 1) pc L (as.reverse ++ rV i :: st) M P := by
  intro p e R s m args below meth cd H locs cells slots kc ks ls hx hG hM hd hl hR hS hL hst c1 c2 s1 s2
  obtain ⟨hq, hmx, hq0, hq1, hcw, hnm, hins, h2, hnp, idx, h1, hlk⟩ := h
  subst h2
  obtain ⟨mk, methk, ck, hM', hck, hsig⟩ := cxM_of hG hq
  have hst1 : ∀ v ∈ as, okA v := fun v hv => hst v (List.mem_append_left _ (List.mem_reverse.mpr hv))
  have hst2 : ∀ v ∈ st, okA v := fun v hv => hst v (List.mem_append_right _ (List.mem_cons_of_mem _ hv))
  intro T hT X
  have hpl : e.platform.magicAccessors = ({} : Platform).magicAccessors := by rw [X.admits.platform]
  have hstk : (F0 m pc ls ((as.reverse ++ rV i :: st).map (cvA E))).stack = (as.map (cvA E)).reverse ++ .ref (E.1.2.1 + i) :: st.map (cvA E) := by
    show (as.reverse ++ rV i :: st).map (cvA E) = _
    rw [List.map_append, List.map_reverse]
    rfl
  obtain ⟨tm, methM, cM, kP, vm₁, hnamed, hmethM, hcodeM, -, hlocalsM, -, hkP, -, hW₁, hstep⟩ := Steps.initColdArgs (e := e) X.here hx X.warmed hpl (findClass_of_methodNamed hM.1) hnm hq.2.1 (cxW hG hlk rfl args) (cxW hG hins rfl args) (cxW hG hcw rfl args) (f := F0 m pc ls ((as.reverse ++ rV i :: st).map (cvA E))) rfl (fun sig hs => by rw [List.length_map, hn]; exact nparams hnp hs) hstk (by rw [hM.2.2.1]; exact h1)
  have hmk : tm = mk := Option.some.inj (hnamed.symm.trans hM'.1)
  subst hmk
  have X' := X.noted hW₁
  obtain ⟨r, M', B, lo, c0, s0, b1, b2, b3, b4, b5, b6, b7⟩ := aw_call0 X' hx hG hd hl (by show rlA E M T.heap; rw [hT]; exact hR) (by show va_S _ _ T.heap _; rw [hT]; exact hS) (by omega) (by omega) (g := F0 m pc ls (st.map (cvA E))) rfl (by show ls.size = _; rw [hL.1, hM.2.2.2.1]) (ig := .invokespecial idx) (by rw [hM.2.2.1]; exact h1) (by have := sumC E st; show 2 * 0 + ((st.map (cvA E)).map fun v => v.category).sum + q'.2.2.1 ≤ 25; omega) hM' hck hq.1 (ok_as hst1 has) (by simp only [List.length_cons]; omega) k
  obtain ⟨t, a1, a2⟩ := aw_back hx hG hM hd hl hL hst2 h0 c2 s2 b1 b2 b3 b4 (by omega) (by omega) b7
  exact ⟨t, hstep t (fun acts => by rw [doInvoke_state]; exact a1), a2⟩
/-- where an exception C, thrown at pc, is caught; there it is stored away -/
abbrev Kh (q : aK) (pc : Nat) (C : String) (k nx : Nat) : Prop := ∃ (pre suf : List (Nat × Nat × Nat × Nat)) (h : Nat × Nat × Nat × Nat), q.2.2.2.2 = pre ++ h :: suf ∧ (∀ z ∈ pre, z.2.2.2 ≠ 0 ∧ ∃ nm, Cond.classLink q.1.cls z.2.2.2 nm ∈ lw_tbl ∧ (C, nm) ∈ ncA) ∧ h.1 ≤ pc ∧ pc < h.2.1 ∧ h.2.2.2 ≠ 0 ∧ Cond.classLink q.1.cls h.2.2.2 C ∈ lw_tbl ∧ Cond.castable C C ∈ lw_tbl ∧ Kt q h.2.2.1 k nx
def cnH (l : Launch) (E : aE) (q : aK) (d pc nx : Nat) (L : List (Option aA)) (st : List aA) (P : aP) : aP := fun r M => match r with
  | .inl none => aw l E q d nx L st M P
  | .inl (some v) => aw l E q d nx L (v :: st) M P
  | .inr C => ∃ k nx', Kh q pc C k nx' ∧ aw l E q d nx' (L.set k none) [] M P
theorem lsA_setN {n k : Nat} {ls : Array Slot} {v : Value} (hL : lsA E n L ls) : ∃ lv, lv_has ls n lv ∧ ∀ ls', lv_has ls' n ((k, v) :: lv.filter (fun q => !(q.1 == k) && !(q.1 + 1 == k && q.2.category == 2))) → lsA E n (L.set k none) ls' := by
  refine ⟨(List.range L.length).filterMap (fun j => (L[j]?).join.map (fun w => (j, cvA E w))), ⟨hL.1, hL.2.1, fun x hx => ?_⟩, fun ls' h' => ⟨h'.1, h'.2.1, fun j w hw => ?_⟩⟩
  · obtain ⟨j, -, hj⟩ := List.mem_filterMap.mp hx
    cases e : L[j]? with
    | none => rw [e] at hj; cases hj
    | some o =>
      cases o with
      | none => rw [e] at hj; cases hj
      | some w =>
        rw [e] at hj
        cases hj
        exact (hL.2.2 j w e).1
  · by_cases hj : j = k
    · subst hj
      have hlt : j < L.length := by
        have := (List.getElem?_eq_some_iff.mp hw).1
        simpa using this
      rw [List.getElem?_set_self hlt] at hw
      cases hw
    · rw [List.getElem?_set_ne (Ne.symm hj)] at hw
      obtain ⟨g1, g2, g3⟩ := hL.2.2 j w hw
      refine ⟨h'.2.2 (j, cvA E w) (List.mem_cons_of_mem _ (List.mem_filter.mpr ⟨List.mem_filterMap.mpr ⟨j, List.mem_range.mpr (List.getElem?_eq_some_iff.mp hw).1, by rw [hw]; rfl⟩, ?_⟩)), g2, g3⟩
      simp [hj, g3]
theorem aw_caught {p : Program} {e : Env} {R : Room} {s : State} {m : MethodId} {args : Array Value} {below : List Frame} {meth : Method} {c : Code} {H : Heap} {locs : List Loc} {cells slots kc ks : Nat} {ls : Array Slot} {rest : List Value} {C : String} {k : Nat} {a : Addr} {ce : Cell}
    (hx : p.tables.exec = Jvm.exec) (hG : cxG l E s) (hM : cxM q s m meth c) (hd : d ≤ R.frames) (hl : 36 * d ≤ R.locals) (hR : rlA E M H) (hS : va_S (fun a => E.1.2.1 ≤ a) s.heap H locs) (hL : lsA E q.2.2.1 L ls) (c1 : cells + M.2.2.1 ≤ kc) (c2 : kc ≤ R.cells) (s1 : slots + M.2.2.2.1 ≤ ks) (s2 : ks ≤ R.slots)
    (h : Kh q pc C k nx) (hce : H[a]? = some ce) (hcv : ce.vm = .none) (hcl : s.vm.findClass C = some ce.cls) (kk : aw l E q d nx (L.set k none) [] M P) : vx_W p l e R s m args below meth c H locs cells slots (enA E P below s kc ks) (F0 m pc ls rest) a := by
  obtain ⟨pre, suf, h9, e1, e2, e3, e4, e5, e6, e7, hkn, h8⟩ := h
  have hown : s.vm.findClass q.1.cls = some m.cls := findClass_of_methodNamed hM.1
  have hex := hM.2.2.2.2.2.2
  rw [e1] at hex
  obtain ⟨l1, l2, m1, m2, m3⟩ := List.map_eq_append_iff.mp hex
  obtain ⟨x, l3, n1, n2, n3⟩ := List.map_eq_cons_iff.mp m3
  obtain ⟨lv, g1, g2⟩ := lsA_setN (k := k) (v := .ref a) hL
  refine vx_catch (own := q.1.cls) (name := C) (E := C) hown l1 x l3 (by rw [m1, n1]) (fun z hz => Or.inr ?_) ?_ ?_ ?_ (cxW hG e7 rfl args) hce hcv hcl ?_
  · have hz2 : (z.startPc, z.endPc, z.handlerPc, z.catchType) ∈ pre := by rw [← m2]; exact List.mem_map.mpr ⟨z, hz, rfl⟩
    obtain ⟨f1, nm, f2, f3⟩ := e2 _ hz2
    exact ⟨f1, nm, cxW hG f2 rfl args, hG.2.2.2.1 _ f3⟩
  · rw [← n2] at e3 e4
    simp only [covers, Bool.and_eq_true, decide_eq_true_eq]
    exact ⟨e3, e4⟩
  · rw [← n2] at e5; exact e5
  · rw [← n2] at e6; exact cxW hG e6 rfl args
  · have hh : x.handlerPc = h9.2.2.1 := by rw [← n2]
    rw [hh]
    rcases h8 with ⟨f1, f2⟩ | ⟨f, f1, f2, f3⟩
    · subst f2; exact lv_astore hx hM.2.2.1 f1 g1 hkn rfl fun ls' h' => kk p e R s m args below meth c H locs cells slots kc ks ls' hx hG hM hd hl hR hS (g2 ls' h') (fun v hv => nomatch hv) c1 c2 s1 s2
    · subst f3; exact lv_astore_n hx hM.2.2.1 f1 f2 g1 hkn rfl fun ls' h' => kk p e R s m args below meth c H locs cells slots kc ks ls' hx hG hM hd hl hR hS (g2 ls' h') (fun v hv => nomatch hv) c1 c2 s1 s2
theorem aw_VH {q' : aK} {ci n i nn : Nat} {S : aS} {g : aG} {u : aU} {as : List aA} (h : KV q pc q' ci n nx) (hn : as.length = n) (hrm : 2 * st.length + q'.2.2.1 ≤ 25) (has : ∀ v ∈ as, (cvA E v).category = 1) (hh : hasA S i (ci + 4) nn) (k : Sp l E q' d (rV i :: as) (S, g, u) (cnH l E q (d + 1) pc nx L st P)) : aw l E q (d + 1) pc L (as.reverse ++ rV i :: st) (S, g, u) P := by
  intro p e R s m args below meth cd H locs cells slots kc ks ls hx hG hM hd hl hR hS hL hst c1 c2 s1 s2
  obtain ⟨hq, hmx, hins, hsel, h2, hnp, ⟨rr, hr1, hr2⟩, idx, h1, hlk⟩ := h
  subst h2
  obtain ⟨mk, methk, ck, hM', hck, hsig⟩ := cxM_of hG hq
  obtain ⟨mk2, methM, hnamed, hmethM, hstM, habM⟩ := Cond.instanceMethod_spec (cxW hG hins rfl args)
  cases hM'.1.symm.trans hnamed
  cases hM'.2.1.symm.trans hmethM
  have he : (wsA E S g)[i]? = some (E.1.2.1 + i, .inr (ci, fsA E ci (S.2.2 i) (g i))) := by rw [wsA_get hh.1, hh.2]; rfl
  obtain ⟨cell, hcell, hobj, hcls⟩ := va_recv hG.2.2.2.2.1 hR.1 hr1 he
  rw [hr2] at hcls
  obtain ⟨c2', r2, m2, q1, q2, q3, q4, kP, hkP, hkPi⟩ := Cond.selects_spec (cxW hG hsel rfl args)
  cases hcls.symm.trans q1
  cases (State.methodFound?_of_named hnamed hq.2.1).symm.trans q2
  cases hnamed.symm.trans q3
  have hst1 : ∀ v ∈ as, okA v := fun v hv => hst v (List.mem_append_left _ (List.mem_reverse.mpr hv))
  have hst2 : ∀ v ∈ st, okA v := fun v hv => hst v (List.mem_append_right _ (List.mem_cons_of_mem _ hv))
  intro T hT X
  have hselP : selectMethod e.platform s.vm cell.cls mk = .method mk := by rw [Launch.admits_selectMethod X.admits]; exact q4
  have hstk : (F0 m pc ls ((as.reverse ++ rV i :: st).map (cvA E))).stack = (as.map (cvA E)).reverse ++ .ref (E.1.2.1 + i) :: st.map (cvA E) := by
    show (as.reverse ++ rV i :: st).map (cvA E) = _
    rw [List.map_append, List.map_reverse]
    rfl
  have hdg : decode cd.code (F0 m pc ls ((as.reverse ++ rV i :: st).map (cvA E))).pc = .ok (.invokevirtual idx, 3) := by rw [hM.2.2.1]; exact h1
  have hl1 : (as.map (cvA E)).length = methk.sig.parameters.length := by rw [List.length_map, hn]; exact nparams hnp hsig
  obtain ⟨vm', X', hstep⟩ := X.invokevirtual hx (findClass_of_methodNamed hM.1) (cxW hG hlk rfl args) hnamed hmethM hstM hkP hkPi hq.2.1 (a := E.1.2.1 + i) (cell := cell) (by rw [hT]; exact hcell) (fun z h => by rw [h] at hobj; cases hobj) hselP hmethM habM hkP hkPi (g := F0 m pc ls ((as.reverse ++ rV i :: st).map (cvA E))) rfl hl1 hstk hdg
  obtain ⟨r, M', B, lo, c0, s0, b1, b2, b3, b4, b5, b6, b7⟩ := aw_call0 X' hx hG hd hl (by show rlA E (S, g, u) T.heap; rw [hT]; exact hR) (by show va_S _ _ T.heap _; rw [hT]; exact hS) (by omega) (by omega) (g := F0 m pc ls (st.map (cvA E))) rfl (by show ls.size = _; rw [hL.1, hM.2.2.2.1]) (ig := .invokevirtual idx) (by rw [hM.2.2.1]; exact h1) (by have := sumC E st; show 2 * 0 + ((st.map (cvA E)).map fun v => v.category).sum + q'.2.2.1 ≤ 25; omega) hM' hck hq.1 (ok_as hst1 has) (by simp only [List.length_cons]; omega) k
  have key : ∃ t, Steps p.tables e below (doInvoke e ((T.setVm vm').setTop (F0 m pc ls (st.map (cvA E)))) [] mk ((rV i :: as).map (cvA E)).toArray).1 t ∧ enA E P below s kc ks t := by
    rcases b7 with ⟨v, rfl, hv, hsteps⟩ | ⟨C, a, ce, rfl, f1, f2, f3, hsteps⟩
    · cases v with
      | none =>
        have k1 : aw l E q (d + 1) (pc + 3) L st M' P := b1
        obtain ⟨t, a1, a2⟩ := k1 p e R s m args below meth cd B.heap lo c0 s0 kc ks ls hx hG hM hd hl b3 b4 hL hst2 (by omega) c2 (by omega) s2 B rfl b2
        exact ⟨t, hsteps.trans a1, a2⟩
      | some v =>
        have k1 : aw l E q (d + 1) (pc + 3) L (v :: st) M' P := b1
        obtain ⟨t, a1, a2⟩ := k1 p e R s m args below meth cd B.heap lo c0 s0 kc ks ls hx hG hM hd hl b3 b4 hL (ok_cons (hv v rfl) hst2) (by omega) c2 (by omega) s2 B rfl b2
        exact ⟨t, hsteps.trans a1, a2⟩
    · obtain ⟨k', nx', hk', hw'⟩ := (b1 : ∃ k nx', Kh q pc C k nx' ∧ aw l E q (d + 1) nx' (L.set k none) [] M' P)
      obtain ⟨t, a1, a2⟩ := aw_caught (kc := kc) (ks := ks) (rest := st.map (cvA E)) hx hG hM hd hl b3 b4 hL (by omega) c2 (by omega) s2 hk' f1 f2 f3 hw' B rfl b2
      exact ⟨t, hsteps.trans a1, a2⟩
  obtain ⟨t, a1, a2⟩ := key
  exact ⟨t, hstep t (fun acts => by rw [doInvoke_state]; exact a1), a2⟩
def nmE : List String := ["java/lang/RuntimeException", "java/lang/Exception"]
abbrev KT (q : aK) (pc : Nat) (C : String) : Prop := ∃ (ik is ic : Nat) (tx : String), decode q.2.1 pc = .ok (.new ik, 3) ∧ decode q.2.1 (pc + 3) = .ok (.dup, 1) ∧ decode q.2.1 (pc + 4) = .ok (.ldc is, 2) ∧ decode q.2.1 (pc + 6) = .ok (.invokespecial ic, 3) ∧ decode q.2.1 (pc + 9) = .ok (.athrow, 1) ∧ q.1.cls = "OmegaNets" ∧ q.2.2.2.2 = [] ∧ (is, tx) ∈ txA ∧ Cond.classLink "OmegaNets" ik C ∈ lw_tbl ∧ Cond.initialized C ∈ lw_tbl ∧ Bundle.fit C = true ∧ ∀ w ∈ vx_atS "OmegaNets" ic C nmE, w ∈ lw_tbl ∧ (stW w && vx_ot w) = true
theorem aw_throw {C : String} {a b : Nat} {f : Bool} (h : KT q pc C) (hd6 : 6 ≤ d) (hrm : st.length ≤ 8) (ha : 1 ≤ a) (hb : 6 ≤ b) (hp : P (.inr C) (S, g, a - 1, b - 6, false)) : aw l E q d pc L st (S, g, a, b, f) P := by
  intro p e R s m args below meth cd H locs cells slots kc ks ls hx hG hM hd hl hR hS hL hst c1 c2 s1 s2
  obtain ⟨ik, is, ic, tx, d0, d3, d4, d6, d9, ho, hno, htx, hk, hini, hfit, hat⟩ := h
  obtain ⟨sa, hstr⟩ := hG.2.2.1 _ htx
  have hown : s.vm.findClass "OmegaNets" = some m.cls := by rw [← ho]; exact findClass_of_methodNamed hM.1
  have hex : cd.exceptionTable.toList.map (fun h => (h.startPc, h.endPc, h.handlerPc, h.catchType)) = [] := by rw [hM.2.2.2.2.2.2, hno]
  have c1' : cells + a ≤ kc := c1
  have s1' : slots + b ≤ ks := s1
  have hsum := sumC E st
  have kk := vx_throwS (p := p) (e := e) (R := R) (s := s) (m := m) (args := args) (below := below) (meth := meth) (c := cd) (H := H) (locs := locs) (cells := cells) (slots := slots) (ls := ls) (rest := st.map (cvA E)) (free := fun a => E.1.2.1 ≤ a) (mc := cells + 1) (ms := slots + 6) (Qc := fun _ _ _ _ => False)
    (XC := fun C' _ t => C' = C ∧ rlA E (S, g, a - 1, b - 6, false) t.heap) hx hM.2.2.1 hG.1 (own := "OmegaNets") (cls := C) (text := tx) (names := nmE) (ik := ik) (is := is) (ic := ic) (sa := sa) (A := fun a => E.1.2.1 ≤ a) hown hfit (by decide +kernel)
    (cxW hG hk rfl args) (cxW hG hini rfl args) hstr (fun w hw => cxW hG (hat w hw).1 ((Bool.and_eq_true _ _).mp (hat w hw).2).1 args)
    (List.forall_mem_cons.mpr ⟨rfl, List.forall_mem_cons.mpr ⟨rfl, fun w hw => ((Bool.and_eq_true _ _).mp (hat w hw).2).2⟩⟩) hG.2.2.2.2.2.1 hG.2.2.2.2.2.2.1 hS (by rw [hL.1, hM.2.2.2.1]) d0 d3 d4 d6 d9 (covN hex _) (by show 2 + 3 < _; omega) (by show _ + (13 * (2 + 1) + 43) ≤ _; omega) (by omega) (by omega) hM.2.2.2.2.2.1
    (fun t _ h1 h2 => ⟨rfl, hR.1.kept (fun k x hx => h2 _ (hR.1 k x hx).lt), hR.2.1, fun z => by cases z⟩) hS.2.2 (Nat.le_refl _) (Nat.le_refl _)
  intro T hT X
  obtain ⟨t, a1, o, b1, b2, b3⟩ := kk T hT X
  rcases b3 with ⟨hf, -⟩ | ⟨qa, rfl, C', ce, Lo, ⟨rfl, hr1⟩, hce, hcv, hcl, hW, hsm, hfree⟩
  · exact hf.elim
  · exact ⟨t, a1, _, .inr C', (S, g, a - 1, b - 6, false), Lo, cells + 1, slots + 6, b1, b2, hp, ⟨qa, ce, rfl, hce, hcv, hcl⟩, hW, hr1, hsm, hfree, by show cells + 1 + (a - 1) ≤ kc; omega, by show slots + 6 + (b - 6) ≤ ks; omega⟩
end AW3
