def R_law : String := "OmegaNetsLaw"
def lw_P (b : Addr) (xs : List Int32) (args : Array Value) (s : State) : Prop := args = #[.ref b] ∧ s.IntsAt b xs ∧ xs.length ≤ 2562 ∧ (Jvm.Cond.and given_1 narrow_1).before args s = true
def lw_Q (_ : Array Value) (s : State) (o : Outcome) (t : State) : Prop := o = .returned (some (.int 1)) ∧ Framed s o t [] 601024 7293000
def lw_Z (below : List Frame) (a : Array Value) (s : State) : State → Prop := fun t => ∃ o, t.status = .running ∧ Ended t below o ∧ lw_Q a s o t
/-- what holds at the law's entry: the machine, the code, the tables' words (any of lw_tbl by 'hts w (by decide +kernel)'), the script of L ints xs at the cell b, what the Statement gives of the start (any of its parts by flat_of_before) -/
def lw_At (p : Program) (s : State) (m : MethodId) (meth : Method) (c : Code) (b L : Nat) (xs : Nat → Int32) : Prop :=
  p.tables.exec = Jvm.exec ∧ c.code = code ∧ meth.sig.returnType = ret ∧ c.maxLocals = 7 ∧ s.vm.findClass R_law = some m.cls ∧ (∀ w ∈ lw_tbl, w.before #[Value.ref b] s = true) ∧ va_X b L xs s s.heap ∧ b < s.heap.size ∧ meth.locks = false ∧ (Jvm.Cond.and given_1 narrow_1).before #[Value.ref b] s = true ∧ cxM L_law s m meth c
theorem en_str {args : Array Value} {s : State} {k : Nat} {tx : String} (h1 : (Cond.stringRef "OmegaNets" k tx).before args s = true) (h2 : (Cond.exactly (Term.string "OmegaNets" k) "java/lang/String").before args s = true) : ∃ a, vk_R "OmegaNets" k tx a s := by
  obtain ⟨a, c, cA, kA, q1, q2, q3, q4, q5, q6, -⟩ := Cond.exactly_spec (args := args) (first := s) (o := none) (s := s) (idx := []) (t := Term.string "OmegaNets" k) (cls := "java/lang/String") h2
  exact ⟨a, vk_R.of h1 q1⟩
theorem en_arr {args : Array Value} {s : State} {ty : FieldType} (h : (Cond.arrayClass ty).before args s = true) : ∃ c, ArrOfT s c ty ∧ s.vm.findClass ("[" ++ ty.toString) = some c := by
  obtain ⟨c, k, comp, h1, h2, h3⟩ := Cond.arrayClass_spec (args := args) (first := s) (o := none) (s := s) (idx := []) h
  exact ⟨c, fun n z => ⟨fun k h => (by cases h), k, h2, comp, h3⟩, h1⟩
theorem en_over {args : Array Value} {s : State} (h : (Cond.arrayOver (.array .int)).before args s = true) : ∃ c, ArrOfT s c (.array .int) ∧ s.vm.findClass ("[" ++ (FieldType.array .int).toString) = some c := by
  obtain ⟨comp, c, k, h1, h2, h3, h4⟩ := Cond.arrayOver_specA (args := args) (first := s) (o := none) (s := s) (idx := []) h
  exact ⟨c, fun n z => ⟨fun k h => (by cases h), k, h2, comp, h3⟩, h4⟩
theorem en_ctx {s : State} (l : Launch) {b L : Nat} {xs : Nat → Int32} (hl : l.stackTraces = false) (hts : ∀ w ∈ lw_tbl, w.before #[Value.ref b] s = true) (hX : va_X b L xs s s.heap) (hbl : b < s.heap.size) (hgv : (Jvm.Cond.and given_1 narrow_1).before #[Value.ref b] s = true) : ∃ E : aE, E.1 = (b, s.heap.size, L, xs) ∧ cxG l E s := by
  have hs := flat_of_before _ hgv
  obtain ⟨c0, i0, k0⟩ := u_known hts inX0 (hts _ isX0)
  obtain ⟨c1, i1, k1⟩ := u_known hts inX1 (hts _ isX1)
  obtain ⟨c2, i2, k2⟩ := u_known hts inX2 (hts _ isX2)
  obtain ⟨c3, i3, k3⟩ := u_known hts inX3 (hts _ isX3)
  obtain ⟨c4, i4, k4⟩ := u_known hts inX4 (hts _ isX4)
  obtain ⟨a0, r0, n0⟩ := en_arr (hts _ N_init_36.2.2)
  obtain ⟨a1, r1, n1⟩ := en_arr (hts _ T_init_35.2.2)
  obtain ⟨a2, r2, n2⟩ := en_arr (hts _ L_law_37.2.2)
  obtain ⟨idx, -, -, -, ho, -⟩ := N_init_17
  obtain ⟨a3, r3, n3⟩ := en_over (hts _ ho)
  have hA : ∀ a : Nat, a < s.heap.size → ¬ s.heap.size ≤ a := fun a h => by omega
  refine ⟨((b, s.heap.size, L, xs), ((fun c => if c = 0 then c0 else if c = 1 then c1 else if c = 2 then c2 else if c = 3 then c3 else c4), (fun c => if c = 0 then i0 else if c = 1 then i1 else if c = 2 then i2 else if c = 3 then i3 else i4)), fun k => if k = 0 then a0 else if k = 1 then a1 else if k = 2 then a2 else a3), rfl, hl, fun w hw h => stW_at (State.WarmedH.refl s) h (hts w hw), ?_, ?_, ⟨?_, ?_⟩, vx_Zqof (hts _ (List.mem_append_right _ (List.mem_of_getElem? (i := 230) (by decide +kernel)))) (hts _ (List.mem_append_right _ (List.mem_of_getElem? (i := 7) (by decide +kernel)))) (hs _ (by decide +kernel)) hA, vx_Zqof (hts _ (List.mem_append_right _ (List.mem_of_getElem? (i := 232) (by decide +kernel)))) (hts _ (List.mem_append_right _ (List.mem_of_getElem? (i := 7) (by decide +kernel)))) (hs _ (by decide +kernel)) hA, hX, hbl, Nat.le_refl _⟩
  · exact List.forall_mem_cons.mpr ⟨en_str (hts _ (List.mem_append_right _ (List.mem_of_getElem? (i := 245) (by decide +kernel)))) (hs _ (by decide +kernel)), List.forall_mem_cons.mpr ⟨en_str (hts _ (List.mem_append_right _ (List.mem_of_getElem? (i := 288) (by decide +kernel)))) (hs _ (by decide +kernel)), List.forall_mem_cons.mpr ⟨en_str (hts _ (List.mem_append_right _ (List.mem_of_getElem? (i := 401) (by decide +kernel)))) (hs _ (by decide +kernel)), List.forall_mem_cons.mpr ⟨en_str (hts _ (List.mem_append_right _ (List.mem_of_getElem? (i := 419) (by decide +kernel)))) (hs _ (by decide +kernel)), List.forall_mem_cons.mpr ⟨en_str (hts _ (List.mem_append_right _ (List.mem_of_getElem? (i := 435) (by decide +kernel)))) (hs _ (by decide +kernel)), List.forall_mem_cons.mpr ⟨en_str (hts _ (List.mem_append_right _ (List.mem_of_getElem? (i := 546) (by decide +kernel)))) (hs _ (by decide +kernel)), List.forall_mem_cons.mpr ⟨en_str (hts _ (List.mem_append_right _ (List.mem_of_getElem? (i := 562) (by decide +kernel)))) (hs _ (by decide +kernel)), List.forall_mem_cons.mpr ⟨en_str (hts _ (List.mem_append_right _ (List.mem_of_getElem? (i := 567) (by decide +kernel)))) (hs _ (by decide +kernel)), List.forall_mem_cons.mpr ⟨en_str (hts _ (List.mem_append_right _ (List.mem_of_getElem? (i := 593) (by decide +kernel)))) (hs _ (by decide +kernel)), fun _ h => absurd h List.not_mem_nil⟩⟩⟩⟩⟩⟩⟩⟩⟩
  · exact List.forall_mem_cons.mpr ⟨va_Nc.of (hs _ (by decide +kernel)), List.forall_mem_cons.mpr ⟨va_Nc.of (hs _ (by decide +kernel)), List.forall_mem_cons.mpr ⟨va_Nc.of (hs _ (by decide +kernel)), List.forall_mem_cons.mpr ⟨va_Nc.of (hs _ (by decide +kernel)), List.forall_mem_cons.mpr ⟨va_Nc.of (hs _ (by decide +kernel)), fun _ h => absurd h List.not_mem_nil⟩⟩⟩⟩⟩
  · intro c q hq
    match c, hq with
    | 0, hq => cases hq; exact k0
    | 1, hq => cases hq; exact k1
    | 2, hq => cases hq; exact k2
    | 3, hq => cases hq; exact k3
    | 4, hq => cases hq; exact k4
    | c + 5, hq => cases hq
  · intro c q hq
    match c, hq with
    | 0, hq => cases hq; exact ⟨r0, n0⟩
    | 1, hq => cases hq; exact ⟨r1, n1⟩
    | 2, hq => cases hq; exact ⟨r2, n2⟩
    | 3, hq => cases hq; exact ⟨r3, n3⟩
    | c + 4, hq => cases hq
/-- from the entry, for every script of at most 2562 ints, the law comes to its end with true -/
theorem whole_start {p : Program} {e : Env} {s : State} {m : MethodId} {below : List Frame} {meth : Method} {c : Code} (l : Launch) {b L : Nat} {xs : Nat → Int32} (hl : l.stackTraces = false) (hL : L ≤ 2562) (C0 : lw_At p s m meth c b L xs) : W p l e room_1 s m #[Value.ref b] below meth c s.heap [] 0 0 (lw_Z below #[Value.ref b] s) (entryFrame m ([Value.ref b] : List Value).toArray 7) := by
  obtain ⟨hx, hcode, hret, hml, hown, hts, hX, hbl, hlk, hgv, hM⟩ := C0
  obtain ⟨E, hE, hG⟩ := en_ctx l hl hts hX hbl hgv
  obtain ⟨Pn, hp, hp1, hp6⟩ := cl_ex (x := scE E 0) (hi := 6) (by omega)
  obtain ⟨T, ht, ht1, ht8⟩ := cl_ex (x := scE E 1) (hi := 8) (by omega)
  have hE1 : E.1.1 = b := by rw [hE]
  have hE2 : E.1.2.1 = s.heap.size := by rw [hE]
  have hE3 : E.1.2.2.1 ≤ 2562 := by rw [hE]; exact hL
  have h0 := l_all (l := l) (E := E) (Pn := Pn) (T := T) (a := 601024) (b := 7293000) (f := fun _ _ => none) (P := fun r _ => r = .inl (some (iV 1))) hE3 ⟨hp1, hp6⟩ ⟨ht1, ht8⟩ hp ht (by omega) (by omega) (fun _ => rfl)
  have hls := lsA_entry (E := E) (as := [sV]) (n := 7) (fun v hv => by
    have e : v = sV := by simpa using hv
    subst e
    exact ⟨trivial, rfl⟩) (by decide)
  have hR : rlA E (SS Pn T 0 (fun _ _ => none), (fun _ _ => 0), 601024, 7293000, true) s.heap := by
    refine ⟨fun k q hq => ?_, fun _ _ => ok0, fun _ => by rw [hE2]; rfl⟩
    have e : (wsA E (SS Pn T 0 (fun _ _ => none)) (fun _ _ => 0)) = [] := rfl
    rw [e] at hq
    cases hq
  have hS : va_S (fun a => E.1.2.1 ≤ a) s.heap s.heap [] := va_S.rf
  have key := h0 p e room_1 s m #[Value.ref b] below meth c s.heap [] 0 0 601024 7293000 _ hx hG hM (by decide) (by decide) hR hS hls (fun v hv => nomatch hv) (Nat.le_of_eq (Nat.zero_add _)) (by decide) (Nat.le_of_eq (Nat.zero_add _)) (by decide)
  have he : entryFrame m ([Value.ref b] : List Value).toArray 7 = F0 m 0 ((lg_sl ([sV].map (cvA E)) ++ List.replicate (7 - (lg_sl ([sV].map (cvA E))).length) Slot.unset).toArray) [] := by
    rw [lg_entry_eq]
    show _ = F0 m 0 ((lg_sl [Value.ref E.1.1] ++ List.replicate (7 - (lg_sl [Value.ref E.1.1]).length) Slot.unset).toArray) []
    rw [hE1]
  rw [he]
  intro U hU X
  obtain ⟨t, a1, o, r, M, Lo, k, n, b1, b2, b3, b4, b5, b6, b7, b8, b9, b10⟩ := key U hU X
  refine ⟨t, a1, o, b1, b2, ?_, ?_, b5, ?_⟩
  · subst b3
    exact b4.1
  · subst b3
    exact ⟨_, b4.1⟩
  · have h7 : s.sameButNew ({ t with vm := s.vm } : State) ([] ++ Lo) k n := b7
    exact (State.sameButNew.drop_fresh h7 (fun q hq => by rw [← hE2]; exact b8 q hq)).mono (by omega) (by omega)
set_option maxHeartbeats 4000000 in
theorem lw_walk (l : Launch) (hl : l.stackTraces = false) (b : Addr) (xs : List Int32) : MetFree l x (headSpec (Jvm.Cond.code x code maxLocals ret :: tables_1) room_1) (lw_P b xs) (fun _ _ _ _ _ => True) lw_Q := by
  refine MetFree.of_bodyS (code := code) (maxLocals := maxLocals) (ret := ret) (by decide) ?_ ?_
  · intro args s m h hn
    obtain ⟨meth, c, h1, h2, h3, h4, h5, h6, -, -⟩ := Cond.code_spec hn (atoms_spec (ws := Jvm.Cond.code x code maxLocals ret :: tables_1) h _ List.mem_cons_self)
    exact ⟨meth, c, h1, h2, h3, h4, h5, h6⟩
  · intro p e s m args below meth c s₁ B hml0 hP _
    obtain ⟨rfl, hx, hbd, hgv⟩ := hP
    obtain ⟨scr, harrAt, hlist, hof, hsmall⟩ := hx
    obtain ⟨hcb, hkn, -, -⟩ := State.arrayAt?_spec harrAt
    have hown : s.vm.findClass R_law = some m.cls := findClass_of_methodNamed B.named
    have hts0 : ∀ c ∈ (Jvm.Cond.code x code maxLocals ret :: tables_1), c.before #[Value.ref b] s = true := atoms_spec (ws := Jvm.Cond.code x code maxLocals ret :: tables_1) B.pre
    have hts : ∀ w ∈ lw_tbl, w.before #[Value.ref b] s = true := k2_hts_sels lw_privs (fun w hw => hts0 w (List.mem_cons_of_mem _ hw)) lw_privs_ok
    have hml : c.maxLocals = 7 := B.maxLocals_eq (hts0 _ List.mem_cons_self)
    have X₀ : Stand p l e room_1 s m #[Value.ref b] below meth c s₁ [] 0 0 := Stand.of_body B
    have hh0 : s₁.heap = s.heap := by rw [B.state]; rfl
    have hsz : scr.slots.size = xs.length := by rw [← Array.length_toList, hlist, List.length_map]
    have hval : ∀ j : Nat, j < xs.length → scr.slots[j]? = some (.int (xs.getD j 0)) := fun j hj => by
      rw [← Array.getElem?_toList, hlist]
      simp [hj]
    have hbl : b < s.heap.size := (Array.getElem?_eq_some_iff.mp hcb).1
    have hX : va_X b xs.length (fun j => xs.getD j 0) s s.heap := ⟨scr, hcb, hof, hkn, hsz, hval⟩
    have hM : cxM L_law s m meth c := by
      obtain ⟨meth', c', q1, q2, q3, q4, q5, q6, q7, q8⟩ := Cond.code_spec B.named (hts0 _ List.mem_cons_self)
      cases X₀.method.symm.trans q1
      cases X₀.code.symm.trans q2
      have q9 : c.exceptionTable.toList = [] := by simpa using q7
      exact ⟨B.named, q1, q3, q4, q5, q6, by rw [q9]; rfl⟩
    have K : W p l e room_1 s m #[Value.ref b] below meth c s₁.heap [] 0 0 (lw_Z below #[Value.ref b] s) (entryFrame m ([Value.ref b] : List Value).toArray 7) := by
      rw [hh0]
      exact whole_start l hl hbd ⟨B.exec, B.bytes, B.returns, hml, hown, hts, hX, hbl, B.notSynchronized, hgv, hM⟩
    obtain ⟨t, a1, o, b1, b2, b3⟩ := K s₁ rfl X₀
    exact ⟨t, o, a1, b1, b2, b3⟩
theorem lw_pre_spec {args : Array Value} {s : State} (h : (Jvm.Cond.and given_1 narrow_1).before args s = true) (hr : rest_1_c.before args s = true) : ∃ (b : Addr) (xs : List Int32), lw_P b xs args s := by
  have hs := flat_of_before _ h
  have hq := flat_of_before _ hr
  have hc : (Cond.count 1).before args s = true := hs _ (by decide +kernel)
  have harr : (Cond.arrayOf (.arg 0) .int).before args s = true := hs _ (by decide +kernel)
  have hle : (Cond.le (.length (.arg 0)) (.int 2562)).before args s = true := hs _ (by decide +kernel)
  have hlen : (Cond.isInt (.length (.arg 0))).before args s = true := hq _ (by decide +kernel)
  have hall : (Cond.all (.arg 0) (.isInt (.elem (.arg 0) (.index 0)))).before args s = true := hq _ (by decide +kernel)
  obtain ⟨b, xs, hb, hx⟩ := State.ints_of_pre rfl harr hlen hall
  have hsm : xs.length < 2 ^ 31 := hx.choose_spec.2.2.2
  have hev : (Term.length (.arg 0)).eval args s none [] s = some (.int xs.length.toInt32) := hx.length_eval hb
  have hv := Cond.le_ints hev (show (Term.int 2562).eval args s none [] s = some (.int 2562) from rfl)
  have hd : xs.length.toInt32 ≤ 2562 := by
    simpa [Cond.before, Cond.holds, hv] using hle
  have hN : xs.length ≤ 2562 := (Int32.ofNat_le_ofNat hsm (by decide)).mp (show Int32.ofNat xs.length ≤ Int32.ofNat 2562 from hd)
  exact ⟨b, xs, Cond.one_arg hc (show args[0]? = some (.ref b) from hb), hx, hN, h⟩
theorem lw_comes (l : Launch) (hl : l.stackTraces = false) : Comes l x (Jvm.Cond.code x code maxLocals ret :: tables_1) room_1 (fun tb e args s => Calls_1 tb e args s ∧ rest_1 tb e args s ∧ Pre_1 tb e args s)
    (fun _ _ args s o t => lw_Q args s o t) := by
  intro p e ha hc hk s m args below hf hfit hheap happ hpre
  obtain ⟨b, xs, hP⟩ := lw_pre_spec hpre.2.2 hpre.2.1
  obtain ⟨k, o, h1, h2, h3, hQ⟩ := lw_walk l hl b xs p e ha hc hk s m args below hf ((Spec.applies_iff_loose hf).mp happ).1 hP trivial
  exact ⟨k, o, h1, h2, h3, hQ⟩
theorem lw_frame {s t : State} {o : Outcome} {args : Array Value} (h : Framed s o t [] 601024 7293000) :
    Framed s o t (fieldLocs frame_1_writes args s ++ arrayLocs frame_1_arrays args s ++ staticLocs frame_1_statics s) 601024 7293000 := h
theorem lw_limb (L : Cond) (hL : ∀ (args : Array Value) (s t : State), L.after args s (.returned (some (.int 1))) t = true) :
    ArmFor flags0 classFile x code maxLocals ret World_1 tables_1 room_1 Calls_1 rest_1 Pre_1
      (fun tb e a s o t => postC L tb e a s o t ∧ Framed s o t (fieldLocs frame_1_writes a s ++ arrayLocs frame_1_arrays a s ++ staticLocs frame_1_statics s) 601024 7293000) := by
  intro l hfl _ _ p e ha hc hk s m args below hf hfit hheap happ hpre
  have hl : l.stackTraces = false := by unfold Launch.stackTraces; rw [hfl]; decide
  obtain ⟨k, o, h1, h2, h3, rfl, hF⟩ := lw_comes l hl p e ha hc hk s m args below hf hfit hheap happ hpre
  exact ⟨k, _, h1, h2, h3, hL args s _, lw_frame hF⟩
theorem i_vc : Claimed_1_1 ∧ Claimed_1_2 := ⟨lw_limb limb_1_1 (fun args s t => by simp [limb_1_1, Cond.after, Cond.holds, Cond.value]), lw_limb limb_1_2 (fun args s t => Cond.after_iff.mpr (by
  first | (rw [show limb_1_2 = Cond.eq .result (.int 1) from rfl, Cond.eq_ints (x := 1) (y := 1) rfl rfl]; simp; done) | (simp [limb_1_2, Cond.value, Term.eval]; done)))⟩
