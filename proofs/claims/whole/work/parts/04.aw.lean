/-! ===== the judgement aw: a method's frame over a memory of numbers and references ===== -/
abbrev okI (x : Int) : Prop := -2147483648 ≤ x ∧ x ≤ 2147483647
abbrev aA : Type := Int ⊕ (Int ⊕ Option Nat)
abbrev iV (x : Int) : aA := .inl x
abbrev lV (x : Int) : aA := .inr (.inl x)
abbrev rV (i : Nat) : aA := .inr (.inr (some i))
abbrev sV : aA := .inr (.inr none)
abbrev aS : Type := Nat × (Nat → Nat × Nat) × (Nat → Nat → Option Nat)
abbrev aG : Type := Nat → Nat → Int
abbrev aU : Type := Nat × Nat × Bool
abbrev aM : Type := aS × aG × aU
abbrev aR : Type := Option aA ⊕ String
abbrev aP : Type := aR → aM → Prop
abbrev aK : Type := MethodName × ByteArray × Nat × Option FieldType × List (Nat × Nat × Nat × Nat)
abbrev aE : Type := (Nat × Nat × Nat × (Nat → Int32)) × va_G × (Nat → ClassId)
def okA (v : aA) : Prop := match v with
  | .inl x => okI x
  | .inr (.inl x) => okI x
  | .inr (.inr _) => True
def cvA (E : aE) (v : aA) : Value := match v with
  | .inl x => .int (Int32.ofInt x)
  | .inr (.inl x) => .long (Int64.ofInt x)
  | .inr (.inr (some i)) => .ref (E.1.2.1 + i)
  | .inr (.inr none) => .ref E.1.1
def rfX (c : Nat) : List Bool := match c with
  | 0 => rfX0
  | 1 => rfX1
  | 2 => rfX2
  | 3 => rfX3
  | _ => rfX4
def fsA (E : aE) (c : Nat) (rf : Nat → Option Nat) (sg : Nat → Int) : List Value := (rfX c).mapIdx (fun k b => if b then va_rf ((rf k).map (E.1.2.1 + ·)) else .int (Int32.ofInt (sg k)))
def picA (E : aE) (kn : Nat × Nat) (rf : Nat → Option Nat) (sg : Nat → Int) : va_E := match kn.1 with
  | 0 => .inl (E.2.2 0, kn.2, .inl (fun j => Int32.ofInt (sg j)))
  | 1 => .inl (E.2.2 1, kn.2, .inl (fun j => Int32.ofInt (sg j)))
  | 2 => .inl (E.2.2 2, kn.2, .inr (.inl (fun j => Int64.ofInt (sg j))))
  | 3 => .inl (E.2.2 3, kn.2, .inr (.inr (.inr (.inr (fun j => (rf j).map (E.1.2.1 + ·))))))
  | c + 4 => .inr (c, fsA E c rf sg)
def wsA (E : aE) (S : aS) (g : aG) : va_W := (List.range S.1).map (fun i => (E.1.2.1 + i, picA E (S.2.1 i) (S.2.2 i) (g i)))
def tysA (E : aE) : List (ClassId × FieldType) := [(E.2.2 0, .int), (E.2.2 1, .boolean), (E.2.2 2, .long), (E.2.2 3, .array .int)]
def rlA (E : aE) (M : aM) (H : Heap) : Prop := va_P E.2.1 vwCl (wsA E M.1 M.2.1) H ∧ (∀ i j, okI (M.2.1 i j)) ∧ (M.2.2.2.2 = true → H.size = E.1.2.1 + M.1.1)
/-- words that stay under warming -/
def stW (w : Cond) : Bool := goodWord w || (w.onTables && w.keepsCast) || (match w with | .methodLinkNest .. => true | .arrayOver (.array _) => true | _ => false)
def txA : List (Nat × String) := [(212, "there is none such"), (214, "the number is out of its range"), (96, "the tree would have too many nodes"), (208, "there is no tree"), (129, "a node is not asked for this"), (167, "there would be too many goals"), (210, "there are no goals"), (180, "no such goal"), (203, "the wanted marking can't be covered")]
def ncA : List (String × String) := [("java/lang/IllegalArgumentException", "java/lang/IndexOutOfBoundsException"), ("java/lang/IndexOutOfBoundsException", "java/lang/IllegalStateException"), ("java/lang/IllegalArgumentException", "java/lang/IllegalStateException"), ("java/lang/UnsupportedOperationException", "java/lang/IllegalStateException"), ("java/lang/IndexOutOfBoundsException", "java/lang/UnsupportedOperationException")]
def cxG (l : Launch) (E : aE) (s : State) : Prop :=
  l.stackTraces = false ∧ (∀ w ∈ lw_tbl, stW w = true → w.before #[] s = true) ∧ (∀ q ∈ txA, ∃ a, vk_R "OmegaNets" q.1 q.2 a s) ∧ (∀ q ∈ ncA, va_Nc q.1 q.2 s) ∧ va_K E.2.1 vwCl (tysA E) s ∧
  vx_Zq Bundle.tN "UNASSIGNED_STACK" Bundle.steD (fun a => E.1.2.1 ≤ a) s s.heap ∧ vx_Zq Bundle.tN "SUPPRESSED_SENTINEL" Bundle.listD (fun a => E.1.2.1 ≤ a) s s.heap ∧ va_X E.1.1 E.1.2.2.1 E.1.2.2.2 s s.heap ∧ E.1.1 < E.1.2.1 ∧ E.1.2.1 ≤ s.heap.size
def cxM (q : aK) (s : State) (m : MethodId) (meth : Method) (c : Code) : Prop :=
  s.methodNamed? q.1 = some m ∧ s.vm.method? m = some meth ∧ c.code = q.2.1 ∧ c.maxLocals = q.2.2.1 ∧ meth.sig.returnType = q.2.2.2.1 ∧ meth.locks = false ∧ c.exceptionTable.toList.map (fun h => (h.startPc, h.endPc, h.handlerPc, h.catchType)) = q.2.2.2.2
def lsA (E : aE) (n : Nat) (L : List (Option aA)) (ls : Array Slot) : Prop := ls.size = n ∧ lv_wf ls ∧ ∀ (k : Nat) (v : aA), L[k]? = some (some v) → ls[k]? = some (.val (cvA E v)) ∧ okA v ∧ (cvA E v).category = 1
def outA (E : aE) (s : State) (r : aR) (o : Outcome) (t : State) : Prop := match r with
  | .inl none => o = .returned none
  | .inl (some v) => o = .returned (some (cvA E v)) ∧ okA v
  | .inr C => ∃ (a : Addr) (ce : Cell), o = .threw a ∧ t.heap[a]? = some ce ∧ ce.vm = .none ∧ s.vm.findClass C = some ce.cls
def enA (E : aE) (P : aP) (below : List Frame) (s : State) (kc ks : Nat) : State → Prop := fun t =>
  ∃ (o : Outcome) (r : aR) (M : aM) (L : List Loc) (k n : Nat), t.status = .running ∧ Ended t below o ∧ P r M ∧ outA E s r o t ∧ s.WarmedH t.vm ∧ rlA E M t.heap ∧
    s.sameButNew ({ t with vm := s.vm } : State) L k n ∧ (∀ q ∈ L, E.1.2.1 ≤ q.base) ∧ k + M.2.2.1 ≤ kc ∧ n + M.2.2.2.1 ≤ ks
def aw (l : Launch) (E : aE) (q : aK) (d pc : Nat) (L : List (Option aA)) (st : List aA) (M : aM) (P : aP) : Prop :=
  ∀ (p : Program) (e : Env) (R : Room) (s : State) (m : MethodId) (args : Array Value) (below : List Frame) (meth : Method) (c : Code) (H : Heap) (locs : List Loc) (cells slots kc ks : Nat) (ls : Array Slot),
    p.tables.exec = Jvm.exec → cxG l E s → cxM q s m meth c → d ≤ R.frames → 36 * d ≤ R.locals → rlA E M H → va_S (fun a => E.1.2.1 ≤ a) s.heap H locs → lsA E q.2.2.1 L ls → (∀ v ∈ st, okA v) →
    cells + M.2.2.1 ≤ kc → kc ≤ R.cells → slots + M.2.2.2.1 ≤ ks → ks ≤ R.slots →
    W p l e R s m args below meth c H locs cells slots (enA E P below s kc ks) (F0 m pc ls (st.map (cvA E)))
/-- a method's contract: from its entry -/
def Sp (l : Launch) (E : aE) (q : aK) (d : Nat) (as : List aA) (M : aM) (P : aP) : Prop := aw l E q d 0 (as.map some ++ List.replicate (7 - as.length) none) [] M P
/-! numbers -/
theorem i32T {x : Int} (h : okI x) : (Int32.ofInt x).toInt = x := by
  rw [Int32.toInt_ofInt]
  have e : (Int32.size : Nat) = 4294967296 := by decide
  simp only [e, Int.bmod]
  split <;> omega
theorem i64T {x : Int} (h : okI x) : (Int64.ofInt x).toInt = x := by
  rw [Int64.toInt_ofInt]
  have e : (Int64.size : Nat) = 18446744073709551616 := by decide
  simp only [e, Int.bmod]
  split <;> omega
theorem i32L {x y : Int} (hx : okI x) (hy : okI y) : Int32.ofInt x < Int32.ofInt y ↔ x < y := by rw [Int32.lt_iff_toInt_lt, i32T hx, i32T hy]
theorem i32B {x y : Int} (hx : okI x) (hy : okI y) : Int32.ofInt x ≤ Int32.ofInt y ↔ x ≤ y := by rw [Int32.le_iff_toInt_le, i32T hx, i32T hy]
theorem i32E {x y : Int} (hx : okI x) (hy : okI y) : Int32.ofInt x = Int32.ofInt y ↔ x = y := by rw [← Int32.toInt_inj, i32T hx, i32T hy]
theorem ok0 : okI 0 := by decide
theorem i32Z : (Int32.ofInt 0) = (0 : Int32) := by decide
theorem i32N {x : Int} (h : okI x) : (Int32.ofInt x).toNatClampNeg = x.toNat := by
  show (Int32.ofInt x).toInt.toNat = _
  rw [i32T h]
theorem i32In {x : Int} {n : Nat} (h : okI x) (h0 : 0 ≤ x) (h1 : x < n) : vp_in (Int32.ofInt x) n := by
  rw [vp_in_iff, i32T h]
  exact ⟨h0, h1⟩
theorem okT (x : Int32) : okI x.toInt := by
  have a := x.le_toInt
  have b := x.toInt_lt
  constructor <;> omega
theorem i32R (x : Int32) : Int32.ofInt x.toInt = x := by
  apply Int32.toInt_inj.mp
  rw [i32T (okT x)]
/-! words, context -/
theorem stW_at {w : Cond} {s U : State} {a a' : Array Value} (hW : s.WarmedH U.vm) (h : stW w = true) (hb : w.before a s = true) : w.before a' U = true := by
  simp only [stW, Bool.or_eq_true, Bool.and_eq_true] at h
  rcases h with (h | h) | h
  · exact word_at hW (good_of_word h) hb
  · have h1 := Cond.before_shiftedCast (State.Shifted.of_warmed hW) w h.2 hb
    exact va_tabs h.1 (rfl : (s.setVm U.vm).vm = U.vm) h1
  · cases w with
    | methodLinkNest x i y z => exact va_Nw.use rfl (va_Nw.warmM hW (va_Nw.of rfl hb))
    | arrayOver ty =>
      cases ty with
      | array t => exact over_moved hW.alike hb
      | _ => cases h
    | _ => cases h
theorem cxW {l : Launch} {E : aE} {s : State} (hG : cxG l E s) {w : Cond} (hw : w ∈ lw_tbl) (h : stW w = true) (a : Array Value) : w.before a s = true := stW_at (State.WarmedH.refl s) h (hG.2.1 w hw h)
theorem cxG.move {l : Launch} {E : aE} {s U : State} {locs : List Loc} (hG : cxG l E s) (hW : s.WarmedH U.vm) (hS : va_S (fun a => E.1.2.1 ≤ a) s.heap U.heap locs) : cxG l E U := by
  obtain ⟨h1, h2, h3, h4, h5, h6, h7, h8, h9, h10⟩ := hG
  refine ⟨h1, fun w hw h => stW_at hW h (h2 w hw h), fun q hq => ?_, fun q hq => (h4 q hq).moved hW.alike, h5.moved hW.alike, vx_Zq.moved hW.alike (h6.kept hS.2.1), vx_Zq.moved hW.alike (h7.kept hS.2.1), (h8.kept (hS.2.1 _ (by omega) (by omega))).moved hW.alike, h9, Nat.le_trans h10 hS.1⟩
  obtain ⟨a, ha⟩ := h3 q hq
  exact ⟨a, ha.warm hW⟩
theorem wsA_get {E : aE} {S : aS} {g : aG} {i : Nat} (h : i < S.1) : (wsA E S g)[i]? = some (E.1.2.1 + i, picA E (S.2.1 i) (S.2.2 i) (g i)) := by
  simp [wsA, h]
theorem wsA_D (E : aE) (S : aS) (g : aG) : va_D (fun a => E.1.2.1 ≤ a) (wsA E S g) := by
  have key : ∀ (k : Nat) (x : Nat × va_E), (wsA E S g)[k]? = some x → x.1 = E.1.2.1 + k := by
    intro k x hx
    by_cases hk : k < S.1
    · rw [wsA_get hk] at hx
      cases hx
      rfl
    · rw [List.getElem?_eq_none (by simp [wsA]; omega)] at hx
      cases hx
  refine ⟨fun i j x y hi hj hxy => ?_, fun k x hx => ?_⟩
  · have := key i x hi
    have := key j y hj
    omega
  · show E.1.2.1 ≤ x.1
    rw [key k x hx]
    omega
/-- cell i's kind and length -/
abbrev hasA (S : aS) (i k n : Nat) : Prop := i < S.1 ∧ S.2.1 i = (k, n)
def upA (g : aG) (i j : Nat) (x : Int) : aG := fun a b => if a = i ∧ b = j then x else g a b
theorem upA_eq (g : aG) (i j : Nat) (x : Int) : upA g i j x i j = x := by simp [upA]
theorem upA_ne {g : aG} {i j a b : Nat} {x : Int} (h : ¬ (a = i ∧ b = j)) : upA g i j x a b = g a b := if_neg h
def upR (rf : Nat → Nat → Option Nat) (i j : Nat) (x : Option Nat) : Nat → Nat → Option Nat := fun a b => if a = i ∧ b = j then x else rf a b
theorem wsA_set {E : aE} {S S' : aS} {g g' : aG} {i : Nat} {e : va_E} (hi : i < S.1) (hn : S'.1 = S.1) (he : e = picA E (S'.2.1 i) (S'.2.2 i) (g' i)) (ho : ∀ a, a ≠ i → picA E (S'.2.1 a) (S'.2.2 a) (g' a) = picA E (S.2.1 a) (S.2.2 a) (g a)) : (wsA E S g).set i (E.1.2.1 + i, e) = wsA E S' g' := by
  apply List.ext_getElem?
  intro k
  by_cases hk : k < S.1
  · rw [wsA_get (S := S') (by rw [hn]; exact hk)]
    by_cases hki : k = i
    · subst hki
      rw [List.getElem?_set_self (by simp [wsA, hk]), he]
    · rw [List.getElem?_set_ne (Ne.symm hki), wsA_get hk, ho k hki]
  · rw [List.getElem?_eq_none (by simp [wsA]; omega), List.getElem?_eq_none (by simp [wsA, hn]; omega)]
theorem fsA_get {E : aE} {c k : Nat} {b : Bool} {rf : Nat → Option Nat} {sg : Nat → Int} (h : (rfX c)[k]? = some b) : (fsA E c rf sg)[k]? = some (if b then va_rf ((rf k).map (E.1.2.1 + ·)) else .int (Int32.ofInt (sg k))) := by
  simp [fsA, h]
theorem fsA_len (E : aE) (c : Nat) (rf : Nat → Option Nat) (sg : Nat → Int) : (fsA E c rf sg).length = (rfX c).length := by simp [fsA]
theorem fsA_set {E : aE} {c k : Nat} {b : Bool} {rf rf' : Nat → Option Nat} {sg sg' : Nat → Int} {v : Value} (h : (rfX c)[k]? = some b) (hv : v = if b then va_rf ((rf' k).map (E.1.2.1 + ·)) else .int (Int32.ofInt (sg' k))) (ho : ∀ j, j ≠ k → rf' j = rf j ∧ sg' j = sg j) : (fsA E c rf sg).set k v = fsA E c rf' sg' := by
  apply List.ext_getElem?
  intro j
  have hk : k < (rfX c).length := (List.getElem?_eq_some_iff.mp h).1
  by_cases hj : j = k
  · subst hj
    rw [List.getElem?_set_self (by rw [fsA_len]; exact hk), fsA_get h, hv]
  · rw [List.getElem?_set_ne (Ne.symm hj)]
    obtain ⟨e1, e2⟩ := ho j hj
    simp only [fsA, List.getElem?_mapIdx, e1, e2]
theorem ok_cons {v : aA} {st : List aA} (h : okA v) (hst : ∀ v ∈ st, okA v) : ∀ x ∈ v :: st, okA x := List.forall_mem_cons.mpr ⟨h, hst⟩
theorem ok_hd {v : aA} {st : List aA} (hst : ∀ x ∈ v :: st, okA x) : okA v := hst v List.mem_cons_self
theorem ok_tl {v : aA} {st : List aA} (hst : ∀ x ∈ v :: st, okA x) : ∀ x ∈ st, okA x := fun x h => hst x (List.mem_cons_of_mem _ h)

/-! ===== instructions, as rows speak of them ===== -/
abbrev Kc (q : aK) (pc : Nat) (n : Int) (nx : Nat) : Prop := okI n ∧ ((decode q.2.1 pc = .ok (.iconst n, 1) ∧ pc + 1 = nx) ∨ (decode q.2.1 pc = .ok (.bipush n, 2) ∧ pc + 2 = nx ∧ (Int8.ofInt n).toInt32 = Int32.ofInt n) ∨ (decode q.2.1 pc = .ok (.sipush n, 3) ∧ pc + 3 = nx ∧ (Int16.ofInt n).toInt32 = Int32.ofInt n) ∨ ∃ idx, decode q.2.1 pc = .ok (.ldc idx, 2) ∧ pc + 2 = nx ∧ Cond.constant q.1.cls idx (Int32.ofInt n) ∈ lw_tbl ∧ stW (Cond.constant q.1.cls idx (Int32.ofInt n)) = true)
abbrev Ki (q : aK) (pc k nx : Nat) : Prop := (decode q.2.1 pc = .ok (.iload k, 2) ∧ pc + 2 = nx) ∨ ∃ f : Fin 4, decode q.2.1 pc = .ok (.iload_n f, 1) ∧ (f : Nat) = k ∧ pc + 1 = nx
abbrev Ka (q : aK) (pc k nx : Nat) : Prop := (decode q.2.1 pc = .ok (.aload k, 2) ∧ pc + 2 = nx) ∨ ∃ f : Fin 4, decode q.2.1 pc = .ok (.aload_n f, 1) ∧ (f : Nat) = k ∧ pc + 1 = nx
abbrev Ks (q : aK) (pc k nx : Nat) : Prop := k < q.2.2.1 ∧ ((decode q.2.1 pc = .ok (.istore k, 2) ∧ pc + 2 = nx) ∨ ∃ f : Fin 4, decode q.2.1 pc = .ok (.istore_n f, 1) ∧ (f : Nat) = k ∧ pc + 1 = nx)
abbrev Kt (q : aK) (pc k nx : Nat) : Prop := k < q.2.2.1 ∧ ((decode q.2.1 pc = .ok (.astore k, 2) ∧ pc + 2 = nx) ∨ ∃ f : Fin 4, decode q.2.1 pc = .ok (.astore_n f, 1) ∧ (f : Nat) = k ∧ pc + 1 = nx)
abbrev Kn (q : aK) (pc k : Nat) (n : Int) (nx : Nat) : Prop := k < q.2.2.1 ∧ decode q.2.1 pc = .ok (.iinc k n, 3) ∧ pc + 3 = nx
abbrev K1 (q : aK) (pc : Nat) (i : Instr) (nx : Nat) : Prop := decode q.2.1 pc = .ok (i, 1) ∧ pc + 1 = nx
abbrev Kj (q : aK) (pc : Nat) (mk : Int → Instr) (tg nx : Nat) : Prop := ∃ off : Int, decode q.2.1 pc = .ok (mk off, 3) ∧ (pc : Int) + off = (tg : Int) ∧ pc + 3 = nx
/-- field k of class c, as the entry idx of class own names it -/
abbrev Kw (own : String) (idx c k : Nat) (b : Bool) : Prop := ∃ r : vw_C, vwCl[c]? = some r ∧ k < r.2.2 ∧ (r.2.1 k).1 = r.1 ∧ Cond.fieldLink own idx r.1 (r.2.1 k).2.1 (r.2.1 k).2.2.1 ∈ lw_tbl ∧ (∀ w ∈ u_ws r.1 r.2.1 r.2.2, w ∈ lw_tbl) ∧ (rfX c)[k]? = some b
abbrev Kg (q : aK) (pc c k : Nat) (b : Bool) (nx : Nat) : Prop := ∃ idx, decode q.2.1 pc = .ok (.getfield idx, 3) ∧ pc + 3 = nx ∧ Kw q.1.cls idx c k b
/-- what a store into field k of class c must know: its type, whether it is final -/
abbrev Ko (own : String) (c k : Nat) (ty : FieldType) (fin : Bool) : Prop := ∃ (r : vw_C) (t0 : Nat → FieldType), vwCl[c]? = some r ∧ (∀ j, j < r.2.2 → parseFieldDescriptor (r.2.1 j).2.2.1 = some (t0 j)) ∧ (∀ a, a < r.2.2 → ∀ b, b < r.2.2 → a ≠ b → (r.2.1 a).2.1 ≠ (r.2.1 b).2.1) ∧ t0 k = ty ∧ (r.2.1 k).2.2.2 = fin ∧ (fin = true → r.1 = own)
abbrev Kp (q : aK) (pc c k : Nat) (b : Bool) (ty : FieldType) (fin : Bool) (nx : Nat) : Prop := (∃ idx, decode q.2.1 pc = .ok (.putfield idx, 3) ∧ pc + 3 = nx ∧ Kw q.1.cls idx c k b) ∧ Ko q.1.cls c k ty fin ∧ (fin = true → q.1.name = "<init>")
section AW
variable {l : Launch} {E : aE} {q : aK} {d pc nx tg : Nat} {L : List (Option aA)} {st : List aA} {M : aM} {P : aP}
theorem aw_rng (k : (∀ i j, okI (M.2.1 i j)) → aw l E q d pc L st M P) : aw l E q d pc L st M P := by
  intro p e R s m args below meth cd H locs cells slots kc ks ls hx hG hM hd hl hR hS hL hst c1 c2 s1 s2
  exact k hR.2.1 p e R s m args below meth cd H locs cells slots kc ks ls hx hG hM hd hl hR hS hL hst c1 c2 s1 s2
theorem aw_lr {i : Nat} {x : Int} (h : L[i]? = some (some (iV x))) (k : okI x → aw l E q d pc L st M P) : aw l E q d pc L st M P := by
  intro p e R s m args below meth cd H locs cells slots kc ks ls hx hG hM hd hl hR hS hL hst c1 c2 s1 s2
  exact k (hL.2.2 i _ h).2.1 p e R s m args below meth cd H locs cells slots kc ks ls hx hG hM hd hl hR hS hL hst c1 c2 s1 s2
theorem aw_mono {P' : aP} (h : ∀ r M', P' r M' → P r M') (k : aw l E q d pc L st M P') : aw l E q d pc L st M P := by
  intro p e R s m args below meth cd H locs cells slots kc ks ls hx hG hM hd hl hR hS hL hst c1 c2 s1 s2
  intro T hT X
  obtain ⟨t, a, o, r, M', Lo, k', n', b1, b2, b3, b4⟩ := k p e R s m args below meth cd H locs cells slots kc ks ls hx hG hM hd hl hR hS hL hst c1 c2 s1 s2 T hT X
  exact ⟨t, a, o, r, M', Lo, k', n', b1, b2, h r M' b3, b4⟩
theorem aw_fr {S : aS} {g : aG} {a b : Nat} {f : Bool} (k : aw l E q d pc L st (S, g, a, b, false) P) : aw l E q d pc L st (S, g, a, b, f) P := by
  intro p e R s m args below meth cd H locs cells slots kc ks ls hx hG hM hd hl hR hS hL hst c1 c2 s1 s2
  exact k p e R s m args below meth cd H locs cells slots kc ks ls hx hG hM hd hl ⟨hR.1, hR.2.1, fun h => by cases h⟩ hS hL hst c1 c2 s1 s2
theorem aw_c {n : Int} (h : Kc q pc n nx) (k : aw l E q d nx L (iV n :: st) M P) : aw l E q d pc L st M P := by
  intro p e R s m args below meth cd H locs cells slots kc ks ls hx hG hM hd hl hR hS hL hst c1 c2 s1 s2
  have hb := hM.2.2.1
  have kk := k p e R s m args below meth cd H locs cells slots kc ks ls hx hG hM hd hl hR hS hL (ok_cons h.1 hst) c1 c2 s1 s2
  rcases h.2 with ⟨h1, h2⟩ | ⟨h1, h2, h3⟩ | ⟨h1, h2, h3⟩ | ⟨idx, h1, h2, h3, h4⟩
  · subst h2; exact lv_iconst hx hb h1 rfl kk
  · subst h2; exact lv_bipush hx hb h1 h3 kk
  · subst h2; exact lv_sipush hx hb h1 h3 kk
  · subst h2; exact lv_ldc hx hb (findClass_of_methodNamed hM.1) (cxW hG h3 h4 args) h1 kk
theorem aw_il {k : Nat} {x : Int} (h : Ki q pc k nx) (hk : L[k]? = some (some (iV x))) (kk : aw l E q d nx L (iV x :: st) M P) : aw l E q d pc L st M P := by
  intro p e R s m args below meth cd H locs cells slots kc ks ls hx hG hM hd hl hR hS hL hst c1 c2 s1 s2
  obtain ⟨g1, g2, g3⟩ := hL.2.2 k _ hk
  have kk := kk p e R s m args below meth cd H locs cells slots kc ks ls hx hG hM hd hl hR hS hL (ok_cons g2 hst) c1 c2 s1 s2
  rcases h with ⟨h1, h2⟩ | ⟨f, h1, h2, h3⟩
  · subst h2; exact lv_iload hx hM.2.2.1 h1 g1 kk
  · subst h3; exact lv_iload_n hx hM.2.2.1 h1 h2 g1 kk
theorem aw_al {k : Nat} {x : Nat} (h : Ka q pc k nx) (hk : L[k]? = some (some (rV x))) (kk : aw l E q d nx L (rV x :: st) M P) : aw l E q d pc L st M P := by
  intro p e R s m args below meth cd H locs cells slots kc ks ls hx hG hM hd hl hR hS hL hst c1 c2 s1 s2
  obtain ⟨g1, g2, g3⟩ := hL.2.2 k _ hk
  have kk := kk p e R s m args below meth cd H locs cells slots kc ks ls hx hG hM hd hl hR hS hL (ok_cons g2 hst) c1 c2 s1 s2
  rcases h with ⟨h1, h2⟩ | ⟨f, h1, h2, h3⟩
  · subst h2; exact lv_aload hx hM.2.2.1 h1 g1 kk
  · subst h3; exact lv_aload_n hx hM.2.2.1 h1 h2 g1 kk
theorem aw_sl {k : Nat} (h : Ka q pc k nx) (hk : L[k]? = some (some (sV))) (kk : aw l E q d nx L (sV :: st) M P) : aw l E q d pc L st M P := by
  intro p e R s m args below meth cd H locs cells slots kc ks ls hx hG hM hd hl hR hS hL hst c1 c2 s1 s2
  obtain ⟨g1, g2, g3⟩ := hL.2.2 k _ hk
  have kk := kk p e R s m args below meth cd H locs cells slots kc ks ls hx hG hM hd hl hR hS hL (ok_cons g2 hst) c1 c2 s1 s2
  rcases h with ⟨h1, h2⟩ | ⟨f, h1, h2, h3⟩
  · subst h2; exact lv_aload hx hM.2.2.1 h1 g1 kk
  · subst h3; exact lv_aload_n hx hM.2.2.1 h1 h2 g1 kk
theorem lsA_set {n k : Nat} {ls : Array Slot} {v : aA} (hL : lsA E n L ls) (hk : k < n) (hv : okA v) (hc : (cvA E v).category = 1) : ∃ lv, lv_has ls n lv ∧ ∀ ls', lv_has ls' n ((k, cvA E v) :: lv.filter (fun q => !(q.1 == k) && !(q.1 + 1 == k && q.2.category == 2))) → lsA E n (L.set k (some v)) ls' := by
  refine ⟨(List.range L.length).filterMap (fun j => (L[j]?).join.map (fun w => (j, cvA E w))), ⟨hL.1, hL.2.1, fun x hx => ?_⟩, fun ls' h' => ⟨h'.1, h'.2.1, fun j w hw => ?_⟩⟩
  · obtain ⟨j, -, hj⟩ := List.mem_filterMap.mp hx
    cases e : L[j]? with
    | none => rw [e] at hj; cases hj
    | some o =>
      cases o with
      | none => rw [e] at hj; cases hj
      | some w =>
        rw [e] at hj
        cases hj
        exact (hL.2.2 j w e).1
  · by_cases hj : j = k
    · subst hj
      have hlt : j < L.length := by
        have := (List.getElem?_eq_some_iff.mp hw).1
        simpa using this
      rw [List.getElem?_set_self hlt] at hw
      cases hw
      exact ⟨h'.2.2 (j, cvA E v) List.mem_cons_self, hv, hc⟩
    · rw [List.getElem?_set_ne (Ne.symm hj)] at hw
      obtain ⟨g1, g2, g3⟩ := hL.2.2 j w hw
      refine ⟨h'.2.2 (j, cvA E w) (List.mem_cons_of_mem _ (List.mem_filter.mpr ⟨List.mem_filterMap.mpr ⟨j, List.mem_range.mpr (List.getElem?_eq_some_iff.mp hw).1, by rw [hw]; rfl⟩, ?_⟩)), g2, g3⟩
      simp [hj, g3]
theorem aw_is {k : Nat} {x : Int} (h : Ks q pc k nx) (kk : aw l E q d nx (L.set k (some (iV x))) st M P) : aw l E q d pc L (iV x :: st) M P := by
  intro p e R s m args below meth cd H locs cells slots kc ks ls hx hG hM hd hl hR hS hL hst c1 c2 s1 s2
  obtain ⟨hk, h⟩ := h
  obtain ⟨lv, g1, g2⟩ := lsA_set hL hk (ok_hd hst) rfl
  rcases h with ⟨h1, h2⟩ | ⟨f, h1, h2, h3⟩
  · subst h2; exact lv_istore hx hM.2.2.1 h1 g1 hk rfl fun ls' h' => kk p e R s m args below meth cd H locs cells slots kc ks ls' hx hG hM hd hl hR hS (g2 ls' h') (ok_tl hst) c1 c2 s1 s2
  · subst h3; exact lv_istore_n hx hM.2.2.1 h1 h2 g1 hk rfl fun ls' h' => kk p e R s m args below meth cd H locs cells slots kc ks ls' hx hG hM hd hl hR hS (g2 ls' h') (ok_tl hst) c1 c2 s1 s2
theorem aw_as {k : Nat} {x : Nat} (h : Kt q pc k nx) (kk : aw l E q d nx (L.set k (some (rV x))) st M P) : aw l E q d pc L (rV x :: st) M P := by
  intro p e R s m args below meth cd H locs cells slots kc ks ls hx hG hM hd hl hR hS hL hst c1 c2 s1 s2
  obtain ⟨hk, h⟩ := h
  obtain ⟨lv, g1, g2⟩ := lsA_set hL hk (ok_hd hst) rfl
  rcases h with ⟨h1, h2⟩ | ⟨f, h1, h2, h3⟩
  · subst h2; exact lv_astore hx hM.2.2.1 h1 g1 hk rfl fun ls' h' => kk p e R s m args below meth cd H locs cells slots kc ks ls' hx hG hM hd hl hR hS (g2 ls' h') (ok_tl hst) c1 c2 s1 s2
  · subst h3; exact lv_astore_n hx hM.2.2.1 h1 h2 g1 hk rfl fun ls' h' => kk p e R s m args below meth cd H locs cells slots kc ks ls' hx hG hM hd hl hR hS (g2 ls' h') (ok_tl hst) c1 c2 s1 s2
theorem aw_in {k : Nat} {x n : Int} (h : Kn q pc k n nx) (hk : L[k]? = some (some (iV x))) (hr : okI (x + n)) (kk : aw l E q d nx (L.set k (some (iV (x + n)))) st M P) : aw l E q d pc L st M P := by
  intro p e R s m args below meth cd H locs cells slots kc ks ls hx hG hM hd hl hR hS hL hst c1 c2 s1 s2
  obtain ⟨hkn, h1, h2⟩ := h
  subst h2
  obtain ⟨lv, g1, g2⟩ := lsA_set (v := iV (x + n)) hL hkn hr rfl
  obtain ⟨g3, -, -⟩ := hL.2.2 k _ hk
  have g4 : lv_has ls q.2.2.1 ((k, Value.int (Int32.ofInt x)) :: lv) := ⟨g1.1, g1.2.1, fun y hy => (List.mem_cons.mp hy).elim (fun e => by rw [e]; exact g3) (g1.2.2 y)⟩
  refine lv_iinc (k := 0) (lv := (k, Value.int (Int32.ofInt x)) :: lv) hx hM.2.2.1 h1 g4 rfl (v := Int32.ofInt (x + n)) (Int32.ofInt_add ..).symm hkn rfl fun ls' h' => ?_
  have h'' : lv_has ls' q.2.2.1 ((k, cvA E (iV (x + n))) :: lv.filter (fun q => !(q.1 == k) && !(q.1 + 1 == k && q.2.category == 2))) := by
    have e : ((k, Value.int (Int32.ofInt x)) :: lv).filter (fun q => !(q.1 == k) && !(q.1 + 1 == k && q.2.category == 2)) = lv.filter (fun q => !(q.1 == k) && !(q.1 + 1 == k && q.2.category == 2)) := by
      rw [List.filter_cons_of_neg]
      simp
    rw [e] at h'
    exact h' 
  exact kk p e R s m args below meth cd H locs cells slots kc ks ls' hx hG hM hd hl hR hS (g2 ls' h'') hst c1 c2 s1 s2
theorem aw_il0 {x1 x2 x3 x4 x5 x6 : Option aA} {x : Int} (h : Ki q pc 0 nx) (kk : aw l E q d nx [some (iV x), x1, x2, x3, x4, x5, x6] (iV x :: st) M P) : aw l E q d pc [some (iV x), x1, x2, x3, x4, x5, x6] st M P := aw_il h rfl kk
theorem aw_al0 {x1 x2 x3 x4 x5 x6 : Option aA} {x : Nat} (h : Ka q pc 0 nx) (kk : aw l E q d nx [some (rV x), x1, x2, x3, x4, x5, x6] (rV x :: st) M P) : aw l E q d pc [some (rV x), x1, x2, x3, x4, x5, x6] st M P := aw_al h rfl kk
theorem aw_is0 {x0 x1 x2 x3 x4 x5 x6 : Option aA} {x : Int} (h : Ks q pc 0 nx) (kk : aw l E q d nx [some (iV x), x1, x2, x3, x4, x5, x6] st M P) : aw l E q d pc [x0, x1, x2, x3, x4, x5, x6] (iV x :: st) M P := aw_is h kk
theorem aw_as0 {x0 x1 x2 x3 x4 x5 x6 : Option aA} {x : Nat} (h : Kt q pc 0 nx) (kk : aw l E q d nx [some (rV x), x1, x2, x3, x4, x5, x6] st M P) : aw l E q d pc [x0, x1, x2, x3, x4, x5, x6] (rV x :: st) M P := aw_as h kk
theorem aw_in0 {x1 x2 x3 x4 x5 x6 : Option aA} {x n : Int} (h : Kn q pc 0 n nx) (hr : okI (x + n)) (kk : aw l E q d nx [some (iV (x + n)), x1, x2, x3, x4, x5, x6] st M P) : aw l E q d pc [some (iV x), x1, x2, x3, x4, x5, x6] st M P := aw_in h rfl hr kk
theorem aw_il1 {x0 x2 x3 x4 x5 x6 : Option aA} {x : Int} (h : Ki q pc 1 nx) (kk : aw l E q d nx [x0, some (iV x), x2, x3, x4, x5, x6] (iV x :: st) M P) : aw l E q d pc [x0, some (iV x), x2, x3, x4, x5, x6] st M P := aw_il h rfl kk
theorem aw_al1 {x0 x2 x3 x4 x5 x6 : Option aA} {x : Nat} (h : Ka q pc 1 nx) (kk : aw l E q d nx [x0, some (rV x), x2, x3, x4, x5, x6] (rV x :: st) M P) : aw l E q d pc [x0, some (rV x), x2, x3, x4, x5, x6] st M P := aw_al h rfl kk
theorem aw_is1 {x0 x1 x2 x3 x4 x5 x6 : Option aA} {x : Int} (h : Ks q pc 1 nx) (kk : aw l E q d nx [x0, some (iV x), x2, x3, x4, x5, x6] st M P) : aw l E q d pc [x0, x1, x2, x3, x4, x5, x6] (iV x :: st) M P := aw_is h kk
theorem aw_as1 {x0 x1 x2 x3 x4 x5 x6 : Option aA} {x : Nat} (h : Kt q pc 1 nx) (kk : aw l E q d nx [x0, some (rV x), x2, x3, x4, x5, x6] st M P) : aw l E q d pc [x0, x1, x2, x3, x4, x5, x6] (rV x :: st) M P := aw_as h kk
theorem aw_in1 {x0 x2 x3 x4 x5 x6 : Option aA} {x n : Int} (h : Kn q pc 1 n nx) (hr : okI (x + n)) (kk : aw l E q d nx [x0, some (iV (x + n)), x2, x3, x4, x5, x6] st M P) : aw l E q d pc [x0, some (iV x), x2, x3, x4, x5, x6] st M P := aw_in h rfl hr kk
theorem aw_il2 {x0 x1 x3 x4 x5 x6 : Option aA} {x : Int} (h : Ki q pc 2 nx) (kk : aw l E q d nx [x0, x1, some (iV x), x3, x4, x5, x6] (iV x :: st) M P) : aw l E q d pc [x0, x1, some (iV x), x3, x4, x5, x6] st M P := aw_il h rfl kk
theorem aw_al2 {x0 x1 x3 x4 x5 x6 : Option aA} {x : Nat} (h : Ka q pc 2 nx) (kk : aw l E q d nx [x0, x1, some (rV x), x3, x4, x5, x6] (rV x :: st) M P) : aw l E q d pc [x0, x1, some (rV x), x3, x4, x5, x6] st M P := aw_al h rfl kk
theorem aw_is2 {x0 x1 x2 x3 x4 x5 x6 : Option aA} {x : Int} (h : Ks q pc 2 nx) (kk : aw l E q d nx [x0, x1, some (iV x), x3, x4, x5, x6] st M P) : aw l E q d pc [x0, x1, x2, x3, x4, x5, x6] (iV x :: st) M P := aw_is h kk
theorem aw_as2 {x0 x1 x2 x3 x4 x5 x6 : Option aA} {x : Nat} (h : Kt q pc 2 nx) (kk : aw l E q d nx [x0, x1, some (rV x), x3, x4, x5, x6] st M P) : aw l E q d pc [x0, x1, x2, x3, x4, x5, x6] (rV x :: st) M P := aw_as h kk
theorem aw_in2 {x0 x1 x3 x4 x5 x6 : Option aA} {x n : Int} (h : Kn q pc 2 n nx) (hr : okI (x + n)) (kk : aw l E q d nx [x0, x1, some (iV (x + n)), x3, x4, x5, x6] st M P) : aw l E q d pc [x0, x1, some (iV x), x3, x4, x5, x6] st M P := aw_in h rfl hr kk
theorem aw_il3 {x0 x1 x2 x4 x5 x6 : Option aA} {x : Int} (h : Ki q pc 3 nx) (kk : aw l E q d nx [x0, x1, x2, some (iV x), x4, x5, x6] (iV x :: st) M P) : aw l E q d pc [x0, x1, x2, some (iV x), x4, x5, x6] st M P := aw_il h rfl kk
theorem aw_al3 {x0 x1 x2 x4 x5 x6 : Option aA} {x : Nat} (h : Ka q pc 3 nx) (kk : aw l E q d nx [x0, x1, x2, some (rV x), x4, x5, x6] (rV x :: st) M P) : aw l E q d pc [x0, x1, x2, some (rV x), x4, x5, x6] st M P := aw_al h rfl kk
theorem aw_is3 {x0 x1 x2 x3 x4 x5 x6 : Option aA} {x : Int} (h : Ks q pc 3 nx) (kk : aw l E q d nx [x0, x1, x2, some (iV x), x4, x5, x6] st M P) : aw l E q d pc [x0, x1, x2, x3, x4, x5, x6] (iV x :: st) M P := aw_is h kk
theorem aw_as3 {x0 x1 x2 x3 x4 x5 x6 : Option aA} {x : Nat} (h : Kt q pc 3 nx) (kk : aw l E q d nx [x0, x1, x2, some (rV x), x4, x5, x6] st M P) : aw l E q d pc [x0, x1, x2, x3, x4, x5, x6] (rV x :: st) M P := aw_as h kk
theorem aw_in3 {x0 x1 x2 x4 x5 x6 : Option aA} {x n : Int} (h : Kn q pc 3 n nx) (hr : okI (x + n)) (kk : aw l E q d nx [x0, x1, x2, some (iV (x + n)), x4, x5, x6] st M P) : aw l E q d pc [x0, x1, x2, some (iV x), x4, x5, x6] st M P := aw_in h rfl hr kk
theorem aw_il4 {x0 x1 x2 x3 x5 x6 : Option aA} {x : Int} (h : Ki q pc 4 nx) (kk : aw l E q d nx [x0, x1, x2, x3, some (iV x), x5, x6] (iV x :: st) M P) : aw l E q d pc [x0, x1, x2, x3, some (iV x), x5, x6] st M P := aw_il h rfl kk
theorem aw_al4 {x0 x1 x2 x3 x5 x6 : Option aA} {x : Nat} (h : Ka q pc 4 nx) (kk : aw l E q d nx [x0, x1, x2, x3, some (rV x), x5, x6] (rV x :: st) M P) : aw l E q d pc [x0, x1, x2, x3, some (rV x), x5, x6] st M P := aw_al h rfl kk
theorem aw_is4 {x0 x1 x2 x3 x4 x5 x6 : Option aA} {x : Int} (h : Ks q pc 4 nx) (kk : aw l E q d nx [x0, x1, x2, x3, some (iV x), x5, x6] st M P) : aw l E q d pc [x0, x1, x2, x3, x4, x5, x6] (iV x :: st) M P := aw_is h kk
theorem aw_as4 {x0 x1 x2 x3 x4 x5 x6 : Option aA} {x : Nat} (h : Kt q pc 4 nx) (kk : aw l E q d nx [x0, x1, x2, x3, some (rV x), x5, x6] st M P) : aw l E q d pc [x0, x1, x2, x3, x4, x5, x6] (rV x :: st) M P := aw_as h kk
theorem aw_in4 {x0 x1 x2 x3 x5 x6 : Option aA} {x n : Int} (h : Kn q pc 4 n nx) (hr : okI (x + n)) (kk : aw l E q d nx [x0, x1, x2, x3, some (iV (x + n)), x5, x6] st M P) : aw l E q d pc [x0, x1, x2, x3, some (iV x), x5, x6] st M P := aw_in h rfl hr kk
theorem aw_il5 {x0 x1 x2 x3 x4 x6 : Option aA} {x : Int} (h : Ki q pc 5 nx) (kk : aw l E q d nx [x0, x1, x2, x3, x4, some (iV x), x6] (iV x :: st) M P) : aw l E q d pc [x0, x1, x2, x3, x4, some (iV x), x6] st M P := aw_il h rfl kk
theorem aw_al5 {x0 x1 x2 x3 x4 x6 : Option aA} {x : Nat} (h : Ka q pc 5 nx) (kk : aw l E q d nx [x0, x1, x2, x3, x4, some (rV x), x6] (rV x :: st) M P) : aw l E q d pc [x0, x1, x2, x3, x4, some (rV x), x6] st M P := aw_al h rfl kk
theorem aw_is5 {x0 x1 x2 x3 x4 x5 x6 : Option aA} {x : Int} (h : Ks q pc 5 nx) (kk : aw l E q d nx [x0, x1, x2, x3, x4, some (iV x), x6] st M P) : aw l E q d pc [x0, x1, x2, x3, x4, x5, x6] (iV x :: st) M P := aw_is h kk
theorem aw_as5 {x0 x1 x2 x3 x4 x5 x6 : Option aA} {x : Nat} (h : Kt q pc 5 nx) (kk : aw l E q d nx [x0, x1, x2, x3, x4, some (rV x), x6] st M P) : aw l E q d pc [x0, x1, x2, x3, x4, x5, x6] (rV x :: st) M P := aw_as h kk
theorem aw_in5 {x0 x1 x2 x3 x4 x6 : Option aA} {x n : Int} (h : Kn q pc 5 n nx) (hr : okI (x + n)) (kk : aw l E q d nx [x0, x1, x2, x3, x4, some (iV (x + n)), x6] st M P) : aw l E q d pc [x0, x1, x2, x3, x4, some (iV x), x6] st M P := aw_in h rfl hr kk
theorem aw_il6 {x0 x1 x2 x3 x4 x5 : Option aA} {x : Int} (h : Ki q pc 6 nx) (kk : aw l E q d nx [x0, x1, x2, x3, x4, x5, some (iV x)] (iV x :: st) M P) : aw l E q d pc [x0, x1, x2, x3, x4, x5, some (iV x)] st M P := aw_il h rfl kk
theorem aw_al6 {x0 x1 x2 x3 x4 x5 : Option aA} {x : Nat} (h : Ka q pc 6 nx) (kk : aw l E q d nx [x0, x1, x2, x3, x4, x5, some (rV x)] (rV x :: st) M P) : aw l E q d pc [x0, x1, x2, x3, x4, x5, some (rV x)] st M P := aw_al h rfl kk
theorem aw_is6 {x0 x1 x2 x3 x4 x5 x6 : Option aA} {x : Int} (h : Ks q pc 6 nx) (kk : aw l E q d nx [x0, x1, x2, x3, x4, x5, some (iV x)] st M P) : aw l E q d pc [x0, x1, x2, x3, x4, x5, x6] (iV x :: st) M P := aw_is h kk
theorem aw_as6 {x0 x1 x2 x3 x4 x5 x6 : Option aA} {x : Nat} (h : Kt q pc 6 nx) (kk : aw l E q d nx [x0, x1, x2, x3, x4, x5, some (rV x)] st M P) : aw l E q d pc [x0, x1, x2, x3, x4, x5, x6] (rV x :: st) M P := aw_as h kk
theorem aw_in6 {x0 x1 x2 x3 x4 x5 : Option aA} {x n : Int} (h : Kn q pc 6 n nx) (hr : okI (x + n)) (kk : aw l E q d nx [x0, x1, x2, x3, x4, x5, some (iV (x + n))] st M P) : aw l E q d pc [x0, x1, x2, x3, x4, x5, some (iV x)] st M P := aw_in h rfl hr kk
theorem aw_sl0 {x1 x2 x3 x4 x5 x6 : Option aA} (h : Ka q pc 0 nx) (kk : aw l E q d nx [some sV, x1, x2, x3, x4, x5, x6] (sV :: st) M P) : aw l E q d pc [some sV, x1, x2, x3, x4, x5, x6] st M P := aw_sl h rfl kk
theorem aw_add {x y : Int} (h : K1 q pc .iadd nx) (hr : okI (x + y)) (kk : aw l E q d nx L (iV (x + y) :: st) M P) : aw l E q d pc L (iV y :: iV x :: st) M P := by
  intro p e R s m args below meth cd H locs cells slots kc ks ls hx hG hM hd hl hR hS hL hst c1 c2 s1 s2
  obtain ⟨h1, h2⟩ := h
  subst h2
  refine lv_iadd hx hM.2.2.1 h1 ?_
  rw [← Int32.ofInt_add]
  exact kk p e R s m args below meth cd H locs cells slots kc ks ls hx hG hM hd hl hR hS hL (ok_cons hr (ok_tl (ok_tl hst))) c1 c2 s1 s2
theorem aw_sub {x y : Int} (h : K1 q pc .isub nx) (hr : okI (x - y)) (kk : aw l E q d nx L (iV (x - y) :: st) M P) : aw l E q d pc L (iV y :: iV x :: st) M P := by
  intro p e R s m args below meth cd H locs cells slots kc ks ls hx hG hM hd hl hR hS hL hst c1 c2 s1 s2
  obtain ⟨h1, h2⟩ := h
  subst h2
  refine lv_isub hx hM.2.2.1 h1 ?_
  rw [← Int32.ofInt_sub]
  exact kk p e R s m args below meth cd H locs cells slots kc ks ls hx hG hM hd hl hR hS hL (ok_cons hr (ok_tl (ok_tl hst))) c1 c2 s1 s2
theorem aw_mul {x y : Int} (h : K1 q pc .imul nx) (hr : okI (x * y)) (kk : aw l E q d nx L (iV (x * y) :: st) M P) : aw l E q d pc L (iV y :: iV x :: st) M P := by
  intro p e R s m args below meth cd H locs cells slots kc ks ls hx hG hM hd hl hR hS hL hst c1 c2 s1 s2
  obtain ⟨h1, h2⟩ := h
  subst h2
  refine lv_imul hx hM.2.2.1 h1 ?_
  rw [← Int32.ofInt_mul]
  exact kk p e R s m args below meth cd H locs cells slots kc ks ls hx hG hM hd hl hR hS hL (ok_cons hr (ok_tl (ok_tl hst))) c1 c2 s1 s2
theorem aw_wsub {x y z : Int} (h : K1 q pc .isub nx) (hr : okI z) (hz : Int32.ofInt z = Int32.ofInt x - Int32.ofInt y) (kk : aw l E q d nx L (iV z :: st) M P) : aw l E q d pc L (iV y :: iV x :: st) M P := by
  intro p e R s m args below meth cd H locs cells slots kc ks ls hx hG hM hd hl hR hS hL hst c1 c2 s1 s2
  obtain ⟨h1, h2⟩ := h
  subst h2
  refine lv_isub hx hM.2.2.1 h1 ?_
  rw [← hz]
  exact kk p e R s m args below meth cd H locs cells slots kc ks ls hx hG hM hd hl hR hS hL (ok_cons hr (ok_tl (ok_tl hst))) c1 c2 s1 s2
theorem aw_iand {x y z : Int} (h : K1 q pc .iand nx) (hr : okI z) (hz : Int32.ofInt z = Int32.ofInt x &&& Int32.ofInt y) (kk : aw l E q d nx L (iV z :: st) M P) : aw l E q d pc L (iV y :: iV x :: st) M P := by
  intro p e R s m args below meth cd H locs cells slots kc ks ls hx hG hM hd hl hR hS hL hst c1 c2 s1 s2
  obtain ⟨h1, h2⟩ := h
  subst h2
  refine lv_iand hx hM.2.2.1 h1 ?_
  rw [← hz]
  exact kk p e R s m args below meth cd H locs cells slots kc ks ls hx hG hM hd hl hR hS hL (ok_cons hr (ok_tl (ok_tl hst))) c1 c2 s1 s2
theorem aw_ior {x y z : Int} (h : K1 q pc .ior nx) (hr : okI z) (hz : Int32.ofInt z = Int32.ofInt x ||| Int32.ofInt y) (kk : aw l E q d nx L (iV z :: st) M P) : aw l E q d pc L (iV y :: iV x :: st) M P := by
  intro p e R s m args below meth cd H locs cells slots kc ks ls hx hG hM hd hl hR hS hL hst c1 c2 s1 s2
  obtain ⟨h1, h2⟩ := h
  subst h2
  refine lv_ior hx hM.2.2.1 h1 ?_
  rw [← hz]
  exact kk p e R s m args below meth cd H locs cells slots kc ks ls hx hG hM hd hl hR hS hL (ok_cons hr (ok_tl (ok_tl hst))) c1 c2 s1 s2
theorem aw_i2l {x : Int} (h : K1 q pc .i2l nx) (kk : aw l E q d nx L (lV x :: st) M P) : aw l E q d pc L (iV x :: st) M P := by
  intro p e R s m args below meth cd H locs cells slots kc ks ls hx hG hM hd hl hR hS hL hst c1 c2 s1 s2
  obtain ⟨h1, h2⟩ := h
  subst h2
  have hr : okI x := ok_hd hst
  refine lv_i2l hx hM.2.2.1 h1 (v := Int64.ofInt x) ?_ ?_
  · apply Int64.toInt_inj.mp
    rw [Jvm.Kit.i64_of_i32, i32T hr, i64T hr]
  · exact kk p e R s m args below meth cd H locs cells slots kc ks ls hx hG hM hd hl hR hS hL (ok_cons (v := lV x) hr (ok_tl hst)) c1 c2 s1 s2
theorem aw_lc {n : Nat} (h : ∃ f : Fin 2, K1 q pc (.lconst f) nx ∧ (f : Nat) = n) (kk : aw l E q d nx L (lV (n : Int) :: st) M P) : aw l E q d pc L st M P := by
  intro p e R s m args below meth cd H locs cells slots kc ks ls hx hG hM hd hl hR hS hL hst c1 c2 s1 s2
  obtain ⟨f, ⟨h1, h2⟩, h3⟩ := h
  subst h2
  have hn : okI (n : Int) := by have := f.isLt; constructor <;> omega
  refine lv_lconst hx hM.2.2.1 h1 (v := Int64.ofInt (n : Int)) ?_ ?_
  · rw [h3]; exact (Int64.ofInt_eq_ofNat ..).symm
  · exact kk p e R s m args below meth cd H locs cells slots kc ks ls hx hG hM hd hl hR hS hL (ok_cons (v := lV (n : Int)) hn hst) c1 c2 s1 s2
theorem aw_lcmp {x y : Int} (h : K1 q pc .lcmp nx) (kt : x = y → aw l E q d nx L (iV 0 :: st) M P) (kf : ∀ z, z ≠ 0 → x ≠ y → aw l E q d nx L (iV z :: st) M P) : aw l E q d pc L (lV y :: lV x :: st) M P := by
  intro p e R s m args below meth cd H locs cells slots kc ks ls hx hG hM hd hl hR hS hL hst c1 c2 s1 s2
  obtain ⟨h1, h2⟩ := h
  subst h2
  have hy : okI y := ok_hd hst
  have hx2 : okI x := ok_hd (ok_tl hst)
  refine W.lcmp hx hM.2.2.1 h1 ?_
  unfold lg_cmp
  split
  · next h3 =>
    have h4 : y < x := by have := Int64.lt_iff_toInt_lt.mp h3; rw [i64T hy, i64T hx2] at this; exact this
    exact kf 1 (by decide) (by omega) p e R s m args below meth cd H locs cells slots kc ks ls hx hG hM hd hl hR hS hL (ok_cons (v := iV 1) (by decide : okI 1) (ok_tl (ok_tl hst))) c1 c2 s1 s2
  · next h3 =>
    split
    · next h4 =>
      have h5 : x = y := by have := Int64.toInt_inj.mpr h4; rw [i64T hx2, i64T hy] at this; exact this
      exact kt h5 p e R s m args below meth cd H locs cells slots kc ks ls hx hG hM hd hl hR hS hL (ok_cons (v := iV 0) ok0 (ok_tl (ok_tl hst))) c1 c2 s1 s2
    · next h4 =>
      have h5 : x ≠ y := fun e => h4 (by rw [e])
      exact kf (-1) (by decide) h5 p e R s m args below meth cd H locs cells slots kc ks ls hx hG hM hd hl hR hS hL (ok_cons (v := iV (-1)) (by decide : okI (-1)) (ok_tl (ok_tl hst))) c1 c2 s1 s2
theorem aw_dup {i : Nat} (h : K1 q pc .dup nx) (kk : aw l E q d nx L (rV i :: rV i :: st) M P) : aw l E q d pc L (rV i :: st) M P := by
  intro p e R s m args below meth cd H locs cells slots kc ks ls hx hG hM hd hl hR hS hL hst c1 c2 s1 s2
  obtain ⟨h1, h2⟩ := h
  subst h2
  exact lv_dup hx hM.2.2.1 h1 rfl (kk p e R s m args below meth cd H locs cells slots kc ks ls hx hG hM hd hl hR hS hL (ok_cons (ok_hd hst) hst) c1 c2 s1 s2)
theorem aw_ceq {x y : Int} (h : Kj q pc (.if_icmp .eq) tg nx) (kt : x = y → aw l E q d tg L st M P) (kf : ¬ x = y → aw l E q d nx L st M P) : aw l E q d pc L (iV y :: iV x :: st) M P := by
  intro p e R s m args below meth cd H locs cells slots kc ks ls hx hG hM hd hl hR hS hL hst c1 c2 s1 s2
  obtain ⟨off, h1, h2, h3⟩ := h
  subst h3
  have hy : okI y := ok_hd hst
  have hx2 : okI x := ok_hd (ok_tl hst)
  exact lv_icmp_eq hx hM.2.2.1 h1 h2 (fun hz => kt ((i32E hx2 hy).mp hz) p e R s m args below meth cd H locs cells slots kc ks ls hx hG hM hd hl hR hS hL (ok_tl (ok_tl hst)) c1 c2 s1 s2) (fun hz => kf (mt (i32E hx2 hy).mpr hz) p e R s m args below meth cd H locs cells slots kc ks ls hx hG hM hd hl hR hS hL (ok_tl (ok_tl hst)) c1 c2 s1 s2)
theorem aw_cne {x y : Int} (h : Kj q pc (.if_icmp .ne) tg nx) (kt : ¬ x = y → aw l E q d tg L st M P) (kf : x = y → aw l E q d nx L st M P) : aw l E q d pc L (iV y :: iV x :: st) M P := by
  intro p e R s m args below meth cd H locs cells slots kc ks ls hx hG hM hd hl hR hS hL hst c1 c2 s1 s2
  obtain ⟨off, h1, h2, h3⟩ := h
  subst h3
  have hy : okI y := ok_hd hst
  have hx2 : okI x := ok_hd (ok_tl hst)
  exact lv_icmp_ne hx hM.2.2.1 h1 h2 (fun hz => kt (mt (i32E hx2 hy).mpr hz) p e R s m args below meth cd H locs cells slots kc ks ls hx hG hM hd hl hR hS hL (ok_tl (ok_tl hst)) c1 c2 s1 s2) (fun hz => kf ((i32E hx2 hy).mp hz) p e R s m args below meth cd H locs cells slots kc ks ls hx hG hM hd hl hR hS hL (ok_tl (ok_tl hst)) c1 c2 s1 s2)
theorem aw_clt {x y : Int} (h : Kj q pc (.if_icmp .lt) tg nx) (kt : x < y → aw l E q d tg L st M P) (kf : y ≤ x → aw l E q d nx L st M P) : aw l E q d pc L (iV y :: iV x :: st) M P := by
  intro p e R s m args below meth cd H locs cells slots kc ks ls hx hG hM hd hl hR hS hL hst c1 c2 s1 s2
  obtain ⟨off, h1, h2, h3⟩ := h
  subst h3
  have hy : okI y := ok_hd hst
  have hx2 : okI x := ok_hd (ok_tl hst)
  exact lv_icmp_lt hx hM.2.2.1 h1 h2 (fun hz => kt ((i32L hx2 hy).mp hz) p e R s m args below meth cd H locs cells slots kc ks ls hx hG hM hd hl hR hS hL (ok_tl (ok_tl hst)) c1 c2 s1 s2) (fun hz => kf (by have := mt (i32L hx2 hy).mpr hz; omega) p e R s m args below meth cd H locs cells slots kc ks ls hx hG hM hd hl hR hS hL (ok_tl (ok_tl hst)) c1 c2 s1 s2)
theorem aw_cge {x y : Int} (h : Kj q pc (.if_icmp .ge) tg nx) (kt : y ≤ x → aw l E q d tg L st M P) (kf : x < y → aw l E q d nx L st M P) : aw l E q d pc L (iV y :: iV x :: st) M P := by
  intro p e R s m args below meth cd H locs cells slots kc ks ls hx hG hM hd hl hR hS hL hst c1 c2 s1 s2
  obtain ⟨off, h1, h2, h3⟩ := h
  subst h3
  have hy : okI y := ok_hd hst
  have hx2 : okI x := ok_hd (ok_tl hst)
  exact lv_icmp_ge hx hM.2.2.1 h1 h2 (fun hz => kt ((i32B hy hx2).mp hz) p e R s m args below meth cd H locs cells slots kc ks ls hx hG hM hd hl hR hS hL (ok_tl (ok_tl hst)) c1 c2 s1 s2) (fun hz => kf (by have := mt (i32B hy hx2).mpr hz; omega) p e R s m args below meth cd H locs cells slots kc ks ls hx hG hM hd hl hR hS hL (ok_tl (ok_tl hst)) c1 c2 s1 s2)
theorem aw_cgt {x y : Int} (h : Kj q pc (.if_icmp .gt) tg nx) (kt : y < x → aw l E q d tg L st M P) (kf : x ≤ y → aw l E q d nx L st M P) : aw l E q d pc L (iV y :: iV x :: st) M P := by
  intro p e R s m args below meth cd H locs cells slots kc ks ls hx hG hM hd hl hR hS hL hst c1 c2 s1 s2
  obtain ⟨off, h1, h2, h3⟩ := h
  subst h3
  have hy : okI y := ok_hd hst
  have hx2 : okI x := ok_hd (ok_tl hst)
  exact lv_icmp_gt hx hM.2.2.1 h1 h2 (fun hz => kt ((i32L hy hx2).mp hz) p e R s m args below meth cd H locs cells slots kc ks ls hx hG hM hd hl hR hS hL (ok_tl (ok_tl hst)) c1 c2 s1 s2) (fun hz => kf (by have := mt (i32L hy hx2).mpr hz; omega) p e R s m args below meth cd H locs cells slots kc ks ls hx hG hM hd hl hR hS hL (ok_tl (ok_tl hst)) c1 c2 s1 s2)
theorem aw_cle {x y : Int} (h : Kj q pc (.if_icmp .le) tg nx) (kt : x ≤ y → aw l E q d tg L st M P) (kf : y < x → aw l E q d nx L st M P) : aw l E q d pc L (iV y :: iV x :: st) M P := by
  intro p e R s m args below meth cd H locs cells slots kc ks ls hx hG hM hd hl hR hS hL hst c1 c2 s1 s2
  obtain ⟨off, h1, h2, h3⟩ := h
  subst h3
  have hy : okI y := ok_hd hst
  have hx2 : okI x := ok_hd (ok_tl hst)
  exact lv_icmp_le hx hM.2.2.1 h1 h2 (fun hz => kt ((i32B hx2 hy).mp hz) p e R s m args below meth cd H locs cells slots kc ks ls hx hG hM hd hl hR hS hL (ok_tl (ok_tl hst)) c1 c2 s1 s2) (fun hz => kf (by have := mt (i32B hx2 hy).mpr hz; omega) p e R s m args below meth cd H locs cells slots kc ks ls hx hG hM hd hl hR hS hL (ok_tl (ok_tl hst)) c1 c2 s1 s2)
theorem aw_zeq {x : Int} (h : Kj q pc (.ifCond .eq) tg nx) (kt : x = 0 → aw l E q d tg L st M P) (kf : ¬ x = 0 → aw l E q d nx L st M P) : aw l E q d pc L (iV x :: st) M P := by
  intro p e R s m args below meth cd H locs cells slots kc ks ls hx hG hM hd hl hR hS hL hst c1 c2 s1 s2
  obtain ⟨off, h1, h2, h3⟩ := h
  subst h3
  have hx2 : okI x := ok_hd hst
  exact lv_if_eq hx hM.2.2.1 h1 h2 (fun hz => kt ((i32E hx2 ok0).mp hz) p e R s m args below meth cd H locs cells slots kc ks ls hx hG hM hd hl hR hS hL (ok_tl hst) c1 c2 s1 s2) (fun hz => kf (by have := mt (i32E hx2 ok0).mpr hz; omega) p e R s m args below meth cd H locs cells slots kc ks ls hx hG hM hd hl hR hS hL (ok_tl hst) c1 c2 s1 s2)
theorem aw_zne {x : Int} (h : Kj q pc (.ifCond .ne) tg nx) (kt : ¬ x = 0 → aw l E q d tg L st M P) (kf : x = 0 → aw l E q d nx L st M P) : aw l E q d pc L (iV x :: st) M P := by
  intro p e R s m args below meth cd H locs cells slots kc ks ls hx hG hM hd hl hR hS hL hst c1 c2 s1 s2
  obtain ⟨off, h1, h2, h3⟩ := h
  subst h3
  have hx2 : okI x := ok_hd hst
  exact lv_if_ne hx hM.2.2.1 h1 h2 (fun hz => kt (mt (i32E hx2 ok0).mpr hz) p e R s m args below meth cd H locs cells slots kc ks ls hx hG hM hd hl hR hS hL (ok_tl hst) c1 c2 s1 s2) (fun hz => kf ((i32E hx2 ok0).mp hz) p e R s m args below meth cd H locs cells slots kc ks ls hx hG hM hd hl hR hS hL (ok_tl hst) c1 c2 s1 s2)
theorem aw_zlt {x : Int} (h : Kj q pc (.ifCond .lt) tg nx) (kt : x < 0 → aw l E q d tg L st M P) (kf : 0 ≤ x → aw l E q d nx L st M P) : aw l E q d pc L (iV x :: st) M P := by
  intro p e R s m args below meth cd H locs cells slots kc ks ls hx hG hM hd hl hR hS hL hst c1 c2 s1 s2
  obtain ⟨off, h1, h2, h3⟩ := h
  subst h3
  have hx2 : okI x := ok_hd hst
  exact lv_if_lt hx hM.2.2.1 h1 h2 (fun hz => kt ((i32L hx2 ok0).mp hz) p e R s m args below meth cd H locs cells slots kc ks ls hx hG hM hd hl hR hS hL (ok_tl hst) c1 c2 s1 s2) (fun hz => kf (by have := mt (i32L hx2 ok0).mpr hz; omega) p e R s m args below meth cd H locs cells slots kc ks ls hx hG hM hd hl hR hS hL (ok_tl hst) c1 c2 s1 s2)
theorem aw_zge {x : Int} (h : Kj q pc (.ifCond .ge) tg nx) (kt : 0 ≤ x → aw l E q d tg L st M P) (kf : x < 0 → aw l E q d nx L st M P) : aw l E q d pc L (iV x :: st) M P := by
  intro p e R s m args below meth cd H locs cells slots kc ks ls hx hG hM hd hl hR hS hL hst c1 c2 s1 s2
  obtain ⟨off, h1, h2, h3⟩ := h
  subst h3
  have hx2 : okI x := ok_hd hst
  exact lv_if_ge hx hM.2.2.1 h1 h2 (fun hz => kt ((i32B ok0 hx2).mp hz) p e R s m args below meth cd H locs cells slots kc ks ls hx hG hM hd hl hR hS hL (ok_tl hst) c1 c2 s1 s2) (fun hz => kf (by have := mt (i32B ok0 hx2).mpr hz; omega) p e R s m args below meth cd H locs cells slots kc ks ls hx hG hM hd hl hR hS hL (ok_tl hst) c1 c2 s1 s2)
theorem aw_zgt {x : Int} (h : Kj q pc (.ifCond .gt) tg nx) (kt : 0 < x → aw l E q d tg L st M P) (kf : x ≤ 0 → aw l E q d nx L st M P) : aw l E q d pc L (iV x :: st) M P := by
  intro p e R s m args below meth cd H locs cells slots kc ks ls hx hG hM hd hl hR hS hL hst c1 c2 s1 s2
  obtain ⟨off, h1, h2, h3⟩ := h
  subst h3
  have hx2 : okI x := ok_hd hst
  exact lv_if_gt hx hM.2.2.1 h1 h2 (fun hz => kt ((i32L ok0 hx2).mp hz) p e R s m args below meth cd H locs cells slots kc ks ls hx hG hM hd hl hR hS hL (ok_tl hst) c1 c2 s1 s2) (fun hz => kf (by have := mt (i32L ok0 hx2).mpr hz; omega) p e R s m args below meth cd H locs cells slots kc ks ls hx hG hM hd hl hR hS hL (ok_tl hst) c1 c2 s1 s2)
theorem aw_zle {x : Int} (h : Kj q pc (.ifCond .le) tg nx) (kt : x ≤ 0 → aw l E q d tg L st M P) (kf : 0 < x → aw l E q d nx L st M P) : aw l E q d pc L (iV x :: st) M P := by
  intro p e R s m args below meth cd H locs cells slots kc ks ls hx hG hM hd hl hR hS hL hst c1 c2 s1 s2
  obtain ⟨off, h1, h2, h3⟩ := h
  subst h3
  have hx2 : okI x := ok_hd hst
  exact lv_if_le hx hM.2.2.1 h1 h2 (fun hz => kt ((i32B hx2 ok0).mp hz) p e R s m args below meth cd H locs cells slots kc ks ls hx hG hM hd hl hR hS hL (ok_tl hst) c1 c2 s1 s2) (fun hz => kf (by have := mt (i32B hx2 ok0).mpr hz; omega) p e R s m args below meth cd H locs cells slots kc ks ls hx hG hM hd hl hR hS hL (ok_tl hst) c1 c2 s1 s2)
theorem aw_go (h : Kj q pc .goto tg nx) (k : aw l E q d tg L st M P) : aw l E q d pc L st M P := by
  intro p e R s m args below meth cd H locs cells slots kc ks ls hx hG hM hd hl hR hS hL hst c1 c2 s1 s2
  obtain ⟨off, h1, h2, h3⟩ := h
  exact lv_goto hx hM.2.2.1 h1 h2 (k p e R s m args below meth cd H locs cells slots kc ks ls hx hG hM hd hl hR hS hL hst c1 c2 s1 s2)
end AW
