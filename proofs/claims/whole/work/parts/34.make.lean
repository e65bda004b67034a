section CO
variable {l : Launch} {E : aE} {q : aK} {d pc nx : Nat} {L : List (Option aA)} {st : List aA} {g : aG} {u : aU} {Po : aP} {P T : Nat} {f : Nat → Nat → Option Nat}
/-- the kinds of all cells -/
def KDf (P T a : Nat) : Nat × Nat := if a < 1 then (7, 0) else if a < 2 then (5, 0) else if a < 3 then (3, T) else if a < T + 3 then (0, P) else if a < T + 4 then (3, T) else if a < 2 * T + 4 then (0, P) else if a < 2 * T + 5 then (0, P) else if a < 2 * T + 6 then (6, 0) else if a < 2 * T + 9 then (0, 200) else if a < 2 * T + 10 then (1, 200) else if a < 2 * T + 11 then (0, 200) else if a < 2 * T + 12 then (3, 200) else if a < 2 * T + 212 then (0, P) else if a < 2 * T + 213 then (4, 0) else if a < 2 * T + 216 then (0, 48) else if a < 2 * T + 217 then (1, 48) else if a < 2 * T + 218 then (3, 48) else if a < 2 * T + 269 then (0, P) else if a < 2 * T + 270 then (8, 0) else if a < 2 * T + 272 then (0, 48) else if a < 2 * T + 275 then (0, 6) else if a < 2 * T + 276 then (0, 1206) else if a < 2 * T + 278 then (0, 201) else if a < 2 * T + 279 then (1, 201) else if a < 2 * T + 280 then (0, 294) else if a < 2 * T + 282 then (0, 49) else if a < 2 * T + 283 then (1, 49) else if a < 2 * T + 284 then (2, 1) else (0, 0)
theorem kd_0 {a : Nat} (h1 : 0 ≤ a) (h2 : a < 1) : KDf P T a = (7, 0) := by
  unfold KDf
  rw [if_pos h2]
theorem kd_1 {a : Nat} (h1 : 1 ≤ a) (h2 : a < 2) : KDf P T a = (5, 0) := by
  unfold KDf
  rw [if_neg (by omega), if_pos h2]
theorem kd_2 {a : Nat} (h1 : 2 ≤ a) (h2 : a < 3) : KDf P T a = (3, T) := by
  unfold KDf
  rw [if_neg (by omega), if_neg (by omega), if_pos h2]
theorem kd_3 {a : Nat} (h1 : 3 ≤ a) (h2 : a < T + 3) : KDf P T a = (0, P) := by
  unfold KDf
  rw [if_neg (by omega), if_neg (by omega), if_neg (by omega), if_pos h2]
theorem kd_4 {a : Nat} (h1 : T + 3 ≤ a) (h2 : a < T + 4) : KDf P T a = (3, T) := by
  unfold KDf
  rw [if_neg (by omega), if_neg (by omega), if_neg (by omega), if_neg (by omega), if_pos h2]
theorem kd_5 {a : Nat} (h1 : T + 4 ≤ a) (h2 : a < 2 * T + 4) : KDf P T a = (0, P) := by
  unfold KDf
  rw [if_neg (by omega), if_neg (by omega), if_neg (by omega), if_neg (by omega), if_neg (by omega), if_pos h2]
theorem kd_6 {a : Nat} (h1 : 2 * T + 4 ≤ a) (h2 : a < 2 * T + 5) : KDf P T a = (0, P) := by
  unfold KDf
  rw [if_neg (by omega), if_neg (by omega), if_neg (by omega), if_neg (by omega), if_neg (by omega), if_neg (by omega), if_pos h2]
theorem kd_7 {a : Nat} (h1 : 2 * T + 5 ≤ a) (h2 : a < 2 * T + 6) : KDf P T a = (6, 0) := by
  unfold KDf
  rw [if_neg (by omega), if_neg (by omega), if_neg (by omega), if_neg (by omega), if_neg (by omega), if_neg (by omega), if_neg (by omega), if_pos h2]
theorem kd_8 {a : Nat} (h1 : 2 * T + 6 ≤ a) (h2 : a < 2 * T + 9) : KDf P T a = (0, 200) := by
  unfold KDf
  rw [if_neg (by omega), if_neg (by omega), if_neg (by omega), if_neg (by omega), if_neg (by omega), if_neg (by omega), if_neg (by omega), if_neg (by omega), if_pos h2]
theorem kd_9 {a : Nat} (h1 : 2 * T + 9 ≤ a) (h2 : a < 2 * T + 10) : KDf P T a = (1, 200) := by
  unfold KDf
  rw [if_neg (by omega), if_neg (by omega), if_neg (by omega), if_neg (by omega), if_neg (by omega), if_neg (by omega), if_neg (by omega), if_neg (by omega), if_neg (by omega), if_pos h2]
theorem kd_10 {a : Nat} (h1 : 2 * T + 10 ≤ a) (h2 : a < 2 * T + 11) : KDf P T a = (0, 200) := by
  unfold KDf
  rw [if_neg (by omega), if_neg (by omega), if_neg (by omega), if_neg (by omega), if_neg (by omega), if_neg (by omega), if_neg (by omega), if_neg (by omega), if_neg (by omega), if_neg (by omega), if_pos h2]
theorem kd_11 {a : Nat} (h1 : 2 * T + 11 ≤ a) (h2 : a < 2 * T + 12) : KDf P T a = (3, 200) := by
  unfold KDf
  rw [if_neg (by omega), if_neg (by omega), if_neg (by omega), if_neg (by omega), if_neg (by omega), if_neg (by omega), if_neg (by omega), if_neg (by omega), if_neg (by omega), if_neg (by omega), if_neg (by omega), if_pos h2]
theorem kd_12 {a : Nat} (h1 : 2 * T + 12 ≤ a) (h2 : a < 2 * T + 212) : KDf P T a = (0, P) := by
  unfold KDf
  rw [if_neg (by omega), if_neg (by omega), if_neg (by omega), if_neg (by omega), if_neg (by omega), if_neg (by omega), if_neg (by omega), if_neg (by omega), if_neg (by omega), if_neg (by omega), if_neg (by omega), if_neg (by omega), if_pos h2]
theorem kd_13 {a : Nat} (h1 : 2 * T + 212 ≤ a) (h2 : a < 2 * T + 213) : KDf P T a = (4, 0) := by
  unfold KDf
  rw [if_neg (by omega), if_neg (by omega), if_neg (by omega), if_neg (by omega), if_neg (by omega), if_neg (by omega), if_neg (by omega), if_neg (by omega), if_neg (by omega), if_neg (by omega), if_neg (by omega), if_neg (by omega), if_neg (by omega), if_pos h2]
theorem kd_14 {a : Nat} (h1 : 2 * T + 213 ≤ a) (h2 : a < 2 * T + 216) : KDf P T a = (0, 48) := by
  unfold KDf
  rw [if_neg (by omega), if_neg (by omega), if_neg (by omega), if_neg (by omega), if_neg (by omega), if_neg (by omega), if_neg (by omega), if_neg (by omega), if_neg (by omega), if_neg (by omega), if_neg (by omega), if_neg (by omega), if_neg (by omega), if_neg (by omega), if_pos h2]
theorem kd_15 {a : Nat} (h1 : 2 * T + 216 ≤ a) (h2 : a < 2 * T + 217) : KDf P T a = (1, 48) := by
  unfold KDf
  rw [if_neg (by omega), if_neg (by omega), if_neg (by omega), if_neg (by omega), if_neg (by omega), if_neg (by omega), if_neg (by omega), if_neg (by omega), if_neg (by omega), if_neg (by omega), if_neg (by omega), if_neg (by omega), if_neg (by omega), if_neg (by omega), if_neg (by omega), if_pos h2]
theorem kd_16 {a : Nat} (h1 : 2 * T + 217 ≤ a) (h2 : a < 2 * T + 218) : KDf P T a = (3, 48) := by
  unfold KDf
  rw [if_neg (by omega), if_neg (by omega), if_neg (by omega), if_neg (by omega), if_neg (by omega), if_neg (by omega), if_neg (by omega), if_neg (by omega), if_neg (by omega), if_neg (by omega), if_neg (by omega), if_neg (by omega), if_neg (by omega), if_neg (by omega), if_neg (by omega), if_neg (by omega), if_pos h2]
theorem kd_17 {a : Nat} (h1 : 2 * T + 218 ≤ a) (h2 : a < 2 * T + 269) : KDf P T a = (0, P) := by
  unfold KDf
  rw [if_neg (by omega), if_neg (by omega), if_neg (by omega), if_neg (by omega), if_neg (by omega), if_neg (by omega), if_neg (by omega), if_neg (by omega), if_neg (by omega), if_neg (by omega), if_neg (by omega), if_neg (by omega), if_neg (by omega), if_neg (by omega), if_neg (by omega), if_neg (by omega), if_neg (by omega), if_pos h2]
theorem kd_18 {a : Nat} (h1 : 2 * T + 269 ≤ a) (h2 : a < 2 * T + 270) : KDf P T a = (8, 0) := by
  unfold KDf
  rw [if_neg (by omega), if_neg (by omega), if_neg (by omega), if_neg (by omega), if_neg (by omega), if_neg (by omega), if_neg (by omega), if_neg (by omega), if_neg (by omega), if_neg (by omega), if_neg (by omega), if_neg (by omega), if_neg (by omega), if_neg (by omega), if_neg (by omega), if_neg (by omega), if_neg (by omega), if_neg (by omega), if_pos h2]
theorem kd_19 {a : Nat} (h1 : 2 * T + 270 ≤ a) (h2 : a < 2 * T + 272) : KDf P T a = (0, 48) := by
  unfold KDf
  rw [if_neg (by omega), if_neg (by omega), if_neg (by omega), if_neg (by omega), if_neg (by omega), if_neg (by omega), if_neg (by omega), if_neg (by omega), if_neg (by omega), if_neg (by omega), if_neg (by omega), if_neg (by omega), if_neg (by omega), if_neg (by omega), if_neg (by omega), if_neg (by omega), if_neg (by omega), if_neg (by omega), if_neg (by omega), if_pos h2]
theorem kd_20 {a : Nat} (h1 : 2 * T + 272 ≤ a) (h2 : a < 2 * T + 275) : KDf P T a = (0, 6) := by
  unfold KDf
  rw [if_neg (by omega), if_neg (by omega), if_neg (by omega), if_neg (by omega), if_neg (by omega), if_neg (by omega), if_neg (by omega), if_neg (by omega), if_neg (by omega), if_neg (by omega), if_neg (by omega), if_neg (by omega), if_neg (by omega), if_neg (by omega), if_neg (by omega), if_neg (by omega), if_neg (by omega), if_neg (by omega), if_neg (by omega), if_neg (by omega), if_pos h2]
theorem kd_21 {a : Nat} (h1 : 2 * T + 275 ≤ a) (h2 : a < 2 * T + 276) : KDf P T a = (0, 1206) := by
  unfold KDf
  rw [if_neg (by omega), if_neg (by omega), if_neg (by omega), if_neg (by omega), if_neg (by omega), if_neg (by omega), if_neg (by omega), if_neg (by omega), if_neg (by omega), if_neg (by omega), if_neg (by omega), if_neg (by omega), if_neg (by omega), if_neg (by omega), if_neg (by omega), if_neg (by omega), if_neg (by omega), if_neg (by omega), if_neg (by omega), if_neg (by omega), if_neg (by omega), if_pos h2]
theorem kd_22 {a : Nat} (h1 : 2 * T + 276 ≤ a) (h2 : a < 2 * T + 278) : KDf P T a = (0, 201) := by
  unfold KDf
  rw [if_neg (by omega), if_neg (by omega), if_neg (by omega), if_neg (by omega), if_neg (by omega), if_neg (by omega), if_neg (by omega), if_neg (by omega), if_neg (by omega), if_neg (by omega), if_neg (by omega), if_neg (by omega), if_neg (by omega), if_neg (by omega), if_neg (by omega), if_neg (by omega), if_neg (by omega), if_neg (by omega), if_neg (by omega), if_neg (by omega), if_neg (by omega), if_neg (by omega), if_pos h2]
theorem kd_23 {a : Nat} (h1 : 2 * T + 278 ≤ a) (h2 : a < 2 * T + 279) : KDf P T a = (1, 201) := by
  unfold KDf
  rw [if_neg (by omega), if_neg (by omega), if_neg (by omega), if_neg (by omega), if_neg (by omega), if_neg (by omega), if_neg (by omega), if_neg (by omega), if_neg (by omega), if_neg (by omega), if_neg (by omega), if_neg (by omega), if_neg (by omega), if_neg (by omega), if_neg (by omega), if_neg (by omega), if_neg (by omega), if_neg (by omega), if_neg (by omega), if_neg (by omega), if_neg (by omega), if_neg (by omega), if_neg (by omega), if_pos h2]
theorem kd_24 {a : Nat} (h1 : 2 * T + 279 ≤ a) (h2 : a < 2 * T + 280) : KDf P T a = (0, 294) := by
  unfold KDf
  rw [if_neg (by omega), if_neg (by omega), if_neg (by omega), if_neg (by omega), if_neg (by omega), if_neg (by omega), if_neg (by omega), if_neg (by omega), if_neg (by omega), if_neg (by omega), if_neg (by omega), if_neg (by omega), if_neg (by omega), if_neg (by omega), if_neg (by omega), if_neg (by omega), if_neg (by omega), if_neg (by omega), if_neg (by omega), if_neg (by omega), if_neg (by omega), if_neg (by omega), if_neg (by omega), if_neg (by omega), if_pos h2]
theorem kd_25 {a : Nat} (h1 : 2 * T + 280 ≤ a) (h2 : a < 2 * T + 282) : KDf P T a = (0, 49) := by
  unfold KDf
  rw [if_neg (by omega), if_neg (by omega), if_neg (by omega), if_neg (by omega), if_neg (by omega), if_neg (by omega), if_neg (by omega), if_neg (by omega), if_neg (by omega), if_neg (by omega), if_neg (by omega), if_neg (by omega), if_neg (by omega), if_neg (by omega), if_neg (by omega), if_neg (by omega), if_neg (by omega), if_neg (by omega), if_neg (by omega), if_neg (by omega), if_neg (by omega), if_neg (by omega), if_neg (by omega), if_neg (by omega), if_neg (by omega), if_pos h2]
theorem kd_26 {a : Nat} (h1 : 2 * T + 282 ≤ a) (h2 : a < 2 * T + 283) : KDf P T a = (1, 49) := by
  unfold KDf
  rw [if_neg (by omega), if_neg (by omega), if_neg (by omega), if_neg (by omega), if_neg (by omega), if_neg (by omega), if_neg (by omega), if_neg (by omega), if_neg (by omega), if_neg (by omega), if_neg (by omega), if_neg (by omega), if_neg (by omega), if_neg (by omega), if_neg (by omega), if_neg (by omega), if_neg (by omega), if_neg (by omega), if_neg (by omega), if_neg (by omega), if_neg (by omega), if_neg (by omega), if_neg (by omega), if_neg (by omega), if_neg (by omega), if_neg (by omega), if_pos h2]
theorem kd_27 {a : Nat} (h1 : 2 * T + 283 ≤ a) (h2 : a < 2 * T + 284) : KDf P T a = (2, 1) := by
  unfold KDf
  rw [if_neg (by omega), if_neg (by omega), if_neg (by omega), if_neg (by omega), if_neg (by omega), if_neg (by omega), if_neg (by omega), if_neg (by omega), if_neg (by omega), if_neg (by omega), if_neg (by omega), if_neg (by omega), if_neg (by omega), if_neg (by omega), if_neg (by omega), if_neg (by omega), if_neg (by omega), if_neg (by omega), if_neg (by omega), if_neg (by omega), if_neg (by omega), if_neg (by omega), if_neg (by omega), if_neg (by omega), if_neg (by omega), if_neg (by omega), if_neg (by omega), if_pos h2]
def RFf (T a b : Nat) : Option Nat := if a = 2 then (if b < T then some (3 + b) else none) else if a = T + 3 then (if b < T then some (T + 4 + b) else none) else if a = 2 * T + 11 then (if b < 200 then some (2 * T + 12 + b) else none) else if a = 2 * T + 217 then (if b < 48 then some (2 * T + 218 + b) else none) else none
/-- the references: those of the objects by f -/
def rfc (T : Nat) (f : Nat → Nat → Option Nat) : Nat → Nat → Option Nat := fun a b => if a = 0 ∨ a = 1 ∨ a = 2 * T + 5 ∨ a = 2 * T + 212 ∨ a = 2 * T + 269 then f a b else RFf T a b
abbrev SS (P T n : Nat) (f : Nat → Nat → Option Nat) : aS := (n, KDf P T, rfc T f)
def clr (f : Nat → Nat → Option Nat) (n : Nat) : Nat → Nat → Option Nat := fun a b => if a = n then none else f a b
theorem clr_ne {n a b : Nat} (h : a ≠ n) : clr f n a b = f a b := if_neg h
theorem upR_eq {i j : Nat} {x : Option Nat} : upR f i j x i j = x := if_pos ⟨rfl, rfl⟩
theorem upR_ne {i j a b : Nat} {x : Option Nat} (h : ¬ (a = i ∧ b = j)) : upR f i j x a b = f a b := if_neg h
theorem rfc_o {a b : Nat} (h : a = 0 ∨ a = 1 ∨ a = 2 * T + 5 ∨ a = 2 * T + 212 ∨ a = 2 * T + 269) : rfc T f a b = f a b := if_pos h
theorem rfc_n {a b : Nat} (h : ¬ (a = 0 ∨ a = 1 ∨ a = 2 * T + 5 ∨ a = 2 * T + 212 ∨ a = 2 * T + 269)) : rfc T f a b = RFf T a b := if_neg h
theorem RFf_n {a b : Nat} (h : a ≠ 2 ∧ a ≠ T + 3 ∧ a ≠ 2 * T + 11 ∧ a ≠ 2 * T + 217) : RFf T a b = none := by
  unfold RFf
  rw [if_neg h.1, if_neg h.2.1, if_neg h.2.2.1, if_neg h.2.2.2]
theorem nw_arr {n n' : Nat} {kn : Nat × Nat} (hk : KDf P T n = kn) (ho : ¬ (n = 0 ∨ n = 1 ∨ n = 2 * T + 5 ∨ n = 2 * T + 212 ∨ n = 2 * T + 269)) (hr : n ≠ 2 ∧ n ≠ T + 3 ∧ n ≠ 2 * T + 11 ∧ n ≠ 2 * T + 217) (hn : n' = n + 1) : nwA (SS P T n f) kn = SS P T n' f := by
  subst hn
  refine Prod.ext rfl (Prod.ext ?_ ?_)
  · funext a
    show (if a = n then kn else KDf P T a) = KDf P T a
    by_cases e : a = n
    · rw [if_pos e, e, hk]
    · rw [if_neg e]
  · funext a b
    show (if a = n then none else rfc T f a b) = rfc T f a b
    by_cases e : a = n
    · rw [if_pos e, e, rfc_n ho, RFf_n hr]
    · rw [if_neg e]
theorem nw_obj {n n' : Nat} {kn : Nat × Nat} (hk : KDf P T n = kn) (ho : n = 0 ∨ n = 1 ∨ n = 2 * T + 5 ∨ n = 2 * T + 212 ∨ n = 2 * T + 269) (hn : n' = n + 1) : nwA (SS P T n f) kn = SS P T n' (clr f n) := by
  subst hn
  refine Prod.ext rfl (Prod.ext ?_ ?_)
  · funext a
    show (if a = n then kn else KDf P T a) = KDf P T a
    by_cases e : a = n
    · rw [if_pos e, e, hk]
    · rw [if_neg e]
  · funext a b
    show (if a = n then none else rfc T f a b) = rfc T (clr f n) a b
    unfold rfc clr
    by_cases e : a = n
    · rw [if_pos e, e, if_pos ho, if_pos rfl]
    · rw [if_neg e, if_neg e]
theorem nwG_id {S : aS} (h : ∀ j, g S.1 j = 0) : nwG S g = g := by
  funext a b
  unfold nwG
  by_cases e : a = S.1
  · rw [if_pos e, e, h]
  · rw [if_neg e]
theorem nmG_id {S : aS} {n : Nat} (h : ∀ a j, S.1 ≤ a → a ≤ S.1 + n → g a j = 0) : nmG S n g = g := by
  funext a b
  unfold nmG
  by_cases e : S.1 ≤ a ∧ a ≤ S.1 + n
  · rw [if_pos e, h a b e.1 e.2]
  · rw [if_neg e]
theorem nm_arr {n n' k m : Nat} (hk : KDf P T n = (3, k)) (hk2 : ∀ a, n < a → a ≤ n + k → KDf P T a = (0, m)) (ho : ∀ a, n ≤ a → a ≤ n + k → ¬ (a = 0 ∨ a = 1 ∨ a = 2 * T + 5 ∨ a = 2 * T + 212 ∨ a = 2 * T + 269)) (hr : ∀ b, RFf T n b = if b < k then some (n + 1 + b) else none) (hr2 : ∀ a, n < a → a ≤ n + k → a ≠ 2 ∧ a ≠ T + 3 ∧ a ≠ 2 * T + 11 ∧ a ≠ 2 * T + 217) (hn : n' = n + 1 + k) : nmA (SS P T n f) k m = SS P T n' f := by
  subst hn
  refine Prod.ext rfl (Prod.ext ?_ ?_)
  · funext a
    show (if a = n then (3, k) else if n < a ∧ a ≤ n + k then (0, m) else KDf P T a) = KDf P T a
    by_cases e : a = n
    · rw [if_pos e, e, hk]
    · rw [if_neg e]
      by_cases e2 : n < a ∧ a ≤ n + k
      · rw [if_pos e2, hk2 a e2.1 e2.2]
      · rw [if_neg e2]
  · funext a b
    show (if a = n then (if b < k then some (n + 1 + b) else none) else if n < a ∧ a ≤ n + k then none else rfc T f a b) = rfc T f a b
    by_cases e : a = n
    · rw [if_pos e, e, rfc_n (ho n (Nat.le_refl _) (by omega)), hr b]
    · rw [if_neg e]
      by_cases e2 : n < a ∧ a ≤ n + k
      · rw [if_pos e2, rfc_n (ho a (by omega) e2.2), RFf_n (hr2 a e2.1 e2.2)]
      · rw [if_neg e2]
theorem up_obj {n i k : Nat} {x : Option Nat} (ho : i = 0 ∨ i = 1 ∨ i = 2 * T + 5 ∨ i = 2 * T + 212 ∨ i = 2 * T + 269) : ((n, KDf P T, upR (rfc T f) i k x) : aS) = SS P T n (upR f i k x) := by
  refine Prod.ext rfl (Prod.ext rfl ?_)
  funext a b
  show (if a = i ∧ b = k then x else (if a = 0 ∨ a = 1 ∨ a = 2 * T + 5 ∨ a = 2 * T + 212 ∨ a = 2 * T + 269 then f a b else RFf T a b)) = (if a = 0 ∨ a = 1 ∨ a = 2 * T + 5 ∨ a = 2 * T + 212 ∨ a = 2 * T + 269 then (if a = i ∧ b = k then x else f a b) else RFf T a b)
  by_cases e : a = i ∧ b = k
  · rw [if_pos e, if_pos (by rw [e.1]; exact ho), if_pos e]
  · rw [if_neg e, if_neg e]
theorem hasS {n i k m : Nat} (hi : i < n) (hK : KDf P T i = (k, m)) : hasA (SS P T n f) i k m := ⟨hi, hK⟩
theorem an_na {x : Int} {k n n' a b : Nat} (h : KA q pc .int nx) (hk : x = (k : Int)) (hk2 : k ≤ 100000) (ha : 1 ≤ a) (hb : k ≤ b) (hK : KDf P T n = (0, k)) (ho : ¬ (n = 0 ∨ n = 1 ∨ n = 2 * T + 5 ∨ n = 2 * T + 212 ∨ n = 2 * T + 269)) (hr : n ≠ 2 ∧ n ≠ T + 3 ∧ n ≠ 2 * T + 11 ∧ n ≠ 2 * T + 217) (hg : ∀ j, g n j = 0) (hn : n' = n + 1) (kk : aw l E q d nx L (rV n :: st) (SS P T n' f, g, a - 1, b - k, true) Po) : aw l E q d pc L (iV x :: st) (SS P T n f, g, a, b, true) Po := by
  refine aw_na h hk hk2 ha hb ?_
  rw [nw_arr hK ho hr hn, nwG_id hg]
  exact kk
theorem an_nz {x : Int} {k n n' a b : Nat} (h : KA q pc .boolean nx) (hk : x = (k : Int)) (hk2 : k ≤ 100000) (ha : 1 ≤ a) (hb : k ≤ b) (hK : KDf P T n = (1, k)) (ho : ¬ (n = 0 ∨ n = 1 ∨ n = 2 * T + 5 ∨ n = 2 * T + 212 ∨ n = 2 * T + 269)) (hr : n ≠ 2 ∧ n ≠ T + 3 ∧ n ≠ 2 * T + 11 ∧ n ≠ 2 * T + 217) (hg : ∀ j, g n j = 0) (hn : n' = n + 1) (kk : aw l E q d nx L (rV n :: st) (SS P T n' f, g, a - 1, b - k, true) Po) : aw l E q d pc L (iV x :: st) (SS P T n f, g, a, b, true) Po := by
  refine aw_nz h hk hk2 ha hb ?_
  rw [nw_arr hK ho hr hn, nwG_id hg]
  exact kk
theorem an_nl {x : Int} {k n n' a b : Nat} (h : KA q pc .long nx) (hk : x = (k : Int)) (hk2 : k ≤ 100000) (ha : 1 ≤ a) (hb : k ≤ b) (hK : KDf P T n = (2, k)) (ho : ¬ (n = 0 ∨ n = 1 ∨ n = 2 * T + 5 ∨ n = 2 * T + 212 ∨ n = 2 * T + 269)) (hr : n ≠ 2 ∧ n ≠ T + 3 ∧ n ≠ 2 * T + 11 ∧ n ≠ 2 * T + 217) (hg : ∀ j, g n j = 0) (hn : n' = n + 1) (kk : aw l E q d nx L (rV n :: st) (SS P T n' f, g, a - 1, b - k, true) Po) : aw l E q d pc L (iV x :: st) (SS P T n f, g, a, b, true) Po := by
  refine aw_nl h hk hk2 ha hb ?_
  rw [nw_arr hK ho hr hn, nwG_id hg]
  exact kk
theorem an_nm {x y : Int} {k m n n' a b : Nat} (h : KM q pc nx) (hx1 : x = (k : Int)) (hy1 : y = (m : Int)) (hk9 : k ≤ 10000) (hm9 : m ≤ 10000) (ha : 1 + k ≤ a) (hb : k + k * m ≤ b) (hk : KDf P T n = (3, k)) (hk2 : ∀ a, n < a → a ≤ n + k → KDf P T a = (0, m)) (ho : ∀ a, n ≤ a → a ≤ n + k → ¬ (a = 0 ∨ a = 1 ∨ a = 2 * T + 5 ∨ a = 2 * T + 212 ∨ a = 2 * T + 269)) (hr : ∀ b, RFf T n b = if b < k then some (n + 1 + b) else none) (hr2 : ∀ a, n < a → a ≤ n + k → a ≠ 2 ∧ a ≠ T + 3 ∧ a ≠ 2 * T + 11 ∧ a ≠ 2 * T + 217) (hg : ∀ a j, n ≤ a → a ≤ n + k → g a j = 0) (hn : n' = n + 1 + k) (kk : aw l E q d nx L (rV n :: st) (SS P T n' f, g, a - (1 + k), b - (k + k * m), true) Po) : aw l E q d pc L (iV y :: iV x :: st) (SS P T n f, g, a, b, true) Po := by
  refine aw_nm h hx1 hy1 hk9 hm9 ha hb ?_
  rw [nm_arr hk hk2 ho hr hr2 hn, nmG_id hg]
  exact kk
theorem an_new {c N n n' a b : Nat} (h : KN q pc c N nx) (ha : 1 ≤ a) (hb : N ≤ b) (hK : KDf P T n = (c + 4, 0)) (ho : n = 0 ∨ n = 1 ∨ n = 2 * T + 5 ∨ n = 2 * T + 212 ∨ n = 2 * T + 269) (hg : ∀ j, g n j = 0) (hn : n' = n + 1) (kk : aw l E q d nx L (rV n :: st) (SS P T n' (clr f n), g, a - 1, b - N, true) Po) : aw l E q d pc L st (SS P T n f, g, a, b, true) Po := by
  refine aw_new h ha hb ?_
  rw [nw_obj hK ho hn, nwG_id hg]
  exact kk
theorem an_pr {c k i j n : Nat} {ty : FieldType} {fin : Bool} (h : Kp q pc c k true ty fin nx) (hi : i < n) (hK : KDf P T i = (c + 4, 0)) (ho : i = 0 ∨ i = 1 ∨ i = 2 * T + 5 ∨ i = 2 * T + 212 ∨ i = 2 * T + 269) (hty : ∀ a, narrow ty (.ref a) = .ref a ∧ fits ty (.ref a) = true) (kk : aw l E q d nx L st (SS P T n (upR f i k (some j)), g, u) Po) : aw l E q d pc L (rV j :: rV i :: st) (SS P T n f, g, u) Po := by
  refine aw_pr h ⟨hi, hK⟩ hty ?_
  rw [← up_obj ho] at kk
  exact kk
theorem an_gr {c k i j n m : Nat} (hr : f i k = some j) (ho : i = 0 ∨ i = 1 ∨ i = 2 * T + 5 ∨ i = 2 * T + 212 ∨ i = 2 * T + 269) (h : Kg q pc c k true nx) (hh : hasA (SS P T n f) i (c + 4) m) (kk : aw l E q d nx L (rV j :: st) (SS P T n f, g, u) Po) : aw l E q d pc L (rV i :: st) (SS P T n f, g, u) Po :=
  aw_gr (show rfc T f i k = some j from (rfc_o ho).trans hr) h hh kk
/-- the numbers of the net, and those of the reference -/
def gN (P T : Nat) : aG := upA (upA (fun _ _ => 0) 1 0 (P : Int)) 1 1 (T : Int)
def gB (P T : Nat) : aG := upA (upA (gN P T) (2 * T + 269) 1 (P : Int)) (2 * T + 269) 2 (T : Int)
theorem gN_0 {a b : Nat} (h : a ≠ 1 ∨ 2 ≤ b) : gN P T a b = 0 := by
  unfold gN
  rw [upA_ne (by omega), upA_ne (by omega)]
theorem gN_P : gN P T 1 0 = (P : Int) := by
  unfold gN
  rw [upA_ne (by omega), upA_eq]
theorem gN_T : gN P T 1 1 = (T : Int) := by
  unfold gN
  rw [upA_eq]
theorem gB_N {a b : Nat} (h : a ≠ 2 * T + 269 ∨ (b ≠ 1 ∧ b ≠ 2)) : gB P T a b = gN P T a b := by
  unfold gB
  rw [upA_ne (by omega), upA_ne (by omega)]
theorem gB_P : gB P T (2 * T + 269) 1 = (P : Int) := by
  unfold gB
  rw [upA_ne (by omega), upA_eq]
theorem gB_T : gB P T (2 * T + 269) 2 = (T : Int) := by
  unfold gB
  rw [upA_eq]
theorem gB_0 {a b : Nat} (h : a ≠ 1 ∨ 2 ≤ b) (h2 : a ≠ 2 * T + 269 ∨ (b ≠ 1 ∧ b ≠ 2)) : gB P T a b = 0 := (gB_N h2).trans (gN_0 h)
theorem c_N_init {a b : Nat} (hP6 : 1 ≤ P ∧ P ≤ 6) (hT8 : 1 ≤ T ∧ T ≤ 8) (ha : 30 ≤ a) (hb : 200 ≤ b) (hd : 1 ≤ d) (hPo : ∀ f' a' b', (f' 1 2 = some 2 ∧ f' 1 3 = some (T + 3) ∧ f' 1 4 = some (2 * T + 4)) → (∀ i k, i ≠ 1 → f' i k = f i k) → a ≤ a' + 30 → b ≤ b' + 200 → Po (.inl none) (SS P T (2 * T + 5) f', gN P T, a', b', true)) : Sp l E N_init d [rV 1, iV (P : Int), iV (T : Int)] (SS P T (2) f, fun _ _ => 0, a, b, true) Po := by
  have hTP : T * P ≤ 48 := Nat.mul_le_mul hT8.2 hP6.2
  show aw l E N_init d 0 [some (rV 1), some (iV (P : Int)), some (iV (T : Int)), none, none, none, none] [] (SS P T (2) f, fun _ _ => 0, a, b, true) Po
  refine aw_al0 N_init_0 ?_
  refine aw_oi N_init_1 (by omega) rfl ?_
  refine aw_al0 N_init_4 ?_
  refine aw_il1 N_init_5 ?_
  refine aw_pi N_init_6 (hasS (by omega) (kd_1 (a := 1) (by omega) (by omega))) ?_
  refine aw_al0 N_init_9 ?_
  refine aw_il2 N_init_10 ?_
  refine aw_pi N_init_11 (hasS (by omega) (kd_1 (a := 1) (by omega) (by omega))) ?_
  change aw _ _ _ _ _ _ _ (SS P T 2 f, gN P T, a, b, true) _
  refine aw_al0 N_init_14 ?_
  refine aw_il2 N_init_15 ?_
  refine aw_il1 N_init_16 ?_
  refine an_nm (n' := T + 3) N_init_17 rfl rfl (by omega) (by omega) (by omega) (by omega) (kd_2 (a := 2) (by omega) (by omega)) (fun a h1 h2 => kd_3 (by omega) (by omega)) (fun a h1 h2 => by omega) (fun b => by unfold RFf; rw [if_pos rfl]) (fun a h1 h2 => by omega) (fun a j h1 h2 => gN_0 (by omega)) (by omega) ?_
  refine an_pr N_init_21 (by omega) (kd_1 (a := 1) (by omega) (by omega)) (by omega) (fun _ => ⟨rfl, rfl⟩) ?_
  refine aw_al0 N_init_24 ?_
  refine aw_il2 N_init_25 ?_
  refine aw_il1 N_init_26 ?_
  refine an_nm (n' := 2 * T + 4) N_init_27 rfl rfl (by omega) (by omega) (by omega) (by omega) (kd_4 (a := T + 3) (by omega) (by omega)) (fun a h1 h2 => kd_5 (by omega) (by omega)) (fun a h1 h2 => by omega) (fun b => by unfold RFf; rw [if_neg (by omega), if_pos rfl]) (fun a h1 h2 => by omega) (fun a j h1 h2 => gN_0 (by omega)) (by omega) ?_
  refine an_pr N_init_31 (by omega) (kd_1 (a := 1) (by omega) (by omega)) (by omega) (fun _ => ⟨rfl, rfl⟩) ?_
  refine aw_al0 N_init_34 ?_
  refine aw_il1 N_init_35 ?_
  refine an_na (n' := 2 * T + 5) N_init_36 rfl (by omega) (by omega) (by omega) (kd_6 (a := 2 * T + 4) (by omega) (by omega)) (by omega) (by omega) (fun _ => gN_0 (by omega)) (by omega) ?_
  refine an_pr N_init_38 (by omega) (kd_1 (a := 1) (by omega) (by omega)) (by omega) (fun _ => ⟨rfl, rfl⟩) ?_
  refine aw_retv N_init_41 rfl ?_
  exact hPo _ _ _ ⟨by rw [upR_ne (by omega), upR_ne (by omega), upR_eq], by rw [upR_ne (by omega), upR_eq], by rw [upR_eq]⟩ (fun i k h => by rw [upR_ne (by omega), upR_ne (by omega), upR_ne (by omega)]) (by omega) (by omega)
theorem c_T_init {a b : Nat} (hP6 : 1 ≤ P ∧ P ≤ 6) (hT8 : 1 ≤ T ∧ T ≤ 8) (ha : 210 ≤ a) (hb : 2500 ≤ b) (hd : 1 ≤ d) (hPo : ∀ f' a' b', (f' (2 * T + 5) 0 = some 1 ∧ f' (2 * T + 5) 1 = some (2 * T + 11) ∧ f' (2 * T + 5) 2 = some (2 * T + 6) ∧ f' (2 * T + 5) 3 = some (2 * T + 7) ∧ f' (2 * T + 5) 4 = some (2 * T + 8) ∧ f' (2 * T + 5) 5 = some (2 * T + 9) ∧ f' (2 * T + 5) 6 = some (2 * T + 10)) → (∀ i k, i ≠ 2 * T + 5 → f' i k = f i k) → a ≤ a' + 210 → b ≤ b' + 2500 → Po (.inl none) (SS P T (2 * T + 212) f', gN P T, a', b', true)) : Sp l E T_init d [rV (2 * T + 5), rV 1] (SS P T (2 * T + 6) f, gN P T, a, b, true) Po := by
  have hTP : T * P ≤ 48 := Nat.mul_le_mul hT8.2 hP6.2
  show aw l E T_init d 0 [some (rV (2 * T + 5)), some (rV 1), none, none, none, none, none] [] (SS P T (2 * T + 6) f, gN P T, a, b, true) Po
  refine aw_al0 T_init_0 ?_
  refine aw_oi T_init_1 (by omega) rfl ?_
  refine aw_al0 T_init_4 ?_
  refine aw_c T_init_5 ?_
  refine an_na (n' := 2 * T + 7) T_init_8 (show (200 : Int) = ((200 : Nat) : Int) from rfl) (by omega) (by omega) (by omega) (kd_8 (a := 2 * T + 6) (by omega) (by omega)) (by omega) (by omega) (fun _ => gN_0 (by omega)) (by omega) ?_
  refine an_pr T_init_10 (by omega) (kd_7 (a := 2 * T + 5) (by omega) (by omega)) (by omega) (fun _ => ⟨rfl, rfl⟩) ?_
  refine aw_al0 T_init_13 ?_
  refine aw_c T_init_14 ?_
  refine an_na (n' := 2 * T + 8) T_init_17 (show (200 : Int) = ((200 : Nat) : Int) from rfl) (by omega) (by omega) (by omega) (kd_8 (a := 2 * T + 7) (by omega) (by omega)) (by omega) (by omega) (fun _ => gN_0 (by omega)) (by omega) ?_
  refine an_pr T_init_19 (by omega) (kd_7 (a := 2 * T + 5) (by omega) (by omega)) (by omega) (fun _ => ⟨rfl, rfl⟩) ?_
  refine aw_al0 T_init_22 ?_
  refine aw_c T_init_23 ?_
  refine an_na (n' := 2 * T + 9) T_init_26 (show (200 : Int) = ((200 : Nat) : Int) from rfl) (by omega) (by omega) (by omega) (kd_8 (a := 2 * T + 8) (by omega) (by omega)) (by omega) (by omega) (fun _ => gN_0 (by omega)) (by omega) ?_
  refine an_pr T_init_28 (by omega) (kd_7 (a := 2 * T + 5) (by omega) (by omega)) (by omega) (fun _ => ⟨rfl, rfl⟩) ?_
  refine aw_al0 T_init_31 ?_
  refine aw_c T_init_32 ?_
  refine an_nz (n' := 2 * T + 10) T_init_35 (show (200 : Int) = ((200 : Nat) : Int) from rfl) (by omega) (by omega) (by omega) (kd_9 (a := 2 * T + 9) (by omega) (by omega)) (by omega) (by omega) (fun _ => gN_0 (by omega)) (by omega) ?_
  refine an_pr T_init_37 (by omega) (kd_7 (a := 2 * T + 5) (by omega) (by omega)) (by omega) (fun _ => ⟨rfl, rfl⟩) ?_
  refine aw_al0 T_init_40 ?_
  refine aw_c T_init_41 ?_
  refine an_na (n' := 2 * T + 11) T_init_44 (show (200 : Int) = ((200 : Nat) : Int) from rfl) (by omega) (by omega) (by omega) (kd_10 (a := 2 * T + 10) (by omega) (by omega)) (by omega) (by omega) (fun _ => gN_0 (by omega)) (by omega) ?_
  refine an_pr T_init_46 (by omega) (kd_7 (a := 2 * T + 5) (by omega) (by omega)) (by omega) (fun _ => ⟨rfl, rfl⟩) ?_
  refine aw_al0 T_init_49 ?_
  refine aw_al1 T_init_50 ?_
  refine an_pr T_init_51 (by omega) (kd_7 (a := 2 * T + 5) (by omega) (by omega)) (by omega) (fun _ => ⟨rfl, rfl⟩) ?_
  refine aw_al0 T_init_54 ?_
  refine aw_c T_init_55 ?_
  refine aw_al1 T_init_58 ?_
  refine aw_gi T_init_59 (hasS (by omega) (kd_1 (a := 1) (by omega) (by omega))) ?_
  rw [gN_P]
  refine an_nm (n' := 2 * T + 212) T_init_62 (show (200 : Int) = ((200 : Nat) : Int) from rfl) rfl (by omega) (by omega) (by omega) (by omega) (kd_11 (a := 2 * T + 11) (by omega) (by omega)) (fun a h1 h2 => kd_12 (by omega) (by omega)) (fun a h1 h2 => by omega) (fun b => by unfold RFf; rw [if_neg (by omega), if_neg (by omega), if_pos rfl]) (fun a h1 h2 => by omega) (fun a j h1 h2 => gN_0 (by omega)) (by omega) ?_
  refine an_pr T_init_66 (by omega) (kd_7 (a := 2 * T + 5) (by omega) (by omega)) (by omega) (fun _ => ⟨rfl, rfl⟩) ?_
  refine aw_retv T_init_69 rfl ?_
  exact hPo _ _ _ ⟨by rw [upR_ne (by omega), upR_eq], by rw [upR_eq], by rw [upR_ne (by omega), upR_ne (by omega), upR_ne (by omega), upR_ne (by omega), upR_ne (by omega), upR_ne (by omega), upR_eq], by rw [upR_ne (by omega), upR_ne (by omega), upR_ne (by omega), upR_ne (by omega), upR_ne (by omega), upR_eq], by rw [upR_ne (by omega), upR_ne (by omega), upR_ne (by omega), upR_ne (by omega), upR_eq], by rw [upR_ne (by omega), upR_ne (by omega), upR_ne (by omega), upR_eq], by rw [upR_ne (by omega), upR_ne (by omega), upR_eq]⟩ (fun i k h => by rw [upR_ne (by omega), upR_ne (by omega), upR_ne (by omega), upR_ne (by omega), upR_ne (by omega), upR_ne (by omega), upR_ne (by omega)]) (by omega) (by omega)
theorem c_G_init {a b : Nat} (hP6 : 1 ≤ P ∧ P ≤ 6) (hT8 : 1 ≤ T ∧ T ≤ 8) (ha : 210 ≤ a) (hb : 2500 ≤ b) (hd : 1 ≤ d) (hPo : ∀ f' a' b', (f' (2 * T + 212) 0 = some 1 ∧ f' (2 * T + 212) 1 = some (2 * T + 217) ∧ f' (2 * T + 212) 2 = some (2 * T + 213) ∧ f' (2 * T + 212) 3 = some (2 * T + 214) ∧ f' (2 * T + 212) 4 = some (2 * T + 215) ∧ f' (2 * T + 212) 5 = some (2 * T + 216) ∧ f' (2 * T + 212) 6 = some (2 * T + 266)) → (∀ i k, i ≠ 2 * T + 212 → f' i k = f i k) → a ≤ a' + 210 → b ≤ b' + 2500 → Po (.inl none) (SS P T (2 * T + 267) f', gN P T, a', b', true)) : Sp l E G_init d [rV (2 * T + 212), rV 1] (SS P T (2 * T + 213) f, gN P T, a, b, true) Po := by
  have hTP : T * P ≤ 48 := Nat.mul_le_mul hT8.2 hP6.2
  show aw l E G_init d 0 [some (rV (2 * T + 212)), some (rV 1), none, none, none, none, none] [] (SS P T (2 * T + 213) f, gN P T, a, b, true) Po
  refine aw_al0 G_init_0 ?_
  refine aw_oi G_init_1 (by omega) rfl ?_
  refine aw_al0 G_init_4 ?_
  refine aw_c G_init_5 ?_
  refine an_na (n' := 2 * T + 214) G_init_7 (show (48 : Int) = ((48 : Nat) : Int) from rfl) (by omega) (by omega) (by omega) (kd_14 (a := 2 * T + 213) (by omega) (by omega)) (by omega) (by omega) (fun _ => gN_0 (by omega)) (by omega) ?_
  refine an_pr G_init_9 (by omega) (kd_13 (a := 2 * T + 212) (by omega) (by omega)) (by omega) (fun _ => ⟨rfl, rfl⟩) ?_
  refine aw_al0 G_init_12 ?_
  refine aw_c G_init_13 ?_
  refine an_na (n' := 2 * T + 215) G_init_15 (show (48 : Int) = ((48 : Nat) : Int) from rfl) (by omega) (by omega) (by omega) (kd_14 (a := 2 * T + 214) (by omega) (by omega)) (by omega) (by omega) (fun _ => gN_0 (by omega)) (by omega) ?_
  refine an_pr G_init_17 (by omega) (kd_13 (a := 2 * T + 212) (by omega) (by omega)) (by omega) (fun _ => ⟨rfl, rfl⟩) ?_
  refine aw_al0 G_init_20 ?_
  refine aw_c G_init_21 ?_
  refine an_na (n' := 2 * T + 216) G_init_23 (show (48 : Int) = ((48 : Nat) : Int) from rfl) (by omega) (by omega) (by omega) (kd_14 (a := 2 * T + 215) (by omega) (by omega)) (by omega) (by omega) (fun _ => gN_0 (by omega)) (by omega) ?_
  refine an_pr G_init_25 (by omega) (kd_13 (a := 2 * T + 212) (by omega) (by omega)) (by omega) (fun _ => ⟨rfl, rfl⟩) ?_
  refine aw_al0 G_init_28 ?_
  refine aw_c G_init_29 ?_
  refine an_nz (n' := 2 * T + 217) G_init_31 (show (48 : Int) = ((48 : Nat) : Int) from rfl) (by omega) (by omega) (by omega) (kd_15 (a := 2 * T + 216) (by omega) (by omega)) (by omega) (by omega) (fun _ => gN_0 (by omega)) (by omega) ?_
  refine an_pr G_init_33 (by omega) (kd_13 (a := 2 * T + 212) (by omega) (by omega)) (by omega) (fun _ => ⟨rfl, rfl⟩) ?_
  refine aw_al0 G_init_36 ?_
  refine aw_al1 G_init_37 ?_
  refine an_pr G_init_38 (by omega) (kd_13 (a := 2 * T + 212) (by omega) (by omega)) (by omega) (fun _ => ⟨rfl, rfl⟩) ?_
  refine aw_al0 G_init_41 ?_
  refine aw_c G_init_42 ?_
  refine aw_al1 G_init_44 ?_
  refine aw_gi G_init_45 (hasS (by omega) (kd_1 (a := 1) (by omega) (by omega))) ?_
  rw [gN_P]
  refine an_nm (n' := 2 * T + 266) G_init_48 (show (48 : Int) = ((48 : Nat) : Int) from rfl) rfl (by omega) (by omega) (by omega) (by omega) (kd_16 (a := 2 * T + 217) (by omega) (by omega)) (fun a h1 h2 => kd_17 (by omega) (by omega)) (fun a h1 h2 => by omega) (fun b => by unfold RFf; rw [if_neg (by omega), if_neg (by omega), if_neg (by omega), if_pos rfl]) (fun a h1 h2 => by omega) (fun a j h1 h2 => gN_0 (by omega)) (by omega) ?_
  refine an_pr G_init_52 (by omega) (kd_13 (a := 2 * T + 212) (by omega) (by omega)) (by omega) (fun _ => ⟨rfl, rfl⟩) ?_
  refine aw_al0 G_init_55 ?_
  refine aw_al1 G_init_56 ?_
  refine aw_gi G_init_57 (hasS (by omega) (kd_1 (a := 1) (by omega) (by omega))) ?_
  rw [gN_P]
  refine an_na (n' := 2 * T + 267) G_init_60 rfl (by omega) (by omega) (by omega) (kd_17 (a := 2 * T + 266) (by omega) (by omega)) (by omega) (by omega) (fun _ => gN_0 (by omega)) (by omega) ?_
  refine an_pr G_init_62 (by omega) (kd_13 (a := 2 * T + 212) (by omega) (by omega)) (by omega) (fun _ => ⟨rfl, rfl⟩) ?_
  refine aw_retv G_init_65 rfl ?_
  exact hPo _ _ _ ⟨by rw [upR_ne (by omega), upR_ne (by omega), upR_eq], by rw [upR_ne (by omega), upR_eq], by rw [upR_ne (by omega), upR_ne (by omega), upR_ne (by omega), upR_ne (by omega), upR_ne (by omega), upR_ne (by omega), upR_eq], by rw [upR_ne (by omega), upR_ne (by omega), upR_ne (by omega), upR_ne (by omega), upR_ne (by omega), upR_eq], by rw [upR_ne (by omega), upR_ne (by omega), upR_ne (by omega), upR_ne (by omega), upR_eq], by rw [upR_ne (by omega), upR_ne (by omega), upR_ne (by omega), upR_eq], by rw [upR_eq]⟩ (fun i k h => by rw [upR_ne (by omega), upR_ne (by omega), upR_ne (by omega), upR_ne (by omega), upR_ne (by omega), upR_ne (by omega), upR_ne (by omega)]) (by omega) (by omega)
/-- the fields of the class's objects -/
def FO (T : Nat) (f : Nat → Nat → Option Nat) : Prop := (f 1 2 = some 2 ∧ f 1 3 = some (T + 3) ∧ f 1 4 = some (2 * T + 4)) ∧ (f (2 * T + 5) 0 = some 1 ∧ f (2 * T + 5) 1 = some (2 * T + 11) ∧ f (2 * T + 5) 2 = some (2 * T + 6) ∧ f (2 * T + 5) 3 = some (2 * T + 7) ∧ f (2 * T + 5) 4 = some (2 * T + 8) ∧ f (2 * T + 5) 5 = some (2 * T + 9) ∧ f (2 * T + 5) 6 = some (2 * T + 10)) ∧ (f (2 * T + 212) 0 = some 1 ∧ f (2 * T + 212) 1 = some (2 * T + 217) ∧ f (2 * T + 212) 2 = some (2 * T + 213) ∧ f (2 * T + 212) 3 = some (2 * T + 214) ∧ f (2 * T + 212) 4 = some (2 * T + 215) ∧ f (2 * T + 212) 5 = some (2 * T + 216) ∧ f (2 * T + 212) 6 = some (2 * T + 266)) ∧ f 0 0 = some 1 ∧ f 0 1 = some (2 * T + 5) ∧ f 0 2 = some (2 * T + 212) ∧ f 0 3 = some (2 * T + 267) ∧ f 0 4 = some (2 * T + 268)
theorem c_O_init {a b : Nat} {x y : Int} (hP6 : 1 ≤ P ∧ P ≤ 6) (hT8 : 1 ≤ T ∧ T ≤ 8) (hx : (if 1 < (if x < 6 then x else 6) then (if x < 6 then x else 6) else 1) = (P : Int)) (hy : (if 1 < (if y < 8 then y else 8) then (if y < 8 then y else 8) else 1) = (T : Int)) (ha : 1000 ≤ a) (hb : 10000 ≤ b) (hd : 1 ≤ d) (hPo : ∀ f' a' b', FO T f' → (∀ i k, 2 * T + 269 ≤ i → f' i k = f i k) → a ≤ a' + 1000 → b ≤ b' + 10000 → Po (.inl none) (SS P T (2 * T + 269) f', gN P T, a', b', true)) : Sp l E O_init (d + 1) [rV 0, iV x, iV y] (SS P T 1 f, fun _ _ => 0, a, b, true) Po := by
  show aw l E O_init (d + 1) 0 [some (rV 0), some (iV x), some (iV y), none, none, none, none] [] (SS P T 1 f, fun _ _ => 0, a, b, true) Po
  refine aw_al0 O_init_0 ?_
  refine aw_oi O_init_1 (by omega) rfl ?_
  refine aw_al0 O_init_4 ?_
  refine an_new (n' := 2) O_init_5 (by omega) (by omega) (kd_1 (a := 1) (by omega) (by omega)) (by omega) (fun _ => rfl) (by omega) ?_
  refine aw_dup O_init_8 ?_
  refine aw_il1 O_init_9 ?_
  refine aw_c O_init_10 ?_
  refine aw_c O_init_11 ?_
  refine aw_S3 O_init_13 rfl rfl rfl rfl rfl ?_
  refine c_within (by omega) ?_
  show aw _ _ _ _ _ _ _ _ _
  refine aw_il2 O_init_16 ?_
  refine aw_c O_init_17 ?_
  refine aw_c O_init_18 ?_
  refine aw_S3 O_init_20 rfl rfl rfl rfl rfl ?_
  refine c_within (by omega) ?_
  show aw _ _ _ _ _ _ _ _ _
  refine aw_I2 O_init_23 rfl rfl rfl rfl ?_
  rw [hx, hy]
  refine c_N_init hP6 hT8 (by omega) (by omega) hd (fun f1 a1 b1 hf1 hk1 ha1 hb1 => ?_)
  show aw _ _ _ _ _ _ _ _ _
  refine an_pr O_init_26 (by omega) (kd_0 (a := 0) (by omega) (by omega)) (by omega) (fun _ => ⟨rfl, rfl⟩) ?_
  refine aw_al0 O_init_29 ?_
  refine an_new (n' := 2 * T + 6) O_init_30 (by omega) (by omega) (kd_7 (a := 2 * T + 5) (by omega) (by omega)) (by omega) (fun _ => gN_0 (by omega)) (by omega) ?_
  refine aw_dup O_init_33 ?_
  refine aw_al0 O_init_34 ?_
  refine an_gr (j := 1) (by rw [clr_ne (by omega), upR_eq]) (by omega) O_init_35 (hasS (by omega) (kd_0 (a := 0) (by omega) (by omega))) ?_
  refine aw_I1 O_init_38 rfl rfl rfl ?_
  refine c_T_init hP6 hT8 (by omega) (by omega) hd (fun f2 a2 b2 hf2 hk2 ha2 hb2 => ?_)
  show aw _ _ _ _ _ _ _ _ _
  refine an_pr O_init_41 (by omega) (kd_0 (a := 0) (by omega) (by omega)) (by omega) (fun _ => ⟨rfl, rfl⟩) ?_
  refine aw_al0 O_init_44 ?_
  refine an_new (n' := 2 * T + 213) O_init_45 (by omega) (by omega) (kd_13 (a := 2 * T + 212) (by omega) (by omega)) (by omega) (fun _ => gN_0 (by omega)) (by omega) ?_
  refine aw_dup O_init_48 ?_
  refine aw_al0 O_init_49 ?_
  refine an_gr (j := 1) (by rw [clr_ne (by omega), upR_ne (by omega), hk2 0 0 (by omega), clr_ne (by omega), upR_eq]) (by omega) O_init_50 (hasS (by omega) (kd_0 (a := 0) (by omega) (by omega))) ?_
  refine aw_I1 O_init_53 rfl rfl rfl ?_
  refine c_G_init hP6 hT8 (by omega) (by omega) hd (fun f3 a3 b3 hf3 hk3 ha3 hb3 => ?_)
  show aw _ _ _ _ _ _ _ _ _
  refine an_pr O_init_56 (by omega) (kd_0 (a := 0) (by omega) (by omega)) (by omega) (fun _ => ⟨rfl, rfl⟩) ?_
  have e300 : f3 0 0 = some 1 := (hk3 0 0 (by omega)).trans ((clr_ne (by omega)).trans ((upR_ne (by omega)).trans ((hk2 0 0 (by omega)).trans ((clr_ne (by omega)).trans upR_eq))))
  have e301 : f3 0 1 = some (2 * T + 5) := (hk3 0 1 (by omega)).trans ((clr_ne (by omega)).trans upR_eq)
  have e3T : ∀ k, f3 (2 * T + 5) k = f2 (2 * T + 5) k := fun k => (hk3 _ k (by omega)).trans ((clr_ne (by omega)).trans (upR_ne (by omega)))
  have e3N : ∀ k, f3 1 k = f1 1 k := fun k => (hk3 _ k (by omega)).trans ((clr_ne (by omega)).trans ((upR_ne (by omega)).trans ((hk2 _ k (by omega)).trans ((clr_ne (by omega)).trans (upR_ne (by omega))))))
  have e3M : ∀ i k, 2 * T + 269 ≤ i → f3 i k = f i k := fun i k h => (hk3 _ k (by omega)).trans ((clr_ne (by omega)).trans ((upR_ne (by omega)).trans ((hk2 _ k (by omega)).trans ((clr_ne (by omega)).trans ((upR_ne (by omega)).trans ((hk1 _ k (by omega)).trans (clr_ne (by omega))))))))
  refine aw_al0 O_init_59 ?_
  refine aw_al0 O_init_60 ?_
  refine an_gr (j := 1) (by rw [upR_ne (by omega), e300]) (by omega) O_init_61 (hasS (by omega) (kd_0 (a := 0) (by omega) (by omega))) ?_
  refine aw_gi O_init_64 (hasS (by omega) (kd_1 (a := 1) (by omega) (by omega))) ?_
  rw [gN_P]
  refine an_na (n' := 2 * T + 268) O_init_67 rfl (by omega) (by omega) (by omega) (kd_17 (a := 2 * T + 267) (by omega) (by omega)) (by omega) (by omega) (fun _ => gN_0 (by omega)) (by omega) ?_
  refine an_pr O_init_69 (by omega) (kd_0 (a := 0) (by omega) (by omega)) (by omega) (fun _ => ⟨rfl, rfl⟩) ?_
  refine aw_al0 O_init_72 ?_
  refine aw_al0 O_init_73 ?_
  refine an_gr (j := 1) (by rw [upR_ne (by omega), upR_ne (by omega), e300]) (by omega) O_init_74 (hasS (by omega) (kd_0 (a := 0) (by omega) (by omega))) ?_
  refine aw_gi O_init_77 (hasS (by omega) (kd_1 (a := 1) (by omega) (by omega))) ?_
  rw [gN_P]
  refine an_na (n' := 2 * T + 269) O_init_80 rfl (by omega) (by omega) (by omega) (kd_17 (a := 2 * T + 268) (by omega) (by omega)) (by omega) (by omega) (fun _ => gN_0 (by omega)) (by omega) ?_
  refine an_pr O_init_82 (by omega) (kd_0 (a := 0) (by omega) (by omega)) (by omega) (fun _ => ⟨rfl, rfl⟩) ?_
  refine aw_al0 O_init_85 ?_
  refine aw_c O_init_86 ?_
  refine aw_pi O_init_87 (hasS (by omega) (kd_0 (a := 0) (by omega) (by omega))) ?_
  refine aw_retv O_init_90 rfl ?_
  rw [show upA (gN P T) 0 5 0 = gN P T from by
    funext i j
    by_cases e : i = 0 ∧ j = 5
    · rw [e.1, e.2, upA_eq]; exact (gN_0 (by omega)).symm
    · rw [upA_ne e]]
  exact hPo _ _ _ ⟨⟨(upR_ne (by omega)).trans ((upR_ne (by omega)).trans ((upR_ne (by omega)).trans ((e3N _).trans hf1.1))), (upR_ne (by omega)).trans ((upR_ne (by omega)).trans ((upR_ne (by omega)).trans ((e3N _).trans hf1.2.1))), (upR_ne (by omega)).trans ((upR_ne (by omega)).trans ((upR_ne (by omega)).trans ((e3N _).trans hf1.2.2)))⟩, ⟨(upR_ne (by omega)).trans ((upR_ne (by omega)).trans ((upR_ne (by omega)).trans ((e3T _).trans hf2.1))), (upR_ne (by omega)).trans ((upR_ne (by omega)).trans ((upR_ne (by omega)).trans ((e3T _).trans hf2.2.1))), (upR_ne (by omega)).trans ((upR_ne (by omega)).trans ((upR_ne (by omega)).trans ((e3T _).trans hf2.2.2.1))), (upR_ne (by omega)).trans ((upR_ne (by omega)).trans ((upR_ne (by omega)).trans ((e3T _).trans hf2.2.2.2.1))), (upR_ne (by omega)).trans ((upR_ne (by omega)).trans ((upR_ne (by omega)).trans ((e3T _).trans hf2.2.2.2.2.1))), (upR_ne (by omega)).trans ((upR_ne (by omega)).trans ((upR_ne (by omega)).trans ((e3T _).trans hf2.2.2.2.2.2.1))), (upR_ne (by omega)).trans ((upR_ne (by omega)).trans ((upR_ne (by omega)).trans ((e3T _).trans hf2.2.2.2.2.2.2)))⟩, ⟨(upR_ne (by omega)).trans ((upR_ne (by omega)).trans ((upR_ne (by omega)).trans (hf3.1))), (upR_ne (by omega)).trans ((upR_ne (by omega)).trans ((upR_ne (by omega)).trans (hf3.2.1))), (upR_ne (by omega)).trans ((upR_ne (by omega)).trans ((upR_ne (by omega)).trans (hf3.2.2.1))), (upR_ne (by omega)).trans ((upR_ne (by omega)).trans ((upR_ne (by omega)).trans (hf3.2.2.2.1))), (upR_ne (by omega)).trans ((upR_ne (by omega)).trans ((upR_ne (by omega)).trans (hf3.2.2.2.2.1))), (upR_ne (by omega)).trans ((upR_ne (by omega)).trans ((upR_ne (by omega)).trans (hf3.2.2.2.2.2.1))), (upR_ne (by omega)).trans ((upR_ne (by omega)).trans ((upR_ne (by omega)).trans (hf3.2.2.2.2.2.2)))⟩, (upR_ne (by omega)).trans ((upR_ne (by omega)).trans ((upR_ne (by omega)).trans (e300))), (upR_ne (by omega)).trans ((upR_ne (by omega)).trans ((upR_ne (by omega)).trans (e301))), (upR_ne (by omega)).trans ((upR_ne (by omega)).trans upR_eq), (upR_ne (by omega)).trans upR_eq, upR_eq⟩ (fun i k h => (upR_ne (by omega)).trans ((upR_ne (by omega)).trans ((upR_ne (by omega)).trans (e3M i k h)))) (by omega) (by omega)
/-- the fields of the reference -/
def FR (T : Nat) (f : Nat → Nat → Option Nat) : Prop := f (2 * T + 269) 3 = some (2 * T + 270) ∧ f (2 * T + 269) 4 = some (2 * T + 271) ∧ f (2 * T + 269) 5 = some (2 * T + 272) ∧ f (2 * T + 269) 6 = some (2 * T + 273) ∧ f (2 * T + 269) 7 = some (2 * T + 274) ∧ f (2 * T + 269) 11 = some (2 * T + 275) ∧ f (2 * T + 269) 12 = some (2 * T + 276) ∧ f (2 * T + 269) 13 = some (2 * T + 277) ∧ f (2 * T + 269) 14 = some (2 * T + 278) ∧ f (2 * T + 269) 17 = some (2 * T + 279) ∧ f (2 * T + 269) 18 = some (2 * T + 280) ∧ f (2 * T + 269) 19 = some (2 * T + 281) ∧ f (2 * T + 269) 20 = some (2 * T + 282)
theorem c_M_init_2 {a b : Nat} {x y : Int} (hP6 : 1 ≤ P ∧ P ≤ 6) (hT8 : 1 ≤ T ∧ T ≤ 8) (hy : (if 1 < (if y < 8 then y else 8) then (if y < 8 then y else 8) else 1) = (T : Int)) (hPo : Po (.inl none) (SS P T (2 * T + 283) f, gB P T, a, b, true)) : aw l E M_init d 138 [some (rV (2 * T + 269)), some (iV x), some (iV y), none, none, none, none] [] (SS P T (2 * T + 283) f, upA (gN P T) (2 * T + 269) 1 (P : Int), a, b, true) Po := by
  have hq : aw l E M_init d 160 [some (rV (2 * T + 269)), some (iV x), some (iV y), none, none, none, none] [iV (T : Int), rV (2 * T + 269)] (SS P T (2 * T + 283) f, upA (gN P T) (2 * T + 269) 1 (P : Int), a, b, true) Po := by
    refine aw_pi M_init_160 (hasS (by omega) (kd_18 (a := 2 * T + 269) (by omega) (by omega))) ?_
    refine aw_retv M_init_163 rfl ?_
    exact hPo
  refine aw_al0 M_init_138 ?_
  refine aw_il2 M_init_139 ?_
  refine aw_c M_init_140 ?_
  refine aw_cge M_init_141 (fun h141 => ?_) (fun h141 => ?_)
  · skip
    refine aw_il2 M_init_148 ?_
    refine aw_c M_init_149 ?_
    refine aw_cle M_init_151 (fun h151 => ?_) (fun h151 => ?_)
    · skip
      refine aw_il2 M_init_159 ?_
      rw [show (T : Int) = (y : Int) by
        rw [← hy]
        by_cases c1 : y < 8
        · rw [if_pos c1]; split <;> omega
        · rw [if_neg c1]; split <;> omega] at hq
      exact hq
    · skip
      refine aw_c M_init_154 ?_
      refine aw_go M_init_156 ?_
      rw [show (T : Int) = (8 : Int) by
        rw [← hy]
        by_cases c1 : y < 8
        · rw [if_pos c1]; split <;> omega
        · rw [if_neg c1]; split <;> omega] at hq
      exact hq
  · skip
    refine aw_c M_init_144 ?_
    refine aw_go M_init_145 ?_
    rw [show (T : Int) = (1 : Int) by
      rw [← hy]
      by_cases c1 : y < 8
      · rw [if_pos c1]; split <;> omega
      · rw [if_neg c1]; split <;> omega] at hq
    exact hq
theorem c_M_init {a b : Nat} {x y : Int} (hP6 : 1 ≤ P ∧ P ≤ 6) (hT8 : 1 ≤ T ∧ T ≤ 8) (hx : (if 1 < (if x < 6 then x else 6) then (if x < 6 then x else 6) else 1) = (P : Int)) (hy : (if 1 < (if y < 8 then y else 8) then (if y < 8 then y else 8) else 1) = (T : Int)) (ha : 100 ≤ a) (hb : 4000 ≤ b) (hd : 1 ≤ d) (hPo : ∀ f' a' b', FR T f' → (∀ i k, i ≠ 2 * T + 269 → f' i k = f i k) → a ≤ a' + 100 → b ≤ b' + 4000 → Po (.inl none) (SS P T (2 * T + 283) f', gB P T, a', b', true)) : Sp l E M_init d [rV (2 * T + 269), iV x, iV y] (SS P T (2 * T + 270) f, gN P T, a, b, true) Po := by
  show aw l E M_init d 0 [some (rV (2 * T + 269)), some (iV x), some (iV y), none, none, none, none] [] (SS P T (2 * T + 270) f, gN P T, a, b, true) Po
  refine aw_al0 M_init_0 ?_
  refine aw_oi M_init_1 (by omega) rfl ?_
  refine aw_al0 M_init_4 ?_
  refine aw_c M_init_5 ?_
  refine an_na (n' := 2 * T + 271) M_init_7 (show (48 : Int) = ((48 : Nat) : Int) from rfl) (by omega) (by omega) (by omega) (kd_19 (a := 2 * T + 270) (by omega) (by omega)) (by omega) (by omega) (fun _ => gN_0 (by omega)) (by omega) ?_
  refine an_pr M_init_9 (by omega) (kd_18 (a := 2 * T + 269) (by omega) (by omega)) (by omega) (fun _ => ⟨rfl, rfl⟩) ?_
  refine aw_al0 M_init_12 ?_
  refine aw_c M_init_13 ?_
  refine an_na (n' := 2 * T + 272) M_init_15 (show (48 : Int) = ((48 : Nat) : Int) from rfl) (by omega) (by omega) (by omega) (kd_19 (a := 2 * T + 271) (by omega) (by omega)) (by omega) (by omega) (fun _ => gN_0 (by omega)) (by omega) ?_
  refine an_pr M_init_17 (by omega) (kd_18 (a := 2 * T + 269) (by omega) (by omega)) (by omega) (fun _ => ⟨rfl, rfl⟩) ?_
  refine aw_al0 M_init_20 ?_
  refine aw_c M_init_21 ?_
  refine an_na (n' := 2 * T + 273) M_init_23 (show (6 : Int) = ((6 : Nat) : Int) from rfl) (by omega) (by omega) (by omega) (kd_20 (a := 2 * T + 272) (by omega) (by omega)) (by omega) (by omega) (fun _ => gN_0 (by omega)) (by omega) ?_
  refine an_pr M_init_25 (by omega) (kd_18 (a := 2 * T + 269) (by omega) (by omega)) (by omega) (fun _ => ⟨rfl, rfl⟩) ?_
  refine aw_al0 M_init_28 ?_
  refine aw_c M_init_29 ?_
  refine an_na (n' := 2 * T + 274) M_init_31 (show (6 : Int) = ((6 : Nat) : Int) from rfl) (by omega) (by omega) (by omega) (kd_20 (a := 2 * T + 273) (by omega) (by omega)) (by omega) (by omega) (fun _ => gN_0 (by omega)) (by omega) ?_
  refine an_pr M_init_33 (by omega) (kd_18 (a := 2 * T + 269) (by omega) (by omega)) (by omega) (fun _ => ⟨rfl, rfl⟩) ?_
  refine aw_al0 M_init_36 ?_
  refine aw_c M_init_37 ?_
  refine an_na (n' := 2 * T + 275) M_init_39 (show (6 : Int) = ((6 : Nat) : Int) from rfl) (by omega) (by omega) (by omega) (kd_20 (a := 2 * T + 274) (by omega) (by omega)) (by omega) (by omega) (fun _ => gN_0 (by omega)) (by omega) ?_
  refine an_pr M_init_41 (by omega) (kd_18 (a := 2 * T + 269) (by omega) (by omega)) (by omega) (fun _ => ⟨rfl, rfl⟩) ?_
  refine aw_al0 M_init_44 ?_
  refine aw_c M_init_45 ?_
  refine an_na (n' := 2 * T + 276) M_init_48 (show (1206 : Int) = ((1206 : Nat) : Int) from rfl) (by omega) (by omega) (by omega) (kd_21 (a := 2 * T + 275) (by omega) (by omega)) (by omega) (by omega) (fun _ => gN_0 (by omega)) (by omega) ?_
  refine an_pr M_init_50 (by omega) (kd_18 (a := 2 * T + 269) (by omega) (by omega)) (by omega) (fun _ => ⟨rfl, rfl⟩) ?_
  refine aw_al0 M_init_53 ?_
  refine aw_c M_init_54 ?_
  refine an_na (n' := 2 * T + 277) M_init_57 (show (201 : Int) = ((201 : Nat) : Int) from rfl) (by omega) (by omega) (by omega) (kd_22 (a := 2 * T + 276) (by omega) (by omega)) (by omega) (by omega) (fun _ => gN_0 (by omega)) (by omega) ?_
  refine an_pr M_init_59 (by omega) (kd_18 (a := 2 * T + 269) (by omega) (by omega)) (by omega) (fun _ => ⟨rfl, rfl⟩) ?_
  refine aw_al0 M_init_62 ?_
  refine aw_c M_init_63 ?_
  refine an_na (n' := 2 * T + 278) M_init_66 (show (201 : Int) = ((201 : Nat) : Int) from rfl) (by omega) (by omega) (by omega) (kd_22 (a := 2 * T + 277) (by omega) (by omega)) (by omega) (by omega) (fun _ => gN_0 (by omega)) (by omega) ?_
  refine an_pr M_init_68 (by omega) (kd_18 (a := 2 * T + 269) (by omega) (by omega)) (by omega) (fun _ => ⟨rfl, rfl⟩) ?_
  refine aw_al0 M_init_71 ?_
  refine aw_c M_init_72 ?_
  refine an_nz (n' := 2 * T + 279) M_init_75 (show (201 : Int) = ((201 : Nat) : Int) from rfl) (by omega) (by omega) (by omega) (kd_23 (a := 2 * T + 278) (by omega) (by omega)) (by omega) (by omega) (fun _ => gN_0 (by omega)) (by omega) ?_
  refine an_pr M_init_77 (by omega) (kd_18 (a := 2 * T + 269) (by omega) (by omega)) (by omega) (fun _ => ⟨rfl, rfl⟩) ?_
  refine aw_al0 M_init_80 ?_
  refine aw_c M_init_81 ?_
  refine an_na (n' := 2 * T + 280) M_init_84 (show (294 : Int) = ((294 : Nat) : Int) from rfl) (by omega) (by omega) (by omega) (kd_24 (a := 2 * T + 279) (by omega) (by omega)) (by omega) (by omega) (fun _ => gN_0 (by omega)) (by omega) ?_
  refine an_pr M_init_86 (by omega) (kd_18 (a := 2 * T + 269) (by omega) (by omega)) (by omega) (fun _ => ⟨rfl, rfl⟩) ?_
  refine aw_al0 M_init_89 ?_
  refine aw_c M_init_90 ?_
  refine an_na (n' := 2 * T + 281) M_init_92 (show (49 : Int) = ((49 : Nat) : Int) from rfl) (by omega) (by omega) (by omega) (kd_25 (a := 2 * T + 280) (by omega) (by omega)) (by omega) (by omega) (fun _ => gN_0 (by omega)) (by omega) ?_
  refine an_pr M_init_94 (by omega) (kd_18 (a := 2 * T + 269) (by omega) (by omega)) (by omega) (fun _ => ⟨rfl, rfl⟩) ?_
  refine aw_al0 M_init_97 ?_
  refine aw_c M_init_98 ?_
  refine an_na (n' := 2 * T + 282) M_init_100 (show (49 : Int) = ((49 : Nat) : Int) from rfl) (by omega) (by omega) (by omega) (kd_25 (a := 2 * T + 281) (by omega) (by omega)) (by omega) (by omega) (fun _ => gN_0 (by omega)) (by omega) ?_
  refine an_pr M_init_102 (by omega) (kd_18 (a := 2 * T + 269) (by omega) (by omega)) (by omega) (fun _ => ⟨rfl, rfl⟩) ?_
  refine aw_al0 M_init_105 ?_
  refine aw_c M_init_106 ?_
  refine an_nz (n' := 2 * T + 283) M_init_108 (show (49 : Int) = ((49 : Nat) : Int) from rfl) (by omega) (by omega) (by omega) (kd_26 (a := 2 * T + 282) (by omega) (by omega)) (by omega) (by omega) (fun _ => gN_0 (by omega)) (by omega) ?_
  refine an_pr M_init_110 (by omega) (kd_18 (a := 2 * T + 269) (by omega) (by omega)) (by omega) (fun _ => ⟨rfl, rfl⟩) ?_
  generalize hF : upR _ _ _ _ = F9
  have hF1 : FR T F9 := by rw [← hF]; exact ⟨by rw [upR_ne (by omega), upR_ne (by omega), upR_ne (by omega), upR_ne (by omega), upR_ne (by omega), upR_ne (by omega), upR_ne (by omega), upR_ne (by omega), upR_ne (by omega), upR_ne (by omega), upR_ne (by omega), upR_ne (by omega), upR_eq], by rw [upR_ne (by omega), upR_ne (by omega), upR_ne (by omega), upR_ne (by omega), upR_ne (by omega), upR_ne (by omega), upR_ne (by omega), upR_ne (by omega), upR_ne (by omega), upR_ne (by omega), upR_ne (by omega), upR_eq], by rw [upR_ne (by omega), upR_ne (by omega), upR_ne (by omega), upR_ne (by omega), upR_ne (by omega), upR_ne (by omega), upR_ne (by omega), upR_ne (by omega), upR_ne (by omega), upR_ne (by omega), upR_eq], by rw [upR_ne (by omega), upR_ne (by omega), upR_ne (by omega), upR_ne (by omega), upR_ne (by omega), upR_ne (by omega), upR_ne (by omega), upR_ne (by omega), upR_ne (by omega), upR_eq], by rw [upR_ne (by omega), upR_ne (by omega), upR_ne (by omega), upR_ne (by omega), upR_ne (by omega), upR_ne (by omega), upR_ne (by omega), upR_ne (by omega), upR_eq], by rw [upR_ne (by omega), upR_ne (by omega), upR_ne (by omega), upR_ne (by omega), upR_ne (by omega), upR_ne (by omega), upR_ne (by omega), upR_eq], by rw [upR_ne (by omega), upR_ne (by omega), upR_ne (by omega), upR_ne (by omega), upR_ne (by omega), upR_ne (by omega), upR_eq], by rw [upR_ne (by omega), upR_ne (by omega), upR_ne (by omega), upR_ne (by omega), upR_ne (by omega), upR_eq], by rw [upR_ne (by omega), upR_ne (by omega), upR_ne (by omega), upR_ne (by omega), upR_eq], by rw [upR_ne (by omega), upR_ne (by omega), upR_ne (by omega), upR_eq], by rw [upR_ne (by omega), upR_ne (by omega), upR_eq], by rw [upR_ne (by omega), upR_eq], by rw [upR_eq]⟩
  have hF2 : ∀ i k, i ≠ 2 * T + 269 → F9 i k = f i k := by rw [← hF]; exact fun i k h => by rw [upR_ne (by omega), upR_ne (by omega), upR_ne (by omega), upR_ne (by omega), upR_ne (by omega), upR_ne (by omega), upR_ne (by omega), upR_ne (by omega), upR_ne (by omega), upR_ne (by omega), upR_ne (by omega), upR_ne (by omega), upR_ne (by omega)]
  have hq9 : ∀ a' b', a ≤ a' + 100 → b ≤ b' + 4000 → aw l E M_init d 113 [some (rV (2 * T + 269)), some (iV x), some (iV y), none, none, none, none] [] (SS P T (2 * T + 283) F9, gN P T, a', b', true) Po := by
    intro a' b' z1 z2
    have hq : aw l E M_init d 135 [some (rV (2 * T + 269)), some (iV x), some (iV y), none, none, none, none] [iV (P : Int), rV (2 * T + 269)] (SS P T (2 * T + 283) F9, gN P T, a', b', true) Po := by
      refine aw_pi M_init_135 (hasS (by omega) (kd_18 (a := 2 * T + 269) (by omega) (by omega))) ?_
      exact c_M_init_2 hP6 hT8 hy (hPo _ _ _ hF1 hF2 z1 z2)
    refine aw_al0 M_init_113 ?_
    refine aw_il1 M_init_114 ?_
    refine aw_c M_init_115 ?_
    refine aw_cge M_init_116 (fun h116 => ?_) (fun h116 => ?_)
    · skip
      refine aw_il1 M_init_123 ?_
      refine aw_c M_init_124 ?_
      refine aw_cle M_init_126 (fun h126 => ?_) (fun h126 => ?_)
      · skip
        refine aw_il1 M_init_134 ?_
        rw [show (P : Int) = (x : Int) by
          rw [← hx]
          by_cases c1 : x < 6
          · rw [if_pos c1]; split <;> omega
          · rw [if_neg c1]; split <;> omega] at hq
        exact hq
      · skip
        refine aw_c M_init_129 ?_
        refine aw_go M_init_131 ?_
        rw [show (P : Int) = (6 : Int) by
          rw [← hx]
          by_cases c1 : x < 6
          · rw [if_pos c1]; split <;> omega
          · rw [if_neg c1]; split <;> omega] at hq
        exact hq
    · skip
      refine aw_c M_init_119 ?_
      refine aw_go M_init_120 ?_
      rw [show (P : Int) = (1 : Int) by
        rw [← hx]
        by_cases c1 : x < 6
        · rw [if_pos c1]; split <;> omega
        · rw [if_neg c1]; split <;> omega] at hq
      exact hq
  exact hq9 _ _ (by omega) (by omega)
theorem WX_of (hP6 : 1 ≤ P ∧ P ≤ 6) (hT8 : 1 ≤ T ∧ T ≤ 8) (hO : FO T f) (hR : FR T f) : WX (SS P T (2 * T + 284) f) P T :=
  ⟨hasS (by omega) (kd_13 (a := 2 * T + 212) (by omega) (by omega)),
   hasS (by omega) (kd_1 (a := 1) (by omega) (by omega)),
   hasS (by omega) (kd_7 (a := 2 * T + 5) (by omega) (by omega)),
   hasS (by omega) (kd_0 (a := 0) (by omega) (by omega)),
   hasS (by omega) (kd_18 (a := 2 * T + 269) (by omega) (by omega)),
   (rfc_o (T := T) (by omega)).trans (hO.2.2.1.1),
   (rfc_o (T := T) (by omega)).trans (hO.2.2.1.2.1),
   hasS (by omega) (kd_16 (a := 2 * T + 217) (by omega) (by omega)),
   fun t ht => (rfc_n (T := T) (f := f) (a := 2 * T + 217) (by omega)).trans (by unfold RFf; rw [if_neg (by omega), if_neg (by omega), if_neg (by omega), if_pos rfl, if_pos ht]),
   fun t ht => hasS (by omega) (kd_17 (by omega) (by omega)),
   (rfc_o (T := T) (by omega)).trans (hO.2.2.1.2.2.1),
   hasS (by omega) (kd_14 (a := 2 * T + 213) (by omega) (by omega)),
   (rfc_o (T := T) (by omega)).trans (hO.2.2.1.2.2.2.1),
   hasS (by omega) (kd_14 (a := 2 * T + 214) (by omega) (by omega)),
   (rfc_o (T := T) (by omega)).trans (hO.2.2.1.2.2.2.2.1),
   hasS (by omega) (kd_14 (a := 2 * T + 215) (by omega) (by omega)),
   (rfc_o (T := T) (by omega)).trans (hO.2.2.1.2.2.2.2.2.1),
   hasS (by omega) (kd_15 (a := 2 * T + 216) (by omega) (by omega)),
   (rfc_o (T := T) (by omega)).trans (hO.2.2.1.2.2.2.2.2.2),
   hasS (by omega) (kd_17 (a := 2 * T + 266) (by omega) (by omega)),
   (rfc_o (T := T) (by omega)).trans (hO.1.1),
   hasS (by omega) (kd_2 (a := 2) (by omega) (by omega)),
   fun t ht => (rfc_n (T := T) (f := f) (a := 2) (by omega)).trans (by unfold RFf; rw [if_pos rfl, if_pos ht]),
   fun t ht => hasS (by omega) (kd_3 (by omega) (by omega)),
   (rfc_o (T := T) (by omega)).trans (hO.1.2.1),
   hasS (by omega) (kd_4 (a := T + 3) (by omega) (by omega)),
   fun t ht => (rfc_n (T := T) (f := f) (a := T + 3) (by omega)).trans (by unfold RFf; rw [if_neg (by omega), if_pos rfl, if_pos ht]),
   fun t ht => hasS (by omega) (kd_5 (by omega) (by omega)),
   (rfc_o (T := T) (by omega)).trans (hO.1.2.2),
   hasS (by omega) (kd_6 (a := 2 * T + 4) (by omega) (by omega)),
   (rfc_o (T := T) (by omega)).trans (hO.2.1.1),
   (rfc_o (T := T) (by omega)).trans (hO.2.1.2.1),
   hasS (by omega) (kd_11 (a := 2 * T + 11) (by omega) (by omega)),
   fun t ht => (rfc_n (T := T) (f := f) (a := 2 * T + 11) (by omega)).trans (by unfold RFf; rw [if_neg (by omega), if_neg (by omega), if_pos rfl, if_pos ht]),
   fun t ht => hasS (by omega) (kd_12 (by omega) (by omega)),
   (rfc_o (T := T) (by omega)).trans (hO.2.1.2.2.1),
   hasS (by omega) (kd_8 (a := 2 * T + 6) (by omega) (by omega)),
   (rfc_o (T := T) (by omega)).trans (hO.2.1.2.2.2.1),
   hasS (by omega) (kd_8 (a := 2 * T + 7) (by omega) (by omega)),
   (rfc_o (T := T) (by omega)).trans (hO.2.1.2.2.2.2.1),
   hasS (by omega) (kd_8 (a := 2 * T + 8) (by omega) (by omega)),
   (rfc_o (T := T) (by omega)).trans (hO.2.1.2.2.2.2.2.1),
   hasS (by omega) (kd_9 (a := 2 * T + 9) (by omega) (by omega)),
   (rfc_o (T := T) (by omega)).trans (hO.2.1.2.2.2.2.2.2),
   hasS (by omega) (kd_10 (a := 2 * T + 10) (by omega) (by omega)),
   (rfc_o (T := T) (by omega)).trans (hO.2.2.2.1),
   (rfc_o (T := T) (by omega)).trans (hO.2.2.2.2.1),
   (rfc_o (T := T) (by omega)).trans (hO.2.2.2.2.2.1),
   (rfc_o (T := T) (by omega)).trans (hO.2.2.2.2.2.2.1),
   hasS (by omega) (kd_17 (a := 2 * T + 267) (by omega) (by omega)),
   (rfc_o (T := T) (by omega)).trans (hO.2.2.2.2.2.2.2),
   hasS (by omega) (kd_17 (a := 2 * T + 268) (by omega) (by omega)),
   (rfc_o (T := T) (by omega)).trans (hR.1),
   hasS (by omega) (kd_19 (a := 2 * T + 270) (by omega) (by omega)),
   (rfc_o (T := T) (by omega)).trans (hR.2.1),
   hasS (by omega) (kd_19 (a := 2 * T + 271) (by omega) (by omega)),
   (rfc_o (T := T) (by omega)).trans (hR.2.2.1),
   hasS (by omega) (kd_20 (a := 2 * T + 272) (by omega) (by omega)),
   (rfc_o (T := T) (by omega)).trans (hR.2.2.2.1),
   hasS (by omega) (kd_20 (a := 2 * T + 273) (by omega) (by omega)),
   (rfc_o (T := T) (by omega)).trans (hR.2.2.2.2.1),
   hasS (by omega) (kd_20 (a := 2 * T + 274) (by omega) (by omega)),
   (rfc_o (T := T) (by omega)).trans (hR.2.2.2.2.2.1),
   hasS (by omega) (kd_21 (a := 2 * T + 275) (by omega) (by omega)),
   (rfc_o (T := T) (by omega)).trans (hR.2.2.2.2.2.2.1),
   hasS (by omega) (kd_22 (a := 2 * T + 276) (by omega) (by omega)),
   (rfc_o (T := T) (by omega)).trans (hR.2.2.2.2.2.2.2.1),
   hasS (by omega) (kd_22 (a := 2 * T + 277) (by omega) (by omega)),
   (rfc_o (T := T) (by omega)).trans (hR.2.2.2.2.2.2.2.2.1),
   hasS (by omega) (kd_23 (a := 2 * T + 278) (by omega) (by omega)),
   (rfc_o (T := T) (by omega)).trans (hR.2.2.2.2.2.2.2.2.2.1),
   hasS (by omega) (kd_24 (a := 2 * T + 279) (by omega) (by omega)),
   (rfc_o (T := T) (by omega)).trans (hR.2.2.2.2.2.2.2.2.2.2.1),
   hasS (by omega) (kd_25 (a := 2 * T + 280) (by omega) (by omega)),
   (rfc_o (T := T) (by omega)).trans (hR.2.2.2.2.2.2.2.2.2.2.2.1),
   hasS (by omega) (kd_25 (a := 2 * T + 281) (by omega) (by omega)),
   (rfc_o (T := T) (by omega)).trans (hR.2.2.2.2.2.2.2.2.2.2.2.2),
   hasS (by omega) (kd_26 (a := 2 * T + 282) (by omega) (by omega)),
   hasS (by omega) (kd_27 (a := 2 * T + 283) (by omega) (by omega)),
   hP6,
   hT8⟩
theorem XS_of (hP6 : 1 ≤ P ∧ P ≤ 6) (hT8 : 1 ≤ T ∧ T ≤ 8) : XS P T (gB P T) (fun _ _ => 0) (fun _ _ => 0) (fun _ => 0) (fun _ => 0) (fun _ => 0) 0 False False := by
  refine ⟨⟨(gB_N (by omega)).trans gN_P, (gB_N (by omega)).trans gN_T, fun t ht p hp => ⟨gB_0 (by omega) (by omega), gB_0 (by omega) (by omega)⟩, fun p hp => gB_0 (by omega) (by omega)⟩, ⟨fun t ht p hp => ⟨Int.le_refl _, (show (0 : Int) ≤ 9 by decide), Int.le_refl _, (show (0 : Int) ≤ 9 by decide)⟩, fun p hp => ⟨Int.le_refl _, (show (0 : Int) ≤ 100 by decide)⟩⟩, fun p hp => ⟨gB_0 (by omega) (by omega), Int.le_refl _, (show (0 : Int) ≤ 100 by decide)⟩, fun p hp => ⟨gB_0 (by omega) (by omega), Int.le_refl _, (show (0 : Int) ≤ 100 + 9 * ((0 : Nat) : Int) by decide)⟩, gB_0 (by omega) (by omega), ?_, ?_, fun z => z.elim, fun z => z.elim⟩
  · rw [gB_0 (by omega) (by omega)]; exact (cI_n id).symm
  · rw [gB_0 (by omega) (by omega)]; exact (cI_n id).symm
theorem MS_of (hP6 : 1 ≤ P ∧ P ≤ 6) (hT8 : 1 ≤ T ∧ T ≤ 8) : MS P T (gB P T) (fun _ _ => 0) (fun _ _ => 0) (fun _ => 0) (fun _ => 0) (fun _ => 0) 0 False False := by
  refine ⟨⟨gB_P, gB_T, fun t ht p hp => ⟨gB_0 (by omega) (by omega), gB_0 (by omega) (by omega)⟩, fun p hp => gB_0 (by omega) (by omega)⟩, fun p hp => ⟨gB_0 (by omega) (by omega), gB_0 (by omega) (by omega)⟩, gB_0 (by omega) (by omega), ?_, ?_, fun z => z.elim, fun z => z.elim⟩
  · rw [gB_0 (by omega) (by omega)]; exact (cI_n id).symm
  · rw [gB_0 (by omega) (by omega)]; exact (cI_n id).symm
end CO
