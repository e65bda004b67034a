section
/-- a private method of a class that the tables say can be made, by its rows of tables_1 -/
def lw_okq (q : MethodName × Nat) : Prop := (q.1.cls ≠ "java/lang/invoke/MethodHandle" ∧ q.1.cls ≠ "java/lang/invoke/VarHandle") ∧ Cond.instantiable q.1.cls q.2 ∈ tables_1 ∧ Cond.privateMethod q.1 ∈ tables_1 ∧ Cond.instanceMethod q.1 ∈ tables_1
theorem lw_p0 : lw_okq (⟨"OmegaNets", "returnToStart", "()V"⟩, 6) := ⟨⟨by decide +kernel, by decide +kernel⟩, List.mem_of_getElem? (i := 16) (by decide +kernel), List.mem_of_getElem? (i := 178) (by decide +kernel), List.mem_of_getElem? (i := 179) (by decide +kernel)⟩
theorem lw_p1 : lw_okq (⟨"OmegaNets", "checkTransition", "(I)V"⟩, 6) := ⟨⟨by decide +kernel, by decide +kernel⟩, List.mem_of_getElem? (i := 16) (by decide +kernel), List.mem_of_getElem? (i := 197) (by decide +kernel), List.mem_of_getElem? (i := 198) (by decide +kernel)⟩
theorem lw_p2 : lw_okq (⟨"java/lang/Throwable", "fillInStackTrace", "(I)Ljava/lang/Throwable;"⟩, 6) := ⟨⟨by decide +kernel, by decide +kernel⟩, List.mem_of_getElem? (i := 243) (by decide +kernel), List.mem_of_getElem? (i := 241) (by decide +kernel), List.mem_of_getElem? (i := 242) (by decide +kernel)⟩
theorem lw_p3 : lw_okq (⟨"OmegaNets", "checkPlace", "(I)V"⟩, 6) := ⟨⟨by decide +kernel, by decide +kernel⟩, List.mem_of_getElem? (i := 16) (by decide +kernel), List.mem_of_getElem? (i := 273) (by decide +kernel), List.mem_of_getElem? (i := 274) (by decide +kernel)⟩
theorem lw_p4 : lw_okq (⟨"OmegaNets", "forgetTreeAndGoals", "()V"⟩, 6) := ⟨⟨by decide +kernel, by decide +kernel⟩, List.mem_of_getElem? (i := 16) (by decide +kernel), List.mem_of_getElem? (i := 296) (by decide +kernel), List.mem_of_getElem? (i := 297) (by decide +kernel)⟩
theorem lw_p5 : lw_okq (⟨"OmegaNets$Tree", "plant", "()V"⟩, 10) := ⟨⟨by decide +kernel, by decide +kernel⟩, List.mem_of_getElem? (i := 69) (by decide +kernel), List.mem_of_getElem? (i := 352) (by decide +kernel), List.mem_of_getElem? (i := 353) (by decide +kernel)⟩
theorem lw_p6 : lw_okq (⟨"OmegaNets$Tree", "repeatsOneAbove", "(I)Z"⟩, 10) := ⟨⟨by decide +kernel, by decide +kernel⟩, List.mem_of_getElem? (i := 69) (by decide +kernel), List.mem_of_getElem? (i := 357) (by decide +kernel), List.mem_of_getElem? (i := 358) (by decide +kernel)⟩
theorem lw_p7 : lw_okq (⟨"OmegaNets$Tree", "branch", "(I)Z"⟩, 10) := ⟨⟨by decide +kernel, by decide +kernel⟩, List.mem_of_getElem? (i := 69) (by decide +kernel), List.mem_of_getElem? (i := 365) (by decide +kernel), List.mem_of_getElem? (i := 366) (by decide +kernel)⟩
theorem lw_p8 : lw_okq (⟨"OmegaNets$Tree", "addNode", "(II)V"⟩, 10) := ⟨⟨by decide +kernel, by decide +kernel⟩, List.mem_of_getElem? (i := 69) (by decide +kernel), List.mem_of_getElem? (i := 370) (by decide +kernel), List.mem_of_getElem? (i := 371) (by decide +kernel)⟩
theorem lw_p9 : lw_okq (⟨"OmegaNets$Tree", "lift", "(I)V"⟩, 10) := ⟨⟨by decide +kernel, by decide +kernel⟩, List.mem_of_getElem? (i := 69) (by decide +kernel), List.mem_of_getElem? (i := 375) (by decide +kernel), List.mem_of_getElem? (i := 376) (by decide +kernel)⟩
theorem lw_p10 : lw_okq (⟨"OmegaNets$Tree", "liftOver", "([I[I)Z"⟩, 10) := ⟨⟨by decide +kernel, by decide +kernel⟩, List.mem_of_getElem? (i := 69) (by decide +kernel), List.mem_of_getElem? (i := 379) (by decide +kernel), List.mem_of_getElem? (i := 380) (by decide +kernel)⟩
theorem lw_p11 : lw_okq (⟨"OmegaNets$Tree", "findPeaks", "()V"⟩, 10) := ⟨⟨by decide +kernel, by decide +kernel⟩, List.mem_of_getElem? (i := 69) (by decide +kernel), List.mem_of_getElem? (i := 385) (by decide +kernel), List.mem_of_getElem? (i := 386) (by decide +kernel)⟩
theorem lw_p12 : lw_okq (⟨"OmegaNets$Tree", "isPeak", "(I)Z"⟩, 10) := ⟨⟨by decide +kernel, by decide +kernel⟩, List.mem_of_getElem? (i := 69) (by decide +kernel), List.mem_of_getElem? (i := 389) (by decide +kernel), List.mem_of_getElem? (i := 390) (by decide +kernel)⟩
theorem lw_p13 : lw_okq (⟨"OmegaNets", "checkTree", "()V"⟩, 6) := ⟨⟨by decide +kernel, by decide +kernel⟩, List.mem_of_getElem? (i := 16) (by decide +kernel), List.mem_of_getElem? (i := 416) (by decide +kernel), List.mem_of_getElem? (i := 417) (by decide +kernel)⟩
theorem lw_p14 : lw_okq (⟨"OmegaNets", "checkNode", "(I)V"⟩, 6) := ⟨⟨by decide +kernel, by decide +kernel⟩, List.mem_of_getElem? (i := 16) (by decide +kernel), List.mem_of_getElem? (i := 421) (by decide +kernel), List.mem_of_getElem? (i := 422) (by decide +kernel)⟩
theorem lw_p15 : lw_okq (⟨"OmegaNets$Goals", "plant", "([I)V"⟩, 9) := ⟨⟨by decide +kernel, by decide +kernel⟩, List.mem_of_getElem? (i := 117) (by decide +kernel), List.mem_of_getElem? (i := 524) (by decide +kernel), List.mem_of_getElem? (i := 525) (by decide +kernel)⟩
def lw_privs_1 : List (MethodName × Nat) := [(⟨"OmegaNets", "returnToStart", "()V"⟩, 6), (⟨"OmegaNets", "checkTransition", "(I)V"⟩, 6), (⟨"java/lang/Throwable", "fillInStackTrace", "(I)Ljava/lang/Throwable;"⟩, 6), (⟨"OmegaNets", "checkPlace", "(I)V"⟩, 6), (⟨"OmegaNets", "forgetTreeAndGoals", "()V"⟩, 6), (⟨"OmegaNets$Tree", "plant", "()V"⟩, 10), (⟨"OmegaNets$Tree", "repeatsOneAbove", "(I)Z"⟩, 10), (⟨"OmegaNets$Tree", "branch", "(I)Z"⟩, 10), (⟨"OmegaNets$Tree", "addNode", "(II)V"⟩, 10), (⟨"OmegaNets$Tree", "lift", "(I)V"⟩, 10), (⟨"OmegaNets$Tree", "liftOver", "([I[I)Z"⟩, 10), (⟨"OmegaNets$Tree", "findPeaks", "()V"⟩, 10), (⟨"OmegaNets$Tree", "isPeak", "(I)Z"⟩, 10), (⟨"OmegaNets", "checkTree", "()V"⟩, 6), (⟨"OmegaNets", "checkNode", "(I)V"⟩, 6), (⟨"OmegaNets$Goals", "plant", "([I)V"⟩, 9)]
theorem lw_r1 : ∀ q ∈ lw_privs_1, lw_okq q := List.forall_mem_cons.mpr ⟨lw_p0, List.forall_mem_cons.mpr ⟨lw_p1, List.forall_mem_cons.mpr ⟨lw_p2, List.forall_mem_cons.mpr ⟨lw_p3, List.forall_mem_cons.mpr ⟨lw_p4, List.forall_mem_cons.mpr ⟨lw_p5, List.forall_mem_cons.mpr ⟨lw_p6, List.forall_mem_cons.mpr ⟨lw_p7, List.forall_mem_cons.mpr ⟨lw_p8, List.forall_mem_cons.mpr ⟨lw_p9, List.forall_mem_cons.mpr ⟨lw_p10, List.forall_mem_cons.mpr ⟨lw_p11, List.forall_mem_cons.mpr ⟨lw_p12, List.forall_mem_cons.mpr ⟨lw_p13, List.forall_mem_cons.mpr ⟨lw_p14, List.forall_mem_cons.mpr ⟨lw_p15, fun _ h => absurd h List.not_mem_nil⟩⟩⟩⟩⟩⟩⟩⟩⟩⟩⟩⟩⟩⟩⟩⟩
theorem lw_p16 : lw_okq (⟨"OmegaNets$Goals", "goBack", "(I)Z"⟩, 9) := ⟨⟨by decide +kernel, by decide +kernel⟩, List.mem_of_getElem? (i := 117) (by decide +kernel), List.mem_of_getElem? (i := 529) (by decide +kernel), List.mem_of_getElem? (i := 530) (by decide +kernel)⟩
theorem lw_p17 : lw_okq (⟨"OmegaNets$Goals", "isKnown", "([I)Z"⟩, 9) := ⟨⟨by decide +kernel, by decide +kernel⟩, List.mem_of_getElem? (i := 117) (by decide +kernel), List.mem_of_getElem? (i := 538) (by decide +kernel), List.mem_of_getElem? (i := 539) (by decide +kernel)⟩
theorem lw_p18 : lw_okq (⟨"OmegaNets$Goals", "addCandidate", "(II)V"⟩, 9) := ⟨⟨by decide +kernel, by decide +kernel⟩, List.mem_of_getElem? (i := 117) (by decide +kernel), List.mem_of_getElem? (i := 543) (by decide +kernel), List.mem_of_getElem? (i := 544) (by decide +kernel)⟩
theorem lw_p19 : lw_okq (⟨"OmegaNets", "checkGoals", "()V"⟩, 6) := ⟨⟨by decide +kernel, by decide +kernel⟩, List.mem_of_getElem? (i := 16) (by decide +kernel), List.mem_of_getElem? (i := 559) (by decide +kernel), List.mem_of_getElem? (i := 560) (by decide +kernel)⟩
theorem lw_p20 : lw_okq (⟨"OmegaNets", "goalBelowStart", "()I"⟩, 6) := ⟨⟨by decide +kernel, by decide +kernel⟩, List.mem_of_getElem? (i := 16) (by decide +kernel), List.mem_of_getElem? (i := 577) (by decide +kernel), List.mem_of_getElem? (i := 578) (by decide +kernel)⟩
theorem lw_p21 : lw_okq (⟨"OmegaNetsModel", "isTransition", "(I)Z"⟩, 21) := ⟨⟨by decide +kernel, by decide +kernel⟩, List.mem_of_getElem? (i := 612) (by decide +kernel), List.mem_of_getElem? (i := 690) (by decide +kernel), List.mem_of_getElem? (i := 691) (by decide +kernel)⟩
theorem lw_p22 : lw_okq (⟨"OmegaNetsModel", "isPlace", "(I)Z"⟩, 21) := ⟨⟨by decide +kernel, by decide +kernel⟩, List.mem_of_getElem? (i := 612) (by decide +kernel), List.mem_of_getElem? (i := 694) (by decide +kernel), List.mem_of_getElem? (i := 695) (by decide +kernel)⟩
theorem lw_p23 : lw_okq (⟨"OmegaNetsModel", "changed", "()V"⟩, 21) := ⟨⟨by decide +kernel, by decide +kernel⟩, List.mem_of_getElem? (i := 612) (by decide +kernel), List.mem_of_getElem? (i := 698) (by decide +kernel), List.mem_of_getElem? (i := 699) (by decide +kernel)⟩
theorem lw_p24 : lw_okq (⟨"OmegaNetsModel", "begin", "()V"⟩, 21) := ⟨⟨by decide +kernel, by decide +kernel⟩, List.mem_of_getElem? (i := 612) (by decide +kernel), List.mem_of_getElem? (i := 706) (by decide +kernel), List.mem_of_getElem? (i := 707) (by decide +kernel)⟩
theorem lw_p25 : lw_okq (⟨"OmegaNetsModel", "isLeaf", "(I)Z"⟩, 21) := ⟨⟨by decide +kernel, by decide +kernel⟩, List.mem_of_getElem? (i := 612) (by decide +kernel), List.mem_of_getElem? (i := 730) (by decide +kernel), List.mem_of_getElem? (i := 731) (by decide +kernel)⟩
theorem lw_p26 : lw_okq (⟨"OmegaNetsModel", "isSame", "(II)Z"⟩, 21) := ⟨⟨by decide +kernel, by decide +kernel⟩, List.mem_of_getElem? (i := 612) (by decide +kernel), List.mem_of_getElem? (i := 734) (by decide +kernel), List.mem_of_getElem? (i := 735) (by decide +kernel)⟩
theorem lw_p27 : lw_okq (⟨"OmegaNetsModel", "isBelow", "(II)Z"⟩, 21) := ⟨⟨by decide +kernel, by decide +kernel⟩, List.mem_of_getElem? (i := 612) (by decide +kernel), List.mem_of_getElem? (i := 738) (by decide +kernel), List.mem_of_getElem? (i := 739) (by decide +kernel)⟩
theorem lw_p28 : lw_okq (⟨"OmegaNetsModel", "isEnabled", "(II)Z"⟩, 21) := ⟨⟨by decide +kernel, by decide +kernel⟩, List.mem_of_getElem? (i := 612) (by decide +kernel), List.mem_of_getElem? (i := 742) (by decide +kernel), List.mem_of_getElem? (i := 743) (by decide +kernel)⟩
theorem lw_p29 : lw_okq (⟨"OmegaNetsModel", "grow", "(II)V"⟩, 21) := ⟨⟨by decide +kernel, by decide +kernel⟩, List.mem_of_getElem? (i := 612) (by decide +kernel), List.mem_of_getElem? (i := 746) (by decide +kernel), List.mem_of_getElem? (i := 747) (by decide +kernel)⟩
theorem lw_p30 : lw_okq (⟨"OmegaNetsModel", "raise", "(I)Z"⟩, 21) := ⟨⟨by decide +kernel, by decide +kernel⟩, List.mem_of_getElem? (i := 612) (by decide +kernel), List.mem_of_getElem? (i := 751) (by decide +kernel), List.mem_of_getElem? (i := 752) (by decide +kernel)⟩
theorem lw_p31 : lw_okq (⟨"OmegaNetsModel", "isNode", "(I)Z"⟩, 21) := ⟨⟨by decide +kernel, by decide +kernel⟩, List.mem_of_getElem? (i := 612) (by decide +kernel), List.mem_of_getElem? (i := 759) (by decide +kernel), List.mem_of_getElem? (i := 760) (by decide +kernel)⟩
def lw_privs_2 : List (MethodName × Nat) := [(⟨"OmegaNets$Goals", "goBack", "(I)Z"⟩, 9), (⟨"OmegaNets$Goals", "isKnown", "([I)Z"⟩, 9), (⟨"OmegaNets$Goals", "addCandidate", "(II)V"⟩, 9), (⟨"OmegaNets", "checkGoals", "()V"⟩, 6), (⟨"OmegaNets", "goalBelowStart", "()I"⟩, 6), (⟨"OmegaNetsModel", "isTransition", "(I)Z"⟩, 21), (⟨"OmegaNetsModel", "isPlace", "(I)Z"⟩, 21), (⟨"OmegaNetsModel", "changed", "()V"⟩, 21), (⟨"OmegaNetsModel", "begin", "()V"⟩, 21), (⟨"OmegaNetsModel", "isLeaf", "(I)Z"⟩, 21), (⟨"OmegaNetsModel", "isSame", "(II)Z"⟩, 21), (⟨"OmegaNetsModel", "isBelow", "(II)Z"⟩, 21), (⟨"OmegaNetsModel", "isEnabled", "(II)Z"⟩, 21), (⟨"OmegaNetsModel", "grow", "(II)V"⟩, 21), (⟨"OmegaNetsModel", "raise", "(I)Z"⟩, 21), (⟨"OmegaNetsModel", "isNode", "(I)Z"⟩, 21)]
theorem lw_r2 : ∀ q ∈ lw_privs_2, lw_okq q := List.forall_mem_cons.mpr ⟨lw_p16, List.forall_mem_cons.mpr ⟨lw_p17, List.forall_mem_cons.mpr ⟨lw_p18, List.forall_mem_cons.mpr ⟨lw_p19, List.forall_mem_cons.mpr ⟨lw_p20, List.forall_mem_cons.mpr ⟨lw_p21, List.forall_mem_cons.mpr ⟨lw_p22, List.forall_mem_cons.mpr ⟨lw_p23, List.forall_mem_cons.mpr ⟨lw_p24, List.forall_mem_cons.mpr ⟨lw_p25, List.forall_mem_cons.mpr ⟨lw_p26, List.forall_mem_cons.mpr ⟨lw_p27, List.forall_mem_cons.mpr ⟨lw_p28, List.forall_mem_cons.mpr ⟨lw_p29, List.forall_mem_cons.mpr ⟨lw_p30, List.forall_mem_cons.mpr ⟨lw_p31, fun _ h => absurd h List.not_mem_nil⟩⟩⟩⟩⟩⟩⟩⟩⟩⟩⟩⟩⟩⟩⟩⟩
theorem lw_p32 : lw_okq (⟨"OmegaNetsModel", "depth", "(I)I"⟩, 21) := ⟨⟨by decide +kernel, by decide +kernel⟩, List.mem_of_getElem? (i := 612) (by decide +kernel), List.mem_of_getElem? (i := 774) (by decide +kernel), List.mem_of_getElem? (i := 775) (by decide +kernel)⟩
theorem lw_p33 : lw_okq (⟨"OmegaNetsModel", "isTop", "(I)Z"⟩, 21) := ⟨⟨by decide +kernel, by decide +kernel⟩, List.mem_of_getElem? (i := 612) (by decide +kernel), List.mem_of_getElem? (i := 786) (by decide +kernel), List.mem_of_getElem? (i := 787) (by decide +kernel)⟩
theorem lw_p34 : lw_okq (⟨"OmegaNetsModel", "topAt", "(I)I"⟩, 21) := ⟨⟨by decide +kernel, by decide +kernel⟩, List.mem_of_getElem? (i := 612) (by decide +kernel), List.mem_of_getElem? (i := 794) (by decide +kernel), List.mem_of_getElem? (i := 795) (by decide +kernel)⟩
theorem lw_p35 : lw_okq (⟨"OmegaNetsModel", "makeGoal", "(II)Z"⟩, 21) := ⟨⟨by decide +kernel, by decide +kernel⟩, List.mem_of_getElem? (i := 612) (by decide +kernel), List.mem_of_getElem? (i := 814) (by decide +kernel), List.mem_of_getElem? (i := 815) (by decide +kernel)⟩
theorem lw_p36 : lw_okq (⟨"OmegaNetsModel", "isGoalBelow", "(II)Z"⟩, 21) := ⟨⟨by decide +kernel, by decide +kernel⟩, List.mem_of_getElem? (i := 612) (by decide +kernel), List.mem_of_getElem? (i := 818) (by decide +kernel), List.mem_of_getElem? (i := 819) (by decide +kernel)⟩
theorem lw_p37 : lw_okq (⟨"OmegaNetsModel", "firstGoal", "()I"⟩, 21) := ⟨⟨by decide +kernel, by decide +kernel⟩, List.mem_of_getElem? (i := 612) (by decide +kernel), List.mem_of_getElem? (i := 830) (by decide +kernel), List.mem_of_getElem? (i := 831) (by decide +kernel)⟩
def lw_privs_3 : List (MethodName × Nat) := [(⟨"OmegaNetsModel", "depth", "(I)I"⟩, 21), (⟨"OmegaNetsModel", "isTop", "(I)Z"⟩, 21), (⟨"OmegaNetsModel", "topAt", "(I)I"⟩, 21), (⟨"OmegaNetsModel", "makeGoal", "(II)Z"⟩, 21), (⟨"OmegaNetsModel", "isGoalBelow", "(II)Z"⟩, 21), (⟨"OmegaNetsModel", "firstGoal", "()I"⟩, 21)]
theorem lw_r3 : ∀ q ∈ lw_privs_3, lw_okq q := List.forall_mem_cons.mpr ⟨lw_p32, List.forall_mem_cons.mpr ⟨lw_p33, List.forall_mem_cons.mpr ⟨lw_p34, List.forall_mem_cons.mpr ⟨lw_p35, List.forall_mem_cons.mpr ⟨lw_p36, List.forall_mem_cons.mpr ⟨lw_p37, fun _ h => absurd h List.not_mem_nil⟩⟩⟩⟩⟩⟩
def lw_privs : List (MethodName × Nat) := lw_privs_1 ++ (lw_privs_2 ++ (lw_privs_3))
def lw_tbl : List Cond := k2_sels lw_privs ++ tables_1
theorem lw_privs_ok : ∀ q ∈ lw_privs, lw_okq q := by
  show ∀ q ∈ lw_privs_1 ++ (lw_privs_2 ++ (lw_privs_3)), lw_okq q
  exact List.forall_mem_append.mpr ⟨lw_r1, List.forall_mem_append.mpr ⟨lw_r2, lw_r3⟩⟩
end
section
/-! ===== BEGIN words of one list among another's, by their places ===== -/
theorem goodIn_r {big : List Cond} (ws : List Cond) (ps : List Nat) (hp : ws = ps.filterMap (fun i => big[i]?)) (h : ws.all goodWord = true) : GoodIn big ws := by
  intro w hw
  have h1 := List.all_eq_true.mp h w hw
  rw [hp] at hw
  obtain ⟨i, -, hi⟩ := List.mem_filterMap.mp hw
  have hm : w ∈ big := by first | exact List.mem_of_getElem? hi | exact List.getElem?_mem hi
  exact ⟨hm, good_of_word h1⟩
theorem goodIn_app {big a b : List Cond} (ha : GoodIn big a) (hb : GoodIn big b) : GoodIn big (a ++ b) := fun w h => (List.mem_append.mp h).elim (ha w) (hb w)
theorem goodIn_ca {big a b : List Cond} {c : Cond} (ha : GoodIn big (c :: a)) (hb : GoodIn big b) : GoodIn big (c :: (a ++ b)) := fun w h => (List.mem_cons.mp h).elim (fun e => ha w (List.mem_cons.mpr (Or.inl e))) (fun h => (List.mem_append.mp h).elim (fun h => ha w (List.mem_cons.mpr (Or.inr h))) (hb w))
theorem goodIn_sub {big ws : List Cond} (hm : ∀ w ∈ ws, w ∈ big) (h : ws.all goodWord = true) : GoodIn big ws := fun w hw => ⟨hm w hw, good_of_word (List.all_eq_true.mp h w hw)⟩
/-! ===== END ===== -/

/-! ===== BEGIN new T[n][m]: the outer array a place, the inner ones among the pooled ===== -/
/-- f, but v at every address of l -/
def vr_up {α : Type} (f : Nat → α) (l : List Nat) (v : α) : Nat → α := fun a => if a ∈ l then v else f a
theorem vr_up_in {α : Type} {f : Nat → α} {l : List Nat} {v : α} {a : Nat} (h : a ∈ l) : vr_up f l v a = v := if_pos h
theorem vr_up_ne {α : Type} {f : Nat → α} {l : List Nat} {v : α} {a : Nat} (h : a ∉ l) : vr_up f l v a = f a := if_neg h
theorem vr_rows {L l : List Nat} {f : Nat → va_E} {e : va_E} (h : ∀ a, a ∈ l → a ∉ L) : va_pl L f ++ l.map (fun a => (a, e)) = va_pl (L ++ l) (vr_up f l e) := by
  unfold va_pl
  rw [List.map_append]
  congr 1
  · apply List.map_congr_left
    intro a ha
    rw [vr_up_ne (fun q => h a q ha)]
  · apply List.map_congr_left
    intro a ha
    rw [vr_up_in ha]
theorem vr_lay {X rows : va_W} {x : Nat × va_E} {pl : va_W} {D : va_G} {cl : List vw_C} {H : Heap} (hP : va_P D cl (((X ++ pl) ++ [x]) ++ rows) H) : va_P D cl ((X ++ [x]) ++ (pl ++ rows)) H := by
  rw [List.append_assoc (X ++ pl)] at hP
  have h := va_P.swap hP
  rw [← List.append_assoc X] at h
  have h2 := va_P.swap h
  rw [List.append_assoc (X ++ [x])] at h2
  exact h2
theorem vr_layD {X rows : va_W} {x : Nat × va_E} {pl : va_W} {A : Nat → Prop} (hD : va_D A (((X ++ pl) ++ [x]) ++ rows)) : va_D A ((X ++ [x]) ++ (pl ++ rows)) := by
  rw [List.append_assoc (X ++ pl)] at hD
  have h := va_D.swap hD
  rw [← List.append_assoc X] at h
  have h2 := va_D.swap h
  rw [List.append_assoc (X ++ [x])] at h2
  exact h2
theorem vr_outer (c : ClassId) (N h0 : Nat) : ∀ i : Nat, Jvm.Free.Multi.outerC c N h0 i = arrV c N (fun j => va_rf (if j < i then some (h0 + 1 + j) else none))
  | 0 => by
    show ({ cls := c, slots := Array.replicate N .null, vm := .none } : Cell) = _
    rw [arrV_new]
    refine congrArg (arrV c N) (funext fun j => ?_)
    simp [va_rf]
  | i + 1 => by
    show (Jvm.Free.Multi.outerC c N h0 i).setSlot i (.ref (h0 + 1 + i)) = _
    rw [vr_outer c N h0 i, arrV_store]
    refine congrArg (arrV c N) (funext fun j => ?_)
    by_cases e : j = i
    · subst e
      simp [updV, va_rf]
    · by_cases h : j < i
      · simp [updV, e, h, Nat.lt_succ_of_lt h]
      · simp [updV, e, h, show ¬ j < i + 1 by omega]
section VGM
variable {p : Program} {l : Launch} {e : Env} {R : Room} {s : State} {m : MethodId} {args : Array Value} {below : List Frame} {meth : Method} {c : Code} {H : Heap} {locs : List Loc} {cells slots : Nat} {Q : State → Prop}
variable {cc : ByteArray} {pc : Nat} {ls : Array Slot} {rest : List Value} {D : va_G} {cl : List vw_C} {A : Nat → Prop} {a : Nat} {tys : List (ClassId × FieldType)} {ws : va_W} {H0 : Heap}
theorem va_mna {X : va_W} {L : List Nat} {f : Nat → va_E} {cc : ByteArray} (hexec : p.tables.exec = Jvm.exec) (hb : c.code = cc) {own : String} {index : Nat} {ty : FieldType} {cy : ClassId} (hown : s.vm.findClass own = some m.cls) (hclink : (Cond.classLink own index ("[" ++ (FieldType.array ty).toString)).before args s = true) (hover : (Cond.arrayOver (.array ty)).before args s = true) (harr : (Cond.arrayClass ty).before args s = true) (hcy : s.vm.findClass (FieldType.array ty).toString = some cy)
    (hK : va_K D cl tys s) (hP : va_P D cl (X ++ va_pl L f) H) (hD : va_D A (X ++ va_pl L f)) (hS : va_S A H0 H locs) (hA : ∀ q, H0.size ≤ q → A q) {n k : Int32} {N' K' : Nat} {z : vp_A} (hn : ¬ n < 0) (hk : ¬ k < 0) (hN : n.toNatClampNeg = N') (hM : k.toNatClampNeg = K')
    (hb1 : N' * 4 ≤ 536870912) (hb2 : K' * componentBytes ty ≤ 536870912) (hb3 : K' ≤ 536870912) (hdf : fits ty (defaultValue ty) = true) (hdd : (defaultValue ty).isDefault = true) (hcells : cells + (1 + N') ≤ R.cells) (hslots : slots + (N' + N' * K') ≤ R.slots) (hz : ∀ c : ClassId, Jvm.Free.Multi.innerC c K' (defaultValue ty) = vp_cell c z) (hdg : decode cc pc = .ok (.multianewarray index 2, 4))
    (kk : ∀ (q : Nat) (r : Nat → Nat) (cA : ClassId) (H1 : Heap), (∀ i j : Nat, i < N' → j < N' → r i = r j → i = j) → (∀ i : Nat, i < N' → r i ∉ L) → va_K D cl (tys ++ [(cA, .array ty)]) s →
      va_P D cl ((X ++ [(q, .inl (cA, N', .inr (.inr (.inr (.inr (fun i => if i < N' then some (r i) else none))))))]) ++ va_pl (L ++ (List.range N').map r) (vr_up f ((List.range N').map r) (.inl (cy, z)))) H1 → va_D A ((X ++ [(q, .inl (cA, N', .inr (.inr (.inr (.inr (fun i => if i < N' then some (r i) else none))))))]) ++ va_pl (L ++ (List.range N').map r) (vr_up f ((List.range N').map r) (.inl (cy, z)))) → va_S A H0 H1 locs →
      W p l e R s m args below meth c H1 locs (cells + 1 + N') (slots + N' + N' * K') Q (F0 m (pc + 4) ls (.ref q :: rest))) : W p l e R s m args below meth c H locs cells slots Q (F0 m pc ls (.int k :: .int n :: rest)) := by
  subst hN
  subst hM
  intro T hT Xs
  obtain ⟨vm₁, cA, comp, -, fA, fC, hO, -, X', step⟩ := Xs.multianewarray2F hexec hown hclink hover harr (g := F0 m pc ls (.int k :: .int n :: rest)) rfl (by rw [hb]; exact hdg) rfl hn hk hb1 hb2 hb3 hdf hdd hcells hslots
  have ec : some cy = some comp := hcy.symm.trans fC
  cases ec
  generalize hF : Jvm.Free.Multi.fill (T.setVm vm₁) cA cy n.toNatClampNeg k.toNatClampNeg (defaultValue ty) n.toNatClampNeg = F at X' step
  have hTh : (T.setVm vm₁).heap = H := hT
  obtain ⟨f1, f2, -, -⟩ := Jvm.Free.Multi.fill_facts (T.setVm vm₁) cA cy n.toNatClampNeg k.toNatClampNeg (defaultValue ty) n.toNatClampNeg
  rw [hF, hTh] at f1 f2
  have hold : ∀ x : Nat, x < H.size → F.heap[x]? = H[x]? := fun x hx => by
    have := Jvm.Free.Multi.fill_old (T.setVm vm₁) cA cy n.toNatClampNeg k.toNatClampNeg (defaultValue ty) (a := x) (by rw [hTh]; exact hx) n.toNatClampNeg
    rw [hF, hTh] at this
    exact this
  have hrow : ∀ j : Nat, j < n.toNatClampNeg → F.heap[H.size + 1 + j]? = some (vp_cell cy z) := fun j hj => by
    have := Jvm.Free.Multi.fill_inner (T.setVm vm₁) cA cy n.toNatClampNeg k.toNatClampNeg (defaultValue ty) n.toNatClampNeg j hj
    rw [hF, hTh, hz] at this
    exact this
  have hout : Jvm.Free.Multi.outerC cA n.toNatClampNeg H.size n.toNatClampNeg = vp_cell cA (n.toNatClampNeg, .inr (.inr (.inr (.inr (fun i => if i < n.toNatClampNeg then some (H.size + 1 + i) else none))))) := by
    rw [vp_cell_q]
    exact vr_outer cA n.toNatClampNeg H.size n.toNatClampNeg
  rw [hout] at f2
  have hlt : ∀ a, a ∈ L → a < H.size := fun a ha => by
    obtain ⟨k9, hk9⟩ := va_pl_get (X := X) (f := f) ha
    exact (hP k9 _ hk9).lt
  have hnl : ∀ i : Nat, i < n.toNatClampNeg → H.size + 1 + i ∉ L := fun i _ h => by
    have := hlt _ h
    omega
  have hnm : ∀ a, a ∈ (List.range n.toNatClampNeg).map (fun i => H.size + 1 + i) → a ∉ L := fun a ha h => by
    obtain ⟨i, -, rfl⟩ := List.mem_map.mp ha
    have := hlt _ h
    omega
  have hP0 : va_P D cl (X ++ va_pl L f) F.heap := hP.kept (fun k9 x hx => hold x.1 ((hP k9 x hx).lt))
  have hP1 : va_P D cl ((X ++ va_pl L f) ++ [(H.size, .inl (cA, n.toNatClampNeg, .inr (.inr (.inr (.inr (fun i => if i < n.toNatClampNeg then some (H.size + 1 + i) else none))))))]) F.heap := hP0.app (fun k9 x hx => by
    have h0 : k9 < 1 := (List.getElem?_eq_some_iff.mp hx).1
    rw [show k9 = 0 by omega] at hx
    cases hx
    exact f2)
  have hP2 : va_P D cl (((X ++ va_pl L f) ++ [(H.size, .inl (cA, n.toNatClampNeg, .inr (.inr (.inr (.inr (fun i => if i < n.toNatClampNeg then some (H.size + 1 + i) else none))))))]) ++ ((List.range n.toNatClampNeg).map (fun i => H.size + 1 + i)).map (fun a => (a, .inl (cy, z)))) F.heap := hP1.app (fun k9 x hx => by
    obtain ⟨a, ha, rfl⟩ := List.mem_map.mp (List.mem_of_getElem? hx)
    obtain ⟨i, hi, rfl⟩ := List.mem_map.mp ha
    exact hrow i (List.mem_range.mp hi))
  have hD2 : va_D A (((X ++ va_pl L f) ++ [(H.size, .inl (cA, n.toNatClampNeg, .inr (.inr (.inr (.inr (fun i => if i < n.toNatClampNeg then some (H.size + 1 + i) else none))))))]) ++ ((List.range n.toNatClampNeg).map (fun i => H.size + 1 + i)).map (fun a => (a, .inl (cy, z)))) := by
    have hD1 := hD.push (e := .inl (cA, n.toNatClampNeg, .inr (.inr (.inr (.inr (fun i => if i < n.toNatClampNeg then some (H.size + 1 + i) else none)))))) hP rfl (hA _ hS.1)
    generalize hW1 : (X ++ va_pl L f) ++ [(H.size, .inl (cA, n.toNatClampNeg, .inr (.inr (.inr (.inr (fun i => if i < n.toNatClampNeg then some (H.size + 1 + i) else none))))))] = W1 at hD1 hP1 ⊢
    have hle : ∀ (k9 : Nat) (x : Nat × va_E), W1[k9]? = some x → x.1 ≤ H.size := fun k9 x hx => by
      rw [← hW1] at hx
      by_cases hl : k9 < (X ++ va_pl L f).length
      · rw [List.getElem?_append_left hl] at hx
        exact Nat.le_of_lt ((hP k9 x hx).lt)
      · rw [List.getElem?_append_right (by omega)] at hx
        have h0 : k9 - (X ++ va_pl L f).length < 1 := (List.getElem?_eq_some_iff.mp hx).1
        rw [show k9 - (X ++ va_pl L f).length = 0 by omega] at hx
        cases hx
        exact Nat.le_refl _
    have hr : ∀ (k9 : Nat) (x : Nat × va_E), (((List.range n.toNatClampNeg).map (fun i => H.size + 1 + i)).map (fun a => ((a, .inl (cy, z)) : Nat × va_E)))[k9]? = some x → x.1 = H.size + 1 + k9 := fun k9 x hx => by
      rw [List.getElem?_map, List.getElem?_map] at hx
      by_cases h9 : k9 < n.toNatClampNeg
      · rw [List.getElem?_range h9] at hx
        cases hx
        rfl
      · have hn0 : (List.range n.toNatClampNeg)[k9]? = none := List.getElem?_eq_none (by rw [List.length_range]; omega)
        rw [hn0] at hx
        cases hx
    refine ⟨fun i j x y hi hj hxy => ?_, fun k9 x hx => ?_⟩
    · by_cases h1 : i < W1.length <;> by_cases h2 : j < W1.length
      · rw [List.getElem?_append_left h1] at hi
        rw [List.getElem?_append_left h2] at hj
        exact hD1.1 i j x y hi hj hxy
      · rw [List.getElem?_append_left h1] at hi
        rw [List.getElem?_append_right (by omega)] at hj
        have := hle _ _ hi
        have := hr _ _ hj
        omega
      · rw [List.getElem?_append_right (by omega)] at hi
        rw [List.getElem?_append_left h2] at hj
        have := hle _ _ hj
        have := hr _ _ hi
        omega
      · rw [List.getElem?_append_right (by omega)] at hi hj
        have := hr _ _ hi
        have := hr _ _ hj
        omega
    · by_cases h1 : k9 < W1.length
      · rw [List.getElem?_append_left h1] at hx
        exact hD1.2 k9 x hx
      · rw [List.getElem?_append_right (by omega)] at hx
        have := hr _ _ hx
        exact hA _ (by have := hS.1; omega)
  have hAr : ArrOfT s cA (.array ty) := fun N9 z9 => by
    obtain ⟨-, k9, hk9, cm9, hkk9⟩ := (hO 0 0 0).1
    exact ⟨(fun q hq => by cases hq), k9, hk9, cm9, hkk9⟩
  have hK2 : va_K D cl (tys ++ [(cA, .array ty)]) s := ⟨hK.1, fun k9 x hx => by
    by_cases hl : k9 < tys.length
    · rw [List.getElem?_append_left hl] at hx
      exact hK.2 k9 x hx
    · rw [List.getElem?_append_right (by omega)] at hx
      have h0 : k9 - tys.length < 1 := (List.getElem?_eq_some_iff.mp hx).1
      rw [show k9 - tys.length = 0 by omega] at hx
      cases hx
      exact ⟨hAr, fA⟩⟩
  obtain ⟨t, a1, b1⟩ := kk H.size (fun i => H.size + 1 + i) cA F.heap (fun i j _ _ h => by have h9 : H.size + 1 + i = H.size + 1 + j := h; omega) hnl hK2 (by rw [← vr_rows hnm]; exact vr_lay hP2) (by rw [← vr_rows hnm]; exact vr_layD hD2) ⟨by rw [f1]; have := hS.1; omega, fun x h1 h2 => (hold x (Nat.lt_of_lt_of_le h1 hS.1)).trans (hS.2.1 x h1 h2), hS.2.2⟩ F rfl X'
  refine ⟨t, step t ?_, b1⟩
  have e : T.heap.size = H.size := by rw [hT]
  rw [e]
  exact a1
end VGM
/-! ===== END ===== -/
section VXA
/-- where a method has thrown q: the class by its name, the cell, what was written, the world -/
def vx_T (XC : String → State → State → Prop) (st : State) (q : Addr) (t : State) (mc ms : Nat) (free : Addr → Prop) : Prop :=
  ∃ (E : String) (ce : Cell) (L : List Loc), XC E st t ∧ t.heap[q]? = some ce ∧ ce.vm = .none ∧ st.vm.findClass E = some ce.cls ∧ st.WarmedH t.vm ∧ st.sameButNew ({ t with vm := st.vm } : State) L mc ms ∧ ∀ z ∈ L, free z.base
def vx_Q (Qc : Array Value → State → Outcome → State → Prop) (XC : String → State → State → Prop) (mc ms : Nat) (free : Addr → Prop) : Array Value → State → Outcome → State → Prop := fun a st o t =>
  (Qc a st o t ∧ ∃ L, FrameEnd st o t L mc ms ∧ ∀ q ∈ L, free q.base) ∨ ∃ q, o = .threw q ∧ vx_T XC st q t mc ms free
/-- the method's frame g, with q thrown over it -/
def vx_W (p : Program) (l : Launch) (e : Env) (R : Room) (s : State) (m : MethodId) (args : Array Value) (below : List Frame) (meth : Method) (c : Code) (H : Heap) (locs : List Loc) (cells slots : Nat) (Q : State → Prop) (g : JFrame) (q : Addr) : Prop :=
  ∀ T : State, T.heap = H → Stand p l e R s m args below meth c T locs cells slots → ∃ t, Steps p.tables e below ((T.setTop g).pushFrame (.throwing q)) t ∧ Q t
section Rows
variable {p : Program} {l : Launch} {e : Env} {R : Room} {s : State} {m : MethodId} {args : Array Value} {below : List Frame} {meth : Method} {c : Code} {H : Heap} {locs : List Loc} {cells slots : Nat} {Q : State → Prop}
variable {mc ms : Nat} {free : Addr → Prop} {A0 A1 : Nat → Prop} {H0 : Heap} {a : Array Value} {pc : Nat} {ls : Array Slot} {st0 rest : List Value}
theorem vx_catch {own name : String} {E : String} {ce : Cell} {q : Addr} (hown : s.vm.findClass own = some m.cls) (pre : List ExceptionTableEntry) (x : ExceptionTableEntry) (suf : List ExceptionTableEntry) (hsplit : c.exceptionTable.toList = pre ++ x :: suf)
    (hpass : ∀ z ∈ pre, covers z pc = false ∨ (z.catchType ≠ 0 ∧ ∃ nm : String, (Cond.classLink own z.catchType nm).before args s = true ∧ va_Nc E nm s)) (hx : covers x pc = true) (h0 : x.catchType ≠ 0)
    (hlink : (Cond.classLink own x.catchType name).before args s = true) (hcast : (Cond.castable E name).before args s = true) (hcell : H[q]? = some ce) (hv : ce.vm = .none) (hcl : s.vm.findClass E = some ce.cls)
    (kk : W p l e R s m args below meth c H locs cells slots Q (F0 m x.handlerPc ls [.ref q])) : vx_W p l e R s m args below meth c H locs cells slots Q (F0 m pc ls rest) q := by
  intro T hT X
  have hpl : e.platform.magicAccessors = ({} : Platform).magicAccessors := by rw [X.admits.platform]
  obtain ⟨c3, c4, hc3, hc4, hasg⟩ := Cond.castable_spec hcast
  cases Option.some.inj (hc3.symm.trans hcl)
  obtain ⟨c5, hc5, hcl5⟩ := Cond.classLink_spec hown hlink e.platform hpl
  cases Option.some.inj (hc4.symm.trans hc5)
  obtain ⟨vm', X', st⟩ := X.thenCaughtThrough q (g := F0 m pc ls rest) rfl (Steps.refl _) (by rw [hT]; exact hcell) (by rw [hv]; rfl) (by obtain ⟨k9, h9, -⟩ := Vm.findClass_spec hcl; exact ⟨k9, h9⟩) pre x suf hsplit
    (fun z hz => by
      rcases hpass z hz with h | ⟨hz0, nm, hl1, hn1⟩
      · exact Or.inl h
      · obtain ⟨c6, hc6, hcl6⟩ := Cond.classLink_spec hown hl1 e.platform hpl
        obtain ⟨a8, b8, h1, h2, h3⟩ := hn1
        cases Option.some.inj (h1.symm.trans hcl)
        cases Option.some.inj (h2.symm.trans hc6)
        exact Or.inr ⟨hz0, _, hcl6, h3⟩) hx (Or.inr ⟨h0, c4, hcl5, hasg⟩)
  obtain ⟨t, a1, b1⟩ := kk (T.setVm vm') hT X'
  exact ⟨t, st.trans a1, b1⟩
end Rows
section Ends
variable {p : Program} {l : Launch} {e : Env} {R : Room} {s : State} {m : MethodId} {args : Array Value} {below : List Frame} {meth : Method} {c : Code} {H : Heap} {locs : List Loc} {cells slots : Nat} {Q : State → Prop}
variable {mc ms : Nat} {free : Addr → Prop} {A0 A1 : Nat → Prop} {H0 : Heap} {a : Array Value} {ls : Array Slot} {st0 rest : List Value}
variable {Qc : Array Value → State → Outcome → State → Prop} {XC : String → State → State → Prop}
/-- what a body that may throw owes at its end -/
def vx_MQ (below : List Frame) (Qc : Array Value → State → Outcome → State → Prop) (XC : String → State → State → Prop) (a : Array Value) (s : State) (mc ms : Nat) (free : Addr → Prop) : State → Prop := fun t =>
  ∃ o, t.status = .running ∧ Ended t below o ∧ vx_Q Qc XC mc ms free a s o t
theorem vx_frame {U : State} {k n : Nat} (h : s.sameButNew ({ U with vm := s.vm } : State) locs k n) : s.heap.size ≤ U.heap.size ∧ ∀ q : Nat, q < s.heap.size → (∀ z ∈ locs, z.base ≠ q) → U.heap[q]? = s.heap[q]? := by
  obtain ⟨-, h2, -, -, -, h6⟩ := h
  refine ⟨h2, fun q hq hz => ?_⟩
  obtain ⟨c9, e1, e2, e3, e4⟩ := h6 q _ (Array.getElem?_eq_getElem hq)
  have hs : c9.slots = (s.heap[q]).slots := Array.ext_getElem? fun i => e4 i fun hm => hz _ hm rfl
  have h9 : c9 = s.heap[q] := by
    rw [hs] at e2
    exact e2
  have e5 : U.heap[q]? = some c9 := e1
  rw [e5, h9, Array.getElem?_eq_getElem hq]
/-- the words of a throw but the four that speak of the heap -/
def vx_no (w : Cond) : Bool := decide (w ≠ .isRef (.static Bundle.tN "UNASSIGNED_STACK" Bundle.steD)) && decide (w ≠ .isRef (.static Bundle.tN "SUPPRESSED_SENTINEL" Bundle.listD)) && decide (w ≠ .laysStatic Bundle.tN "UNASSIGNED_STACK" Bundle.steD) && decide (w ≠ .laysStatic Bundle.tN "SUPPRESSED_SENTINEL" Bundle.listD)
def vx_at0 (own : String) (ic : Nat) (X : String) (names : List String) : List Cond := (Bundle.ownAtoms0 own ic X names).filter vx_no
def vx_atS (own : String) (ic : Nat) (X : String) (names : List String) : List Cond := (Bundle.ownAtoms own ic X names).filter vx_no
/-- a word that the tables alone decide, or a good one -/
def vx_ot (w : Cond) : Bool := w.onTables || goodWord w
theorem vx_ot_at {args a' : Array Value} {s U : State} {w : Cond} (hW : s.WarmedH U.vm) (hvm : s.vm = U.vm) (hg : vx_ot w = true) (h : w.before args s = true) : w.before a' U = true := by
  simp only [vx_ot, Bool.or_eq_true] at hg
  rcases hg with hg | hg
  · exact va_tabs hg hvm h
  · exact word_at hW (good_of_word hg) h
/-- a list's words: the good ones out of the method's own list, the others by premises of their own -/
theorem vx_hat {args : Array Value} {s : State} {L B : List Cond} (h1 : ∀ w ∈ L.filter goodWord, w.before args s = true) (h2 : ∀ w ∈ L.filter (fun w => !goodWord w), w ∈ B) (h3 : ∀ w ∈ B, w.before args s = true) : ∀ w ∈ L, w.before args s = true := by
  intro w hw
  by_cases g : goodWord w = true
  · exact h1 w (List.mem_filter.mpr ⟨hw, g⟩)
  · refine h3 w (h2 w (List.mem_filter.mpr ⟨hw, ?_⟩))
    show (!goodWord w) = true
    cases hgw : goodWord w
    · rfl
    · exact absurd hgw g
theorem vx_c {args : Array Value} {s : State} {w : Cond} {B : List Cond} (h : w.before args s = true) (t : ∀ w ∈ B, w.before args s = true) : ∀ w' ∈ w :: B, w'.before args s = true := fun w' h' => (List.mem_cons.mp h').elim (fun e => by rw [e]; exact h) (t w')
theorem vx_n {args : Array Value} {s : State} : ∀ w ∈ ([] : List Cond), w.before args s = true := fun _ h => nomatch h
theorem vx_own {args : Array Value} {s : State} {L : List Cond} (h1 : ∀ w ∈ L.filter vx_no, w.before args s = true)
    (hU : (Cond.isRef (.static Bundle.tN "UNASSIGNED_STACK" Bundle.steD)).before args s = true) (hN : (Cond.isRef (.static Bundle.tN "SUPPRESSED_SENTINEL" Bundle.listD)).before args s = true)
    (lU : (Cond.laysStatic Bundle.tN "UNASSIGNED_STACK" Bundle.steD).before args s = true) (lN : (Cond.laysStatic Bundle.tN "SUPPRESSED_SENTINEL" Bundle.listD).before args s = true) : ∀ w ∈ L, w.before args s = true := by
  intro w hw
  by_cases e1 : w = .isRef (.static Bundle.tN "UNASSIGNED_STACK" Bundle.steD)
  · rw [e1]; exact hU
  · by_cases e2 : w = .isRef (.static Bundle.tN "SUPPRESSED_SENTINEL" Bundle.listD)
    · rw [e2]; exact hN
    · by_cases e3 : w = .laysStatic Bundle.tN "UNASSIGNED_STACK" Bundle.steD
      · rw [e3]; exact lU
      · by_cases e4 : w = .laysStatic Bundle.tN "SUPPRESSED_SENTINEL" Bundle.listD
        · rw [e4]; exact lN
        · exact h1 w (List.mem_filter.mpr ⟨hw, by unfold vx_no; rw [decide_eq_true e1, decide_eq_true e2, decide_eq_true e3, decide_eq_true e4]; rfl⟩)
/-- where a static field lies, its class's statics cell in H -/
def vx_L (C n d : String) (A : Nat → Prop) (U : State) (H : Heap) : Prop := ∃ (c : ClassId) (k : Class) (i : Nat) (f : Field) (a : Nat) (cell : Cell), U.vm.findClass C = some c ∧ U.fieldFound? C n d = some (c, k, i, f) ∧ f.isStatic = true ∧ k.statics = some a ∧ H[a]? = some cell ∧ cell.vm.isStatics = true ∧ cell.cls = c ∧ f.slot < cell.slots.size ∧ k.staticTypes[f.slot]? = some f.type ∧ ¬ A a
theorem vx_L.moved {C n d : String} {A : Nat → Prop} {u U : State} {H : Heap} (hvm : u.vm.Alike U.vm) (h : vx_L C n d A u H) : vx_L C n d A U H := by
  obtain ⟨c, k, i, f, a, cell, h1, h2, h3, h4, h5, h6, h7, h8, h9, h10⟩ := h
  obtain ⟨k', hi', he⟩ := State.fieldFound?_setVm hvm h2
  exact ⟨c, k', i, f, a, cell, by rw [hvm.findClass]; exact h1, hi', h3, by rw [he]; exact h4, h5, h6, h7, h8, by rw [he]; exact h9, h10⟩
theorem vx_L.kept {C n d : String} {A : Nat → Prop} {U : State} {H H1 : Heap} (h : vx_L C n d A U H) (hq : ∀ a : Nat, a < H.size → ¬ A a → H1[a]? = H[a]?) : vx_L C n d A U H1 := by
  obtain ⟨c, k, i, f, a, cell, h1, h2, h3, h4, h5, h6, h7, h8, h9, h10⟩ := h
  exact ⟨c, k, i, f, a, cell, h1, h2, h3, h4, by rw [hq a (Array.getElem?_eq_some_iff.mp h5).1 h10]; exact h5, h6, h7, h8, h9, h10⟩
theorem vx_L.narrow {C n d : String} {A B : Nat → Prop} {U : State} {H : Heap} (h : vx_L C n d A U H) (hAB : ∀ q, B q → A q) : vx_L C n d B U H := by
  obtain ⟨c, k, i, f, a, cell, h1, h2, h3, h4, h5, h6, h7, h8, h9, h10⟩ := h
  exact ⟨c, k, i, f, a, cell, h1, h2, h3, h4, h5, h6, h7, h8, h9, fun z => h10 (hAB _ z)⟩
theorem vx_L.word {C n d : String} {A : Nat → Prop} {s : State} {args : Array Value} (h : vx_L C n d A s s.heap) : (Cond.laysStatic C n d).before args s = true := by
  obtain ⟨c, k, i, f, a, cell, h1, h2, h3, h4, h5, h6, h7, h8, h9, -⟩ := h
  show (Cond.laysStatic C n d).holds args s none s [] = true
  exact Cond.laysStatic_of h1 h2 h3 h4 h5 h6 h7 h8 h9
/-- .. and what it holds: null or some reference -/
def vx_Zq (C n d : String) (A : Nat → Prop) (U : State) (H : Heap) : Prop := va_Zq C n d A U H ∧ vx_L C n d A U H
theorem vx_Zq.moved {C n d : String} {A : Nat → Prop} {u U : State} {H : Heap} (hvm : u.vm.Alike U.vm) (h : vx_Zq C n d A u H) : vx_Zq C n d A U H := ⟨va_Zq.moved hvm h.1, vx_L.moved hvm h.2⟩
theorem vx_Zq.kept {C n d : String} {A : Nat → Prop} {U : State} {H H1 : Heap} (h : vx_Zq C n d A U H) (hq : ∀ a : Nat, a < H.size → ¬ A a → H1[a]? = H[a]?) : vx_Zq C n d A U H1 := ⟨va_Zq.kept h.1 hq, vx_L.kept h.2 hq⟩
theorem vx_Zq.narrow {C n d : String} {A B : Nat → Prop} {U : State} {H : Heap} (h : vx_Zq C n d A U H) (hAB : ∀ q, B q → A q) : vx_Zq C n d B U H := ⟨va_Zq.narrow h.1 hAB, vx_L.narrow h.2 hAB⟩
theorem vx_Zqof {args : Array Value} {s : State} {C n d : String} {A : Nat → Prop} (hl : (Cond.laysStatic C n d).before args s = true) (hini : (Cond.initialized C).before args s = true) (h : (Cond.isRef (.static C n d)).before args s = true) (hA : ∀ a : Nat, a < s.heap.size → ¬ A a) : vx_Zq C n d A s s.heap := by
  refine ⟨va_Zqof hl hini h hA, ?_⟩
  obtain ⟨c, k, i, f, a, cell, h1, h2, h3, h4, h5, h6, h7, h8, h9⟩ := Cond.laysStatic_spec hl
  exact ⟨c, k, i, f, a, cell, h1, h2, h3, h4, h5, h6, h7, h8, h9, hA a (Array.getElem?_eq_some_iff.mp h5).1⟩
theorem vx_isRef {C n d : String} {v : Value} {A : Nat → Prop} {s : State} {args : Array Value} (h : va_Z C n d v A s s.heap) (hv : v.isRef = true) : (Cond.isRef (.static C n d)).before args s = true := by
  obtain ⟨cf, kf, fi, f, a, cell, h1, h2, h3, h4, h5, h6, h7, -⟩ := h
  have he : (Term.static C n d).eval args s none [] s = some v := by
    simp [Term.eval, State.fieldNamed?, h1, h2, h4, h5, h6, h7]
  simp only [Cond.before, Cond.holds, Cond.value, he]
  cases v <;> simp_all [Value.isRef]
theorem vx_isRefq {C n d : String} {A : Nat → Prop} {s : State} {args : Array Value} (h : va_Zq C n d A s s.heap) : (Cond.isRef (.static C n d)).before args s = true := by
  rcases h with h | ⟨t, h⟩
  · exact vx_isRef h rfl
  · exact vx_isRef h rfl
/-- the same frame, seen from here: as if the method were called anew in this heap -/
theorem vx_rebase {T : State} (X : Stand p l e R s m args below meth c T locs cells slots) {R' : Room} (hf : R'.frames ≤ R.frames) (hl : R'.locals ≤ R.locals) (hc : cells + R'.cells ≤ R.cells) (hs : slots + R'.slots ≤ R.slots) :
    Stand p l e R' ((T.setVm s.vm).setFrames (.invoking m args :: below)) m args below meth c T [] 0 0 := by
  have htop : (T.setVm s.vm).topJava?.isSome := X.here.top
  have hF : ((T.setVm s.vm).setFrames (.invoking m args :: below)).frames = .invoking m args :: below := State.frames_setFrames _ (State.cur_lt_of_top htop)
  obtain ⟨g₀, hg0⟩ := Option.isSome_iff_exists.mp htop
  obtain ⟨r, hr⟩ := State.topJava?_eq_some.mp hg0
  have hl9 : e.platform.stackLimits (T.setVm s.vm).me = e.platform.stackLimits s.me := X.limits
  have hb9 : (T.setVm s.vm).me.stackBytes = s.me.stackBytes := X.bytes
  refine ⟨X.admits, X.cas, X.clock, hF, ?_, X.hears, X.method, X.code, X.here, X.tail, X.warmed, ?_, ?_, ?_⟩
  · have h := X.room
    have hU : ((T.setVm s.vm).setFrames (.invoking m args :: below)).localsInUse = s.localsInUse := by
      rw [State.localsInUse_invoking hF (meth := meth) (c := c) X.method X.code, State.localsInUse_invoking X.frames X.method X.code]
    simp only [State.hasRoom, Bool.and_eq_true, decide_eq_true_eq] at h ⊢
    obtain ⟨⟨⟨⟨h1, h2, h3, h4, h5, h6⟩, h7⟩, h8⟩, h9⟩ := h
    rw [X.frames, List.length_cons] at h2 h3
    have q1 := X.heapSize
    have q2 := X.used
    simp only [hF, hU, List.length_cons, State.stackLimits_setFrames, State.stackBytes_setFrames, hl9, hb9]
    refine ⟨⟨⟨⟨by omega, by omega, by omega, by omega, by omega, h6⟩, ?_⟩, ?_⟩, X.book⟩
    · show T.heap.size + R'.cells ≤ e.platform.maxCells
      omega
    · show T.slotsUsed + R'.slots ≤ e.platform.maxSlots
      omega
  · rw [State.stackLimits_setFrames]; rfl
  · rw [State.stackBytes_setFrames]; rfl
  · refine ⟨?_, Nat.le_refl _, Nat.le_refl _, ?_, ?_, fun a c9 h9 => ⟨c9, h9, rfl, rfl, fun _ _ => rfl⟩⟩
    · obtain ⟨t, ht, -⟩ := State.frames_cons hr
      show T.setVm s.vm = { ((T.setVm s.vm).setFrames (.invoking m args :: below)).setFrames (T.setVm s.vm).frames with heap := T.heap, slotsUsed := T.slotsUsed }
      rw [State.setFrames_setFrames, State.setFrames_self ht]
      rfl
    · show T.slotsUsed = T.slotsUsed + ((T.heap.toList.drop T.heap.size).map (·.slots.size)).sum
      rw [List.drop_eq_nil_of_le (Nat.le_of_eq Array.length_toList)]
      rfl
    · show ((T.heap.toList.drop T.heap.size).map (·.slots.size)).sum ≤ 0
      rw [List.drop_eq_nil_of_le (Nat.le_of_eq Array.length_toList)]
      exact Nat.le_refl _
/-- 'throw new E("text")': new; dup; ldc; invokespecial; athrow -/
theorem vx_throwS {cc : ByteArray} {pc : Nat} (hexec : p.tables.exec = Jvm.exec) (hb : c.code = cc) (hl : l.stackTraces = false) {own cls text : String} {names : List String} {ik is ic mc ms sa : Nat} {A : Nat → Prop}
    (hown : s.vm.findClass own = some m.cls) (hcls : Bundle.fit cls = true) (hnames : ∀ n ∈ names, Bundle.fit n = true)
    (hk : (Cond.classLink own ik cls).before args s = true) (hini : (Cond.initialized cls).before args s = true) (hstr : vk_R own is text sa s) (hat : ∀ w ∈ vx_atS own ic cls names, w.before args s = true)
    (hgood : ∀ w ∈ Cond.classLink own ik cls :: Cond.initialized cls :: vx_atS own ic cls names, vx_ot w = true)
    (hU : vx_Zq Bundle.tN "UNASSIGNED_STACK" Bundle.steD A s s.heap) (hN : vx_Zq Bundle.tN "SUPPRESSED_SENTINEL" Bundle.listD A s s.heap) (hS : va_S A s.heap H locs) (hsize : ls.size = c.maxLocals)
    (d0 : decode cc pc = .ok (.new ik, 3)) (d3 : decode cc (pc + 3) = .ok (.dup, 1)) (d4 : decode cc (pc + 4) = .ok (.ldc is, 2)) (d6 : decode cc (pc + 6) = .ok (.invokespecial ic, 3)) (d9 : decode cc (pc + 9) = .ok (.athrow, 1))
    (hout : ∀ x ∈ c.exceptionTable.toList, covers x (pc + 9) = false)
    (hRframes : names.length + 3 < R.frames) (hRlocals : (rest.map fun v => v.category).sum + (13 * (names.length + 1) + 43) ≤ R.locals) (hRcells : cells + 1 ≤ R.cells) (hRslots : slots + 6 ≤ R.slots) (hlocks : meth.locks = false)
    (hx : ∀ t : State, s.vm.Alike t.vm → H.size ≤ t.heap.size → (∀ q : Nat, q < H.size → t.heap[q]? = H[q]?) → XC cls s t)
    (hf : ∀ z ∈ locs, free z.base) (hc : cells + 1 ≤ mc) (hs : slots + 6 ≤ ms) :
    W p l e R s m args below meth c H locs cells slots (vx_MQ below Qc XC args s mc ms free) (F0 m pc ls rest) := by
  intro T hT X
  have htr : e.platform.stackTraces = false := (show e.platform.stackTraces = l.stackTraces by rw [X.admits.platform]).trans hl
  have Y := vx_rebase X (R' := { frames := R.frames, locals := R.locals, cells := 1, slots := 6 }) (Nat.le_refl _) (Nat.le_refl _) hRcells hRslots
  obtain ⟨s', hA⟩ : ∃ z, z = (T.setVm s.vm).setFrames (.invoking m args :: below) := ⟨_, rfl⟩
  rw [← hA] at Y
  have hvm : s'.vm = s.vm := by rw [hA]; rfl
  have hhp : s'.heap = H := by rw [hA]; exact hT
  have hW0 : s.WarmedH s'.vm := by rw [hvm]; exact State.WarmedH.refl s
  have hat' : ∀ w ∈ vx_atS own ic cls names, w.before args s' = true := fun w hw => vx_ot_at hW0 hvm.symm (hgood w (List.mem_cons_of_mem _ (List.mem_cons_of_mem _ hw))) (hat w hw)
  have hk' : (Cond.classLink own ik cls).before args s' = true := vx_ot_at hW0 hvm.symm (hgood _ List.mem_cons_self) hk
  have hini' : (Cond.initialized cls).before args s' = true := vx_ot_at hW0 hvm.symm (hgood _ (List.mem_cons_of_mem _ List.mem_cons_self)) hini
  have hU' : vx_Zq Bundle.tN "UNASSIGNED_STACK" Bundle.steD A s' s'.heap := by rw [hhp]; exact vx_Zq.moved hW0.alike (hU.kept hS.2.1)
  have hN' : vx_Zq Bundle.tN "SUPPRESSED_SENTINEL" Bundle.listD A s' s'.heap := by rw [hhp]; exact vx_Zq.moved hW0.alike (hN.kept hS.2.1)
  have h : ∀ w ∈ Bundle.ownAtoms own ic cls names, w.before args s' = true := vx_own hat' (vx_isRefq hU'.1) (vx_isRefq hN'.1) hU'.2.word hN'.2.word
  have hown' : s'.vm.findClass own = some m.cls := by rw [hvm]; exact hown
  have hins : (Cond.instantiable cls 6).before args s' = true := h _ (by simp [Bundle.ownAtoms])
  obtain ⟨vm₁, cX, kX, hfX, hkX, -, -, X₁, st1⟩ := Y.newCold hexec (own := own) (C := cls) (index := ik) (n := 6) hown' hk' hins hini'
    (g := F0 m pc ls rest) rfl (by rw [hb]; exact d0) (Nat.le_refl _) (Nat.le_refl _)
  generalize hT1 : (T.setVm vm₁).pushCell { cls := cX, slots := kX.instanceTypes.map defaultValue, vm := .none } = T1 at X₁ st1
  have hcat : (Value.ref T.heap.size).category = 1 := rfl
  have hcellA : T1.heap[T.heap.size]? = some (freshCell cX kX) := by rw [← hT1]; exact State.heap_pushCell_size _ _
  have d3' : decode c.code (pc + 3) = .ok (.dup, 1) := by rw [hb]; exact d3
  have d4' : decode c.code (pc + 4) = .ok (.ldc is, 2) := by rw [hb]; exact d4
  have hstr' : vk_R own is text sa s' := vk_R.warm hW0 hstr
  obtain ⟨U, hsteps, hrun, hend, hW, hsame, ce, hce, hO⟩ := X₁.ctorThrowS hexec htr (own := own) (cls := cls) (names := names) (ic := ic) hown' hcls hnames h (fun x hx => nomatch hx) hfX hkX hcellA (by rw [hhp, hT]; exact Nat.le_refl _) (msg := .ref sa) rfl
    (g := { method := m, pc := pc + 6, locals := ls, stack := .ref sa :: .ref T.heap.size :: .ref T.heap.size :: rest, locked := none }) rfl hsize rfl rfl (rest := rest) rfl
    (by rw [hb]; exact d6) (by rw [hb]; exact d9) hout hRframes (by simp only [List.map_cons, List.sum_cons, hcat]; omega) hlocks
  obtain ⟨f1, f2⟩ := vx_frame hsame
  rw [hhp] at f1 f2
  have hWs : s.WarmedH U.vm := State.WarmedH.trans hW0 hW
  have hcl : s.vm.findClass cls = some ce.cls := by
    have h9 := hO.cls
    rw [hvm] at h9
    exact h9
  have hall : s.sameButNew ({ U with vm := s.vm } : State) locs mc ms := by
    subst hA
    obtain ⟨e1, e2⟩ := hsame
    rw [State.setFrames_setFrames] at e1
    have h2 : (T.setVm s.vm).sameButNew ({ U with vm := s.vm } : State) [] (0 + 1) (0 + 6) := ⟨e1, e2⟩
    have h3 := X.same.trans h2
    rw [List.append_nil] at h3
    exact h3.mono hc hs
  refine ⟨U, ?_, .threw T.heap.size, hrun, hend, Or.inr ⟨T.heap.size, rfl, cls, ce, locs, hx U hWs.alike f1 (fun q hq => f2 q hq (fun z hz => nomatch hz)), hce, hO.vm, hcl, hWs, hall, hf⟩⟩
  refine st1 _ ?_
  show Steps p.tables e below (T1.setTop { method := m, pc := pc + 3, locals := ls, stack := .ref T.heap.size :: rest, locked := none }) _
  jvm_step X₁.here [X₁.here.top, hexec, d3', Value.category]
  exact X₁.ldcString hexec (own := own) (text := text) (index := is) (a := sa) hown' hstr'.1 hstr'.2
    (g := { method := m, pc := pc + 4, locals := ls, stack := .ref T.heap.size :: .ref T.heap.size :: rest, locked := none }) rfl d4' _ hsteps
end Ends
end VXA
end
section
def RX0 : String := "OmegaNets$Goals"
def TX0 : u_T := fun k => match k with
  | 0 => ("OmegaNets$Goals", "net", "LOmegaNets$Net;", true)
  | 1 => ("OmegaNets$Goals", "markings", "[[I", true)
  | 2 => ("OmegaNets$Goals", "nexts", "[I", true)
  | 3 => ("OmegaNets$Goals", "transitions", "[I", true)
  | 4 => ("OmegaNets$Goals", "depths", "[I", true)
  | 5 => ("OmegaNets$Goals", "givenUp", "[Z", true)
  | 6 => ("OmegaNets$Goals", "candidate", "[I", true)
  | 7 => ("OmegaNets$Goals", "size", "I", false)
  | _ => ("OmegaNets$Goals", "made", "Z", false)
def tyX0 : Nat → FieldType := fun k => match k with
  | 0 => .object "OmegaNets$Net"
  | 1 => .array (.array .int)
  | 2 => .array .int
  | 3 => .array .int
  | 4 => .array .int
  | 5 => .array .boolean
  | 6 => .array .int
  | 7 => .int
  | _ => .boolean
theorem nmX0 : ∀ a, a < 9 → ∀ b, b < 9 → a ≠ b → (TX0 a).2.1 ≠ (TX0 b).2.1 := by decide +kernel
theorem tyX0_ok : ∀ k, k < 9 → parseFieldDescriptor (TX0 k).2.2.1 = some (tyX0 k) := by decide +kernel
theorem inX0 : ∀ w ∈ u_ws RX0 TX0 9, w ∈ lw_tbl := fun w h => List.mem_append_right _ (goodIn_r (big := tables_1) (u_ws RX0 TX0 9) [135, 137, 139, 141, 143, 145, 147, 149, 151] (by decide +kernel) (by decide +kernel) w h).1
def rfX0 : List Bool := [true, true, true, true, true, true, true, false, false]
theorem isX0 : (Cond.instantiable RX0 9) ∈ lw_tbl := List.mem_append_right _ (List.mem_of_getElem? (i := 117) (by decide +kernel))
def RX1 : String := "OmegaNets$Net"
def TX1 : u_T := fun k => match k with
  | 0 => ("OmegaNets$Net", "places", "I", true)
  | 1 => ("OmegaNets$Net", "transitions", "I", true)
  | 2 => ("OmegaNets$Net", "needs", "[[I", true)
  | 3 => ("OmegaNets$Net", "gives", "[[I", true)
  | _ => ("OmegaNets$Net", "first", "[I", true)
def tyX1 : Nat → FieldType := fun k => match k with
  | 0 => .int
  | 1 => .int
  | 2 => .array (.array .int)
  | 3 => .array (.array .int)
  | _ => .array .int
theorem nmX1 : ∀ a, a < 5 → ∀ b, b < 5 → a ≠ b → (TX1 a).2.1 ≠ (TX1 b).2.1 := by decide +kernel
theorem tyX1_ok : ∀ k, k < 5 → parseFieldDescriptor (TX1 k).2.2.1 = some (tyX1 k) := by decide +kernel
theorem inX1 : ∀ w ∈ u_ws RX1 TX1 5, w ∈ lw_tbl := fun w h => List.mem_append_right _ (goodIn_r (big := tables_1) (u_ws RX1 TX1 5) [56, 58, 60, 62, 64] (by decide +kernel) (by decide +kernel) w h).1
def rfX1 : List Bool := [false, false, true, true, true]
theorem isX1 : (Cond.instantiable RX1 5) ∈ lw_tbl := List.mem_append_right _ (List.mem_of_getElem? (i := 24) (by decide +kernel))
def RX2 : String := "OmegaNets$Tree"
def TX2 : u_T := fun k => match k with
  | 0 => ("OmegaNets$Tree", "net", "LOmegaNets$Net;", true)
  | 1 => ("OmegaNets$Tree", "markings", "[[I", true)
  | 2 => ("OmegaNets$Tree", "parents", "[I", true)
  | 3 => ("OmegaNets$Tree", "transitions", "[I", true)
  | 4 => ("OmegaNets$Tree", "depths", "[I", true)
  | 5 => ("OmegaNets$Tree", "leaves", "[Z", true)
  | 6 => ("OmegaNets$Tree", "peaks", "[I", true)
  | 7 => ("OmegaNets$Tree", "size", "I", false)
  | 8 => ("OmegaNets$Tree", "peakCount", "I", false)
  | _ => ("OmegaNets$Tree", "made", "Z", false)
def tyX2 : Nat → FieldType := fun k => match k with
  | 0 => .object "OmegaNets$Net"
  | 1 => .array (.array .int)
  | 2 => .array .int
  | 3 => .array .int
  | 4 => .array .int
  | 5 => .array .boolean
  | 6 => .array .int
  | 7 => .int
  | 8 => .int
  | _ => .boolean
theorem nmX2 : ∀ a, a < 10 → ∀ b, b < 10 → a ≠ b → (TX2 a).2.1 ≠ (TX2 b).2.1 := by decide +kernel
theorem tyX2_ok : ∀ k, k < 10 → parseFieldDescriptor (TX2 k).2.2.1 = some (tyX2 k) := by decide +kernel
theorem inX2 : ∀ w ∈ u_ws RX2 TX2 10, w ∈ lw_tbl := fun w h => List.mem_append_right _ (goodIn_r (big := tables_1) (u_ws RX2 TX2 10) [94, 96, 98, 100, 102, 104, 106, 108, 110, 112] (by decide +kernel) (by decide +kernel) w h).1
def rfX2 : List Bool := [true, true, true, true, true, true, true, false, false, false]
theorem isX2 : (Cond.instantiable RX2 10) ∈ lw_tbl := List.mem_append_right _ (List.mem_of_getElem? (i := 69) (by decide +kernel))
def RX3 : String := "OmegaNets"
def TX3 : u_T := fun k => match k with
  | 0 => ("OmegaNets", "net", "LOmegaNets$Net;", true)
  | 1 => ("OmegaNets", "tree", "LOmegaNets$Tree;", true)
  | 2 => ("OmegaNets", "goals", "LOmegaNets$Goals;", true)
  | 3 => ("OmegaNets", "wanted", "[I", true)
  | 4 => ("OmegaNets", "present", "[I", true)
  | _ => ("OmegaNets", "firings", "I", false)
def tyX3 : Nat → FieldType := fun k => match k with
  | 0 => .object "OmegaNets$Net"
  | 1 => .object "OmegaNets$Tree"
  | 2 => .object "OmegaNets$Goals"
  | 3 => .array .int
  | 4 => .array .int
  | _ => .int
theorem nmX3 : ∀ a, a < 6 → ∀ b, b < 6 → a ≠ b → (TX3 a).2.1 ≠ (TX3 b).2.1 := by decide +kernel
theorem tyX3_ok : ∀ k, k < 6 → parseFieldDescriptor (TX3 k).2.2.1 = some (tyX3 k) := by decide +kernel
theorem inX3 : ∀ w ∈ u_ws RX3 TX3 6, w ∈ lw_tbl := fun w h => List.mem_append_right _ (goodIn_r (big := tables_1) (u_ws RX3 TX3 6) [160, 162, 164, 166, 168, 170] (by decide +kernel) (by decide +kernel) w h).1
def rfX3 : List Bool := [true, true, true, true, true, false]
theorem isX3 : (Cond.instantiable RX3 6) ∈ lw_tbl := List.mem_append_right _ (List.mem_of_getElem? (i := 16) (by decide +kernel))
def RX4 : String := "OmegaNetsModel"
def TX4 : u_T := fun k => match k with
  | 0 => ("OmegaNetsModel", "thrown", "I", false)
  | 1 => ("OmegaNetsModel", "places", "I", true)
  | 2 => ("OmegaNetsModel", "transitions", "I", true)
  | 3 => ("OmegaNetsModel", "needs", "[I", true)
  | 4 => ("OmegaNetsModel", "gives", "[I", true)
  | 5 => ("OmegaNetsModel", "starts", "[I", true)
  | 6 => ("OmegaNetsModel", "wanted", "[I", true)
  | 7 => ("OmegaNetsModel", "present", "[I", true)
  | 8 => ("OmegaNetsModel", "firings", "I", false)
  | 9 => ("OmegaNetsModel", "tree", "Z", false)
  | 10 => ("OmegaNetsModel", "nodes", "I", false)
  | 11 => ("OmegaNetsModel", "marks", "[I", true)
  | 12 => ("OmegaNetsModel", "parents", "[I", true)
  | 13 => ("OmegaNetsModel", "by", "[I", true)
  | 14 => ("OmegaNetsModel", "leaves", "[Z", true)
  | 15 => ("OmegaNetsModel", "asked", "Z", false)
  | 16 => ("OmegaNetsModel", "goals", "I", false)
  | 17 => ("OmegaNetsModel", "goalMarks", "[I", true)
  | 18 => ("OmegaNetsModel", "goalParents", "[I", true)
  | 19 => ("OmegaNetsModel", "goalBy", "[I", true)
  | _ => ("OmegaNetsModel", "given", "[Z", true)
def tyX4 : Nat → FieldType := fun k => match k with
  | 0 => .int
  | 1 => .int
  | 2 => .int
  | 3 => .array .int
  | 4 => .array .int
  | 5 => .array .int
  | 6 => .array .int
  | 7 => .array .int
  | 8 => .int
  | 9 => .boolean
  | 10 => .int
  | 11 => .array .int
  | 12 => .array .int
  | 13 => .array .int
  | 14 => .array .boolean
  | 15 => .boolean
  | 16 => .int
  | 17 => .array .int
  | 18 => .array .int
  | 19 => .array .int
  | _ => .array .boolean
theorem nmX4 : ∀ a, a < 21 → ∀ b, b < 21 → a ≠ b → (TX4 a).2.1 ≠ (TX4 b).2.1 := by decide +kernel
theorem tyX4_ok : ∀ k, k < 21 → parseFieldDescriptor (TX4 k).2.2.1 = some (tyX4 k) := by decide +kernel
theorem inX4 : ∀ w ∈ u_ws RX4 TX4 21, w ∈ lw_tbl := fun w h => List.mem_append_right _ (goodIn_r (big := tables_1) (u_ws RX4 TX4 21) [638, 640, 642, 644, 646, 648, 650, 652, 654, 656, 658, 660, 662, 664, 666, 668, 670, 672, 674, 676, 678] (by decide +kernel) (by decide +kernel) w h).1
def rfX4 : List Bool := [false, false, false, true, true, true, true, true, false, false, false, true, true, true, true, false, false, true, true, true, true]
theorem isX4 : (Cond.instantiable RX4 21) ∈ lw_tbl := List.mem_append_right _ (List.mem_of_getElem? (i := 612) (by decide +kernel))
def vwCl : List vw_C := [(RX0, TX0, 9), (RX1, TX1, 5), (RX2, TX2, 10), (RX3, TX3, 6), (RX4, TX4, 21)]
end
section
/-! ===== the judgement aw: a method's frame over a memory of numbers and references ===== -/
abbrev okI (x : Int) : Prop := -2147483648 ≤ x ∧ x ≤ 2147483647
abbrev aA : Type := Int ⊕ (Int ⊕ Option Nat)
abbrev iV (x : Int) : aA := .inl x
abbrev lV (x : Int) : aA := .inr (.inl x)
abbrev rV (i : Nat) : aA := .inr (.inr (some i))
abbrev sV : aA := .inr (.inr none)
abbrev aS : Type := Nat × (Nat → Nat × Nat) × (Nat → Nat → Option Nat)
abbrev aG : Type := Nat → Nat → Int
abbrev aU : Type := Nat × Nat × Bool
abbrev aM : Type := aS × aG × aU
abbrev aR : Type := Option aA ⊕ String
abbrev aP : Type := aR → aM → Prop
abbrev aK : Type := MethodName × ByteArray × Nat × Option FieldType × List (Nat × Nat × Nat × Nat)
abbrev aE : Type := (Nat × Nat × Nat × (Nat → Int32)) × va_G × (Nat → ClassId)
def okA (v : aA) : Prop := match v with
  | .inl x => okI x
  | .inr (.inl x) => okI x
  | .inr (.inr _) => True
def cvA (E : aE) (v : aA) : Value := match v with
  | .inl x => .int (Int32.ofInt x)
  | .inr (.inl x) => .long (Int64.ofInt x)
  | .inr (.inr (some i)) => .ref (E.1.2.1 + i)
  | .inr (.inr none) => .ref E.1.1
def rfX (c : Nat) : List Bool := match c with
  | 0 => rfX0
  | 1 => rfX1
  | 2 => rfX2
  | 3 => rfX3
  | _ => rfX4
def fsA (E : aE) (c : Nat) (rf : Nat → Option Nat) (sg : Nat → Int) : List Value := (rfX c).mapIdx (fun k b => if b then va_rf ((rf k).map (E.1.2.1 + ·)) else .int (Int32.ofInt (sg k)))
def picA (E : aE) (kn : Nat × Nat) (rf : Nat → Option Nat) (sg : Nat → Int) : va_E := match kn.1 with
  | 0 => .inl (E.2.2 0, kn.2, .inl (fun j => Int32.ofInt (sg j)))
  | 1 => .inl (E.2.2 1, kn.2, .inl (fun j => Int32.ofInt (sg j)))
  | 2 => .inl (E.2.2 2, kn.2, .inr (.inl (fun j => Int64.ofInt (sg j))))
  | 3 => .inl (E.2.2 3, kn.2, .inr (.inr (.inr (.inr (fun j => (rf j).map (E.1.2.1 + ·))))))
  | c + 4 => .inr (c, fsA E c rf sg)
def wsA (E : aE) (S : aS) (g : aG) : va_W := (List.range S.1).map (fun i => (E.1.2.1 + i, picA E (S.2.1 i) (S.2.2 i) (g i)))
def tysA (E : aE) : List (ClassId × FieldType) := [(E.2.2 0, .int), (E.2.2 1, .boolean), (E.2.2 2, .long), (E.2.2 3, .array .int)]
def rlA (E : aE) (M : aM) (H : Heap) : Prop := va_P E.2.1 vwCl (wsA E M.1 M.2.1) H ∧ (∀ i j, okI (M.2.1 i j)) ∧ (M.2.2.2.2 = true → H.size = E.1.2.1 + M.1.1)
/-- words that stay under warming -/
def stW (w : Cond) : Bool := goodWord w || (w.onTables && w.keepsCast) || (match w with | .methodLinkNest .. => true | .arrayOver (.array _) => true | _ => false)
def txA : List (Nat × String) := [(212, "there is none such"), (214, "the number is out of its range"), (96, "the tree would have too many nodes"), (208, "there is no tree"), (129, "a node is not asked for this"), (167, "there would be too many goals"), (210, "there are no goals"), (180, "no such goal"), (203, "the wanted marking can't be covered")]
def ncA : List (String × String) := [("java/lang/IllegalArgumentException", "java/lang/IndexOutOfBoundsException"), ("java/lang/IndexOutOfBoundsException", "java/lang/IllegalStateException"), ("java/lang/IllegalArgumentException", "java/lang/IllegalStateException"), ("java/lang/UnsupportedOperationException", "java/lang/IllegalStateException"), ("java/lang/IndexOutOfBoundsException", "java/lang/UnsupportedOperationException")]
def cxG (l : Launch) (E : aE) (s : State) : Prop :=
  l.stackTraces = false ∧ (∀ w ∈ lw_tbl, stW w = true → w.before #[] s = true) ∧ (∀ q ∈ txA, ∃ a, vk_R "OmegaNets" q.1 q.2 a s) ∧ (∀ q ∈ ncA, va_Nc q.1 q.2 s) ∧ va_K E.2.1 vwCl (tysA E) s ∧
  vx_Zq Bundle.tN "UNASSIGNED_STACK" Bundle.steD (fun a => E.1.2.1 ≤ a) s s.heap ∧ vx_Zq Bundle.tN "SUPPRESSED_SENTINEL" Bundle.listD (fun a => E.1.2.1 ≤ a) s s.heap ∧ va_X E.1.1 E.1.2.2.1 E.1.2.2.2 s s.heap ∧ E.1.1 < E.1.2.1 ∧ E.1.2.1 ≤ s.heap.size
def cxM (q : aK) (s : State) (m : MethodId) (meth : Method) (c : Code) : Prop :=
  s.methodNamed? q.1 = some m ∧ s.vm.method? m = some meth ∧ c.code = q.2.1 ∧ c.maxLocals = q.2.2.1 ∧ meth.sig.returnType = q.2.2.2.1 ∧ meth.locks = false ∧ c.exceptionTable.toList.map (fun h => (h.startPc, h.endPc, h.handlerPc, h.catchType)) = q.2.2.2.2
def lsA (E : aE) (n : Nat) (L : List (Option aA)) (ls : Array Slot) : Prop := ls.size = n ∧ lv_wf ls ∧ ∀ (k : Nat) (v : aA), L[k]? = some (some v) → ls[k]? = some (.val (cvA E v)) ∧ okA v ∧ (cvA E v).category = 1
def outA (E : aE) (s : State) (r : aR) (o : Outcome) (t : State) : Prop := match r with
  | .inl none => o = .returned none
  | .inl (some v) => o = .returned (some (cvA E v)) ∧ okA v
  | .inr C => ∃ (a : Addr) (ce : Cell), o = .threw a ∧ t.heap[a]? = some ce ∧ ce.vm = .none ∧ s.vm.findClass C = some ce.cls
def enA (E : aE) (P : aP) (below : List Frame) (s : State) (kc ks : Nat) : State → Prop := fun t =>
  ∃ (o : Outcome) (r : aR) (M : aM) (L : List Loc) (k n : Nat), t.status = .running ∧ Ended t below o ∧ P r M ∧ outA E s r o t ∧ s.WarmedH t.vm ∧ rlA E M t.heap ∧
    s.sameButNew ({ t with vm := s.vm } : State) L k n ∧ (∀ q ∈ L, E.1.2.1 ≤ q.base) ∧ k + M.2.2.1 ≤ kc ∧ n + M.2.2.2.1 ≤ ks
def aw (l : Launch) (E : aE) (q : aK) (d pc : Nat) (L : List (Option aA)) (st : List aA) (M : aM) (P : aP) : Prop :=
  ∀ (p : Program) (e : Env) (R : Room) (s : State) (m : MethodId) (args : Array Value) (below : List Frame) (meth : Method) (c : Code) (H : Heap) (locs : List Loc) (cells slots kc ks : Nat) (ls : Array Slot),
    p.tables.exec = Jvm.exec → cxG l E s → cxM q s m meth c → d ≤ R.frames → 36 * d ≤ R.locals → rlA E M H → va_S (fun a => E.1.2.1 ≤ a) s.heap H locs → lsA E q.2.2.1 L ls → (∀ v ∈ st, okA v) →
    cells + M.2.2.1 ≤ kc → kc ≤ R.cells → slots + M.2.2.2.1 ≤ ks → ks ≤ R.slots →
    W p l e R s m args below meth c H locs cells slots (enA E P below s kc ks) (F0 m pc ls (st.map (cvA E)))
/-- a method's contract: from its entry -/
def Sp (l : Launch) (E : aE) (q : aK) (d : Nat) (as : List aA) (M : aM) (P : aP) : Prop := aw l E q d 0 (as.map some ++ List.replicate (7 - as.length) none) [] M P
/-! numbers -/
theorem i32T {x : Int} (h : okI x) : (Int32.ofInt x).toInt = x := by
  rw [Int32.toInt_ofInt]
  have e : (Int32.size : Nat) = 4294967296 := by decide
  simp only [e, Int.bmod]
  split <;> omega
theorem i64T {x : Int} (h : okI x) : (Int64.ofInt x).toInt = x := by
  rw [Int64.toInt_ofInt]
  have e : (Int64.size : Nat) = 18446744073709551616 := by decide
  simp only [e, Int.bmod]
  split <;> omega
theorem i32L {x y : Int} (hx : okI x) (hy : okI y) : Int32.ofInt x < Int32.ofInt y ↔ x < y := by rw [Int32.lt_iff_toInt_lt, i32T hx, i32T hy]
theorem i32B {x y : Int} (hx : okI x) (hy : okI y) : Int32.ofInt x ≤ Int32.ofInt y ↔ x ≤ y := by rw [Int32.le_iff_toInt_le, i32T hx, i32T hy]
theorem i32E {x y : Int} (hx : okI x) (hy : okI y) : Int32.ofInt x = Int32.ofInt y ↔ x = y := by rw [← Int32.toInt_inj, i32T hx, i32T hy]
theorem ok0 : okI 0 := by decide
theorem i32Z : (Int32.ofInt 0) = (0 : Int32) := by decide
theorem i32N {x : Int} (h : okI x) : (Int32.ofInt x).toNatClampNeg = x.toNat := by
  show (Int32.ofInt x).toInt.toNat = _
  rw [i32T h]
theorem i32In {x : Int} {n : Nat} (h : okI x) (h0 : 0 ≤ x) (h1 : x < n) : vp_in (Int32.ofInt x) n := by
  rw [vp_in_iff, i32T h]
  exact ⟨h0, h1⟩
theorem okT (x : Int32) : okI x.toInt := by
  have a := x.le_toInt
  have b := x.toInt_lt
  constructor <;> omega
theorem i32R (x : Int32) : Int32.ofInt x.toInt = x := by
  apply Int32.toInt_inj.mp
  rw [i32T (okT x)]
/-! words, context -/
theorem stW_at {w : Cond} {s U : State} {a a' : Array Value} (hW : s.WarmedH U.vm) (h : stW w = true) (hb : w.before a s = true) : w.before a' U = true := by
  simp only [stW, Bool.or_eq_true, Bool.and_eq_true] at h
  rcases h with (h | h) | h
  · exact word_at hW (good_of_word h) hb
  · have h1 := Cond.before_shiftedCast (State.Shifted.of_warmed hW) w h.2 hb
    exact va_tabs h.1 (rfl : (s.setVm U.vm).vm = U.vm) h1
  · cases w with
    | methodLinkNest x i y z => exact va_Nw.use rfl (va_Nw.warmM hW (va_Nw.of rfl hb))
    | arrayOver ty =>
      cases ty with
      | array t => exact over_moved hW.alike hb
      | _ => cases h
    | _ => cases h
theorem cxW {l : Launch} {E : aE} {s : State} (hG : cxG l E s) {w : Cond} (hw : w ∈ lw_tbl) (h : stW w = true) (a : Array Value) : w.before a s = true := stW_at (State.WarmedH.refl s) h (hG.2.1 w hw h)
theorem cxG.move {l : Launch} {E : aE} {s U : State} {locs : List Loc} (hG : cxG l E s) (hW : s.WarmedH U.vm) (hS : va_S (fun a => E.1.2.1 ≤ a) s.heap U.heap locs) : cxG l E U := by
  obtain ⟨h1, h2, h3, h4, h5, h6, h7, h8, h9, h10⟩ := hG
  refine ⟨h1, fun w hw h => stW_at hW h (h2 w hw h), fun q hq => ?_, fun q hq => (h4 q hq).moved hW.alike, h5.moved hW.alike, vx_Zq.moved hW.alike (h6.kept hS.2.1), vx_Zq.moved hW.alike (h7.kept hS.2.1), (h8.kept (hS.2.1 _ (by omega) (by omega))).moved hW.alike, h9, Nat.le_trans h10 hS.1⟩
  obtain ⟨a, ha⟩ := h3 q hq
  exact ⟨a, ha.warm hW⟩
theorem wsA_get {E : aE} {S : aS} {g : aG} {i : Nat} (h : i < S.1) : (wsA E S g)[i]? = some (E.1.2.1 + i, picA E (S.2.1 i) (S.2.2 i) (g i)) := by
  simp [wsA, h]
theorem wsA_D (E : aE) (S : aS) (g : aG) : va_D (fun a => E.1.2.1 ≤ a) (wsA E S g) := by
  have key : ∀ (k : Nat) (x : Nat × va_E), (wsA E S g)[k]? = some x → x.1 = E.1.2.1 + k := by
    intro k x hx
    by_cases hk : k < S.1
    · rw [wsA_get hk] at hx
      cases hx
      rfl
    · rw [List.getElem?_eq_none (by simp [wsA]; omega)] at hx
      cases hx
  refine ⟨fun i j x y hi hj hxy => ?_, fun k x hx => ?_⟩
  · have := key i x hi
    have := key j y hj
    omega
  · show E.1.2.1 ≤ x.1
    rw [key k x hx]
    omega
/-- cell i's kind and length -/
abbrev hasA (S : aS) (i k n : Nat) : Prop := i < S.1 ∧ S.2.1 i = (k, n)
def upA (g : aG) (i j : Nat) (x : Int) : aG := fun a b => if a = i ∧ b = j then x else g a b
theorem upA_eq (g : aG) (i j : Nat) (x : Int) : upA g i j x i j = x := by simp [upA]
theorem upA_ne {g : aG} {i j a b : Nat} {x : Int} (h : ¬ (a = i ∧ b = j)) : upA g i j x a b = g a b := if_neg h
def upR (rf : Nat → Nat → Option Nat) (i j : Nat) (x : Option Nat) : Nat → Nat → Option Nat := fun a b => if a = i ∧ b = j then x else rf a b
theorem wsA_set {E : aE} {S S' : aS} {g g' : aG} {i : Nat} {e : va_E} (hi : i < S.1) (hn : S'.1 = S.1) (he : e = picA E (S'.2.1 i) (S'.2.2 i) (g' i)) (ho : ∀ a, a ≠ i → picA E (S'.2.1 a) (S'.2.2 a) (g' a) = picA E (S.2.1 a) (S.2.2 a) (g a)) : (wsA E S g).set i (E.1.2.1 + i, e) = wsA E S' g' := by
  apply List.ext_getElem?
  intro k
  by_cases hk : k < S.1
  · rw [wsA_get (S := S') (by rw [hn]; exact hk)]
    by_cases hki : k = i
    · subst hki
      rw [List.getElem?_set_self (by simp [wsA, hk]), he]
    · rw [List.getElem?_set_ne (Ne.symm hki), wsA_get hk, ho k hki]
  · rw [List.getElem?_eq_none (by simp [wsA]; omega), List.getElem?_eq_none (by simp [wsA, hn]; omega)]
theorem fsA_get {E : aE} {c k : Nat} {b : Bool} {rf : Nat → Option Nat} {sg : Nat → Int} (h : (rfX c)[k]? = some b) : (fsA E c rf sg)[k]? = some (if b then va_rf ((rf k).map (E.1.2.1 + ·)) else .int (Int32.ofInt (sg k))) := by
  simp [fsA, h]
theorem fsA_len (E : aE) (c : Nat) (rf : Nat → Option Nat) (sg : Nat → Int) : (fsA E c rf sg).length = (rfX c).length := by simp [fsA]
theorem fsA_set {E : aE} {c k : Nat} {b : Bool} {rf rf' : Nat → Option Nat} {sg sg' : Nat → Int} {v : Value} (h : (rfX c)[k]? = some b) (hv : v = if b then va_rf ((rf' k).map (E.1.2.1 + ·)) else .int (Int32.ofInt (sg' k))) (ho : ∀ j, j ≠ k → rf' j = rf j ∧ sg' j = sg j) : (fsA E c rf sg).set k v = fsA E c rf' sg' := by
  apply List.ext_getElem?
  intro j
  have hk : k < (rfX c).length := (List.getElem?_eq_some_iff.mp h).1
  by_cases hj : j = k
  · subst hj
    rw [List.getElem?_set_self (by rw [fsA_len]; exact hk), fsA_get h, hv]
  · rw [List.getElem?_set_ne (Ne.symm hj)]
    obtain ⟨e1, e2⟩ := ho j hj
    simp only [fsA, List.getElem?_mapIdx, e1, e2]
theorem ok_cons {v : aA} {st : List aA} (h : okA v) (hst : ∀ v ∈ st, okA v) : ∀ x ∈ v :: st, okA x := List.forall_mem_cons.mpr ⟨h, hst⟩
theorem ok_hd {v : aA} {st : List aA} (hst : ∀ x ∈ v :: st, okA x) : okA v := hst v List.mem_cons_self
theorem ok_tl {v : aA} {st : List aA} (hst : ∀ x ∈ v :: st, okA x) : ∀ x ∈ st, okA x := fun x h => hst x (List.mem_cons_of_mem _ h)

/-! ===== instructions, as rows speak of them ===== -/
abbrev Kc (q : aK) (pc : Nat) (n : Int) (nx : Nat) : Prop := okI n ∧ ((decode q.2.1 pc = .ok (.iconst n, 1) ∧ pc + 1 = nx) ∨ (decode q.2.1 pc = .ok (.bipush n, 2) ∧ pc + 2 = nx ∧ (Int8.ofInt n).toInt32 = Int32.ofInt n) ∨ (decode q.2.1 pc = .ok (.sipush n, 3) ∧ pc + 3 = nx ∧ (Int16.ofInt n).toInt32 = Int32.ofInt n) ∨ ∃ idx, decode q.2.1 pc = .ok (.ldc idx, 2) ∧ pc + 2 = nx ∧ Cond.constant q.1.cls idx (Int32.ofInt n) ∈ lw_tbl ∧ stW (Cond.constant q.1.cls idx (Int32.ofInt n)) = true)
abbrev Ki (q : aK) (pc k nx : Nat) : Prop := (decode q.2.1 pc = .ok (.iload k, 2) ∧ pc + 2 = nx) ∨ ∃ f : Fin 4, decode q.2.1 pc = .ok (.iload_n f, 1) ∧ (f : Nat) = k ∧ pc + 1 = nx
abbrev Ka (q : aK) (pc k nx : Nat) : Prop := (decode q.2.1 pc = .ok (.aload k, 2) ∧ pc + 2 = nx) ∨ ∃ f : Fin 4, decode q.2.1 pc = .ok (.aload_n f, 1) ∧ (f : Nat) = k ∧ pc + 1 = nx
abbrev Ks (q : aK) (pc k nx : Nat) : Prop := k < q.2.2.1 ∧ ((decode q.2.1 pc = .ok (.istore k, 2) ∧ pc + 2 = nx) ∨ ∃ f : Fin 4, decode q.2.1 pc = .ok (.istore_n f, 1) ∧ (f : Nat) = k ∧ pc + 1 = nx)
abbrev Kt (q : aK) (pc k nx : Nat) : Prop := k < q.2.2.1 ∧ ((decode q.2.1 pc = .ok (.astore k, 2) ∧ pc + 2 = nx) ∨ ∃ f : Fin 4, decode q.2.1 pc = .ok (.astore_n f, 1) ∧ (f : Nat) = k ∧ pc + 1 = nx)
abbrev Kn (q : aK) (pc k : Nat) (n : Int) (nx : Nat) : Prop := k < q.2.2.1 ∧ decode q.2.1 pc = .ok (.iinc k n, 3) ∧ pc + 3 = nx
abbrev K1 (q : aK) (pc : Nat) (i : Instr) (nx : Nat) : Prop := decode q.2.1 pc = .ok (i, 1) ∧ pc + 1 = nx
abbrev Kj (q : aK) (pc : Nat) (mk : Int → Instr) (tg nx : Nat) : Prop := ∃ off : Int, decode q.2.1 pc = .ok (mk off, 3) ∧ (pc : Int) + off = (tg : Int) ∧ pc + 3 = nx
/-- field k of class c, as the entry idx of class own names it -/
abbrev Kw (own : String) (idx c k : Nat) (b : Bool) : Prop := ∃ r : vw_C, vwCl[c]? = some r ∧ k < r.2.2 ∧ (r.2.1 k).1 = r.1 ∧ Cond.fieldLink own idx r.1 (r.2.1 k).2.1 (r.2.1 k).2.2.1 ∈ lw_tbl ∧ (∀ w ∈ u_ws r.1 r.2.1 r.2.2, w ∈ lw_tbl) ∧ (rfX c)[k]? = some b
abbrev Kg (q : aK) (pc c k : Nat) (b : Bool) (nx : Nat) : Prop := ∃ idx, decode q.2.1 pc = .ok (.getfield idx, 3) ∧ pc + 3 = nx ∧ Kw q.1.cls idx c k b
/-- what a store into field k of class c must know: its type, whether it is final -/
abbrev Ko (own : String) (c k : Nat) (ty : FieldType) (fin : Bool) : Prop := ∃ (r : vw_C) (t0 : Nat → FieldType), vwCl[c]? = some r ∧ (∀ j, j < r.2.2 → parseFieldDescriptor (r.2.1 j).2.2.1 = some (t0 j)) ∧ (∀ a, a < r.2.2 → ∀ b, b < r.2.2 → a ≠ b → (r.2.1 a).2.1 ≠ (r.2.1 b).2.1) ∧ t0 k = ty ∧ (r.2.1 k).2.2.2 = fin ∧ (fin = true → r.1 = own)
abbrev Kp (q : aK) (pc c k : Nat) (b : Bool) (ty : FieldType) (fin : Bool) (nx : Nat) : Prop := (∃ idx, decode q.2.1 pc = .ok (.putfield idx, 3) ∧ pc + 3 = nx ∧ Kw q.1.cls idx c k b) ∧ Ko q.1.cls c k ty fin ∧ (fin = true → q.1.name = "<init>")
section AW
variable {l : Launch} {E : aE} {q : aK} {d pc nx tg : Nat} {L : List (Option aA)} {st : List aA} {M : aM} {P : aP}
theorem aw_rng (k : (∀ i j, okI (M.2.1 i j)) → aw l E q d pc L st M P) : aw l E q d pc L st M P := by
  intro p e R s m args below meth cd H locs cells slots kc ks ls hx hG hM hd hl hR hS hL hst c1 c2 s1 s2
  exact k hR.2.1 p e R s m args below meth cd H locs cells slots kc ks ls hx hG hM hd hl hR hS hL hst c1 c2 s1 s2
theorem aw_lr {i : Nat} {x : Int} (h : L[i]? = some (some (iV x))) (k : okI x → aw l E q d pc L st M P) : aw l E q d pc L st M P := by
  intro p e R s m args below meth cd H locs cells slots kc ks ls hx hG hM hd hl hR hS hL hst c1 c2 s1 s2
  exact k (hL.2.2 i _ h).2.1 p e R s m args below meth cd H locs cells slots kc ks ls hx hG hM hd hl hR hS hL hst c1 c2 s1 s2
theorem aw_mono {P' : aP} (h : ∀ r M', P' r M' → P r M') (k : aw l E q d pc L st M P') : aw l E q d pc L st M P := by
  intro p e R s m args below meth cd H locs cells slots kc ks ls hx hG hM hd hl hR hS hL hst c1 c2 s1 s2
  intro T hT X
  obtain ⟨t, a, o, r, M', Lo, k', n', b1, b2, b3, b4⟩ := k p e R s m args below meth cd H locs cells slots kc ks ls hx hG hM hd hl hR hS hL hst c1 c2 s1 s2 T hT X
  exact ⟨t, a, o, r, M', Lo, k', n', b1, b2, h r M' b3, b4⟩
theorem aw_fr {S : aS} {g : aG} {a b : Nat} {f : Bool} (k : aw l E q d pc L st (S, g, a, b, false) P) : aw l E q d pc L st (S, g, a, b, f) P := by
  intro p e R s m args below meth cd H locs cells slots kc ks ls hx hG hM hd hl hR hS hL hst c1 c2 s1 s2
  exact k p e R s m args below meth cd H locs cells slots kc ks ls hx hG hM hd hl ⟨hR.1, hR.2.1, fun h => by cases h⟩ hS hL hst c1 c2 s1 s2
theorem aw_c {n : Int} (h : Kc q pc n nx) (k : aw l E q d nx L (iV n :: st) M P) : aw l E q d pc L st M P := by
  intro p e R s m args below meth cd H locs cells slots kc ks ls hx hG hM hd hl hR hS hL hst c1 c2 s1 s2
  have hb := hM.2.2.1
  have kk := k p e R s m args below meth cd H locs cells slots kc ks ls hx hG hM hd hl hR hS hL (ok_cons h.1 hst) c1 c2 s1 s2
  rcases h.2 with ⟨h1, h2⟩ | ⟨h1, h2, h3⟩ | ⟨h1, h2, h3⟩ | ⟨idx, h1, h2, h3, h4⟩
  · subst h2; exact lv_iconst hx hb h1 rfl kk
  · subst h2; exact lv_bipush hx hb h1 h3 kk
  · subst h2; exact lv_sipush hx hb h1 h3 kk
  · subst h2; exact lv_ldc hx hb (findClass_of_methodNamed hM.1) (cxW hG h3 h4 args) h1 kk
theorem aw_il {k : Nat} {x : Int} (h : Ki q pc k nx) (hk : L[k]? = some (some (iV x))) (kk : aw l E q d nx L (iV x :: st) M P) : aw l E q d pc L st M P := by
  intro p e R s m args below meth cd H locs cells slots kc ks ls hx hG hM hd hl hR hS hL hst c1 c2 s1 s2
  obtain ⟨g1, g2, g3⟩ := hL.2.2 k _ hk
  have kk := kk p e R s m args below meth cd H locs cells slots kc ks ls hx hG hM hd hl hR hS hL (ok_cons g2 hst) c1 c2 s1 s2
  rcases h with ⟨h1, h2⟩ | ⟨f, h1, h2, h3⟩
  · subst h2; exact lv_iload hx hM.2.2.1 h1 g1 kk
  · subst h3; exact lv_iload_n hx hM.2.2.1 h1 h2 g1 kk
theorem aw_al {k : Nat} {x : Nat} (h : Ka q pc k nx) (hk : L[k]? = some (some (rV x))) (kk : aw l E q d nx L (rV x :: st) M P) : aw l E q d pc L st M P := by
  intro p e R s m args below meth cd H locs cells slots kc ks ls hx hG hM hd hl hR hS hL hst c1 c2 s1 s2
  obtain ⟨g1, g2, g3⟩ := hL.2.2 k _ hk
  have kk := kk p e R s m args below meth cd H locs cells slots kc ks ls hx hG hM hd hl hR hS hL (ok_cons g2 hst) c1 c2 s1 s2
  rcases h with ⟨h1, h2⟩ | ⟨f, h1, h2, h3⟩
  · subst h2; exact lv_aload hx hM.2.2.1 h1 g1 kk
  · subst h3; exact lv_aload_n hx hM.2.2.1 h1 h2 g1 kk
theorem aw_sl {k : Nat} (h : Ka q pc k nx) (hk : L[k]? = some (some (sV))) (kk : aw l E q d nx L (sV :: st) M P) : aw l E q d pc L st M P := by
  intro p e R s m args below meth cd H locs cells slots kc ks ls hx hG hM hd hl hR hS hL hst c1 c2 s1 s2
  obtain ⟨g1, g2, g3⟩ := hL.2.2 k _ hk
  have kk := kk p e R s m args below meth cd H locs cells slots kc ks ls hx hG hM hd hl hR hS hL (ok_cons g2 hst) c1 c2 s1 s2
  rcases h with ⟨h1, h2⟩ | ⟨f, h1, h2, h3⟩
  · subst h2; exact lv_aload hx hM.2.2.1 h1 g1 kk
  · subst h3; exact lv_aload_n hx hM.2.2.1 h1 h2 g1 kk
theorem lsA_set {n k : Nat} {ls : Array Slot} {v : aA} (hL : lsA E n L ls) (hk : k < n) (hv : okA v) (hc : (cvA E v).category = 1) : ∃ lv, lv_has ls n lv ∧ ∀ ls', lv_has ls' n ((k, cvA E v) :: lv.filter (fun q => !(q.1 == k) && !(q.1 + 1 == k && q.2.category == 2))) → lsA E n (L.set k (some v)) ls' := by
  refine ⟨(List.range L.length).filterMap (fun j => (L[j]?).join.map (fun w => (j, cvA E w))), ⟨hL.1, hL.2.1, fun x hx => ?_⟩, fun ls' h' => ⟨h'.1, h'.2.1, fun j w hw => ?_⟩⟩
  · obtain ⟨j, -, hj⟩ := List.mem_filterMap.mp hx
    cases e : L[j]? with
    | none => rw [e] at hj; cases hj
    | some o =>
      cases o with
      | none => rw [e] at hj; cases hj
      | some w =>
        rw [e] at hj
        cases hj
        exact (hL.2.2 j w e).1
  · by_cases hj : j = k
    · subst hj
      have hlt : j < L.length := by
        have := (List.getElem?_eq_some_iff.mp hw).1
        simpa using this
      rw [List.getElem?_set_self hlt] at hw
      cases hw
      exact ⟨h'.2.2 (j, cvA E v) List.mem_cons_self, hv, hc⟩
    · rw [List.getElem?_set_ne (Ne.symm hj)] at hw
      obtain ⟨g1, g2, g3⟩ := hL.2.2 j w hw
      refine ⟨h'.2.2 (j, cvA E w) (List.mem_cons_of_mem _ (List.mem_filter.mpr ⟨List.mem_filterMap.mpr ⟨j, List.mem_range.mpr (List.getElem?_eq_some_iff.mp hw).1, by rw [hw]; rfl⟩, ?_⟩)), g2, g3⟩
      simp [hj, g3]
theorem aw_is {k : Nat} {x : Int} (h : Ks q pc k nx) (kk : aw l E q d nx (L.set k (some (iV x))) st M P) : aw l E q d pc L (iV x :: st) M P := by
  intro p e R s m args below meth cd H locs cells slots kc ks ls hx hG hM hd hl hR hS hL hst c1 c2 s1 s2
  obtain ⟨hk, h⟩ := h
  obtain ⟨lv, g1, g2⟩ := lsA_set hL hk (ok_hd hst) rfl
  rcases h with ⟨h1, h2⟩ | ⟨f, h1, h2, h3⟩
  · subst h2; exact lv_istore hx hM.2.2.1 h1 g1 hk rfl fun ls' h' => kk p e R s m args below meth cd H locs cells slots kc ks ls' hx hG hM hd hl hR hS (g2 ls' h') (ok_tl hst) c1 c2 s1 s2
  · subst h3; exact lv_istore_n hx hM.2.2.1 h1 h2 g1 hk rfl fun ls' h' => kk p e R s m args below meth cd H locs cells slots kc ks ls' hx hG hM hd hl hR hS (g2 ls' h') (ok_tl hst) c1 c2 s1 s2
theorem aw_as {k : Nat} {x : Nat} (h : Kt q pc k nx) (kk : aw l E q d nx (L.set k (some (rV x))) st M P) : aw l E q d pc L (rV x :: st) M P := by
  intro p e R s m args below meth cd H locs cells slots kc ks ls hx hG hM hd hl hR hS hL hst c1 c2 s1 s2
  obtain ⟨hk, h⟩ := h
  obtain ⟨lv, g1, g2⟩ := lsA_set hL hk (ok_hd hst) rfl
  rcases h with ⟨h1, h2⟩ | ⟨f, h1, h2, h3⟩
  · subst h2; exact lv_astore hx hM.2.2.1 h1 g1 hk rfl fun ls' h' => kk p e R s m args below meth cd H locs cells slots kc ks ls' hx hG hM hd hl hR hS (g2 ls' h') (ok_tl hst) c1 c2 s1 s2
  · subst h3; exact lv_astore_n hx hM.2.2.1 h1 h2 g1 hk rfl fun ls' h' => kk p e R s m args below meth cd H locs cells slots kc ks ls' hx hG hM hd hl hR hS (g2 ls' h') (ok_tl hst) c1 c2 s1 s2
theorem aw_in {k : Nat} {x n : Int} (h : Kn q pc k n nx) (hk : L[k]? = some (some (iV x))) (hr : okI (x + n)) (kk : aw l E q d nx (L.set k (some (iV (x + n)))) st M P) : aw l E q d pc L st M P := by
  intro p e R s m args below meth cd H locs cells slots kc ks ls hx hG hM hd hl hR hS hL hst c1 c2 s1 s2
  obtain ⟨hkn, h1, h2⟩ := h
  subst h2
  obtain ⟨lv, g1, g2⟩ := lsA_set (v := iV (x + n)) hL hkn hr rfl
  obtain ⟨g3, -, -⟩ := hL.2.2 k _ hk
  have g4 : lv_has ls q.2.2.1 ((k, Value.int (Int32.ofInt x)) :: lv) := ⟨g1.1, g1.2.1, fun y hy => (List.mem_cons.mp hy).elim (fun e => by rw [e]; exact g3) (g1.2.2 y)⟩
  refine lv_iinc (k := 0) (lv := (k, Value.int (Int32.ofInt x)) :: lv) hx hM.2.2.1 h1 g4 rfl (v := Int32.ofInt (x + n)) (Int32.ofInt_add ..).symm hkn rfl fun ls' h' => ?_
  have h'' : lv_has ls' q.2.2.1 ((k, cvA E (iV (x + n))) :: lv.filter (fun q => !(q.1 == k) && !(q.1 + 1 == k && q.2.category == 2))) := by
    have e : ((k, Value.int (Int32.ofInt x)) :: lv).filter (fun q => !(q.1 == k) && !(q.1 + 1 == k && q.2.category == 2)) = lv.filter (fun q => !(q.1 == k) && !(q.1 + 1 == k && q.2.category == 2)) := by
      rw [List.filter_cons_of_neg]
      simp
    rw [e] at h'
    exact h' 
  exact kk p e R s m args below meth cd H locs cells slots kc ks ls' hx hG hM hd hl hR hS (g2 ls' h'') hst c1 c2 s1 s2
theorem aw_il0 {x1 x2 x3 x4 x5 x6 : Option aA} {x : Int} (h : Ki q pc 0 nx) (kk : aw l E q d nx [some (iV x), x1, x2, x3, x4, x5, x6] (iV x :: st) M P) : aw l E q d pc [some (iV x), x1, x2, x3, x4, x5, x6] st M P := aw_il h rfl kk
theorem aw_al0 {x1 x2 x3 x4 x5 x6 : Option aA} {x : Nat} (h : Ka q pc 0 nx) (kk : aw l E q d nx [some (rV x), x1, x2, x3, x4, x5, x6] (rV x :: st) M P) : aw l E q d pc [some (rV x), x1, x2, x3, x4, x5, x6] st M P := aw_al h rfl kk
theorem aw_is0 {x0 x1 x2 x3 x4 x5 x6 : Option aA} {x : Int} (h : Ks q pc 0 nx) (kk : aw l E q d nx [some (iV x), x1, x2, x3, x4, x5, x6] st M P) : aw l E q d pc [x0, x1, x2, x3, x4, x5, x6] (iV x :: st) M P := aw_is h kk
theorem aw_as0 {x0 x1 x2 x3 x4 x5 x6 : Option aA} {x : Nat} (h : Kt q pc 0 nx) (kk : aw l E q d nx [some (rV x), x1, x2, x3, x4, x5, x6] st M P) : aw l E q d pc [x0, x1, x2, x3, x4, x5, x6] (rV x :: st) M P := aw_as h kk
theorem aw_in0 {x1 x2 x3 x4 x5 x6 : Option aA} {x n : Int} (h : Kn q pc 0 n nx) (hr : okI (x + n)) (kk : aw l E q d nx [some (iV (x + n)), x1, x2, x3, x4, x5, x6] st M P) : aw l E q d pc [some (iV x), x1, x2, x3, x4, x5, x6] st M P := aw_in h rfl hr kk
theorem aw_il1 {x0 x2 x3 x4 x5 x6 : Option aA} {x : Int} (h : Ki q pc 1 nx) (kk : aw l E q d nx [x0, some (iV x), x2, x3, x4, x5, x6] (iV x :: st) M P) : aw l E q d pc [x0, some (iV x), x2, x3, x4, x5, x6] st M P := aw_il h rfl kk
theorem aw_al1 {x0 x2 x3 x4 x5 x6 : Option aA} {x : Nat} (h : Ka q pc 1 nx) (kk : aw l E q d nx [x0, some (rV x), x2, x3, x4, x5, x6] (rV x :: st) M P) : aw l E q d pc [x0, some (rV x), x2, x3, x4, x5, x6] st M P := aw_al h rfl kk
theorem aw_is1 {x0 x1 x2 x3 x4 x5 x6 : Option aA} {x : Int} (h : Ks q pc 1 nx) (kk : aw l E q d nx [x0, some (iV x), x2, x3, x4, x5, x6] st M P) : aw l E q d pc [x0, x1, x2, x3, x4, x5, x6] (iV x :: st) M P := aw_is h kk
theorem aw_as1 {x0 x1 x2 x3 x4 x5 x6 : Option aA} {x : Nat} (h : Kt q pc 1 nx) (kk : aw l E q d nx [x0, some (rV x), x2, x3, x4, x5, x6] st M P) : aw l E q d pc [x0, x1, x2, x3, x4, x5, x6] (rV x :: st) M P := aw_as h kk
theorem aw_in1 {x0 x2 x3 x4 x5 x6 : Option aA} {x n : Int} (h : Kn q pc 1 n nx) (hr : okI (x + n)) (kk : aw l E q d nx [x0, some (iV (x + n)), x2, x3, x4, x5, x6] st M P) : aw l E q d pc [x0, some (iV x), x2, x3, x4, x5, x6] st M P := aw_in h rfl hr kk
theorem aw_il2 {x0 x1 x3 x4 x5 x6 : Option aA} {x : Int} (h : Ki q pc 2 nx) (kk : aw l E q d nx [x0, x1, some (iV x), x3, x4, x5, x6] (iV x :: st) M P) : aw l E q d pc [x0, x1, some (iV x), x3, x4, x5, x6] st M P := aw_il h rfl kk
theorem aw_al2 {x0 x1 x3 x4 x5 x6 : Option aA} {x : Nat} (h : Ka q pc 2 nx) (kk : aw l E q d nx [x0, x1, some (rV x), x3, x4, x5, x6] (rV x :: st) M P) : aw l E q d pc [x0, x1, some (rV x), x3, x4, x5, x6] st M P := aw_al h rfl kk
theorem aw_is2 {x0 x1 x2 x3 x4 x5 x6 : Option aA} {x : Int} (h : Ks q pc 2 nx) (kk : aw l E q d nx [x0, x1, some (iV x), x3, x4, x5, x6] st M P) : aw l E q d pc [x0, x1, x2, x3, x4, x5, x6] (iV x :: st) M P := aw_is h kk
theorem aw_as2 {x0 x1 x2 x3 x4 x5 x6 : Option aA} {x : Nat} (h : Kt q pc 2 nx) (kk : aw l E q d nx [x0, x1, some (rV x), x3, x4, x5, x6] st M P) : aw l E q d pc [x0, x1, x2, x3, x4, x5, x6] (rV x :: st) M P := aw_as h kk
theorem aw_in2 {x0 x1 x3 x4 x5 x6 : Option aA} {x n : Int} (h : Kn q pc 2 n nx) (hr : okI (x + n)) (kk : aw l E q d nx [x0, x1, some (iV (x + n)), x3, x4, x5, x6] st M P) : aw l E q d pc [x0, x1, some (iV x), x3, x4, x5, x6] st M P := aw_in h rfl hr kk
theorem aw_il3 {x0 x1 x2 x4 x5 x6 : Option aA} {x : Int} (h : Ki q pc 3 nx) (kk : aw l E q d nx [x0, x1, x2, some (iV x), x4, x5, x6] (iV x :: st) M P) : aw l E q d pc [x0, x1, x2, some (iV x), x4, x5, x6] st M P := aw_il h rfl kk
theorem aw_al3 {x0 x1 x2 x4 x5 x6 : Option aA} {x : Nat} (h : Ka q pc 3 nx) (kk : aw l E q d nx [x0, x1, x2, some (rV x), x4, x5, x6] (rV x :: st) M P) : aw l E q d pc [x0, x1, x2, some (rV x), x4, x5, x6] st M P := aw_al h rfl kk
theorem aw_is3 {x0 x1 x2 x3 x4 x5 x6 : Option aA} {x : Int} (h : Ks q pc 3 nx) (kk : aw l E q d nx [x0, x1, x2, some (iV x), x4, x5, x6] st M P) : aw l E q d pc [x0, x1, x2, x3, x4, x5, x6] (iV x :: st) M P := aw_is h kk
theorem aw_as3 {x0 x1 x2 x3 x4 x5 x6 : Option aA} {x : Nat} (h : Kt q pc 3 nx) (kk : aw l E q d nx [x0, x1, x2, some (rV x), x4, x5, x6] st M P) : aw l E q d pc [x0, x1, x2, x3, x4, x5, x6] (rV x :: st) M P := aw_as h kk
theorem aw_in3 {x0 x1 x2 x4 x5 x6 : Option aA} {x n : Int} (h : Kn q pc 3 n nx) (hr : okI (x + n)) (kk : aw l E q d nx [x0, x1, x2, some (iV (x + n)), x4, x5, x6] st M P) : aw l E q d pc [x0, x1, x2, some (iV x), x4, x5, x6] st M P := aw_in h rfl hr kk
theorem aw_il4 {x0 x1 x2 x3 x5 x6 : Option aA} {x : Int} (h : Ki q pc 4 nx) (kk : aw l E q d nx [x0, x1, x2, x3, some (iV x), x5, x6] (iV x :: st) M P) : aw l E q d pc [x0, x1, x2, x3, some (iV x), x5, x6] st M P := aw_il h rfl kk
theorem aw_al4 {x0 x1 x2 x3 x5 x6 : Option aA} {x : Nat} (h : Ka q pc 4 nx) (kk : aw l E q d nx [x0, x1, x2, x3, some (rV x), x5, x6] (rV x :: st) M P) : aw l E q d pc [x0, x1, x2, x3, some (rV x), x5, x6] st M P := aw_al h rfl kk
theorem aw_is4 {x0 x1 x2 x3 x4 x5 x6 : Option aA} {x : Int} (h : Ks q pc 4 nx) (kk : aw l E q d nx [x0, x1, x2, x3, some (iV x), x5, x6] st M P) : aw l E q d pc [x0, x1, x2, x3, x4, x5, x6] (iV x :: st) M P := aw_is h kk
theorem aw_as4 {x0 x1 x2 x3 x4 x5 x6 : Option aA} {x : Nat} (h : Kt q pc 4 nx) (kk : aw l E q d nx [x0, x1, x2, x3, some (rV x), x5, x6] st M P) : aw l E q d pc [x0, x1, x2, x3, x4, x5, x6] (rV x :: st) M P := aw_as h kk
theorem aw_in4 {x0 x1 x2 x3 x5 x6 : Option aA} {x n : Int} (h : Kn q pc 4 n nx) (hr : okI (x + n)) (kk : aw l E q d nx [x0, x1, x2, x3, some (iV (x + n)), x5, x6] st M P) : aw l E q d pc [x0, x1, x2, x3, some (iV x), x5, x6] st M P := aw_in h rfl hr kk
theorem aw_il5 {x0 x1 x2 x3 x4 x6 : Option aA} {x : Int} (h : Ki q pc 5 nx) (kk : aw l E q d nx [x0, x1, x2, x3, x4, some (iV x), x6] (iV x :: st) M P) : aw l E q d pc [x0, x1, x2, x3, x4, some (iV x), x6] st M P := aw_il h rfl kk
theorem aw_al5 {x0 x1 x2 x3 x4 x6 : Option aA} {x : Nat} (h : Ka q pc 5 nx) (kk : aw l E q d nx [x0, x1, x2, x3, x4, some (rV x), x6] (rV x :: st) M P) : aw l E q d pc [x0, x1, x2, x3, x4, some (rV x), x6] st M P := aw_al h rfl kk
theorem aw_is5 {x0 x1 x2 x3 x4 x5 x6 : Option aA} {x : Int} (h : Ks q pc 5 nx) (kk : aw l E q d nx [x0, x1, x2, x3, x4, some (iV x), x6] st M P) : aw l E q d pc [x0, x1, x2, x3, x4, x5, x6] (iV x :: st) M P := aw_is h kk
theorem aw_as5 {x0 x1 x2 x3 x4 x5 x6 : Option aA} {x : Nat} (h : Kt q pc 5 nx) (kk : aw l E q d nx [x0, x1, x2, x3, x4, some (rV x), x6] st M P) : aw l E q d pc [x0, x1, x2, x3, x4, x5, x6] (rV x :: st) M P := aw_as h kk
theorem aw_in5 {x0 x1 x2 x3 x4 x6 : Option aA} {x n : Int} (h : Kn q pc 5 n nx) (hr : okI (x + n)) (kk : aw l E q d nx [x0, x1, x2, x3, x4, some (iV (x + n)), x6] st M P) : aw l E q d pc [x0, x1, x2, x3, x4, some (iV x), x6] st M P := aw_in h rfl hr kk
theorem aw_il6 {x0 x1 x2 x3 x4 x5 : Option aA} {x : Int} (h : Ki q pc 6 nx) (kk : aw l E q d nx [x0, x1, x2, x3, x4, x5, some (iV x)] (iV x :: st) M P) : aw l E q d pc [x0, x1, x2, x3, x4, x5, some (iV x)] st M P := aw_il h rfl kk
theorem aw_al6 {x0 x1 x2 x3 x4 x5 : Option aA} {x : Nat} (h : Ka q pc 6 nx) (kk : aw l E q d nx [x0, x1, x2, x3, x4, x5, some (rV x)] (rV x :: st) M P) : aw l E q d pc [x0, x1, x2, x3, x4, x5, some (rV x)] st M P := aw_al h rfl kk
theorem aw_is6 {x0 x1 x2 x3 x4 x5 x6 : Option aA} {x : Int} (h : Ks q pc 6 nx) (kk : aw l E q d nx [x0, x1, x2, x3, x4, x5, some (iV x)] st M P) : aw l E q d pc [x0, x1, x2, x3, x4, x5, x6] (iV x :: st) M P := aw_is h kk
theorem aw_as6 {x0 x1 x2 x3 x4 x5 x6 : Option aA} {x : Nat} (h : Kt q pc 6 nx) (kk : aw l E q d nx [x0, x1, x2, x3, x4, x5, some (rV x)] st M P) : aw l E q d pc [x0, x1, x2, x3, x4, x5, x6] (rV x :: st) M P := aw_as h kk
theorem aw_in6 {x0 x1 x2 x3 x4 x5 : Option aA} {x n : Int} (h : Kn q pc 6 n nx) (hr : okI (x + n)) (kk : aw l E q d nx [x0, x1, x2, x3, x4, x5, some (iV (x + n))] st M P) : aw l E q d pc [x0, x1, x2, x3, x4, x5, some (iV x)] st M P := aw_in h rfl hr kk
theorem aw_sl0 {x1 x2 x3 x4 x5 x6 : Option aA} (h : Ka q pc 0 nx) (kk : aw l E q d nx [some sV, x1, x2, x3, x4, x5, x6] (sV :: st) M P) : aw l E q d pc [some sV, x1, x2, x3, x4, x5, x6] st M P := aw_sl h rfl kk
theorem aw_add {x y : Int} (h : K1 q pc .iadd nx) (hr : okI (x + y)) (kk : aw l E q d nx L (iV (x + y) :: st) M P) : aw l E q d pc L (iV y :: iV x :: st) M P := by
  intro p e R s m args below meth cd H locs cells slots kc ks ls hx hG hM hd hl hR hS hL hst c1 c2 s1 s2
  obtain ⟨h1, h2⟩ := h
  subst h2
  refine lv_iadd hx hM.2.2.1 h1 ?_
  rw [← Int32.ofInt_add]
  exact kk p e R s m args below meth cd H locs cells slots kc ks ls hx hG hM hd hl hR hS hL (ok_cons hr (ok_tl (ok_tl hst))) c1 c2 s1 s2
theorem aw_sub {x y : Int} (h : K1 q pc .isub nx) (hr : okI (x - y)) (kk : aw l E q d nx L (iV (x - y) :: st) M P) : aw l E q d pc L (iV y :: iV x :: st) M P := by
  intro p e R s m args below meth cd H locs cells slots kc ks ls hx hG hM hd hl hR hS hL hst c1 c2 s1 s2
  obtain ⟨h1, h2⟩ := h
  subst h2
  refine lv_isub hx hM.2.2.1 h1 ?_
  rw [← Int32.ofInt_sub]
  exact kk p e R s m args below meth cd H locs cells slots kc ks ls hx hG hM hd hl hR hS hL (ok_cons hr (ok_tl (ok_tl hst))) c1 c2 s1 s2
theorem aw_mul {x y : Int} (h : K1 q pc .imul nx) (hr : okI (x * y)) (kk : aw l E q d nx L (iV (x * y) :: st) M P) : aw l E q d pc L (iV y :: iV x :: st) M P := by
  intro p e R s m args below meth cd H locs cells slots kc ks ls hx hG hM hd hl hR hS hL hst c1 c2 s1 s2
  obtain ⟨h1, h2⟩ := h
  subst h2
  refine lv_imul hx hM.2.2.1 h1 ?_
  rw [← Int32.ofInt_mul]
  exact kk p e R s m args below meth cd H locs cells slots kc ks ls hx hG hM hd hl hR hS hL (ok_cons hr (ok_tl (ok_tl hst))) c1 c2 s1 s2
theorem aw_wsub {x y z : Int} (h : K1 q pc .isub nx) (hr : okI z) (hz : Int32.ofInt z = Int32.ofInt x - Int32.ofInt y) (kk : aw l E q d nx L (iV z :: st) M P) : aw l E q d pc L (iV y :: iV x :: st) M P := by
  intro p e R s m args below meth cd H locs cells slots kc ks ls hx hG hM hd hl hR hS hL hst c1 c2 s1 s2
  obtain ⟨h1, h2⟩ := h
  subst h2
  refine lv_isub hx hM.2.2.1 h1 ?_
  rw [← hz]
  exact kk p e R s m args below meth cd H locs cells slots kc ks ls hx hG hM hd hl hR hS hL (ok_cons hr (ok_tl (ok_tl hst))) c1 c2 s1 s2
theorem aw_iand {x y z : Int} (h : K1 q pc .iand nx) (hr : okI z) (hz : Int32.ofInt z = Int32.ofInt x &&& Int32.ofInt y) (kk : aw l E q d nx L (iV z :: st) M P) : aw l E q d pc L (iV y :: iV x :: st) M P := by
  intro p e R s m args below meth cd H locs cells slots kc ks ls hx hG hM hd hl hR hS hL hst c1 c2 s1 s2
  obtain ⟨h1, h2⟩ := h
  subst h2
  refine lv_iand hx hM.2.2.1 h1 ?_
  rw [← hz]
  exact kk p e R s m args below meth cd H locs cells slots kc ks ls hx hG hM hd hl hR hS hL (ok_cons hr (ok_tl (ok_tl hst))) c1 c2 s1 s2
theorem aw_ior {x y z : Int} (h : K1 q pc .ior nx) (hr : okI z) (hz : Int32.ofInt z = Int32.ofInt x ||| Int32.ofInt y) (kk : aw l E q d nx L (iV z :: st) M P) : aw l E q d pc L (iV y :: iV x :: st) M P := by
  intro p e R s m args below meth cd H locs cells slots kc ks ls hx hG hM hd hl hR hS hL hst c1 c2 s1 s2
  obtain ⟨h1, h2⟩ := h
  subst h2
  refine lv_ior hx hM.2.2.1 h1 ?_
  rw [← hz]
  exact kk p e R s m args below meth cd H locs cells slots kc ks ls hx hG hM hd hl hR hS hL (ok_cons hr (ok_tl (ok_tl hst))) c1 c2 s1 s2
theorem aw_i2l {x : Int} (h : K1 q pc .i2l nx) (kk : aw l E q d nx L (lV x :: st) M P) : aw l E q d pc L (iV x :: st) M P := by
  intro p e R s m args below meth cd H locs cells slots kc ks ls hx hG hM hd hl hR hS hL hst c1 c2 s1 s2
  obtain ⟨h1, h2⟩ := h
  subst h2
  have hr : okI x := ok_hd hst
  refine lv_i2l hx hM.2.2.1 h1 (v := Int64.ofInt x) ?_ ?_
  · apply Int64.toInt_inj.mp
    rw [Jvm.Kit.i64_of_i32, i32T hr, i64T hr]
  · exact kk p e R s m args below meth cd H locs cells slots kc ks ls hx hG hM hd hl hR hS hL (ok_cons (v := lV x) hr (ok_tl hst)) c1 c2 s1 s2
theorem aw_lc {n : Nat} (h : ∃ f : Fin 2, K1 q pc (.lconst f) nx ∧ (f : Nat) = n) (kk : aw l E q d nx L (lV (n : Int) :: st) M P) : aw l E q d pc L st M P := by
  intro p e R s m args below meth cd H locs cells slots kc ks ls hx hG hM hd hl hR hS hL hst c1 c2 s1 s2
  obtain ⟨f, ⟨h1, h2⟩, h3⟩ := h
  subst h2
  have hn : okI (n : Int) := by have := f.isLt; constructor <;> omega
  refine lv_lconst hx hM.2.2.1 h1 (v := Int64.ofInt (n : Int)) ?_ ?_
  · rw [h3]; exact (Int64.ofInt_eq_ofNat ..).symm
  · exact kk p e R s m args below meth cd H locs cells slots kc ks ls hx hG hM hd hl hR hS hL (ok_cons (v := lV (n : Int)) hn hst) c1 c2 s1 s2
theorem aw_lcmp {x y : Int} (h : K1 q pc .lcmp nx) (kt : x = y → aw l E q d nx L (iV 0 :: st) M P) (kf : ∀ z, z ≠ 0 → x ≠ y → aw l E q d nx L (iV z :: st) M P) : aw l E q d pc L (lV y :: lV x :: st) M P := by
  intro p e R s m args below meth cd H locs cells slots kc ks ls hx hG hM hd hl hR hS hL hst c1 c2 s1 s2
  obtain ⟨h1, h2⟩ := h
  subst h2
  have hy : okI y := ok_hd hst
  have hx2 : okI x := ok_hd (ok_tl hst)
  refine W.lcmp hx hM.2.2.1 h1 ?_
  unfold lg_cmp
  split
  · next h3 =>
    have h4 : y < x := by have := Int64.lt_iff_toInt_lt.mp h3; rw [i64T hy, i64T hx2] at this; exact this
    exact kf 1 (by decide) (by omega) p e R s m args below meth cd H locs cells slots kc ks ls hx hG hM hd hl hR hS hL (ok_cons (v := iV 1) (by decide : okI 1) (ok_tl (ok_tl hst))) c1 c2 s1 s2
  · next h3 =>
    split
    · next h4 =>
      have h5 : x = y := by have := Int64.toInt_inj.mpr h4; rw [i64T hx2, i64T hy] at this; exact this
      exact kt h5 p e R s m args below meth cd H locs cells slots kc ks ls hx hG hM hd hl hR hS hL (ok_cons (v := iV 0) ok0 (ok_tl (ok_tl hst))) c1 c2 s1 s2
    · next h4 =>
      have h5 : x ≠ y := fun e => h4 (by rw [e])
      exact kf (-1) (by decide) h5 p e R s m args below meth cd H locs cells slots kc ks ls hx hG hM hd hl hR hS hL (ok_cons (v := iV (-1)) (by decide : okI (-1)) (ok_tl (ok_tl hst))) c1 c2 s1 s2
theorem aw_dup {i : Nat} (h : K1 q pc .dup nx) (kk : aw l E q d nx L (rV i :: rV i :: st) M P) : aw l E q d pc L (rV i :: st) M P := by
  intro p e R s m args below meth cd H locs cells slots kc ks ls hx hG hM hd hl hR hS hL hst c1 c2 s1 s2
  obtain ⟨h1, h2⟩ := h
  subst h2
  exact lv_dup hx hM.2.2.1 h1 rfl (kk p e R s m args below meth cd H locs cells slots kc ks ls hx hG hM hd hl hR hS hL (ok_cons (ok_hd hst) hst) c1 c2 s1 s2)
theorem aw_ceq {x y : Int} (h : Kj q pc (.if_icmp .eq) tg nx) (kt : x = y → aw l E q d tg L st M P) (kf : ¬ x = y → aw l E q d nx L st M P) : aw l E q d pc L (iV y :: iV x :: st) M P := by
  intro p e R s m args below meth cd H locs cells slots kc ks ls hx hG hM hd hl hR hS hL hst c1 c2 s1 s2
  obtain ⟨off, h1, h2, h3⟩ := h
  subst h3
  have hy : okI y := ok_hd hst
  have hx2 : okI x := ok_hd (ok_tl hst)
  exact lv_icmp_eq hx hM.2.2.1 h1 h2 (fun hz => kt ((i32E hx2 hy).mp hz) p e R s m args below meth cd H locs cells slots kc ks ls hx hG hM hd hl hR hS hL (ok_tl (ok_tl hst)) c1 c2 s1 s2) (fun hz => kf (mt (i32E hx2 hy).mpr hz) p e R s m args below meth cd H locs cells slots kc ks ls hx hG hM hd hl hR hS hL (ok_tl (ok_tl hst)) c1 c2 s1 s2)
theorem aw_cne {x y : Int} (h : Kj q pc (.if_icmp .ne) tg nx) (kt : ¬ x = y → aw l E q d tg L st M P) (kf : x = y → aw l E q d nx L st M P) : aw l E q d pc L (iV y :: iV x :: st) M P := by
  intro p e R s m args below meth cd H locs cells slots kc ks ls hx hG hM hd hl hR hS hL hst c1 c2 s1 s2
  obtain ⟨off, h1, h2, h3⟩ := h
  subst h3
  have hy : okI y := ok_hd hst
  have hx2 : okI x := ok_hd (ok_tl hst)
  exact lv_icmp_ne hx hM.2.2.1 h1 h2 (fun hz => kt (mt (i32E hx2 hy).mpr hz) p e R s m args below meth cd H locs cells slots kc ks ls hx hG hM hd hl hR hS hL (ok_tl (ok_tl hst)) c1 c2 s1 s2) (fun hz => kf ((i32E hx2 hy).mp hz) p e R s m args below meth cd H locs cells slots kc ks ls hx hG hM hd hl hR hS hL (ok_tl (ok_tl hst)) c1 c2 s1 s2)
theorem aw_clt {x y : Int} (h : Kj q pc (.if_icmp .lt) tg nx) (kt : x < y → aw l E q d tg L st M P) (kf : y ≤ x → aw l E q d nx L st M P) : aw l E q d pc L (iV y :: iV x :: st) M P := by
  intro p e R s m args below meth cd H locs cells slots kc ks ls hx hG hM hd hl hR hS hL hst c1 c2 s1 s2
  obtain ⟨off, h1, h2, h3⟩ := h
  subst h3
  have hy : okI y := ok_hd hst
  have hx2 : okI x := ok_hd (ok_tl hst)
  exact lv_icmp_lt hx hM.2.2.1 h1 h2 (fun hz => kt ((i32L hx2 hy).mp hz) p e R s m args below meth cd H locs cells slots kc ks ls hx hG hM hd hl hR hS hL (ok_tl (ok_tl hst)) c1 c2 s1 s2) (fun hz => kf (by have := mt (i32L hx2 hy).mpr hz; omega) p e R s m args below meth cd H locs cells slots kc ks ls hx hG hM hd hl hR hS hL (ok_tl (ok_tl hst)) c1 c2 s1 s2)
theorem aw_cge {x y : Int} (h : Kj q pc (.if_icmp .ge) tg nx) (kt : y ≤ x → aw l E q d tg L st M P) (kf : x < y → aw l E q d nx L st M P) : aw l E q d pc L (iV y :: iV x :: st) M P := by
  intro p e R s m args below meth cd H locs cells slots kc ks ls hx hG hM hd hl hR hS hL hst c1 c2 s1 s2
  obtain ⟨off, h1, h2, h3⟩ := h
  subst h3
  have hy : okI y := ok_hd hst
  have hx2 : okI x := ok_hd (ok_tl hst)
  exact lv_icmp_ge hx hM.2.2.1 h1 h2 (fun hz => kt ((i32B hy hx2).mp hz) p e R s m args below meth cd H locs cells slots kc ks ls hx hG hM hd hl hR hS hL (ok_tl (ok_tl hst)) c1 c2 s1 s2) (fun hz => kf (by have := mt (i32B hy hx2).mpr hz; omega) p e R s m args below meth cd H locs cells slots kc ks ls hx hG hM hd hl hR hS hL (ok_tl (ok_tl hst)) c1 c2 s1 s2)
theorem aw_cgt {x y : Int} (h : Kj q pc (.if_icmp .gt) tg nx) (kt : y < x → aw l E q d tg L st M P) (kf : x ≤ y → aw l E q d nx L st M P) : aw l E q d pc L (iV y :: iV x :: st) M P := by
  intro p e R s m args below meth cd H locs cells slots kc ks ls hx hG hM hd hl hR hS hL hst c1 c2 s1 s2
  obtain ⟨off, h1, h2, h3⟩ := h
  subst h3
  have hy : okI y := ok_hd hst
  have hx2 : okI x := ok_hd (ok_tl hst)
  exact lv_icmp_gt hx hM.2.2.1 h1 h2 (fun hz => kt ((i32L hy hx2).mp hz) p e R s m args below meth cd H locs cells slots kc ks ls hx hG hM hd hl hR hS hL (ok_tl (ok_tl hst)) c1 c2 s1 s2) (fun hz => kf (by have := mt (i32L hy hx2).mpr hz; omega) p e R s m args below meth cd H locs cells slots kc ks ls hx hG hM hd hl hR hS hL (ok_tl (ok_tl hst)) c1 c2 s1 s2)
theorem aw_cle {x y : Int} (h : Kj q pc (.if_icmp .le) tg nx) (kt : x ≤ y → aw l E q d tg L st M P) (kf : y < x → aw l E q d nx L st M P) : aw l E q d pc L (iV y :: iV x :: st) M P := by
  intro p e R s m args below meth cd H locs cells slots kc ks ls hx hG hM hd hl hR hS hL hst c1 c2 s1 s2
  obtain ⟨off, h1, h2, h3⟩ := h
  subst h3
  have hy : okI y := ok_hd hst
  have hx2 : okI x := ok_hd (ok_tl hst)
  exact lv_icmp_le hx hM.2.2.1 h1 h2 (fun hz => kt ((i32B hx2 hy).mp hz) p e R s m args below meth cd H locs cells slots kc ks ls hx hG hM hd hl hR hS hL (ok_tl (ok_tl hst)) c1 c2 s1 s2) (fun hz => kf (by have := mt (i32B hx2 hy).mpr hz; omega) p e R s m args below meth cd H locs cells slots kc ks ls hx hG hM hd hl hR hS hL (ok_tl (ok_tl hst)) c1 c2 s1 s2)
theorem aw_zeq {x : Int} (h : Kj q pc (.ifCond .eq) tg nx) (kt : x = 0 → aw l E q d tg L st M P) (kf : ¬ x = 0 → aw l E q d nx L st M P) : aw l E q d pc L (iV x :: st) M P := by
  intro p e R s m args below meth cd H locs cells slots kc ks ls hx hG hM hd hl hR hS hL hst c1 c2 s1 s2
  obtain ⟨off, h1, h2, h3⟩ := h
  subst h3
  have hx2 : okI x := ok_hd hst
  exact lv_if_eq hx hM.2.2.1 h1 h2 (fun hz => kt ((i32E hx2 ok0).mp hz) p e R s m args below meth cd H locs cells slots kc ks ls hx hG hM hd hl hR hS hL (ok_tl hst) c1 c2 s1 s2) (fun hz => kf (by have := mt (i32E hx2 ok0).mpr hz; omega) p e R s m args below meth cd H locs cells slots kc ks ls hx hG hM hd hl hR hS hL (ok_tl hst) c1 c2 s1 s2)
theorem aw_zne {x : Int} (h : Kj q pc (.ifCond .ne) tg nx) (kt : ¬ x = 0 → aw l E q d tg L st M P) (kf : x = 0 → aw l E q d nx L st M P) : aw l E q d pc L (iV x :: st) M P := by
  intro p e R s m args below meth cd H locs cells slots kc ks ls hx hG hM hd hl hR hS hL hst c1 c2 s1 s2
  obtain ⟨off, h1, h2, h3⟩ := h
  subst h3
  have hx2 : okI x := ok_hd hst
  exact lv_if_ne hx hM.2.2.1 h1 h2 (fun hz => kt (mt (i32E hx2 ok0).mpr hz) p e R s m args below meth cd H locs cells slots kc ks ls hx hG hM hd hl hR hS hL (ok_tl hst) c1 c2 s1 s2) (fun hz => kf ((i32E hx2 ok0).mp hz) p e R s m args below meth cd H locs cells slots kc ks ls hx hG hM hd hl hR hS hL (ok_tl hst) c1 c2 s1 s2)
theorem aw_zlt {x : Int} (h : Kj q pc (.ifCond .lt) tg nx) (kt : x < 0 → aw l E q d tg L st M P) (kf : 0 ≤ x → aw l E q d nx L st M P) : aw l E q d pc L (iV x :: st) M P := by
  intro p e R s m args below meth cd H locs cells slots kc ks ls hx hG hM hd hl hR hS hL hst c1 c2 s1 s2
  obtain ⟨off, h1, h2, h3⟩ := h
  subst h3
  have hx2 : okI x := ok_hd hst
  exact lv_if_lt hx hM.2.2.1 h1 h2 (fun hz => kt ((i32L hx2 ok0).mp hz) p e R s m args below meth cd H locs cells slots kc ks ls hx hG hM hd hl hR hS hL (ok_tl hst) c1 c2 s1 s2) (fun hz => kf (by have := mt (i32L hx2 ok0).mpr hz; omega) p e R s m args below meth cd H locs cells slots kc ks ls hx hG hM hd hl hR hS hL (ok_tl hst) c1 c2 s1 s2)
theorem aw_zge {x : Int} (h : Kj q pc (.ifCond .ge) tg nx) (kt : 0 ≤ x → aw l E q d tg L st M P) (kf : x < 0 → aw l E q d nx L st M P) : aw l E q d pc L (iV x :: st) M P := by
  intro p e R s m args below meth cd H locs cells slots kc ks ls hx hG hM hd hl hR hS hL hst c1 c2 s1 s2
  obtain ⟨off, h1, h2, h3⟩ := h
  subst h3
  have hx2 : okI x := ok_hd hst
  exact lv_if_ge hx hM.2.2.1 h1 h2 (fun hz => kt ((i32B ok0 hx2).mp hz) p e R s m args below meth cd H locs cells slots kc ks ls hx hG hM hd hl hR hS hL (ok_tl hst) c1 c2 s1 s2) (fun hz => kf (by have := mt (i32B ok0 hx2).mpr hz; omega) p e R s m args below meth cd H locs cells slots kc ks ls hx hG hM hd hl hR hS hL (ok_tl hst) c1 c2 s1 s2)
theorem aw_zgt {x : Int} (h : Kj q pc (.ifCond .gt) tg nx) (kt : 0 < x → aw l E q d tg L st M P) (kf : x ≤ 0 → aw l E q d nx L st M P) : aw l E q d pc L (iV x :: st) M P := by
  intro p e R s m args below meth cd H locs cells slots kc ks ls hx hG hM hd hl hR hS hL hst c1 c2 s1 s2
  obtain ⟨off, h1, h2, h3⟩ := h
  subst h3
  have hx2 : okI x := ok_hd hst
  exact lv_if_gt hx hM.2.2.1 h1 h2 (fun hz => kt ((i32L ok0 hx2).mp hz) p e R s m args below meth cd H locs cells slots kc ks ls hx hG hM hd hl hR hS hL (ok_tl hst) c1 c2 s1 s2) (fun hz => kf (by have := mt (i32L ok0 hx2).mpr hz; omega) p e R s m args below meth cd H locs cells slots kc ks ls hx hG hM hd hl hR hS hL (ok_tl hst) c1 c2 s1 s2)
theorem aw_zle {x : Int} (h : Kj q pc (.ifCond .le) tg nx) (kt : x ≤ 0 → aw l E q d tg L st M P) (kf : 0 < x → aw l E q d nx L st M P) : aw l E q d pc L (iV x :: st) M P := by
  intro p e R s m args below meth cd H locs cells slots kc ks ls hx hG hM hd hl hR hS hL hst c1 c2 s1 s2
  obtain ⟨off, h1, h2, h3⟩ := h
  subst h3
  have hx2 : okI x := ok_hd hst
  exact lv_if_le hx hM.2.2.1 h1 h2 (fun hz => kt ((i32B hx2 ok0).mp hz) p e R s m args below meth cd H locs cells slots kc ks ls hx hG hM hd hl hR hS hL (ok_tl hst) c1 c2 s1 s2) (fun hz => kf (by have := mt (i32B hx2 ok0).mpr hz; omega) p e R s m args below meth cd H locs cells slots kc ks ls hx hG hM hd hl hR hS hL (ok_tl hst) c1 c2 s1 s2)
theorem aw_go (h : Kj q pc .goto tg nx) (k : aw l E q d tg L st M P) : aw l E q d pc L st M P := by
  intro p e R s m args below meth cd H locs cells slots kc ks ls hx hG hM hd hl hR hS hL hst c1 c2 s1 s2
  obtain ⟨off, h1, h2, h3⟩ := h
  exact lv_goto hx hM.2.2.1 h1 h2 (k p e R s m args below meth cd H locs cells slots kc ks ls hx hG hM hd hl hR hS hL hst c1 c2 s1 s2)
end AW
end
section
section AW2
variable {l : Launch} {E : aE} {q : aK} {d pc nx tg : Nat} {L : List (Option aA)} {st : List aA} {M : aM} {P : aP} {S : aS} {g : aG} {u : aU}
theorem u_stW {C : String} {T : u_T} {N : Nat} : ∀ w ∈ u_ws C T N, stW w = true := by
  intro w hw
  obtain ⟨k, -, rfl⟩ := List.mem_map.mp hw
  unfold u_lay
  split <;> rfl
theorem aw_gi {c k i n : Nat} (h : Kg q pc c k false nx) (hh : hasA S i (c + 4) n) (kk : aw l E q d nx L (iV (g i k) :: st) (S, g, u) P) : aw l E q d pc L (rV i :: st) (S, g, u) P := by
  intro p e R s m args below meth cd H locs cells slots kc ks ls hx hG hM hd hl hR hS hL hst c1 c2 s1 s2
  obtain ⟨idx, h1, h2, ⟨C, T, N⟩, r1, r2, r3, r4, r5, r6⟩ := h
  subst h2
  have he : (wsA E S g)[i]? = some (E.1.2.1 + i, .inr (c, fsA E c (S.2.2 i) (g i))) := by rw [wsA_get hh.1, hh.2]; rfl
  exact va_get (ref := C) hx hM.2.2.1 (Ts := u_ws C T N) (fun w hw => cxW hG (r5 w hw) (u_stW w hw) args) (fun w hw => hw) (findClass_of_methodNamed hM.1) hG.2.2.2.2.1 hR.1 i he r1 k r2 (cxW hG r4 rfl args) (fun x hx => by rw [r3] at hx; exact hx) (fsA_get r6) h1 (kk p e R s m args below meth cd H locs cells slots kc ks ls hx hG hM hd hl hR hS hL (ok_cons (v := iV (g i k)) (hR.2.1 i k) (ok_tl hst)) c1 c2 s1 s2)
theorem aw_gr {c k i n : Nat} {j : Nat} (hr : S.2.2 i k = some j) (h : Kg q pc c k true nx) (hh : hasA S i (c + 4) n) (kk : aw l E q d nx L (rV j :: st) (S, g, u) P) : aw l E q d pc L (rV i :: st) (S, g, u) P := by
  intro p e R s m args below meth cd H locs cells slots kc ks ls hx hG hM hd hl hR hS hL hst c1 c2 s1 s2
  obtain ⟨idx, h1, h2, ⟨C, T, N⟩, r1, r2, r3, r4, r5, r6⟩ := h
  subst h2
  have he : (wsA E S g)[i]? = some (E.1.2.1 + i, .inr (c, fsA E c (S.2.2 i) (g i))) := by rw [wsA_get hh.1, hh.2]; rfl
  have hv := fsA_get (E := E) (rf := S.2.2 i) (sg := g i) r6
  rw [hr] at hv
  exact va_get (ref := C) hx hM.2.2.1 (Ts := u_ws C T N) (fun w hw => cxW hG (r5 w hw) (u_stW w hw) args) (fun w hw => hw) (findClass_of_methodNamed hM.1) hG.2.2.2.2.1 hR.1 i he r1 k r2 (cxW hG r4 rfl args) (fun x hx => by rw [r3] at hx; exact hx) hv h1 (kk p e R s m args below meth cd H locs cells slots kc ks ls hx hG hM hd hl hR hS hL (ok_cons (v := rV j) trivial (ok_tl hst)) c1 c2 s1 s2)
theorem w_put {p : Program} {e : Env} {R : Room} {s : State} {m : MethodId} {args : Array Value} {below : List Frame} {meth : Method} {c0 : Code} {H : Heap} {locs : List Loc} {cells slots : Nat} {Q : State → Prop} {ls : Array Slot} {rest : List Value} {c k i n : Nat} {b : Bool} {ty : FieldType} {fin : Bool} {v : Value}
    (hx : p.tables.exec = Jvm.exec) (hG : cxG l E s) (hM : cxM q s m meth c0) (hP : va_P E.2.1 vwCl (wsA E S g) H) (hS : va_S (fun a => E.1.2.1 ≤ a) s.heap H locs) (h : Kp q pc c k b ty fin nx) (hh : hasA S i (c + 4) n) (hn : narrow ty v = v) (hfit : fits ty v = true)
    (kk : ∀ (H1 : Heap) (locs1 : List Loc), va_P E.2.1 vwCl ((wsA E S g).set i (E.1.2.1 + i, .inr (c, (fsA E c (S.2.2 i) (g i)).set k v))) H1 → va_S (fun a => E.1.2.1 ≤ a) s.heap H1 locs1 → H1.size = H.size → W p l e R s m args below meth c0 H1 locs1 cells slots Q (F0 m nx ls rest)) :
    W p l e R s m args below meth c0 H locs cells slots Q (F0 m pc ls (v :: .ref (E.1.2.1 + i) :: rest)) := by
  obtain ⟨⟨idx, d1, d2, ⟨C, T, N⟩, r1, r2, r3, r4, r5, r6⟩, ⟨r', t0, o1, o2, o3, o4, o5, o6⟩, o7⟩ := h
  cases r1.symm.trans o1
  subst d2
  have he : (wsA E S g)[i]? = some (E.1.2.1 + i, .inr (c, fsA E c (S.2.2 i) (g i))) := by rw [wsA_get hh.1, hh.2]; rfl
  have hK := hG.2.2.2.2.1
  have hown : s.vm.findClass q.1.cls = some m.cls := findClass_of_methodNamed hM.1
  have hts : ∀ w ∈ u_ws C T N, w.before args s = true := fun w hw => cxW hG (r5 w hw) (u_stW w hw) args
  have hin : ∀ w ∈ u_ws C T N, w ∈ u_ws C T N := fun w hw => hw
  have hlink : (Cond.fieldLink q.1.cls idx C (T k).2.1 (T k).2.2.1).before args s = true := cxW hG r4 rfl args
  have hl : k < (fsA E c (S.2.2 i) (g i)).length := by rw [fsA_len]; exact (List.getElem?_eq_some_iff.mp r6).1
  have hD := wsA_D E S g
  have hd : parseFieldDescriptor (T k).2.2.1 = some ty := by rw [← o4]; exact o2 k r2
  have hap := va_apart (own := q.1.cls) hts hin t0 o2 o3 hK r1
  obtain ⟨r, h1, cell, q1, q2, q3, q4⟩ := hP i _ he
  have hr : r = (C, T, N) := Option.some.inj (h1.symm.trans r1)
  subst hr
  obtain ⟨hSl, hfc, kC, hkC, hkind⟩ := hK.1 c _ r1
  obtain ⟨cf, kf, fi, f, hi, hsl⟩ := hSl k r2
  have hi' : s.fieldFound? C (T k).2.1 (T k).2.2.1 = some (cf, kf, fi, f) := by rw [r3] at hi; exact hi
  have hlay := hts _ (hin _ (u_in_lay r2))
  unfold u_lay at hlay
  have hst := (u_facts hfc hkC (u_lays hts hin r2) hi).1
  cases fin with
  | false =>
    rw [if_neg (by rw [o5]; decide)] at hlay
    have h6 := u_store hfc hkC hkind hlay hi hd hn hfit
    refine W.putK hx hM.2.2.1 (f := f) ⟨hown, hlink, ⟨_, _, _, hi'⟩, hst⟩ (by rw [q2]; exact h6) q1 q3 (by rw [hsl]; exact k2_hasslot (q4 k r2)) rfl rfl d1 fun H' e1 e2 e3 => ?_
    rw [hsl] at e1 ⊢
    exact kk H' _ (hP.set hD he ⟨_, r1, t_OB.to (V := updV (vp_V (fsA E c (S.2.2 i) (g i))) k v) ⟨_, e1, q2, q3, t_set q4 hap r2 v⟩ (fun j _ => vp_updV_set hl v j)⟩ e3) (hS.put e2 e3 (hD.2 i _ he)) e2
  | true =>
    rw [if_pos o5] at hlay
    have hin2 : meth.name = "<init>" := ((name_of_methodNamed hM.1 hM.2.1).1).trans (o7 rfl)
    have hdecl : (T k).1 = q.1.cls := r3.trans (o6 rfl)
    have hcf : m.cls = cf := by
      obtain ⟨_, _, c', _, _, _, -, -, hf', -, -, -, hown2, -⟩ := Cond.laysFinal_spec hlay
      have e1 : c' = cf := by have := hi.symm.trans hf'; simp at this; exact this.1.symm
      rw [hdecl] at hown2
      rw [← e1]; exact Option.some.inj (hown.symm.trans hown2)
    have h6 := u_fits hfc hkC hkind (Or.inr hlay) hi hd hn hfit
    refine W.putFinK hx hM.2.2.1 hown hlink hi' hst hcf hin2 (by rw [q2]; exact h6) q1 q3 (by rw [hsl]; exact k2_hasslot (q4 k r2)) rfl rfl d1 fun H' e1 e2 e3 => ?_
    rw [hsl] at e1 ⊢
    exact kk H' _ (hP.set hD he ⟨_, r1, t_OB.to (V := updV (vp_V (fsA E c (S.2.2 i) (g i))) k v) ⟨_, e1, q2, q3, t_set q4 hap r2 v⟩ (fun j _ => vp_updV_set hl v j)⟩ e3) (hS.put e2 e3 (hD.2 i _ he)) e2
theorem nbz {x : Int} (h : x = 0 ∨ x = 1) : narrow .boolean (.int (Int32.ofInt x)) = .int (Int32.ofInt x) ∧ fits .boolean (.int (Int32.ofInt x)) = true := by
  rcases h with rfl | rfl <;> decide
theorem okG {g : aG} {i j : Nat} {x : Int} (h : ∀ a b, okI (g a b)) (hx : okI x) : ∀ a b, okI (upA g i j x a b) := by
  intro a b
  unfold upA
  split
  · exact hx
  · exact h a b
theorem pic_ne {E : aE} {S : aS} {g : aG} {i j : Nat} {x : Int} : ∀ a, a ≠ i → picA E (S.2.1 a) (S.2.2 a) (upA g i j x a) = picA E (S.2.1 a) (S.2.2 a) (g a) := by
  intro a ha
  have e : upA g i j x a = g a := by funext b; exact upA_ne (fun z => ha z.1)
  rw [e]
theorem aw_pi {c k i n : Nat} {x : Int} {fin : Bool} (h : Kp q pc c k false .int fin nx) (hh : hasA S i (c + 4) n) (kk : aw l E q d nx L st (S, upA g i k x, u) P) : aw l E q d pc L (iV x :: rV i :: st) (S, g, u) P := by
  intro p e R s m args below meth cd H locs cells slots kc ks ls hx hG hM hd hl hR hS hL hst c1 c2 s1 s2
  refine w_put hx hG hM hR.1 hS h hh rfl rfl fun H1 locs1 k1 k2 k3 => ?_
  have ew : (wsA E S g).set i (E.1.2.1 + i, .inr (c, (fsA E c (S.2.2 i) (g i)).set k (.int (Int32.ofInt x)))) = wsA E S (upA g i k x) := wsA_set hh.1 rfl (by rw [hh.2]; show _ = Sum.inr (c, fsA E c (S.2.2 i) (upA g i k x i)); rw [fsA_set (rf' := S.2.2 i) (sg' := upA g i k x i) h.1.choose_spec.2.2.choose_spec.2.2.2.2.2 (by simp [upA]) (fun j hj => ⟨rfl, upA_ne (fun z => hj z.2)⟩)]) pic_ne
  have k1 : va_P E.2.1 vwCl (wsA E S (upA g i k x)) H1 := by rw [← ew]; exact k1
  exact kk p e R s m args below meth cd H1 locs1 cells slots kc ks ls hx hG hM hd hl ⟨k1, okG hR.2.1 (ok_hd hst), fun z => k3.trans (hR.2.2 z)⟩ k2 hL (ok_tl (ok_tl hst)) c1 c2 s1 s2
theorem aw_pz {c k i n : Nat} {x : Int} {fin : Bool} (h : Kp q pc c k false .boolean fin nx) (hh : hasA S i (c + 4) n) (hz : x = 0 ∨ x = 1) (kk : aw l E q d nx L st (S, upA g i k x, u) P) : aw l E q d pc L (iV x :: rV i :: st) (S, g, u) P := by
  intro p e R s m args below meth cd H locs cells slots kc ks ls hx hG hM hd hl hR hS hL hst c1 c2 s1 s2
  refine w_put hx hG hM hR.1 hS h hh (nbz hz).1 (nbz hz).2 fun H1 locs1 k1 k2 k3 => ?_
  have ew : (wsA E S g).set i (E.1.2.1 + i, .inr (c, (fsA E c (S.2.2 i) (g i)).set k (.int (Int32.ofInt x)))) = wsA E S (upA g i k x) := wsA_set hh.1 rfl (by rw [hh.2]; show _ = Sum.inr (c, fsA E c (S.2.2 i) (upA g i k x i)); rw [fsA_set (rf' := S.2.2 i) (sg' := upA g i k x i) h.1.choose_spec.2.2.choose_spec.2.2.2.2.2 (by simp [upA]) (fun j hj => ⟨rfl, upA_ne (fun z => hj z.2)⟩)]) pic_ne
  have k1 : va_P E.2.1 vwCl (wsA E S (upA g i k x)) H1 := by rw [← ew]; exact k1
  exact kk p e R s m args below meth cd H1 locs1 cells slots kc ks ls hx hG hM hd hl ⟨k1, okG hR.2.1 (ok_hd hst), fun z => k3.trans (hR.2.2 z)⟩ k2 hL (ok_tl (ok_tl hst)) c1 c2 s1 s2
theorem aw_pr {c k i n j : Nat} {ty : FieldType} {fin : Bool} (h : Kp q pc c k true ty fin nx) (hh : hasA S i (c + 4) n) (hty : ∀ a, narrow ty (.ref a) = .ref a ∧ fits ty (.ref a) = true) (kk : aw l E q d nx L st ((S.1, S.2.1, upR S.2.2 i k (some j)), g, u) P) : aw l E q d pc L (rV j :: rV i :: st) (S, g, u) P := by
  intro p e R s m args below meth cd H locs cells slots kc ks ls hx hG hM hd hl hR hS hL hst c1 c2 s1 s2
  refine w_put hx hG hM hR.1 hS h hh (hty _).1 (hty _).2 fun H1 locs1 k1 k2 k3 => ?_
  have ew : (wsA E S g).set i (E.1.2.1 + i, .inr (c, (fsA E c (S.2.2 i) (g i)).set k (.ref (E.1.2.1 + j)))) = wsA E (S.1, S.2.1, upR S.2.2 i k (some j)) g := wsA_set (S' := (S.1, S.2.1, upR S.2.2 i k (some j))) hh.1 rfl (by show _ = picA E (S.2.1 i) (upR S.2.2 i k (some j) i) (g i); rw [hh.2]; show _ = Sum.inr (c, fsA E c (upR S.2.2 i k (some j) i) (g i)); rw [fsA_set (rf' := upR S.2.2 i k (some j) i) (sg' := g i) h.1.choose_spec.2.2.choose_spec.2.2.2.2.2 (by simp [upR, va_rf]) (fun j' hj => ⟨if_neg (fun z => hj z.2), rfl⟩)]) (fun a ha => by
    show picA E (S.2.1 a) (upR S.2.2 i k (some j) a) (g a) = _
    have e : upR S.2.2 i k (some j) a = S.2.2 a := by funext b; exact if_neg (fun z => ha z.1)
    rw [e])
  have k1 : va_P E.2.1 vwCl (wsA E (S.1, S.2.1, upR S.2.2 i k (some j)) g) H1 := by rw [← ew]; exact k1
  exact kk p e R s m args below meth cd H1 locs1 cells slots kc ks ls hx hG hM hd hl ⟨k1, hR.2.1, fun z => k3.trans (hR.2.2 z)⟩ k2 hL (ok_tl (ok_tl hst)) c1 c2 s1 s2
theorem aw_ia {i n j : Nat} {x : Int} (h : K1 q pc .iaload nx) (hh : hasA S i 0 n) (hj : x = (j : Int)) (hn : j < n) (kk : aw l E q d nx L (iV (g i j) :: st) (S, g, u) P) : aw l E q d pc L (iV x :: rV i :: st) (S, g, u) P := by
  intro p e R s m args below meth cd H locs cells slots kc ks ls hx hG hM hd hl hR hS hL hst c1 c2 s1 s2
  obtain ⟨h1, h2⟩ := h
  subst h2
  have hxo : okI x := ok_hd hst
  have he : (wsA E S g)[i]? = some (E.1.2.1 + i, .inl (E.2.2 0, n, .inl (fun j => Int32.ofInt (g i j)))) := by rw [wsA_get hh.1, hh.2]; rfl
  refine va_iald hx hM.2.2.1 hG.2.2.2.2.1 hR.1 i 0 he rfl (i32In hxo (by omega) (by omega)) h1 ?_
  rw [i32N hxo, show x.toNat = j by omega]
  exact kk p e R s m args below meth cd H locs cells slots kc ks ls hx hG hM hd hl hR hS hL (ok_cons (v := iV (g i j)) (hR.2.1 i j) (ok_tl (ok_tl hst))) c1 c2 s1 s2
theorem aw_za {i n j : Nat} {x : Int} (h : K1 q pc .baload nx) (hh : hasA S i 1 n) (hj : x = (j : Int)) (hn : j < n) (kk : aw l E q d nx L (iV (g i j) :: st) (S, g, u) P) : aw l E q d pc L (iV x :: rV i :: st) (S, g, u) P := by
  intro p e R s m args below meth cd H locs cells slots kc ks ls hx hG hM hd hl hR hS hL hst c1 c2 s1 s2
  obtain ⟨h1, h2⟩ := h
  subst h2
  have hxo : okI x := ok_hd hst
  have he : (wsA E S g)[i]? = some (E.1.2.1 + i, .inl (E.2.2 1, n, .inl (fun j => Int32.ofInt (g i j)))) := by rw [wsA_get hh.1, hh.2]; rfl
  refine va_zald hx hM.2.2.1 hG.2.2.2.2.1 hR.1 i 1 he rfl (i32In hxo (by omega) (by omega)) h1 ?_
  rw [i32N hxo, show x.toNat = j by omega]
  exact kk p e R s m args below meth cd H locs cells slots kc ks ls hx hG hM hd hl hR hS hL (ok_cons (v := iV (g i j)) (hR.2.1 i j) (ok_tl (ok_tl hst))) c1 c2 s1 s2
theorem aw_la {i n j : Nat} {x : Int} (h : K1 q pc .laload nx) (hh : hasA S i 2 n) (hj : x = (j : Int)) (hn : j < n) (kk : aw l E q d nx L (lV (g i j) :: st) (S, g, u) P) : aw l E q d pc L (iV x :: rV i :: st) (S, g, u) P := by
  intro p e R s m args below meth cd H locs cells slots kc ks ls hx hG hM hd hl hR hS hL hst c1 c2 s1 s2
  obtain ⟨h1, h2⟩ := h
  subst h2
  have hxo : okI x := ok_hd hst
  have he : (wsA E S g)[i]? = some (E.1.2.1 + i, .inl (E.2.2 2, n, .inr (.inl (fun j => Int64.ofInt (g i j))))) := by rw [wsA_get hh.1, hh.2]; rfl
  refine va_lald hx hM.2.2.1 hG.2.2.2.2.1 hR.1 i 2 he rfl (i32In hxo (by omega) (by omega)) h1 ?_
  rw [i32N hxo, show x.toNat = j by omega]
  exact kk p e R s m args below meth cd H locs cells slots kc ks ls hx hG hM hd hl hR hS hL (ok_cons (v := lV (g i j)) (hR.2.1 i j) (ok_tl (ok_tl hst))) c1 c2 s1 s2
theorem aw_aa {i n j i2 : Nat} {x : Int} (h : K1 q pc .aaload nx) (hh : hasA S i 3 n) (hj : x = (j : Int)) (hn : j < n) (hr : S.2.2 i j = some i2) (kk : aw l E q d nx L (rV i2 :: st) (S, g, u) P) : aw l E q d pc L (iV x :: rV i :: st) (S, g, u) P := by
  intro p e R s m args below meth cd H locs cells slots kc ks ls hx hG hM hd hl hR hS hL hst c1 c2 s1 s2
  obtain ⟨h1, h2⟩ := h
  subst h2
  have hxo : okI x := ok_hd hst
  have he : (wsA E S g)[i]? = some (E.1.2.1 + i, .inl (E.2.2 3, n, .inr (.inr (.inr (.inr (fun j => (S.2.2 i j).map (E.1.2.1 + ·))))))) := by rw [wsA_get hh.1, hh.2]; rfl
  have hc : H[E.1.2.1 + i]? = some (arrV (E.2.2 3) n (fun j => va_rf ((S.2.2 i j).map (E.1.2.1 + ·)))) := hR.1 i _ he
  refine W.aald (v := .ref (E.1.2.1 + i2)) hx hM.2.2.1 hc ((hG.2.2.2.2.1.2 3 (E.2.2 3, .array .int) rfl).1 n _) rfl (fun z => by cases z) (by rw [arrV_size]; exact i32In hxo (by omega) (by omega)) ?_ rfl rfl h1 ?_
  · rw [i32N hxo, show x.toNat = j by omega, arrV_read _ _ hn, hr]
    rfl
  · exact kk p e R s m args below meth cd H locs cells slots kc ks ls hx hG hM hd hl hR hS hL (ok_cons (v := rV i2) trivial (ok_tl (ok_tl hst))) c1 c2 s1 s2
theorem aw_len {i n : Nat} (h : K1 q pc .arraylength nx) (hh : hasA S i 0 n) (hn : okI (n : Int)) (kk : aw l E q d nx L (iV (n : Int) :: st) (S, g, u) P) : aw l E q d pc L (rV i :: st) (S, g, u) P := by
  intro p e R s m args below meth cd H locs cells slots kc ks ls hx hG hM hd hl hR hS hL hst c1 c2 s1 s2
  obtain ⟨h1, h2⟩ := h
  subst h2
  have he : (wsA E S g)[i]? = some (E.1.2.1 + i, .inl (E.2.2 0, n, .inl (fun j => Int32.ofInt (g i j)))) := by rw [wsA_get hh.1, hh.2]; rfl
  refine va_alen hx hM.2.2.1 hG.2.2.2.2.1 hR.1 i 0 he rfl (v := Int32.ofInt (n : Int)) (Int32.ofInt_eq_ofNat ..).symm h1 ?_
  exact kk p e R s m args below meth cd H locs cells slots kc ks ls hx hG hM hd hl hR hS hL (ok_cons (v := iV (n : Int)) hn (ok_tl hst)) c1 c2 s1 s2
theorem aw_slen (h : K1 q pc .arraylength nx) (hn : okI (E.1.2.2.1 : Int)) (kk : aw l E q d nx L (iV (E.1.2.2.1 : Int) :: st) M P) : aw l E q d pc L (sV :: st) M P := by
  intro p e R s m args below meth cd H locs cells slots kc ks ls hx hG hM hd hl hR hS hL hst c1 c2 s1 s2
  obtain ⟨h1, h2⟩ := h
  subst h2
  have g8 := hG.2.2.2.2.2.2.2.1
  have g9 := hG.2.2.2.2.2.2.2.2.1
  have g10 := hG.2.2.2.2.2.2.2.2.2
  refine va_slen hx hM.2.2.1 g8 (by omega) (by omega) hS h1 ?_
  rw [show Int32.ofNat E.1.2.2.1 = Int32.ofInt (E.1.2.2.1 : Int) from (Int32.ofInt_eq_ofNat ..).symm]
  exact kk p e R s m args below meth cd H locs cells slots kc ks ls hx hG hM hd hl hR hS hL (ok_cons (v := iV (E.1.2.2.1 : Int)) hn (ok_tl hst)) c1 c2 s1 s2
theorem aw_sld {j : Nat} {x : Int} (h : K1 q pc .iaload nx) (hj : x = (j : Int)) (hn : j < E.1.2.2.1) (kk : aw l E q d nx L (iV (E.1.2.2.2 j).toInt :: st) M P) : aw l E q d pc L (iV x :: sV :: st) M P := by
  intro p e R s m args below meth cd H locs cells slots kc ks ls hx hG hM hd hl hR hS hL hst c1 c2 s1 s2
  obtain ⟨h1, h2⟩ := h
  subst h2
  have hxo : okI x := ok_hd hst
  have g8 := hG.2.2.2.2.2.2.2.1
  have g9 := hG.2.2.2.2.2.2.2.2.1
  have g10 := hG.2.2.2.2.2.2.2.2.2
  refine va_sld hx hM.2.2.1 g8 (by omega) (by omega) hS (i32In hxo (by omega) (by omega)) h1 ?_
  rw [i32N hxo, show x.toNat = j by omega, ← i32R (E.1.2.2.2 j)]
  exact kk p e R s m args below meth cd H locs cells slots kc ks ls hx hG hM hd hl hR hS hL (ok_cons (v := iV (E.1.2.2.2 j).toInt) (okT _) (ok_tl (ok_tl hst))) c1 c2 s1 s2
theorem aw_iast {i n j : Nat} {x v : Int} (h : K1 q pc .iastore nx) (hh : hasA S i 0 n) (hj : x = (j : Int)) (hn : j < n) (kk : aw l E q d nx L st (S, upA g i j v, u) P) : aw l E q d pc L (iV v :: iV x :: rV i :: st) (S, g, u) P := by
  intro p e R s m args below meth cd H locs cells slots kc ks ls hx hG hM hd hl hR hS hL hst c1 c2 s1 s2
  obtain ⟨h1, h2⟩ := h
  subst h2
  have hvo : okI v := ok_hd hst
  have hxo : okI x := ok_hd (ok_tl hst)
  have hD := wsA_D E S g
  have he : (wsA E S g)[i]? = some (E.1.2.1 + i, .inl (E.2.2 0, n, .inl (fun b => Int32.ofInt ((g i) b)))) := by rw [wsA_get hh.1, hh.2]; rfl
  have hc : H[E.1.2.1 + i]? = some (arrV (E.2.2 0) n (fun j => Value.int (Int32.ofInt (g i j)))) := hR.1 i _ he
  refine W.iast hx hM.2.2.1 hc ((hG.2.2.2.2.1.2 0 (E.2.2 0, .int) rfl).1 n _) (fun z => by cases z) (by rw [arrV_size]; exact i32In hxo (by omega) (by omega)) rfl rfl h1 fun H1 e1 e2 e3 => ?_
  rw [i32N hxo, show x.toNat = j by omega, arrV_store] at e1
  have e4 : H1[E.1.2.1 + i]? = some (arrV (E.2.2 0) n (fun b => Value.int (Int32.ofInt (upA g i j v i b)))) := by
    rw [e1]; refine congrArg (fun z => some (arrV (E.2.2 0) n z)) (funext fun b => ?_)
    by_cases hb : b = j
    · subst hb; simp [updV, upA]
    · simp [updV, upA, hb]
  have k1 : va_P E.2.1 vwCl (wsA E S (upA g i j v)) H1 := by
    rw [← wsA_set (S := S) (S' := S) (g := g) (g' := upA g i j v) (e := .inl (E.2.2 0, n, .inl (fun b => Int32.ofInt ((upA g i j v i) b)))) hh.1 rfl (by rw [hh.2]; rfl) pic_ne]
    exact hR.1.set hD he e4 e3
  exact kk p e R s m args below meth cd H1 _ cells slots kc ks ls hx hG hM hd hl ⟨k1, okG hR.2.1 hvo, fun z => e2.trans (hR.2.2 z)⟩ (hS.put e2 e3 (hD.2 i _ he)) hL (ok_tl (ok_tl (ok_tl hst))) c1 c2 s1 s2
theorem aw_zast {i n j : Nat} {x v : Int} (h : K1 q pc .bastore nx) (hh : hasA S i 1 n) (hj : x = (j : Int)) (hn : j < n) (hz : v = 0 ∨ v = 1) (kk : aw l E q d nx L st (S, upA g i j v, u) P) : aw l E q d pc L (iV v :: iV x :: rV i :: st) (S, g, u) P := by
  intro p e R s m args below meth cd H locs cells slots kc ks ls hx hG hM hd hl hR hS hL hst c1 c2 s1 s2
  obtain ⟨h1, h2⟩ := h
  subst h2
  have hvo : okI v := ok_hd hst
  have hxo : okI x := ok_hd (ok_tl hst)
  have hnr : narrow .boolean (.int (Int32.ofInt v)) = .int (Int32.ofInt v) := by rcases hz with rfl | rfl <;> decide
  have hD := wsA_D E S g
  have he : (wsA E S g)[i]? = some (E.1.2.1 + i, .inl (E.2.2 1, n, .inl (fun b => Int32.ofInt ((g i) b)))) := by rw [wsA_get hh.1, hh.2]; rfl
  have hc : H[E.1.2.1 + i]? = some (arrV (E.2.2 1) n (fun j => Value.int (Int32.ofInt (g i j)))) := hR.1 i _ he
  refine W.zast hx hM.2.2.1 hc ((hG.2.2.2.2.1.2 1 (E.2.2 1, .boolean) rfl).1 n _) (fun z => by cases z) (by rw [arrV_size]; exact i32In hxo (by omega) (by omega)) rfl rfl h1 fun H1 e1 e2 e3 => ?_
  rw [hnr] at e1
  rw [i32N hxo, show x.toNat = j by omega, arrV_store] at e1
  have e4 : H1[E.1.2.1 + i]? = some (arrV (E.2.2 1) n (fun b => Value.int (Int32.ofInt (upA g i j v i b)))) := by
    rw [e1]; refine congrArg (fun z => some (arrV (E.2.2 1) n z)) (funext fun b => ?_)
    by_cases hb : b = j
    · subst hb; simp [updV, upA]
    · simp [updV, upA, hb]
  have k1 : va_P E.2.1 vwCl (wsA E S (upA g i j v)) H1 := by
    rw [← wsA_set (S := S) (S' := S) (g := g) (g' := upA g i j v) (e := .inl (E.2.2 1, n, .inl (fun b => Int32.ofInt ((upA g i j v i) b)))) hh.1 rfl (by rw [hh.2]; rfl) pic_ne]
    exact hR.1.set hD he e4 e3
  exact kk p e R s m args below meth cd H1 _ cells slots kc ks ls hx hG hM hd hl ⟨k1, okG hR.2.1 hvo, fun z => e2.trans (hR.2.2 z)⟩ (hS.put e2 e3 (hD.2 i _ he)) hL (ok_tl (ok_tl (ok_tl hst))) c1 c2 s1 s2
theorem aw_last {i n j : Nat} {x v : Int} (h : K1 q pc .lastore nx) (hh : hasA S i 2 n) (hj : x = (j : Int)) (hn : j < n) (kk : aw l E q d nx L st (S, upA g i j v, u) P) : aw l E q d pc L (lV v :: iV x :: rV i :: st) (S, g, u) P := by
  intro p e R s m args below meth cd H locs cells slots kc ks ls hx hG hM hd hl hR hS hL hst c1 c2 s1 s2
  obtain ⟨h1, h2⟩ := h
  subst h2
  have hvo : okI v := ok_hd hst
  have hxo : okI x := ok_hd (ok_tl hst)
  have hD := wsA_D E S g
  have he : (wsA E S g)[i]? = some (E.1.2.1 + i, .inl (E.2.2 2, n, .inr (.inl (fun b => Int64.ofInt ((g i) b))))) := by rw [wsA_get hh.1, hh.2]; rfl
  have hc : H[E.1.2.1 + i]? = some (arrV (E.2.2 2) n (fun j => Value.long (Int64.ofInt (g i j)))) := hR.1 i _ he
  refine W.last hx hM.2.2.1 hc ((hG.2.2.2.2.1.2 2 (E.2.2 2, .long) rfl).1 n _) (fun z => by cases z) (by rw [arrV_size]; exact i32In hxo (by omega) (by omega)) rfl rfl h1 fun H1 e1 e2 e3 => ?_
  rw [i32N hxo, show x.toNat = j by omega, arrV_store] at e1
  have e4 : H1[E.1.2.1 + i]? = some (arrV (E.2.2 2) n (fun b => Value.long (Int64.ofInt (upA g i j v i b)))) := by
    rw [e1]; refine congrArg (fun z => some (arrV (E.2.2 2) n z)) (funext fun b => ?_)
    by_cases hb : b = j
    · subst hb; simp [updV, upA]
    · simp [updV, upA, hb]
  have k1 : va_P E.2.1 vwCl (wsA E S (upA g i j v)) H1 := by
    rw [← wsA_set (S := S) (S' := S) (g := g) (g' := upA g i j v) (e := .inl (E.2.2 2, n, .inr (.inl (fun b => Int64.ofInt ((upA g i j v i) b))))) hh.1 rfl (by rw [hh.2]; rfl) pic_ne]
    exact hR.1.set hD he e4 e3
  exact kk p e R s m args below meth cd H1 _ cells slots kc ks ls hx hG hM hd hl ⟨k1, okG hR.2.1 hvo, fun z => e2.trans (hR.2.2 z)⟩ (hS.put e2 e3 (hD.2 i _ he)) hL (ok_tl (ok_tl (ok_tl hst))) c1 c2 s1 s2
theorem aw_reti {x : Int} (h : K1 q pc .ireturn nx) (ht : q.2.2.2.1 = some .int ∨ (q.2.2.2.1 = some .boolean ∧ (x = 0 ∨ x = 1))) (hp : P (.inl (some (iV x))) M) : aw l E q d pc L [iV x] M P := by
  intro p e R s m args below meth cd H locs cells slots kc ks ls hx hG hM hd hl hR hS hL hst c1 c2 s1 s2
  obtain ⟨h1, h2⟩ := h
  have key : ∃ ty, meth.sig.returnType = some ty ∧ narrow ty (.int (Int32.ofInt x)) = .int (Int32.ofInt x) := by
    rcases ht with ht | ⟨ht, hz⟩
    · exact ⟨_, hM.2.2.2.2.1.trans ht, rfl⟩
    · exact ⟨_, hM.2.2.2.2.1.trans ht, by rcases hz with rfl | rfl <;> decide⟩
  obtain ⟨ty, t1, t2⟩ := key
  have k := W.zret (p := p) (l := l) (e := e) (R := R) (s := s) (m := m) (args := args) (below := below) (meth := meth) (c := cd) (H := H) (locs := locs) (cells := cells) (slots := slots) (ls := ls) (Qc := fun _ _ o t => o = .returned (some (.int (Int32.ofInt x))) ∧ t.heap = H) (free := fun a => E.1.2.1 ≤ a) hx hM.2.2.1 t1 t2 (fun t e1 _ => ⟨rfl, e1⟩) hS.2.2 h1 hM.2.2.2.2.2.1
  intro T hT X
  obtain ⟨t, a1, o, b1, b2, ⟨b3, b4⟩, Lo, ⟨-, b5, b6⟩, b7⟩ := k T hT X
  exact ⟨t, a1, o, _, M, Lo, cells, slots, b1, b2, hp, ⟨b3, ok_hd hst⟩, b5, by rw [b4]; exact hR, b6, b7, c1, s1⟩
theorem aw_retv (h : K1 q pc .return_ nx) (ht : q.2.2.2.1 = none) (hp : P (.inl none) M) : aw l E q d pc L [] M P := by
  intro p e R s m args below meth cd H locs cells slots kc ks ls hx hG hM hd hl hR hS hL hst c1 c2 s1 s2
  obtain ⟨h1, h2⟩ := h
  have k := W.vret (p := p) (l := l) (e := e) (R := R) (s := s) (m := m) (args := args) (below := below) (meth := meth) (c := cd) (H := H) (locs := locs) (cells := cells) (slots := slots) (ls := ls) (Qc := fun _ _ o t => o = .returned none ∧ t.heap = H) (free := fun a => E.1.2.1 ≤ a) hx hM.2.2.1 (hM.2.2.2.2.1.trans ht) (fun t e1 _ => ⟨rfl, e1⟩) hS.2.2 h1 hM.2.2.2.2.2.1
  intro T hT X
  obtain ⟨t, a1, o, b1, b2, ⟨b3, b4⟩, Lo, ⟨-, b5, b6⟩, b7⟩ := k T hT X
  exact ⟨t, a1, o, _, M, Lo, cells, slots, b1, b2, hp, b3, b5, by rw [b4]; exact hR, b6, b7, c1, s1⟩
end AW2
end
section
section AW3
variable {l : Launch} {E : aE} {q : aK} {d pc nx tg : Nat} {L : List (Option aA)} {st : List aA} {M : aM} {P : aP} {S : aS} {g : aG} {u : aU}
/-- a method that the tables hold -/
abbrev Kq (q : aK) : Prop := plainName q.1.cls = true ∧ (q.1.cls ≠ "java/lang/invoke/MethodHandle" ∧ q.1.cls ≠ "java/lang/invoke/VarHandle") ∧ q.2.2.1 ≤ 7 ∧ ((q.2.2.2.2 = [] ∧ Cond.code q.1 q.2.1 q.2.2.1 q.2.2.2.1 ∈ lw_tbl) ∨ Cond.codeWith q.1 q.2.1 q.2.2.1 q.2.2.2.1 q.2.2.2.2 ∈ lw_tbl) ∧ Cond.initialized q.1.cls ∈ lw_tbl
theorem cxM_of {s : State} (hG : cxG l E s) (h : Kq q) : ∃ m meth c, cxM q s m meth c ∧ meth.code = some c ∧ parseMethodDescriptor q.1.desc = some meth.sig := by
  obtain ⟨-, -, -, h | h, -⟩ := h
  · have hw : (Cond.code q.1 q.2.1 q.2.2.1 q.2.2.2.1).before #[] s = true := cxW hG h.2 rfl #[]
    obtain ⟨m, hn⟩ := Cond.code_named hw
    obtain ⟨meth, c, h1, h2, h3, h4, h5, h6, h7, h8⟩ := Cond.code_spec hn hw
    refine ⟨m, meth, c, ⟨hn, h1, h3, h4, h5, h6, ?_⟩, h2, h8⟩
    rw [h.1]
    have h9 : c.exceptionTable.toList = [] := by simpa using h7
    rw [h9]; rfl
  · have hw : (Cond.codeWith q.1 q.2.1 q.2.2.1 q.2.2.2.1 q.2.2.2.2).before #[] s = true := cxW hG h rfl #[]
    obtain ⟨m, meth, c, hn, h1, h2, h3, h4, h5, h6, h7, h8⟩ := Cond.codeWith_spec hw
    exact ⟨m, meth, c, ⟨hn, h1, h3, h4, h6, h7, h5⟩, h2, h8⟩
theorem lg_sl1 : ∀ {vs : List Value}, (∀ v ∈ vs, v.category = 1) → lg_sl vs = vs.map Slot.val
  | [], _ => rfl
  | v :: vs, h => by
    have h1 : v.category = 1 := h v List.mem_cons_self
    have h2 := lg_sl1 (vs := vs) fun w hw => h w (List.mem_cons_of_mem _ hw)
    show (if v.category = 2 then [Slot.val v, Slot.second] else [Slot.val v]) ++ lg_sl vs = _
    rw [h2, h1]
    rfl
theorem lvA_mem : ∀ (vs : List Value) (n : Nat), (∀ v ∈ vs, v.category = 1) → ∀ (k : Nat) (v : Value), vs[k]? = some v → (n + k, v) ∈ lv_args n vs
  | [], _, _, _, _, h => by simp at h
  | w :: vs, n, hc, 0, v, h => by
    have : w = v := by simpa using h
    subst this
    exact List.mem_cons_self
  | w :: vs, n, hc, k + 1, v, h => by
    have h1 : w.category = 1 := hc w List.mem_cons_self
    have h2 := lvA_mem vs (n + 1) (fun x hx => hc x (List.mem_cons_of_mem _ hx)) k v (by simpa using h)
    have e : lv_args n (w :: vs) = (n, w) :: lv_args (n + 1) vs := by
      show (n, w) :: lv_args (if w.category = 2 then n + 2 else n + 1) vs = _
      rw [h1]
      rfl
    rw [e, show n + (k + 1) = n + 1 + k by omega]
    exact List.mem_cons_of_mem _ h2
theorem lsA_entry {as : List aA} {n : Nat} (has : ∀ v ∈ as, okA v ∧ (cvA E v).category = 1) (hn : as.length ≤ n) : lsA E n (as.map some ++ List.replicate (7 - as.length) none) ((lg_sl (as.map (cvA E)) ++ List.replicate (n - (lg_sl (as.map (cvA E))).length) Slot.unset).toArray) := by
  have hc : ∀ v ∈ as.map (cvA E), v.category = 1 := by
    intro v hv
    obtain ⟨x, hx, rfl⟩ := List.mem_map.mp hv
    exact (has x hx).2
  have hl : (lg_sl (as.map (cvA E))).length ≤ n := by rw [lg_sl1 hc]; simpa using hn
  obtain ⟨e1, e2, e3⟩ := lv_entry (as.map (cvA E)) hl
  refine ⟨e1, e2, fun k v hk => ?_⟩
  by_cases hka : k < as.length
  · rw [List.getElem?_append_left (by simpa using hka)] at hk
    have h1 : as[k]? = some v := by simpa using hk
    refine ⟨?_, has v (List.mem_of_getElem? h1)⟩
    have h2 := e3 (0 + k, cvA E v) (lvA_mem _ 0 hc k _ (by simp [h1]))
    rw [Nat.zero_add] at h2
    exact h2
  · rw [List.getElem?_append_right (by simpa using Nat.not_lt.mp hka), List.getElem?_replicate] at hk
    split at hk <;> cases hk
theorem aw_call0 {p : Program} {e : Env} {R : Room} {s : State} {m : MethodId} {args : Array Value} {below : List Frame} {meth : Method} {c : Code} {U : State} {locs : List Loc} {cells slots : Nat} {q' : aK} {as : List aA} {P' : aP} {mk : MethodId} {methk : Method} {ck : Code}
    (X : Stand p l e R s m args below meth c U locs cells slots) (hx : p.tables.exec = Jvm.exec) (hG : cxG l E s) (hd : d + 1 ≤ R.frames) (hl : 36 * (d + 1) ≤ R.locals) (hR : rlA E M U.heap) (hS : va_S (fun a => E.1.2.1 ≤ a) s.heap U.heap locs) (hc : cells + M.2.2.1 ≤ R.cells) (hs : slots + M.2.2.2.1 ≤ R.slots)
    {g : JFrame} (hg : g.method = m) (hsize : g.locals.size = c.maxLocals) {ig : Instr} (hdg : decode c.code g.pc = .ok (ig, 3)) (hroom : 2 * g.monitorRoom + (g.stack.map fun v => v.category).sum + q'.2.2.1 ≤ 25)
    (hM' : cxM q' s mk methk ck) (hck : methk.code = some ck) (hpl : plainName q'.1.cls = true) (has : ∀ v ∈ as, okA v ∧ (cvA E v).category = 1) (hlen : as.length ≤ q'.2.2.1) (k : Sp l E q' d as M P') :
    ∃ (r : aR) (M' : aM) (B : State) (lo : List Loc) (kc ks : Nat), P' r M' ∧ Stand p l e R s m args below meth c B lo kc ks ∧ rlA E M' B.heap ∧ va_S (fun a => E.1.2.1 ≤ a) s.heap B.heap lo ∧ kc + M'.2.2.1 ≤ cells + M.2.2.1 ∧ ks + M'.2.2.2.1 ≤ slots + M.2.2.2.1 ∧
      ((∃ v : Option aA, r = .inl v ∧ (∀ w, v = some w → okA w) ∧ Steps p.tables e below (doInvoke e (U.setTop g) [] mk (as.map (cvA E)).toArray).1 (B.setTop { g with pc := g.pc + 3, stack := (v.map (cvA E)).toList ++ g.stack })) ∨
        ∃ (C : String) (a : Addr) (ce : Cell), r = .inr C ∧ B.heap[a]? = some ce ∧ ce.vm = .none ∧ s.vm.findClass C = some ce.cls ∧ Steps p.tables e below (doInvoke e (U.setTop g) [] mk (as.map (cvA E)).toArray).1 ((B.setTop g).pushFrame (.throwing a))) := by
  have hvm : (U.calling g mk (as.map (cvA E)).toArray).vm = U.vm := Stand.throwing_vm U g 0
  have hheap : (U.calling g mk (as.map (cvA E)).toArray).heap = U.heap := Stand.throwing_heap U g 0
  have hnU : U.methodNamed? q'.1 = some mk := X.named hM'.1
  have hmU : U.vm.method? mk = some methk := by rw [X.warmed.alike.method?]; exact hM'.2.1
  have hpk : U.plainMethod mk := by
    intro kx hkx
    obtain ⟨k2, h1, h2⟩ := className_of_methodNamed hnU
    cases h1.symm.trans hkx
    rw [h2, hpl]; rfl
  obtain ⟨Y, hdo⟩ := X.into hg hsize hdg (as.map (cvA E)).toArray (R' := { frames := d, locals := 36 * d, cells := M.2.2.1, slots := M.2.2.2.1 }) hmU hck hM'.2.2.2.2.2.1 hpk (by show d + 1 ≤ R.frames; omega) (by rw [hM'.2.2.2.1]; show _ + 36 * d ≤ R.locals; omega) hc hs
  have hW : s.WarmedH (U.calling g mk (as.map (cvA E)).toArray).vm := by rw [hvm]; exact X.warmed
  have hSc : va_S (fun a => E.1.2.1 ≤ a) s.heap (U.calling g mk (as.map (cvA E)).toArray).heap locs := by rw [hheap]; exact hS
  have hG' := hG.move hW hSc
  have hn' : (U.calling g mk (as.map (cvA E)).toArray).methodNamed? q'.1 = some mk := by
    have h1 : (s.setVm (U.calling g mk (as.map (cvA E)).toArray).vm).methodNamed? q'.1 = some mk := by rw [State.methodNamed?_setVm hW.alike]; exact hM'.1
    exact h1
  have hMc : cxM q' (U.calling g mk (as.map (cvA E)).toArray) mk methk ck := ⟨hn', by rw [hvm]; exact hmU, hM'.2.2⟩
  have kW := k p e { frames := d, locals := 36 * d, cells := M.2.2.1, slots := M.2.2.2.1 } (U.calling g mk (as.map (cvA E)).toArray) mk (as.map (cvA E)).toArray (.java g :: below) methk ck U.heap [] 0 0 M.2.2.1 M.2.2.2.1 _ hx hG' hMc (Nat.le_refl _) (Nat.le_refl _) hR (by rw [hheap]; exact va_S.rf) (lsA_entry has hlen) (fun v hv => nomatch hv) (by omega) (Nat.le_refl _) (by omega) (Nat.le_refl _)
  have he : entryFrame mk (as.map (cvA E)).toArray ck.maxLocals = F0 mk 0 ((lg_sl (as.map (cvA E)) ++ List.replicate (q'.2.2.1 - (lg_sl (as.map (cvA E))).length) Slot.unset).toArray) [] := by rw [lg_entry_eq, hM'.2.2.2.1]
  have hT0 : ((U.setTop g).pushFrame (.java (entryFrame mk (as.map (cvA E)).toArray ck.maxLocals))).heap = U.heap := by
    simp [State.pushFrame, State.setFrames, State.setTop, State.modifyTopJava]
  obtain ⟨t, a1, o, r, M', Lo, k', n', b1, b2, b3, b4, b5, b6, b7, b8, b9, b10⟩ := kW _ hT0 Y
  have a2 : Steps p.tables e below (doInvoke e (U.setTop g) [] mk (as.map (cvA E)).toArray).1 t := by
    rw [hdo [], he]
    rw [he] at a1
    exact Steps.weaken (mid := [.java g]) a1
  have hfr := vx_frame b7
  rw [hheap] at hfr
  have hSt : va_S (fun a => E.1.2.1 ≤ a) s.heap t.heap (locs ++ Lo) := ⟨Nat.le_trans hS.1 hfr.1, fun a h1 h2 => (hfr.2 a (Nat.lt_of_lt_of_le h1 hS.1) (fun z hz e => h2 (by rw [← e]; exact b8 z hz))).trans (hS.2.1 a h1 h2), fun z hz => (List.mem_append.mp hz).elim (hS.2.2 z) (b8 z)⟩
  match r, b4 with
  | .inl none, b4 =>
    have b4' : o = .returned none := b4
    subst b4'
    obtain ⟨B, XB, -, -, hB⟩ := X.outOf hg hdg b2 b5 b7
    have hBh : B.heap = t.heap := by rw [hB]; simp [State.setTop, State.modifyTopJava, State.setFrames]
    exact ⟨.inl none, M', B, locs ++ Lo, cells + k', slots + n', b3, XB, by rw [hBh]; exact b6, by rw [hBh]; exact hSt, by omega, by omega, Or.inl ⟨none, rfl, fun w hw => (by cases hw), by rw [hB] at a2; exact a2⟩⟩
  | .inl (some v), b4 =>
    have b4' : o = .returned (some (cvA E v)) ∧ okA v := b4
    obtain ⟨rfl, hv⟩ := b4'
    obtain ⟨B, XB, -, -, hB⟩ := X.outOf hg hdg b2 b5 b7
    have hBh : B.heap = t.heap := by rw [hB]; simp [State.setTop, State.modifyTopJava, State.setFrames]
    exact ⟨.inl (some v), M', B, locs ++ Lo, cells + k', slots + n', b3, XB, by rw [hBh]; exact b6, by rw [hBh]; exact hSt, by omega, by omega, Or.inl ⟨some v, rfl, fun w hw => (by cases hw; exact hv), by rw [hB] at a2; exact a2⟩⟩
  | .inr C, b4 =>
    obtain ⟨a, ce, rfl, f1, f2, f3⟩ := (b4 : ∃ (a : Addr) (ce : Cell), o = .threw a ∧ t.heap[a]? = some ce ∧ ce.vm = .none ∧ (U.calling g mk (as.map (cvA E)).toArray).vm.findClass C = some ce.cls)
    obtain ⟨B, XB, -, -, hB⟩ := X.outOfThrown hg b2 b5 b7
    have hBh : B.heap = t.heap := by rw [hB]; exact (Stand.throwing_heap B g a).symm
    exact ⟨.inr C, M', B, locs ++ Lo, cells + k', slots + n', b3, XB, by rw [hBh]; exact b6, by rw [hBh]; exact hSt, by omega, by omega, Or.inr ⟨C, a, ce, rfl, by rw [hBh]; exact f1, f2, by rw [← hW.alike.findClass]; exact f3, by rw [hB] at a2; exact a2⟩⟩
/-- what is owed behind a call -/
def cnA (l : Launch) (E : aE) (q : aK) (d nx : Nat) (L : List (Option aA)) (st : List aA) (P : aP) : aP := fun r M => match r with
  | .inl none => aw l E q d nx L st M P
  | .inl (some v) => aw l E q d nx L (v :: st) M P
  | .inr C => P (.inr C) M
theorem covN {c : Code} (h : c.exceptionTable.toList.map (fun h => (h.startPc, h.endPc, h.handlerPc, h.catchType)) = []) (pc : Nat) : ∀ x ∈ c.exceptionTable.toList, covers x pc = false := by
  intro x hx
  rw [List.map_eq_nil_iff.mp h] at hx
  cases hx
/-- the end of a call in a method without handlers -/
theorem aw_back {p : Program} {e : Env} {R : Room} {s : State} {m : MethodId} {args : Array Value} {below : List Frame} {meth : Method} {c : Code} {kc ks : Nat} {ls : Array Slot}
    (hx : p.tables.exec = Jvm.exec) (hG : cxG l E s) (hM : cxM q s m meth c) (hd : d ≤ R.frames) (hl : 36 * d ≤ R.locals) (hL : lsA E q.2.2.1 L ls) (hst : ∀ v ∈ st, okA v) (h0 : q.2.2.2.2 = []) (c2 : kc ≤ R.cells) (s2 : ks ≤ R.slots) {lo : List Loc} {c0 s0 : Nat} {B : State} {r : aR} {M' : aM} {D : State}
    (b1 : cnA l E q d (pc + 3) L st P r M') (b2 : Stand p l e R s m args below meth c B lo c0 s0) (b3 : rlA E M' B.heap) (b4 : va_S (fun a => E.1.2.1 ≤ a) s.heap B.heap lo) (b5 : c0 + M'.2.2.1 ≤ kc) (b6 : s0 + M'.2.2.2.1 ≤ ks)
    (b7 : (∃ v : Option aA, r = .inl v ∧ (∀ w, v = some w → okA w) ∧ Steps p.tables e below D (B.setTop { F0 m pc ls (st.map (cvA E)) with pc := pc + 3, stack := (v.map (cvA E)).toList ++ st.map (cvA E) })) ∨
        ∃ (C : String) (a : Addr) (ce : Cell), r = .inr C ∧ B.heap[a]? = some ce ∧ ce.vm = .none ∧ s.vm.findClass C = some ce.cls ∧ Steps p.tables e below D ((B.setTop (F0 m pc ls (st.map (cvA E)))).pushFrame (.throwing a))) :
    ∃ t, Steps p.tables e below D t ∧ enA E P below s kc ks t := by
  rcases b7 with ⟨v, rfl, hv, hsteps⟩ | ⟨C, a, ce, rfl, f1, f2, f3, hsteps⟩
  · cases v with
    | none =>
      have k1 : aw l E q d (pc + 3) L st M' P := b1
      obtain ⟨t, a1, a2⟩ := k1 p e R s m args below meth c B.heap lo c0 s0 kc ks ls hx hG hM hd hl b3 b4 hL hst b5 c2 b6 s2 B rfl b2
      exact ⟨t, hsteps.trans a1, a2⟩
    | some v =>
      have k1 : aw l E q d (pc + 3) L (v :: st) M' P := b1
      obtain ⟨t, a1, a2⟩ := k1 p e R s m args below meth c B.heap lo c0 s0 kc ks ls hx hG hM hd hl b3 b4 hL (ok_cons (hv v rfl) hst) b5 c2 b6 s2 B rfl b2
      exact ⟨t, hsteps.trans a1, a2⟩
  · have hex : c.exceptionTable.toList.map (fun h => (h.startPc, h.endPc, h.handlerPc, h.catchType)) = [] := by rw [hM.2.2.2.2.2.2, h0]
    obtain ⟨st1, hrun, hend, hW, hsm⟩ := b2.leaveThrown a (g := F0 m pc ls (st.map (cvA E))) rfl rfl rfl (covN hex pc) hM.2.2.2.2.2.1
    exact ⟨_, hsteps.trans st1, .threw a, .inr C, M', lo, c0, s0, hrun, hend, b1, ⟨a, ce, rfl, f1, f2, f3⟩, hW, b3, hsm, b4.2.2, b5, b6⟩
abbrev KS (q : aK) (pc : Nat) (q' : aK) (n nx : Nat) : Prop := Kq q' ∧ n ≤ q'.2.2.1 ∧ Cond.static q'.1 ∈ lw_tbl ∧ pc + 3 = nx ∧ (parseMethodDescriptor q'.1.desc).map (fun d => d.parameters.length) = some n ∧ ∃ idx, decode q.2.1 pc = .ok (.invokestatic idx, 3) ∧ (Cond.methodLink q.1.cls idx q'.1 ∈ lw_tbl ∨ ∃ host, Cond.methodLinkNest q.1.cls idx q'.1 host ∈ lw_tbl)
abbrev KV (q : aK) (pc : Nat) (q' : aK) (ci n nx : Nat) : Prop := Kq q' ∧ n + 1 ≤ q'.2.2.1 ∧ Cond.instanceMethod q'.1 ∈ lw_tbl ∧ Cond.selects q'.1.cls q'.1 q'.1 ∈ lw_tbl ∧ pc + 3 = nx ∧ (parseMethodDescriptor q'.1.desc).map (fun d => d.parameters.length) = some n ∧ (∃ r, vwCl[ci]? = some r ∧ r.1 = q'.1.cls) ∧ ∃ idx, decode q.2.1 pc = .ok (.invokevirtual idx, 3) ∧ Cond.methodLink q.1.cls idx q'.1 ∈ lw_tbl
abbrev KI (q : aK) (pc : Nat) (q' : aK) (n nx : Nat) : Prop := Kq q' ∧ n + 1 ≤ q'.2.2.1 ∧ q'.2.2.2.2 = [] ∧ q'.2.2.2.1 = none ∧ Cond.code q'.1 q'.2.1 q'.2.2.1 none ∈ lw_tbl ∧ q'.1.name = "<init>" ∧ Cond.instanceMethod q'.1 ∈ lw_tbl ∧ pc + 3 = nx ∧ (parseMethodDescriptor q'.1.desc).map (fun d => d.parameters.length) = some n ∧ ∃ idx, decode q.2.1 pc = .ok (.invokespecial idx, 3) ∧ Cond.methodLink q.1.cls idx q'.1 ∈ lw_tbl
theorem sumC (E : aE) : ∀ st : List aA, ((st.map (cvA E)).map fun v => v.category).sum ≤ 2 * st.length
  | [] => Nat.le_refl _
  | v :: st => by
    have h := sumC E st
    have h1 : (cvA E v).category ≤ 2 := by rcases lv_cat (cvA E v) with h | h <;> omega
    simp only [List.map_cons, List.sum_cons, List.length_cons] at h ⊢
    omega
theorem ok_as {i : Nat} {as : List aA} (h1 : ∀ v ∈ as, okA v) (h2 : ∀ v ∈ as, (cvA E v).category = 1) : ∀ v ∈ rV i :: as, okA v ∧ (cvA E v).category = 1 := List.forall_mem_cons.mpr ⟨⟨trivial, rfl⟩, fun v hv => ⟨h1 v hv, h2 v hv⟩⟩
theorem nparams {q' : aK} {n : Nat} (h : (parseMethodDescriptor q'.1.desc).map (fun d => d.parameters.length) = some n) {sig : MethodDescriptor} (hs : parseMethodDescriptor q'.1.desc = some sig) : n = sig.parameters.length := by
  rw [hs] at h
  exact (Option.some.inj h).symm
theorem aw_S {q' : aK} {n : Nat} {as : List aA} (h : KS q pc q' n nx) (h0 : q.2.2.2.2 = []) (hn : as.length = n) (hrm : 2 * st.length + q'.2.2.1 ≤ 25) (has : ∀ v ∈ as, (cvA E v).category = 1) (k : Sp l E q' d as M (cnA l E q (d + 1) nx L st P)) : aw l E q (d + 1) pc L (as.reverse ++ st) M P := by
  intro p e R s m args below meth cd H locs cells slots kc ks ls hx hG hM hd hl hR hS hL hst c1 c2 s1 s2
  obtain ⟨hq, hmx, hstat, h2, hnp, idx, h1, hlk⟩ := h
  subst h2
  obtain ⟨mk, methk, ck, hM', hck, hsig⟩ := cxM_of hG hq
  obtain ⟨kP, hkP, -⟩ := className_of_methodNamed hM'.1
  have hinitP : kP.init = .initialized := Cond.initialized_spec (findClass_of_methodNamed hM'.1) hkP (cxW hG hq.2.2.2.2 rfl args)
  have hstatic : methk.isStatic = true := Cond.static_spec hM'.1 hM'.2.1 (cxW hG hstat rfl args)
  have hst1 : ∀ v ∈ as, okA v := fun v hv => hst v (List.mem_append_left _ (List.mem_reverse.mpr hv))
  have hst2 : ∀ v ∈ st, okA v := fun v hv => hst v (List.mem_append_right _ hv)
  intro T hT X
  have hstk : (F0 m pc ls ((as.reverse ++ st).map (cvA E))).stack = (as.map (cvA E)).reverse ++ st.map (cvA E) := by
    show (as.reverse ++ st).map (cvA E) = _
    rw [List.map_append, List.map_reverse]
  have hdg : decode cd.code (F0 m pc ls ((as.reverse ++ st).map (cvA E))).pc = .ok (.invokestatic idx, 3) := by rw [hM.2.2.1]; exact h1
  have hl1 : (as.map (cvA E)).length = methk.sig.parameters.length := by rw [List.length_map, hn]; exact nparams hnp hsig
  have key : ∃ vm', Stand p l e R s m args below meth cd (T.setVm vm') locs cells slots ∧ ∀ target, (∀ acts, Steps p.tables e below (doInvoke e ((T.setVm vm').setTop { F0 m pc ls ((as.reverse ++ st).map (cvA E)) with stack := st.map (cvA E) }) acts mk (as.map (cvA E)).toArray).1 target) → Steps p.tables e below (T.setTop (F0 m pc ls ((as.reverse ++ st).map (cvA E)))) target := by
    rcases hlk with hlk | ⟨host, hlk⟩
    · exact X.invokestatic hx (findClass_of_methodNamed hM.1) (cxW hG hlk rfl args) hM'.1 hM'.2.1 hstatic hkP hinitP hq.2.1 (g := F0 m pc ls ((as.reverse ++ st).map (cvA E))) rfl hl1 hstk hdg
    · exact X.invokestaticNest hx (findClass_of_methodNamed hM.1) (cxW hG hlk rfl args) hM'.1 hM'.2.1 hstatic hkP hinitP hq.2.1 (g := F0 m pc ls ((as.reverse ++ st).map (cvA E))) rfl hl1 hstk hdg
  obtain ⟨vm', X', hstep⟩ := key
  obtain ⟨r, M', B, lo, c0, s0, b1, b2, b3, b4, b5, b6, b7⟩ := aw_call0 X' hx hG hd hl (by show rlA E M T.heap; rw [hT]; exact hR) (by show va_S _ _ T.heap _; rw [hT]; exact hS) (by omega) (by omega) (g := F0 m pc ls (st.map (cvA E))) rfl (by show ls.size = _; rw [hL.1, hM.2.2.2.1]) (ig := .invokestatic idx) (by rw [hM.2.2.1]; exact h1) (by have := sumC E st; show 2 * 0 + ((st.map (cvA E)).map fun v => v.category).sum + q'.2.2.1 ≤ 25; omega) hM' hck hq.1 (fun v hv => ⟨hst1 v hv, has v hv⟩) (by omega) k
  obtain ⟨t, a1, a2⟩ := aw_back hx hG hM hd hl hL hst2 h0 c2 s2 b1 b2 b3 b4 (by omega) (by omega) b7
  exact ⟨t, hstep t (fun acts => by rw [doInvoke_state]; exact a1), a2⟩
theorem aw_V {q' : aK} {ci n i nn : Nat} {S : aS} {g : aG} {u : aU} {as : List aA} (h : KV q pc q' ci n nx) (h0 : q.2.2.2.2 = []) (hn : as.length = n) (hrm : 2 * st.length + q'.2.2.1 ≤ 25) (has : ∀ v ∈ as, (cvA E v).category = 1) (hh : hasA S i (ci + 4) nn) (k : Sp l E q' d (rV i :: as) (S, g, u) (cnA l E q (d + 1) nx L st P)) : aw l E q (d + 1) pc L (as.reverse ++ rV i :: st) (S, g, u) P := by
  intro p e R s m args below meth cd H locs cells slots kc ks ls hx hG hM hd hl hR hS hL hst c1 c2 s1 s2
  obtain ⟨hq, hmx, hins, hsel, h2, hnp, ⟨rr, hr1, hr2⟩, idx, h1, hlk⟩ := h
  subst h2
  obtain ⟨mk, methk, ck, hM', hck, hsig⟩ := cxM_of hG hq
  obtain ⟨mk2, methM, hnamed, hmethM, hstM, habM⟩ := Cond.instanceMethod_spec (cxW hG hins rfl args)
  cases hM'.1.symm.trans hnamed
  cases hM'.2.1.symm.trans hmethM
  have he : (wsA E S g)[i]? = some (E.1.2.1 + i, .inr (ci, fsA E ci (S.2.2 i) (g i))) := by rw [wsA_get hh.1, hh.2]; rfl
  obtain ⟨cell, hcell, hobj, hcls⟩ := va_recv hG.2.2.2.2.1 hR.1 hr1 he
  rw [hr2] at hcls
  obtain ⟨c2', r2, m2, q1, q2, q3, q4, kP, hkP, hkPi⟩ := Cond.selects_spec (cxW hG hsel rfl args)
  cases hcls.symm.trans q1
  cases (State.methodFound?_of_named hnamed hq.2.1).symm.trans q2
  cases hnamed.symm.trans q3
  have hst1 : ∀ v ∈ as, okA v := fun v hv => hst v (List.mem_append_left _ (List.mem_reverse.mpr hv))
  have hst2 : ∀ v ∈ st, okA v := fun v hv => hst v (List.mem_append_right _ (List.mem_cons_of_mem _ hv))
  intro T hT X
  have hselP : selectMethod e.platform s.vm cell.cls mk = .method mk := by rw [Launch.admits_selectMethod X.admits]; exact q4
  have hstk : (F0 m pc ls ((as.reverse ++ rV i :: st).map (cvA E))).stack = (as.map (cvA E)).reverse ++ .ref (E.1.2.1 + i) :: st.map (cvA E) := by
    show (as.reverse ++ rV i :: st).map (cvA E) = _
    rw [List.map_append, List.map_reverse]
    rfl
  have hdg : decode cd.code (F0 m pc ls ((as.reverse ++ rV i :: st).map (cvA E))).pc = .ok (.invokevirtual idx, 3) := by rw [hM.2.2.1]; exact h1
  have hl1 : (as.map (cvA E)).length = methk.sig.parameters.length := by rw [List.length_map, hn]; exact nparams hnp hsig
  obtain ⟨vm', X', hstep⟩ := X.invokevirtual hx (findClass_of_methodNamed hM.1) (cxW hG hlk rfl args) hnamed hmethM hstM hkP hkPi hq.2.1 (a := E.1.2.1 + i) (cell := cell) (by rw [hT]; exact hcell) (fun z h => by rw [h] at hobj; cases hobj) hselP hmethM habM hkP hkPi (g := F0 m pc ls ((as.reverse ++ rV i :: st).map (cvA E))) rfl hl1 hstk hdg
  obtain ⟨r, M', B, lo, c0, s0, b1, b2, b3, b4, b5, b6, b7⟩ := aw_call0 X' hx hG hd hl (by show rlA E (S, g, u) T.heap; rw [hT]; exact hR) (by show va_S _ _ T.heap _; rw [hT]; exact hS) (by omega) (by omega) (g := F0 m pc ls (st.map (cvA E))) rfl (by show ls.size = _; rw [hL.1, hM.2.2.2.1]) (ig := .invokevirtual idx) (by rw [hM.2.2.1]; exact h1) (by have := sumC E st; show 2 * 0 + ((st.map (cvA E)).map fun v => v.category).sum + q'.2.2.1 ≤ 25; omega) hM' hck hq.1 (ok_as hst1 has) (by simp only [List.length_cons]; omega) k
  obtain ⟨t, a1, a2⟩ := aw_back hx hG hM hd hl hL hst2 h0 c2 s2 b1 b2 b3 b4 (by omega) (by omega) b7
  exact ⟨t, hstep t (fun acts => by rw [doInvoke_state]; exact a1), a2⟩
theorem aw_I {q' : aK} {n i : Nat} {as : List aA} (h : KI q pc q' n nx) (h0 : q.2.2.2.2 = []) (hn : as.length = n) (hrm : 2 * st.length + q'.2.2.1 ≤ 25) (has : ∀ v ∈ as, (cvA E v).category = 1) (k : Sp l E q' d (rV i :: as) M (cnA l E q (d + 1) nx L st P)) : aw l E q (d + 1) pc L (as.reverse ++ rV i :: st) M P := by
  intro p e R s m args below meth cd H locs cells slots kc ks ls hx hG hM hd hl hR hS hL hst c1 c2 s1 s2
  obtain ⟨hq, hmx, hq0, hq1, hcw, hnm, hins, h2, hnp, idx, h1, hlk⟩ := h
  subst h2
  obtain ⟨mk, methk, ck, hM', hck, hsig⟩ := cxM_of hG hq
  have hst1 : ∀ v ∈ as, okA v := fun v hv => hst v (List.mem_append_left _ (List.mem_reverse.mpr hv))
  have hst2 : ∀ v ∈ st, okA v := fun v hv => hst v (List.mem_append_right _ (List.mem_cons_of_mem _ hv))
  intro T hT X
  have hpl : e.platform.magicAccessors = ({} : Platform).magicAccessors := by rw [X.admits.platform]
  have hstk : (F0 m pc ls ((as.reverse ++ rV i :: st).map (cvA E))).stack = (as.map (cvA E)).reverse ++ .ref (E.1.2.1 + i) :: st.map (cvA E) := by
    show (as.reverse ++ rV i :: st).map (cvA E) = _
    rw [List.map_append, List.map_reverse]
    rfl
  obtain ⟨tm, methM, cM, kP, vm₁, hnamed, hmethM, hcodeM, -, hlocalsM, -, hkP, -, hW₁, hstep⟩ := Steps.initColdArgs (e := e) X.here hx X.warmed hpl (findClass_of_methodNamed hM.1) hnm hq.2.1 (cxW hG hlk rfl args) (cxW hG hins rfl args) (cxW hG hcw rfl args) (f := F0 m pc ls ((as.reverse ++ rV i :: st).map (cvA E))) rfl (fun sig hs => by rw [List.length_map, hn]; exact nparams hnp hs) hstk (by rw [hM.2.2.1]; exact h1)
  have hmk : tm = mk := Option.some.inj (hnamed.symm.trans hM'.1)
  subst hmk
  have X' := X.noted hW₁
  obtain ⟨r, M', B, lo, c0, s0, b1, b2, b3, b4, b5, b6, b7⟩ := aw_call0 X' hx hG hd hl (by show rlA E M T.heap; rw [hT]; exact hR) (by show va_S _ _ T.heap _; rw [hT]; exact hS) (by omega) (by omega) (g := F0 m pc ls (st.map (cvA E))) rfl (by show ls.size = _; rw [hL.1, hM.2.2.2.1]) (ig := .invokespecial idx) (by rw [hM.2.2.1]; exact h1) (by have := sumC E st; show 2 * 0 + ((st.map (cvA E)).map fun v => v.category).sum + q'.2.2.1 ≤ 25; omega) hM' hck hq.1 (ok_as hst1 has) (by simp only [List.length_cons]; omega) k
  obtain ⟨t, a1, a2⟩ := aw_back hx hG hM hd hl hL hst2 h0 c2 s2 b1 b2 b3 b4 (by omega) (by omega) b7
  exact ⟨t, hstep t (fun acts => by rw [doInvoke_state]; exact a1), a2⟩
/-- where an exception C, thrown at pc, is caught; there it is stored away -/
abbrev Kh (q : aK) (pc : Nat) (C : String) (k nx : Nat) : Prop := ∃ (pre suf : List (Nat × Nat × Nat × Nat)) (h : Nat × Nat × Nat × Nat), q.2.2.2.2 = pre ++ h :: suf ∧ (∀ z ∈ pre, z.2.2.2 ≠ 0 ∧ ∃ nm, Cond.classLink q.1.cls z.2.2.2 nm ∈ lw_tbl ∧ (C, nm) ∈ ncA) ∧ h.1 ≤ pc ∧ pc < h.2.1 ∧ h.2.2.2 ≠ 0 ∧ Cond.classLink q.1.cls h.2.2.2 C ∈ lw_tbl ∧ Cond.castable C C ∈ lw_tbl ∧ Kt q h.2.2.1 k nx
def cnH (l : Launch) (E : aE) (q : aK) (d pc nx : Nat) (L : List (Option aA)) (st : List aA) (P : aP) : aP := fun r M => match r with
  | .inl none => aw l E q d nx L st M P
  | .inl (some v) => aw l E q d nx L (v :: st) M P
  | .inr C => ∃ k nx', Kh q pc C k nx' ∧ aw l E q d nx' (L.set k none) [] M P
theorem lsA_setN {n k : Nat} {ls : Array Slot} {v : Value} (hL : lsA E n L ls) : ∃ lv, lv_has ls n lv ∧ ∀ ls', lv_has ls' n ((k, v) :: lv.filter (fun q => !(q.1 == k) && !(q.1 + 1 == k && q.2.category == 2))) → lsA E n (L.set k none) ls' := by
  refine ⟨(List.range L.length).filterMap (fun j => (L[j]?).join.map (fun w => (j, cvA E w))), ⟨hL.1, hL.2.1, fun x hx => ?_⟩, fun ls' h' => ⟨h'.1, h'.2.1, fun j w hw => ?_⟩⟩
  · obtain ⟨j, -, hj⟩ := List.mem_filterMap.mp hx
    cases e : L[j]? with
    | none => rw [e] at hj; cases hj
    | some o =>
      cases o with
      | none => rw [e] at hj; cases hj
      | some w =>
        rw [e] at hj
        cases hj
        exact (hL.2.2 j w e).1
  · by_cases hj : j = k
    · subst hj
      have hlt : j < L.length := by
        have := (List.getElem?_eq_some_iff.mp hw).1
        simpa using this
      rw [List.getElem?_set_self hlt] at hw
      cases hw
    · rw [List.getElem?_set_ne (Ne.symm hj)] at hw
      obtain ⟨g1, g2, g3⟩ := hL.2.2 j w hw
      refine ⟨h'.2.2 (j, cvA E w) (List.mem_cons_of_mem _ (List.mem_filter.mpr ⟨List.mem_filterMap.mpr ⟨j, List.mem_range.mpr (List.getElem?_eq_some_iff.mp hw).1, by rw [hw]; rfl⟩, ?_⟩)), g2, g3⟩
      simp [hj, g3]
theorem aw_caught {p : Program} {e : Env} {R : Room} {s : State} {m : MethodId} {args : Array Value} {below : List Frame} {meth : Method} {c : Code} {H : Heap} {locs : List Loc} {cells slots kc ks : Nat} {ls : Array Slot} {rest : List Value} {C : String} {k : Nat} {a : Addr} {ce : Cell}
    (hx : p.tables.exec = Jvm.exec) (hG : cxG l E s) (hM : cxM q s m meth c) (hd : d ≤ R.frames) (hl : 36 * d ≤ R.locals) (hR : rlA E M H) (hS : va_S (fun a => E.1.2.1 ≤ a) s.heap H locs) (hL : lsA E q.2.2.1 L ls) (c1 : cells + M.2.2.1 ≤ kc) (c2 : kc ≤ R.cells) (s1 : slots + M.2.2.2.1 ≤ ks) (s2 : ks ≤ R.slots)
    (h : Kh q pc C k nx) (hce : H[a]? = some ce) (hcv : ce.vm = .none) (hcl : s.vm.findClass C = some ce.cls) (kk : aw l E q d nx (L.set k none) [] M P) : vx_W p l e R s m args below meth c H locs cells slots (enA E P below s kc ks) (F0 m pc ls rest) a := by
  obtain ⟨pre, suf, h9, e1, e2, e3, e4, e5, e6, e7, hkn, h8⟩ := h
  have hown : s.vm.findClass q.1.cls = some m.cls := findClass_of_methodNamed hM.1
  have hex := hM.2.2.2.2.2.2
  rw [e1] at hex
  obtain ⟨l1, l2, m1, m2, m3⟩ := List.map_eq_append_iff.mp hex
  obtain ⟨x, l3, n1, n2, n3⟩ := List.map_eq_cons_iff.mp m3
  obtain ⟨lv, g1, g2⟩ := lsA_setN (k := k) (v := .ref a) hL
  refine vx_catch (own := q.1.cls) (name := C) (E := C) hown l1 x l3 (by rw [m1, n1]) (fun z hz => Or.inr ?_) ?_ ?_ ?_ (cxW hG e7 rfl args) hce hcv hcl ?_
  · have hz2 : (z.startPc, z.endPc, z.handlerPc, z.catchType) ∈ pre := by rw [← m2]; exact List.mem_map.mpr ⟨z, hz, rfl⟩
    obtain ⟨f1, nm, f2, f3⟩ := e2 _ hz2
    exact ⟨f1, nm, cxW hG f2 rfl args, hG.2.2.2.1 _ f3⟩
  · rw [← n2] at e3 e4
    simp only [covers, Bool.and_eq_true, decide_eq_true_eq]
    exact ⟨e3, e4⟩
  · rw [← n2] at e5; exact e5
  · rw [← n2] at e6; exact cxW hG e6 rfl args
  · have hh : x.handlerPc = h9.2.2.1 := by rw [← n2]
    rw [hh]
    rcases h8 with ⟨f1, f2⟩ | ⟨f, f1, f2, f3⟩
    · subst f2; exact lv_astore hx hM.2.2.1 f1 g1 hkn rfl fun ls' h' => kk p e R s m args below meth c H locs cells slots kc ks ls' hx hG hM hd hl hR hS (g2 ls' h') (fun v hv => nomatch hv) c1 c2 s1 s2
    · subst f3; exact lv_astore_n hx hM.2.2.1 f1 f2 g1 hkn rfl fun ls' h' => kk p e R s m args below meth c H locs cells slots kc ks ls' hx hG hM hd hl hR hS (g2 ls' h') (fun v hv => nomatch hv) c1 c2 s1 s2
theorem aw_VH {q' : aK} {ci n i nn : Nat} {S : aS} {g : aG} {u : aU} {as : List aA} (h : KV q pc q' ci n nx) (hn : as.length = n) (hrm : 2 * st.length + q'.2.2.1 ≤ 25) (has : ∀ v ∈ as, (cvA E v).category = 1) (hh : hasA S i (ci + 4) nn) (k : Sp l E q' d (rV i :: as) (S, g, u) (cnH l E q (d + 1) pc nx L st P)) : aw l E q (d + 1) pc L (as.reverse ++ rV i :: st) (S, g, u) P := by
  intro p e R s m args below meth cd H locs cells slots kc ks ls hx hG hM hd hl hR hS hL hst c1 c2 s1 s2
  obtain ⟨hq, hmx, hins, hsel, h2, hnp, ⟨rr, hr1, hr2⟩, idx, h1, hlk⟩ := h
  subst h2
  obtain ⟨mk, methk, ck, hM', hck, hsig⟩ := cxM_of hG hq
  obtain ⟨mk2, methM, hnamed, hmethM, hstM, habM⟩ := Cond.instanceMethod_spec (cxW hG hins rfl args)
  cases hM'.1.symm.trans hnamed
  cases hM'.2.1.symm.trans hmethM
  have he : (wsA E S g)[i]? = some (E.1.2.1 + i, .inr (ci, fsA E ci (S.2.2 i) (g i))) := by rw [wsA_get hh.1, hh.2]; rfl
  obtain ⟨cell, hcell, hobj, hcls⟩ := va_recv hG.2.2.2.2.1 hR.1 hr1 he
  rw [hr2] at hcls
  obtain ⟨c2', r2, m2, q1, q2, q3, q4, kP, hkP, hkPi⟩ := Cond.selects_spec (cxW hG hsel rfl args)
  cases hcls.symm.trans q1
  cases (State.methodFound?_of_named hnamed hq.2.1).symm.trans q2
  cases hnamed.symm.trans q3
  have hst1 : ∀ v ∈ as, okA v := fun v hv => hst v (List.mem_append_left _ (List.mem_reverse.mpr hv))
  have hst2 : ∀ v ∈ st, okA v := fun v hv => hst v (List.mem_append_right _ (List.mem_cons_of_mem _ hv))
  intro T hT X
  have hselP : selectMethod e.platform s.vm cell.cls mk = .method mk := by rw [Launch.admits_selectMethod X.admits]; exact q4
  have hstk : (F0 m pc ls ((as.reverse ++ rV i :: st).map (cvA E))).stack = (as.map (cvA E)).reverse ++ .ref (E.1.2.1 + i) :: st.map (cvA E) := by
    show (as.reverse ++ rV i :: st).map (cvA E) = _
    rw [List.map_append, List.map_reverse]
    rfl
  have hdg : decode cd.code (F0 m pc ls ((as.reverse ++ rV i :: st).map (cvA E))).pc = .ok (.invokevirtual idx, 3) := by rw [hM.2.2.1]; exact h1
  have hl1 : (as.map (cvA E)).length = methk.sig.parameters.length := by rw [List.length_map, hn]; exact nparams hnp hsig
  obtain ⟨vm', X', hstep⟩ := X.invokevirtual hx (findClass_of_methodNamed hM.1) (cxW hG hlk rfl args) hnamed hmethM hstM hkP hkPi hq.2.1 (a := E.1.2.1 + i) (cell := cell) (by rw [hT]; exact hcell) (fun z h => by rw [h] at hobj; cases hobj) hselP hmethM habM hkP hkPi (g := F0 m pc ls ((as.reverse ++ rV i :: st).map (cvA E))) rfl hl1 hstk hdg
  obtain ⟨r, M', B, lo, c0, s0, b1, b2, b3, b4, b5, b6, b7⟩ := aw_call0 X' hx hG hd hl (by show rlA E (S, g, u) T.heap; rw [hT]; exact hR) (by show va_S _ _ T.heap _; rw [hT]; exact hS) (by omega) (by omega) (g := F0 m pc ls (st.map (cvA E))) rfl (by show ls.size = _; rw [hL.1, hM.2.2.2.1]) (ig := .invokevirtual idx) (by rw [hM.2.2.1]; exact h1) (by have := sumC E st; show 2 * 0 + ((st.map (cvA E)).map fun v => v.category).sum + q'.2.2.1 ≤ 25; omega) hM' hck hq.1 (ok_as hst1 has) (by simp only [List.length_cons]; omega) k
  have key : ∃ t, Steps p.tables e below (doInvoke e ((T.setVm vm').setTop (F0 m pc ls (st.map (cvA E)))) [] mk ((rV i :: as).map (cvA E)).toArray).1 t ∧ enA E P below s kc ks t := by
    rcases b7 with ⟨v, rfl, hv, hsteps⟩ | ⟨C, a, ce, rfl, f1, f2, f3, hsteps⟩
    · cases v with
      | none =>
        have k1 : aw l E q (d + 1) (pc + 3) L st M' P := b1
        obtain ⟨t, a1, a2⟩ := k1 p e R s m args below meth cd B.heap lo c0 s0 kc ks ls hx hG hM hd hl b3 b4 hL hst2 (by omega) c2 (by omega) s2 B rfl b2
        exact ⟨t, hsteps.trans a1, a2⟩
      | some v =>
        have k1 : aw l E q (d + 1) (pc + 3) L (v :: st) M' P := b1
        obtain ⟨t, a1, a2⟩ := k1 p e R s m args below meth cd B.heap lo c0 s0 kc ks ls hx hG hM hd hl b3 b4 hL (ok_cons (hv v rfl) hst2) (by omega) c2 (by omega) s2 B rfl b2
        exact ⟨t, hsteps.trans a1, a2⟩
    · obtain ⟨k', nx', hk', hw'⟩ := (b1 : ∃ k nx', Kh q pc C k nx' ∧ aw l E q (d + 1) nx' (L.set k none) [] M' P)
      obtain ⟨t, a1, a2⟩ := aw_caught (kc := kc) (ks := ks) (rest := st.map (cvA E)) hx hG hM hd hl b3 b4 hL (by omega) c2 (by omega) s2 hk' f1 f2 f3 hw' B rfl b2
      exact ⟨t, hsteps.trans a1, a2⟩
  obtain ⟨t, a1, a2⟩ := key
  exact ⟨t, hstep t (fun acts => by rw [doInvoke_state]; exact a1), a2⟩
def nmE : List String := ["java/lang/RuntimeException", "java/lang/Exception"]
abbrev KT (q : aK) (pc : Nat) (C : String) : Prop := ∃ (ik is ic : Nat) (tx : String), decode q.2.1 pc = .ok (.new ik, 3) ∧ decode q.2.1 (pc + 3) = .ok (.dup, 1) ∧ decode q.2.1 (pc + 4) = .ok (.ldc is, 2) ∧ decode q.2.1 (pc + 6) = .ok (.invokespecial ic, 3) ∧ decode q.2.1 (pc + 9) = .ok (.athrow, 1) ∧ q.1.cls = "OmegaNets" ∧ q.2.2.2.2 = [] ∧ (is, tx) ∈ txA ∧ Cond.classLink "OmegaNets" ik C ∈ lw_tbl ∧ Cond.initialized C ∈ lw_tbl ∧ Bundle.fit C = true ∧ ∀ w ∈ vx_atS "OmegaNets" ic C nmE, w ∈ lw_tbl ∧ (stW w && vx_ot w) = true
theorem aw_throw {C : String} {a b : Nat} {f : Bool} (h : KT q pc C) (hd6 : 6 ≤ d) (hrm : st.length ≤ 8) (ha : 1 ≤ a) (hb : 6 ≤ b) (hp : P (.inr C) (S, g, a - 1, b - 6, false)) : aw l E q d pc L st (S, g, a, b, f) P := by
  intro p e R s m args below meth cd H locs cells slots kc ks ls hx hG hM hd hl hR hS hL hst c1 c2 s1 s2
  obtain ⟨ik, is, ic, tx, d0, d3, d4, d6, d9, ho, hno, htx, hk, hini, hfit, hat⟩ := h
  obtain ⟨sa, hstr⟩ := hG.2.2.1 _ htx
  have hown : s.vm.findClass "OmegaNets" = some m.cls := by rw [← ho]; exact findClass_of_methodNamed hM.1
  have hex : cd.exceptionTable.toList.map (fun h => (h.startPc, h.endPc, h.handlerPc, h.catchType)) = [] := by rw [hM.2.2.2.2.2.2, hno]
  have c1' : cells + a ≤ kc := c1
  have s1' : slots + b ≤ ks := s1
  have hsum := sumC E st
  have kk := vx_throwS (p := p) (e := e) (R := R) (s := s) (m := m) (args := args) (below := below) (meth := meth) (c := cd) (H := H) (locs := locs) (cells := cells) (slots := slots) (ls := ls) (rest := st.map (cvA E)) (free := fun a => E.1.2.1 ≤ a) (mc := cells + 1) (ms := slots + 6) (Qc := fun _ _ _ _ => False)
    (XC := fun C' _ t => C' = C ∧ rlA E (S, g, a - 1, b - 6, false) t.heap) hx hM.2.2.1 hG.1 (own := "OmegaNets") (cls := C) (text := tx) (names := nmE) (ik := ik) (is := is) (ic := ic) (sa := sa) (A := fun a => E.1.2.1 ≤ a) hown hfit (by decide +kernel)
    (cxW hG hk rfl args) (cxW hG hini rfl args) hstr (fun w hw => cxW hG (hat w hw).1 ((Bool.and_eq_true _ _).mp (hat w hw).2).1 args)
    (List.forall_mem_cons.mpr ⟨rfl, List.forall_mem_cons.mpr ⟨rfl, fun w hw => ((Bool.and_eq_true _ _).mp (hat w hw).2).2⟩⟩) hG.2.2.2.2.2.1 hG.2.2.2.2.2.2.1 hS (by rw [hL.1, hM.2.2.2.1]) d0 d3 d4 d6 d9 (covN hex _) (by show 2 + 3 < _; omega) (by show _ + (13 * (2 + 1) + 43) ≤ _; omega) (by omega) (by omega) hM.2.2.2.2.2.1
    (fun t _ h1 h2 => ⟨rfl, hR.1.kept (fun k x hx => h2 _ (hR.1 k x hx).lt), hR.2.1, fun z => by cases z⟩) hS.2.2 (Nat.le_refl _) (Nat.le_refl _)
  intro T hT X
  obtain ⟨t, a1, o, b1, b2, b3⟩ := kk T hT X
  rcases b3 with ⟨hf, -⟩ | ⟨qa, rfl, C', ce, Lo, ⟨rfl, hr1⟩, hce, hcv, hcl, hW, hsm, hfree⟩
  · exact hf.elim
  · exact ⟨t, a1, _, .inr C', (S, g, a - 1, b - 6, false), Lo, cells + 1, slots + 6, b1, b2, hp, ⟨qa, ce, rfl, hce, hcv, hcl⟩, hW, hr1, hsm, hfree, by show cells + 1 + (a - 1) ≤ kc; omega, by show slots + 6 + (b - 6) ≤ ks; omega⟩
end AW3
end
section
section AW4
variable {l : Launch} {E : aE} {q : aK} {d pc nx tg : Nat} {L : List (Option aA)} {st : List aA} {M : aM} {P : aP} {S : aS} {g : aG} {u : aU}
theorem i32nn {x : Int} (h : okI x) (h0 : 0 ≤ x) : ¬ Int32.ofInt x < 0 := fun hz => by
  have := (i32L h ok0).mp hz
  omega
/-- a new cell of kind kn behind S's -/
def nwA (S : aS) (kn : Nat × Nat) : aS := (S.1 + 1, fun a => if a = S.1 then kn else S.2.1 a, fun a b => if a = S.1 then none else S.2.2 a b)
def nwG (S : aS) (g : aG) : aG := fun a b => if a = S.1 then 0 else g a b
theorem nwG_ok (h : ∀ i j, okI (g i j)) : ∀ i j, okI (nwG S g i j) := by
  intro i j
  unfold nwG
  split
  · exact ok0
  · exact h i j
theorem wsA_new (E : aE) (S : aS) (g : aG) (kn : Nat × Nat) : wsA E (nwA S kn) (nwG S g) = wsA E S g ++ [(E.1.2.1 + S.1, picA E kn (fun _ => none) (fun _ => 0))] := by
  unfold wsA
  show (List.range (S.1 + 1)).map _ = _
  rw [List.range_succ, List.map_append]
  congr 1
  · apply List.map_congr_left
    intro a ha
    have hne : a ≠ S.1 := by have := List.mem_range.mp ha; omega
    have e1 : (nwA S kn).2.1 a = S.2.1 a := if_neg hne
    have e2 : (nwA S kn).2.2 a = S.2.2 a := by funext b; exact if_neg hne
    have e3 : nwG S g a = g a := by funext b; exact if_neg hne
    rw [e1, e2, e3]
  · have e1 : (nwA S kn).2.1 S.1 = kn := if_pos rfl
    have e2 : (nwA S kn).2.2 S.1 = fun _ => none := by funext b; exact if_pos rfl
    have e3 : nwG S g S.1 = fun _ => 0 := by funext b; exact if_pos rfl
    rw [List.map_cons, List.map_nil, e1, e2, e3]
theorem rlA_new {E : aE} {S : aS} {g : aG} {a b a' b' : Nat} {H H1 : Heap} {kn : Nat × Nat} (hR : rlA E (S, g, a, b, true) H) (z : H1.size = H.size + 1) (o : ∀ q, q < H.size → H1[q]? = H[q]?) (hn : va_at E.2.1 vwCl (E.1.2.1 + S.1, picA E kn (fun _ => none) (fun _ => 0)) H1) : rlA E (nwA S kn, nwG S g, a', b', true) H1 := by
  have hz : H.size = E.1.2.1 + S.1 := hR.2.2 rfl
  refine ⟨?_, nwG_ok hR.2.1, fun _ => by show H1.size = E.1.2.1 + (S.1 + 1); omega⟩
  show va_P E.2.1 vwCl (wsA E (nwA S kn) (nwG S g)) H1
  rw [wsA_new]
  refine (hR.1.kept (fun k x hx => o x.1 (hR.1 k x hx).lt)).app (fun k x hx => ?_)
  have hk : k < 1 := (List.getElem?_eq_some_iff.mp hx).1
  rw [show k = 0 by omega] at hx
  cases hx
  exact hn
theorem vaS_new {A : Nat → Prop} {H0 H H1 : Heap} {locs : List Loc} (hS : va_S A H0 H locs) (z : H.size ≤ H1.size) (o : ∀ q, q < H.size → H1[q]? = H[q]?) : va_S A H0 H1 locs :=
  ⟨Nat.le_trans hS.1 z, fun x h1 h2 => (o x (Nat.lt_of_lt_of_le h1 hS.1)).trans (hS.2.1 x h1 h2), hS.2.2⟩
/-- new: an object of class c -/
abbrev KN (q : aK) (pc c N nx : Nat) : Prop := ∃ (idx : Nat) (r : vw_C) (t0 : Nat → FieldType), decode q.2.1 pc = .ok (.new idx, 3) ∧ pc + 3 = nx ∧ vwCl[c]? = some r ∧ r.2.2 = N ∧ Cond.classLink q.1.cls idx r.1 ∈ lw_tbl ∧ Cond.instantiable r.1 N ∈ lw_tbl ∧ Cond.initialized r.1 ∈ lw_tbl ∧ (∀ w ∈ u_ws r.1 r.2.1 r.2.2, w ∈ lw_tbl) ∧ (∀ j, j < r.2.2 → parseFieldDescriptor (r.2.1 j).2.2.1 = some (t0 j)) ∧ ∀ j, j < r.2.2 → ∃ b, (rfX c)[j]? = some b ∧ defaultValue (t0 j) = if b then .null else .int 0
theorem aw_new {c N a b : Nat} (h : KN q pc c N nx) (ha : 1 ≤ a) (hb : N ≤ b) (kk : aw l E q d nx L (rV S.1 :: st) (nwA S (c + 4, 0), nwG S g, a - 1, b - N, true) P) : aw l E q d pc L st (S, g, a, b, true) P := by
  intro p e R s m args below meth cd H locs cells slots kc ks ls hx hG hM hd hl hR hS hL hst c1 c2 s1 s2
  obtain ⟨idx, ⟨C, T, N'⟩, t0, h1, h2, r1, r2, r3, r4, r5, r6, r7, r8⟩ := h
  subst h2
  have c1' : cells + a ≤ kc := c1
  have s1' : slots + b ≤ ks := s1
  have hz : H.size = E.1.2.1 + S.1 := hR.2.2 rfl
  have hKn := hG.2.2.2.2.1.1 c _ r1
  have hts : ∀ w ∈ u_ws C T N', w.before args s = true := fun w hw => cxW hG (r6 w hw) (u_stW w hw) args
  have hcN : (Cond.instantiable C N).before args s = true := cxW hG r4 rfl args
  refine W.newcK hx hM.2.2.1 (findClass_of_methodNamed hM.1) (cxW hG r3 rfl args) hcN (cxW hG r5 rfl args) rfl h1 (by omega) (by omega) hKn.2.1 hz fun H1 kC hkC e1 z1 o1 => ?_
  rw [← hz] at z1 o1 
  have hnew : va_at E.2.1 vwCl (E.1.2.1 + S.1, picA E (c + 4, 0) (fun _ => none) (fun _ => 0)) H1 := by
    refine ⟨_, r1, (u_born t0 hts (fun w hw => hw) hKn hkC e1 r7).to (fun j hj => ?_)⟩
    obtain ⟨b', hb1, hb2⟩ := r8 j hj
    show defaultValue (t0 j) = (fsA E c (fun _ => none) (fun _ => 0)).getD j .null
    rw [hb2, List.getD_eq_getElem?_getD, fsA_get hb1]
    cases b' <;> rfl
  exact kk p e R s m args below meth cd H1 locs (cells + 1) (slots + N) kc ks ls hx hG hM hd hl (rlA_new hR z1 o1 hnew) (vaS_new hS (by omega) o1) hL (ok_cons (v := rV S.1) trivial hst) (by show cells + 1 + (a - 1) ≤ kc; omega) c2 (by show slots + N + (b - N) ≤ ks; omega) s2
abbrev KA (q : aK) (pc : Nat) (t : ArrayType) (nx : Nat) : Prop := decode q.2.1 pc = .ok (.newarray t, 2) ∧ pc + 2 = nx ∧ Cond.arrayClass (newarray.typeOf t) ∈ lw_tbl
theorem aw_na {x : Int} {k a b : Nat} (h : KA q pc .int nx) (hk : x = (k : Int)) (hk2 : k ≤ 100000) (ha : 1 ≤ a) (hb : k ≤ b) (kk : aw l E q d nx L (rV S.1 :: st) (nwA S (0, k), nwG S g, a - 1, b - k, true) P) : aw l E q d pc L (iV x :: st) (S, g, a, b, true) P := by
  intro p e R s m args below meth cd H locs cells slots kc ks ls hx hG hM hd hl hR hS hL hst c1 c2 s1 s2
  obtain ⟨h1, h2, h3⟩ := h
  subst h2
  have c1' : cells + a ≤ kc := c1
  have s1' : slots + b ≤ ks := s1
  have hxo : okI x := ok_hd hst
  have hz : H.size = E.1.2.1 + S.1 := hR.2.2 rfl
  refine va_newaK hx hM.2.2.1 (cxW hG h3 rfl args) rfl h1 (n := Int32.ofInt x) (N := k) rfl (i32nn hxo (by omega)) (by rw [i32N hxo]; omega) (by show k * _ ≤ 536870912; simp [componentBytes, newarray.typeOf]; omega) (by omega) (by omega) hz fun H1 cA e1 z1 o1 hA hf => ?_
  rw [← hz] at z1 o1
  have hcA : cA = E.2.2 0 := Option.some.inj (hf.symm.trans (hG.2.2.2.2.1.2 0 (E.2.2 0, .int) rfl).2)
  subst hcA
  have hnew : va_at E.2.1 vwCl (E.1.2.1 + S.1, picA E (0, k) (fun _ => none) (fun _ => 0)) H1 := e1
  exact kk p e R s m args below meth cd H1 locs (cells + 1) (slots + k) kc ks ls hx hG hM hd hl (rlA_new hR z1 o1 hnew) (vaS_new hS (by omega) o1) hL (ok_cons (v := rV S.1) trivial (ok_tl hst)) (by show cells + 1 + (a - 1) ≤ kc; omega) c2 (by show slots + k + (b - k) ≤ ks; omega) s2
theorem aw_nz {x : Int} {k a b : Nat} (h : KA q pc .boolean nx) (hk : x = (k : Int)) (hk2 : k ≤ 100000) (ha : 1 ≤ a) (hb : k ≤ b) (kk : aw l E q d nx L (rV S.1 :: st) (nwA S (1, k), nwG S g, a - 1, b - k, true) P) : aw l E q d pc L (iV x :: st) (S, g, a, b, true) P := by
  intro p e R s m args below meth cd H locs cells slots kc ks ls hx hG hM hd hl hR hS hL hst c1 c2 s1 s2
  obtain ⟨h1, h2, h3⟩ := h
  subst h2
  have c1' : cells + a ≤ kc := c1
  have s1' : slots + b ≤ ks := s1
  have hxo : okI x := ok_hd hst
  have hz : H.size = E.1.2.1 + S.1 := hR.2.2 rfl
  refine va_newaK hx hM.2.2.1 (cxW hG h3 rfl args) rfl h1 (n := Int32.ofInt x) (N := k) rfl (i32nn hxo (by omega)) (by rw [i32N hxo]; omega) (by show k * _ ≤ 536870912; simp [componentBytes, newarray.typeOf]; omega) (by omega) (by omega) hz fun H1 cA e1 z1 o1 hA hf => ?_
  rw [← hz] at z1 o1
  have hcA : cA = E.2.2 1 := Option.some.inj (hf.symm.trans (hG.2.2.2.2.1.2 1 (E.2.2 1, .boolean) rfl).2)
  subst hcA
  have hnew : va_at E.2.1 vwCl (E.1.2.1 + S.1, picA E (1, k) (fun _ => none) (fun _ => 0)) H1 := e1
  exact kk p e R s m args below meth cd H1 locs (cells + 1) (slots + k) kc ks ls hx hG hM hd hl (rlA_new hR z1 o1 hnew) (vaS_new hS (by omega) o1) hL (ok_cons (v := rV S.1) trivial (ok_tl hst)) (by show cells + 1 + (a - 1) ≤ kc; omega) c2 (by show slots + k + (b - k) ≤ ks; omega) s2
theorem aw_nl {x : Int} {k a b : Nat} (h : KA q pc .long nx) (hk : x = (k : Int)) (hk2 : k ≤ 100000) (ha : 1 ≤ a) (hb : k ≤ b) (kk : aw l E q d nx L (rV S.1 :: st) (nwA S (2, k), nwG S g, a - 1, b - k, true) P) : aw l E q d pc L (iV x :: st) (S, g, a, b, true) P := by
  intro p e R s m args below meth cd H locs cells slots kc ks ls hx hG hM hd hl hR hS hL hst c1 c2 s1 s2
  obtain ⟨h1, h2, h3⟩ := h
  subst h2
  have c1' : cells + a ≤ kc := c1
  have s1' : slots + b ≤ ks := s1
  have hxo : okI x := ok_hd hst
  have hz : H.size = E.1.2.1 + S.1 := hR.2.2 rfl
  refine va_newaK hx hM.2.2.1 (cxW hG h3 rfl args) rfl h1 (n := Int32.ofInt x) (N := k) rfl (i32nn hxo (by omega)) (by rw [i32N hxo]; omega) (by show k * _ ≤ 536870912; simp [componentBytes, newarray.typeOf]; omega) (by omega) (by omega) hz fun H1 cA e1 z1 o1 hA hf => ?_
  rw [← hz] at z1 o1
  have hcA : cA = E.2.2 2 := Option.some.inj (hf.symm.trans (hG.2.2.2.2.1.2 2 (E.2.2 2, .long) rfl).2)
  subst hcA
  have hnew : va_at E.2.1 vwCl (E.1.2.1 + S.1, picA E (2, k) (fun _ => none) (fun _ => 0)) H1 := e1
  exact kk p e R s m args below meth cd H1 locs (cells + 1) (slots + k) kc ks ls hx hG hM hd hl (rlA_new hR z1 o1 hnew) (vaS_new hS (by omega) o1) hL (ok_cons (v := rV S.1) trivial (ok_tl hst)) (by show cells + 1 + (a - 1) ≤ kc; omega) c2 (by show slots + k + (b - k) ≤ ks; omega) s2
/-- int[n][m]: the outer array, its n rows behind it -/
def nmA (S : aS) (n m : Nat) : aS := (S.1 + 1 + n, fun a => if a = S.1 then (3, n) else if S.1 < a ∧ a ≤ S.1 + n then (0, m) else S.2.1 a, fun a b => if a = S.1 then (if b < n then some (S.1 + 1 + b) else none) else if S.1 < a ∧ a ≤ S.1 + n then none else S.2.2 a b)
def nmG (S : aS) (n : Nat) (g : aG) : aG := fun a b => if S.1 ≤ a ∧ a ≤ S.1 + n then 0 else g a b
abbrev KM (q : aK) (pc nx : Nat) : Prop := ∃ idx, decode q.2.1 pc = .ok (.multianewarray idx 2, 4) ∧ pc + 4 = nx ∧ Cond.classLink q.1.cls idx "[[I" ∈ lw_tbl ∧ Cond.arrayOver (.array .int) ∈ lw_tbl ∧ Cond.arrayClass .int ∈ lw_tbl
theorem aw_nm {x y : Int} {n m a b : Nat} (h : KM q pc nx) (hx1 : x = (n : Int)) (hy1 : y = (m : Int)) (hn : n ≤ 10000) (hm : m ≤ 10000) (ha : 1 + n ≤ a) (hb : n + n * m ≤ b) (kk : aw l E q d nx L (rV S.1 :: st) (nmA S n m, nmG S n g, a - (1 + n), b - (n + n * m), true) P) : aw l E q d pc L (iV y :: iV x :: st) (S, g, a, b, true) P := by
  intro p e R s mi args below meth cd H locs cells slots kc ks ls hx hG hM hd hl hR hS hL hst c1 c2 s1 s2
  obtain ⟨idx, h1, h2, h3, h4, h5⟩ := h
  subst h2
  have c1' : cells + a ≤ kc := c1
  have s1' : slots + b ≤ ks := s1
  have hyo : okI y := ok_hd hst
  have hxo : okI x := ok_hd (ok_tl hst)
  have hz : H.size = E.1.2.1 + S.1 := hR.2.2 rfl
  have hnx : (Int32.ofInt x).toNatClampNeg = n := by rw [i32N hxo]; omega
  have hny : (Int32.ofInt y).toNatClampNeg = m := by rw [i32N hyo]; omega
  intro T hT Xs
  obtain ⟨vm₁, cA, comp, -, fA, fC, hO, -, X', step⟩ := Xs.multianewarray2F (ty := .int) hx (findClass_of_methodNamed hM.1) (cxW hG h3 rfl args) (cxW hG h4 rfl args) (cxW hG h5 rfl args) (g := F0 mi pc ls (.int (Int32.ofInt y) :: .int (Int32.ofInt x) :: st.map (cvA E))) rfl (by rw [hM.2.2.1]; exact h1) rfl (i32nn hxo (by omega)) (i32nn hyo (by omega)) (by rw [hnx]; omega) (by rw [hny]; simp [componentBytes]; omega) (by rw [hny]; omega) rfl rfl (by rw [hnx]; omega) (by rw [hnx, hny]; omega)
  rw [hnx, hny] at X' step
  have hcA : cA = E.2.2 3 := Option.some.inj (fA.symm.trans (hG.2.2.2.2.1.2 3 (E.2.2 3, .array .int) rfl).2)
  have hcI : comp = E.2.2 0 := Option.some.inj (fC.symm.trans (hG.2.2.2.2.1.2 0 (E.2.2 0, .int) rfl).2)
  subst hcA
  subst hcI
  generalize hF : Jvm.Free.Multi.fill (T.setVm vm₁) (E.2.2 3) (E.2.2 0) n m (defaultValue .int) n = F at X' step
  have hTh : (T.setVm vm₁).heap = H := hT
  obtain ⟨f1, f2, -, -⟩ := Jvm.Free.Multi.fill_facts (T.setVm vm₁) (E.2.2 3) (E.2.2 0) n m (defaultValue .int) n
  rw [hF, hTh] at f1 f2
  have hold : ∀ z : Nat, z < H.size → F.heap[z]? = H[z]? := fun z hz9 => by
    have := Jvm.Free.Multi.fill_old (T.setVm vm₁) (E.2.2 3) (E.2.2 0) n m (defaultValue .int) (a := z) (by rw [hTh]; exact hz9) n
    rw [hF, hTh] at this
    exact this
  have hrow : ∀ j : Nat, j < n → F.heap[H.size + 1 + j]? = some (Jvm.Free.Multi.innerC (E.2.2 0) m (defaultValue .int)) := fun j hj => by
    have := Jvm.Free.Multi.fill_inner (T.setVm vm₁) (E.2.2 3) (E.2.2 0) n m (defaultValue .int) n j hj
    rw [hF, hTh] at this
    exact this
  rw [vr_outer] at f2
  have hin : Jvm.Free.Multi.innerC (E.2.2 0) m (defaultValue .int) = vp_cell (E.2.2 0) (m, .inl (fun _ => Int32.ofInt 0)) := by
    rw [vp_cell_i]
    exact arrV_new (E.2.2 0) m (defaultValue .int)
  have hR' : rlA E (nmA S n m, nmG S n g, a - (1 + n), b - (n + n * m), true) F.heap := by
    refine ⟨fun k z hk => ?_, fun i j => ?_, fun _ => ?_⟩
    · have hkl : k < S.1 + 1 + n := by
        have := (List.getElem?_eq_some_iff.mp hk).1
        simpa [wsA, nmA] using this
      have hk2 := wsA_get (E := E) (S := nmA S n m) (g := nmG S n g) (i := k) hkl
      rw [hk2] at hk
      cases hk
      by_cases e1 : k < S.1
      · have e2 : picA E ((nmA S n m).2.1 k) ((nmA S n m).2.2 k) (nmG S n g k) = picA E (S.2.1 k) (S.2.2 k) (g k) := by
          have n1 : ¬ k = S.1 := by omega
          have n2 : ¬ (S.1 < k ∧ k ≤ S.1 + n) := by omega
          have n3 : ¬ (S.1 ≤ k ∧ k ≤ S.1 + n) := by omega
          have a1 : (nmA S n m).2.1 k = S.2.1 k := by simp only [nmA, if_neg n1, if_neg n2]
          have a2 : (nmA S n m).2.2 k = S.2.2 k := by funext j; simp only [nmA, if_neg n1, if_neg n2]
          have a3 : nmG S n g k = g k := by funext j; simp only [nmG, if_neg n3]
          rw [a1, a2, a3]
        rw [e2]
        exact (hR.1 k _ (wsA_get e1)).kept (hold _ (by omega))
      · by_cases e2 : k = S.1
        · subst e2
          have a1 : (nmA S n m).2.1 S.1 = (3, n) := by simp [nmA]
          have a2 : (nmA S n m).2.2 S.1 = fun j => if j < n then some (S.1 + 1 + j) else none := by funext j; simp [nmA]
          rw [a1, a2]
          show F.heap[E.1.2.1 + S.1]? = some (arrV (E.2.2 3) n (fun j => va_rf ((if j < n then some (S.1 + 1 + j) else none).map (E.1.2.1 + ·))))
          rw [← hz, f2]
          refine congrArg (fun z => some (arrV (E.2.2 3) n z)) (funext fun j => ?_)
          by_cases hj : j < n
          · simp only [if_pos hj, Option.map_some, va_rf]
            rw [hz, show E.1.2.1 + S.1 + 1 + j = E.1.2.1 + (S.1 + 1 + j) by omega]
          · simp only [if_neg hj, Option.map_none, va_rf]
        · have n1 : ¬ k = S.1 := e2
          have n2 : S.1 < k ∧ k ≤ S.1 + n := by omega
          have n3 : S.1 ≤ k ∧ k ≤ S.1 + n := by omega
          have a1 : (nmA S n m).2.1 k = (0, m) := by simp only [nmA, if_neg n1, if_pos n2]
          have a3 : nmG S n g k = fun _ => 0 := by funext j; simp only [nmG, if_pos n3]
          rw [a1, a3]
          show F.heap[E.1.2.1 + k]? = some (vp_cell (E.2.2 0) (m, .inl (fun _ => Int32.ofInt 0)))
          rw [← hin, ← hrow (k - S.1 - 1) (by omega), hz, show E.1.2.1 + S.1 + 1 + (k - S.1 - 1) = E.1.2.1 + k by omega]
    · show okI (nmG S n g i j)
      unfold nmG
      split
      · exact ok0
      · exact hR.2.1 i j
    · show F.heap.size = E.1.2.1 + (S.1 + 1 + n)
      rw [f1]; omega
  have hTz : T.heap.size = E.1.2.1 + S.1 := by rw [hT]; exact hz
  rw [hTz] at step
  obtain ⟨t, a1, b1⟩ := kk p e R s mi args below meth cd F.heap locs (cells + 1 + n) (slots + n + n * m) kc ks ls hx hG hM hd hl hR' (vaS_new hS (by rw [f1]; omega) hold) hL (ok_cons (v := rV S.1) trivial (ok_tl (ok_tl hst))) (by show cells + 1 + n + (a - (1 + n)) ≤ kc; omega) c2 (by show slots + n + n * m + (b - (n + n * m)) ≤ ks; omega) s2 F rfl X'
  exact ⟨t, step t a1, b1⟩
abbrev KO (q : aK) (pc nx : Nat) : Prop := ∃ idx, decode q.2.1 pc = .ok (.invokespecial idx, 3) ∧ pc + 3 = nx ∧ Cond.methodLink q.1.cls idx Lib.objectInit ∈ lw_tbl ∧ Cond.instanceMethod Lib.objectInit ∈ lw_tbl ∧ Cond.code Lib.objectInit ⟨#[0xb1]⟩ 1 none ∈ lw_tbl
theorem aw_oi {i : Nat} (h : KO q pc nx) (hd1 : 1 ≤ d) (hrm : Nat.ble st.length 12 = true) (kk : aw l E q d nx L st M P) : aw l E q d pc L (rV i :: st) M P := by
  intro p e R s m args below meth cd H locs cells slots kc ks ls hx hG hM hd hl hR hS hL hst c1 c2 s1 s2
  obtain ⟨idx, h1, h2, h3, h4, h5⟩ := h
  subst h2
  have hsum := sumC E st
  have hrm := Nat.le_of_ble_eq_true hrm
  have hlc : 2 * 0 + ((st.map (cvA E)).map fun v => v.category).sum + 12 ≤ R.locals := by omega
  exact W.objInit hx hM.2.2.1 (findClass_of_methodNamed hM.1) (cxW hG h3 rfl args) (cxW hG h4 rfl args) (cxW hG h5 rfl args) (g := F0 m pc ls (.ref (E.1.2.1 + i) :: st.map (cvA E))) rfl (by show ls.size = _; rw [hL.1, hM.2.2.2.1]) rfl h1 (by omega) hlc (kk p e R s m args below meth cd H locs cells slots kc ks ls hx hG hM hd hl hR hS hL (ok_tl hst) c1 c2 s1 s2)
abbrev KX (q : aK) (pc : Nat) (y : MethodName) (nx : Nat) : Prop := ∃ idx, decode q.2.1 pc = .ok (.invokestatic idx, 3) ∧ pc + 3 = nx ∧ Cond.methodLink q.1.cls idx y ∈ lw_tbl
theorem mxW : Cond.static Lib.Math.max.name ∈ lw_tbl ∧ Cond.initialized "java/lang/Math" ∈ lw_tbl ∧ Cond.code Lib.Math.max.name Lib.Math.max.code 2 (some .int) ∈ lw_tbl := ⟨List.mem_append_right _ (List.mem_of_getElem? (i := 32) (by decide +kernel)), List.mem_append_right _ (List.mem_of_getElem? (i := 3) (by decide +kernel)), List.mem_append_right _ (List.mem_of_getElem? (i := 33) (by decide +kernel))⟩
theorem mnW : Cond.static Lib.Math.min.name ∈ lw_tbl ∧ Cond.initialized "java/lang/Math" ∈ lw_tbl ∧ Cond.code Lib.Math.min.name Lib.Math.min.code 2 (some .int) ∈ lw_tbl := ⟨List.mem_append_right _ (List.mem_of_getElem? (i := 29) (by decide +kernel)), List.mem_append_right _ (List.mem_of_getElem? (i := 3) (by decide +kernel)), List.mem_append_right _ (List.mem_of_getElem? (i := 30) (by decide +kernel))⟩
theorem aw_max {x y : Int} (h : KX q pc Lib.Math.max.name nx) (hd1 : 1 ≤ d) (hrm : Nat.ble st.length 11 = true) (kk : aw l E q d nx L (iV (if x < y then y else x) :: st) M P) : aw l E q d pc L (iV y :: iV x :: st) M P := by
  intro p e R s m args below meth cd H locs cells slots kc ks ls hx hG hM hd hl hR hS hL hst c1 c2 s1 s2
  obtain ⟨idx, h1, h2, h3⟩ := h
  subst h2
  have hyo : okI y := ok_hd hst
  have hxo : okI x := ok_hd (ok_tl hst)
  have hsum := sumC E st
  have hrm := Nat.le_of_ble_eq_true hrm
  refine va_mmax hx hM.2.2.1 (by rw [hL.1, hM.2.2.2.1]) (findClass_of_methodNamed hM.1) (cxW hG h3 rfl args) (cxW hG mxW.1 rfl args) (cxW hG mxW.2.1 rfl args) (cxW hG mxW.2.2 rfl args) (by omega) (by omega) (by omega) (by omega) h1 ?_
  have e9 : (if Int32.ofInt x < Int32.ofInt y then Int32.ofInt y else Int32.ofInt x) = Int32.ofInt (if x < y then y else x) := by
    by_cases hc : x < y
    · rw [if_pos hc, if_pos ((i32L hxo hyo).mpr hc)]
    · rw [if_neg hc, if_neg (fun z => hc ((i32L hxo hyo).mp z))]
  rw [e9]
  have hro : okI (if x < y then y else x) := by split <;> assumption
  exact kk p e R s m args below meth cd H locs cells slots kc ks ls hx hG hM hd hl hR hS hL (ok_cons (v := iV (if x < y then y else x)) hro (ok_tl (ok_tl hst))) c1 c2 s1 s2
theorem aw_min {x y : Int} (h : KX q pc Lib.Math.min.name nx) (hd1 : 1 ≤ d) (hrm : Nat.ble st.length 11 = true) (kk : aw l E q d nx L (iV (if y < x then y else x) :: st) M P) : aw l E q d pc L (iV y :: iV x :: st) M P := by
  intro p e R s m args below meth cd H locs cells slots kc ks ls hx hG hM hd hl hR hS hL hst c1 c2 s1 s2
  obtain ⟨idx, h1, h2, h3⟩ := h
  subst h2
  have hyo : okI y := ok_hd hst
  have hxo : okI x := ok_hd (ok_tl hst)
  have hsum := sumC E st
  have hrm := Nat.le_of_ble_eq_true hrm
  refine va_mmin hx hM.2.2.1 (by rw [hL.1, hM.2.2.2.1]) (findClass_of_methodNamed hM.1) (cxW hG h3 rfl args) (cxW hG mnW.1 rfl args) (cxW hG mnW.2.1 rfl args) (cxW hG mnW.2.2 rfl args) (by omega) (by omega) (by omega) (by omega) h1 ?_
  have e9 : (if Int32.ofInt y < Int32.ofInt x then Int32.ofInt y else Int32.ofInt x) = Int32.ofInt (if y < x then y else x) := by
    by_cases hc : y < x
    · rw [if_pos hc, if_pos ((i32L hyo hxo).mpr hc)]
    · rw [if_neg hc, if_neg (fun z => hc ((i32L hyo hxo).mp z))]
  rw [e9]
  have hro : okI (if y < x then y else x) := by split <;> assumption
  exact kk p e R s m args below meth cd H locs cells slots kc ks ls hx hG hM hd hl hR hS hL (ok_cons (v := iV (if y < x then y else x)) hro (ok_tl (ok_tl hst))) c1 c2 s1 s2
/-- cell j's first k numbers are cell i's -/
def cpA (g : aG) (i j k : Nat) : aG := fun a b => if a = j ∧ b < k then g i b else g a b
theorem nfw : nativeFrameWords "java/lang/System" "arraycopy" 5 = 7 := by decide
theorem cyW : Cond.native arraycopyName ∈ lw_tbl ∧ Cond.static arraycopyName ∈ lw_tbl ∧ Cond.initialized "java/lang/System" ∈ lw_tbl := by
  refine ⟨List.mem_append_right _ (List.mem_of_getElem? (i := 183) (by decide +kernel)), ?_, List.mem_append_right _ (List.mem_of_getElem? (i := 12) (by decide +kernel))⟩
  exact List.mem_append_right _ (List.mem_of_getElem? (i := 182) (by decide +kernel))
theorem aw_cp {i j n0 n1 k a b : Nat} {x : Int} (h : KX q pc arraycopyName nx) (hd1 : 1 ≤ d) (hrm : Nat.ble st.length 9 = true) (hi : hasA S i 0 n0) (hj : hasA S j 0 n1) (hx1 : x = (k : Int)) (hk0 : k ≤ n0) (hk1 : k ≤ n1) (kk : aw l E q d nx L st (S, cpA g i j k, a, b, false) P) : aw l E q d pc L (iV x :: iV 0 :: rV j :: iV 0 :: rV i :: st) (S, g, a, b, false) P := by
  intro p e R s m args below meth cd H locs cells slots kc ks ls hx hG hM hd hl hR hS hL hst c1 c2 s1 s2
  obtain ⟨idx, h1, h2, h3⟩ := h
  subst h2
  have hxo : okI x := ok_hd hst
  have hsum := sumC E st
  have hrm := Nat.le_of_ble_eq_true hrm
  have he0 : (wsA E S g)[i]? = some (E.1.2.1 + i, .inl (E.2.2 0, n0, .inl (fun b => Int32.ofInt (g i b)))) := by rw [wsA_get hi.1, hi.2]; rfl
  have he1 : (wsA E S g)[j]? = some (E.1.2.1 + j, .inl (E.2.2 0, n1, .inl (fun b => Int32.ofInt (g j b)))) := by rw [wsA_get hj.1, hj.2]; rfl
  have hkx : (Int32.ofInt x).toNatClampNeg = k := by rw [i32N hxo]; omega
  have h00 : (Int32.ofInt 0).toNatClampNeg = 0 := by decide
  refine va_copyi hx hM.2.2.1 (by rw [hL.1, hM.2.2.2.1]) (findClass_of_methodNamed hM.1) (cxW hG h3 rfl args) (cxW hG cyW.1 rfl args) (cxW hG cyW.2.1 rfl args) (cxW hG cyW.2.2 rfl args) hG.2.2.2.2.1 hR.1 (wsA_D E S g) hS i j 0 0 (sp := Int32.ofInt 0) (dp := Int32.ofInt 0) (n := Int32.ofInt x) (ty := .int) he0 he1 rfl rfl rfl (by decide) (by decide) (i32nn hxo (by omega)) (by rw [hkx, h00]; omega) (by rw [hkx, h00]; omega) (fun b hb => rfl) (by omega) (by rw [nfw]; omega) h1 fun H1 locs1 k1 k2 k3 => ?_
  rw [hkx, h00] at k1
  have ew : (wsA E S g).set j (E.1.2.1 + j, .inl (E.2.2 0, n1, .inl (va_cpy (fun b => Int32.ofInt (g i b)) (fun b => Int32.ofInt (g j b)) 0 0 k))) = wsA E S (cpA g i j k) := by
    refine wsA_set hj.1 rfl ?_ (fun z hz => ?_)
    · rw [hj.2]
      show Sum.inl (E.2.2 0, n1, Sum.inl _) = Sum.inl (E.2.2 0, n1, Sum.inl _)
      refine congrArg (fun f => Sum.inl (E.2.2 0, n1, Sum.inl f)) (funext fun b => ?_)
      show va_cpy _ _ 0 0 k b = Int32.ofInt (cpA g i j k j b)
      unfold va_cpy cpA
      by_cases hb : b < k
      · rw [if_pos ⟨Nat.zero_le _, by omega⟩, if_pos ⟨rfl, hb⟩]
        simp
      · rw [if_neg (by omega), if_neg (by omega)]
    · have e : cpA g i j k z = g z := by funext b; exact if_neg (fun w => hz w.1)
      rw [e]
  have k1 : va_P E.2.1 vwCl (wsA E S (cpA g i j k)) H1 := by rw [← ew]; exact k1
  have hok : ∀ c b, okI (cpA g i j k c b) := by
    intro c b
    unfold cpA
    split
    · exact hR.2.1 i b
    · exact hR.2.1 c b
  exact kk p e R s m args below meth cd H1 locs1 cells slots kc ks ls hx hG hM hd hl ⟨k1, hok, fun z => by cases z⟩ k3 hL (fun v hv => hst v (by simp [hv])) c1 c2 s1 s2
abbrev Kz (q : aK) (pc : Nat) (lo hi : Int) (dt : Nat) (tgs : List Nat) : Prop := ∃ (df : Int) (offs : Array Int) (len : Nat), decode q.2.1 pc = .ok (.tableswitch df lo hi offs, len) ∧ (pc : Int) + df = (dt : Int) ∧ offs.toList.map (fun o => (pc : Int) + o) = tgs.map (fun t : Nat => (t : Int))
theorem aw_swi {lo hi x : Int} {dt : Nat} {tgs : List Nat} (h : Kz q pc lo hi dt tgs) (k : Nat) (hx1 : x = lo + k) (hx2 : x ≤ hi) (ht : tgs[k]? = some tg) (kk : aw l E q d tg L st M P) : aw l E q d pc L (iV x :: st) M P := by
  intro p e R s m args below meth cd H locs cells slots kc ks ls hx hG hM hd hl hR hS hL hst c1 c2 s1 s2
  obtain ⟨df, offs, len, h1, h2, h3⟩ := h
  have hxo : okI x := ok_hd hst
  have h4 : (offs.toList.map (fun o => (pc : Int) + o))[k]? = some (tg : Int) := by rw [h3]; simp [ht]
  obtain ⟨off, h5, h6⟩ : ∃ off, offs.toList[k]? = some off ∧ (pc : Int) + off = (tg : Int) := by
    rw [List.getElem?_map] at h4
    cases ho : offs.toList[k]? with
    | none => rw [ho] at h4; cases h4
    | some o => rw [ho] at h4; exact ⟨o, rfl, Option.some.inj h4⟩
  exact lv_tableIn hx hM.2.2.1 h1 (by rw [i32T hxo]; omega) (by rw [i32T hxo]; omega) (by rw [i32T hxo, show (x - lo).toNat = k by omega, ← Array.getElem?_toList]; exact h5) h6 (kk p e R s m args below meth cd H locs cells slots kc ks ls hx hG hM hd hl hR hS hL (ok_tl hst) c1 c2 s1 s2)
theorem aw_swo {lo hi x : Int} {dt : Nat} {tgs : List Nat} (h : Kz q pc lo hi dt tgs) (hx1 : x < lo ∨ hi < x) (kk : aw l E q d dt L st M P) : aw l E q d pc L (iV x :: st) M P := by
  intro p e R s m args below meth cd H locs cells slots kc ks ls hx hG hM hd hl hR hS hL hst c1 c2 s1 s2
  obtain ⟨df, offs, len, h1, h2, h3⟩ := h
  have hxo : okI x := ok_hd hst
  exact lv_tableOut hx hM.2.2.1 h1 (by rw [i32T hxo]; exact hx1) h2 (kk p e R s m args below meth cd H locs cells slots kc ks ls hx hG hM hd hl hR hS hL (ok_tl hst) c1 c2 s1 s2)
theorem aw_V0 {q' : aK} {ci i nn : Nat} (h : KV q pc q' ci 0 nx) (h0 : q.2.2.2.2 = []) (hrm : Nat.ble (2 * st.length + q'.2.2.1) 25 = true) (hh : hasA S i (ci + 4) nn) (k : Sp l E q' d [rV i] (S, g, u) (cnA l E q (d + 1) nx L st P)) : aw l E q (d + 1) pc L (rV i :: st) (S, g, u) P := aw_V (as := []) h h0 rfl (Nat.le_of_ble_eq_true hrm) (fun v hv => nomatch hv) hh k
theorem aw_H0 {q' : aK} {ci i nn : Nat} (h : KV q pc q' ci 0 nx) (hrm : Nat.ble (2 * st.length + q'.2.2.1) 25 = true) (hh : hasA S i (ci + 4) nn) (k : Sp l E q' d [rV i] (S, g, u) (cnH l E q (d + 1) pc nx L st P)) : aw l E q (d + 1) pc L (rV i :: st) (S, g, u) P := aw_VH (as := []) h rfl (Nat.le_of_ble_eq_true hrm) (fun v hv => nomatch hv) hh k
theorem aw_I0 {q' : aK} {i : Nat} (h : KI q pc q' 0 nx) (h0 : q.2.2.2.2 = []) (hrm : Nat.ble (2 * st.length + q'.2.2.1) 25 = true) (k : Sp l E q' d [rV i] M (cnA l E q (d + 1) nx L st P)) : aw l E q (d + 1) pc L (rV i :: st) M P := aw_I (as := []) h h0 rfl (Nat.le_of_ble_eq_true hrm) (fun v hv => nomatch hv) k
theorem aw_S1 {q' : aK} {v0 : aA} (h : KS q pc q' 1 nx) (h0 : q.2.2.2.2 = []) (hrm : Nat.ble (2 * st.length + q'.2.2.1) 25 = true) (hv0 : (cvA E v0).category = 1) (k : Sp l E q' d [v0] M (cnA l E q (d + 1) nx L st P)) : aw l E q (d + 1) pc L (v0 :: st) M P := aw_S (as := [v0]) h h0 rfl (Nat.le_of_ble_eq_true hrm) (by intro v hv; simp only [List.mem_cons, List.not_mem_nil, or_false] at hv; rcases hv with rfl <;> assumption) k
theorem aw_V1 {q' : aK} {ci i nn : Nat} {v0 : aA} (h : KV q pc q' ci 1 nx) (h0 : q.2.2.2.2 = []) (hrm : Nat.ble (2 * st.length + q'.2.2.1) 25 = true) (hv0 : (cvA E v0).category = 1) (hh : hasA S i (ci + 4) nn) (k : Sp l E q' d [rV i, v0] (S, g, u) (cnA l E q (d + 1) nx L st P)) : aw l E q (d + 1) pc L (v0 :: rV i :: st) (S, g, u) P := aw_V (as := [v0]) h h0 rfl (Nat.le_of_ble_eq_true hrm) (by intro v hv; simp only [List.mem_cons, List.not_mem_nil, or_false] at hv; rcases hv with rfl <;> assumption) hh k
theorem aw_H1 {q' : aK} {ci i nn : Nat} {v0 : aA} (h : KV q pc q' ci 1 nx) (hrm : Nat.ble (2 * st.length + q'.2.2.1) 25 = true) (hv0 : (cvA E v0).category = 1) (hh : hasA S i (ci + 4) nn) (k : Sp l E q' d [rV i, v0] (S, g, u) (cnH l E q (d + 1) pc nx L st P)) : aw l E q (d + 1) pc L (v0 :: rV i :: st) (S, g, u) P := aw_VH (as := [v0]) h rfl (Nat.le_of_ble_eq_true hrm) (by intro v hv; simp only [List.mem_cons, List.not_mem_nil, or_false] at hv; rcases hv with rfl <;> assumption) hh k
theorem aw_I1 {q' : aK} {i : Nat} {v0 : aA} (h : KI q pc q' 1 nx) (h0 : q.2.2.2.2 = []) (hrm : Nat.ble (2 * st.length + q'.2.2.1) 25 = true) (hv0 : (cvA E v0).category = 1) (k : Sp l E q' d [rV i, v0] M (cnA l E q (d + 1) nx L st P)) : aw l E q (d + 1) pc L (v0 :: rV i :: st) M P := aw_I (as := [v0]) h h0 rfl (Nat.le_of_ble_eq_true hrm) (by intro v hv; simp only [List.mem_cons, List.not_mem_nil, or_false] at hv; rcases hv with rfl <;> assumption) k
theorem aw_S2 {q' : aK} {v0 v1 : aA} (h : KS q pc q' 2 nx) (h0 : q.2.2.2.2 = []) (hrm : Nat.ble (2 * st.length + q'.2.2.1) 25 = true) (hv0 : (cvA E v0).category = 1) (hv1 : (cvA E v1).category = 1) (k : Sp l E q' d [v0, v1] M (cnA l E q (d + 1) nx L st P)) : aw l E q (d + 1) pc L (v1 :: v0 :: st) M P := aw_S (as := [v0, v1]) h h0 rfl (Nat.le_of_ble_eq_true hrm) (by intro v hv; simp only [List.mem_cons, List.not_mem_nil, or_false] at hv; rcases hv with rfl | rfl <;> assumption) k
theorem aw_V2 {q' : aK} {ci i nn : Nat} {v0 v1 : aA} (h : KV q pc q' ci 2 nx) (h0 : q.2.2.2.2 = []) (hrm : Nat.ble (2 * st.length + q'.2.2.1) 25 = true) (hv0 : (cvA E v0).category = 1) (hv1 : (cvA E v1).category = 1) (hh : hasA S i (ci + 4) nn) (k : Sp l E q' d [rV i, v0, v1] (S, g, u) (cnA l E q (d + 1) nx L st P)) : aw l E q (d + 1) pc L (v1 :: v0 :: rV i :: st) (S, g, u) P := aw_V (as := [v0, v1]) h h0 rfl (Nat.le_of_ble_eq_true hrm) (by intro v hv; simp only [List.mem_cons, List.not_mem_nil, or_false] at hv; rcases hv with rfl | rfl <;> assumption) hh k
theorem aw_H2 {q' : aK} {ci i nn : Nat} {v0 v1 : aA} (h : KV q pc q' ci 2 nx) (hrm : Nat.ble (2 * st.length + q'.2.2.1) 25 = true) (hv0 : (cvA E v0).category = 1) (hv1 : (cvA E v1).category = 1) (hh : hasA S i (ci + 4) nn) (k : Sp l E q' d [rV i, v0, v1] (S, g, u) (cnH l E q (d + 1) pc nx L st P)) : aw l E q (d + 1) pc L (v1 :: v0 :: rV i :: st) (S, g, u) P := aw_VH (as := [v0, v1]) h rfl (Nat.le_of_ble_eq_true hrm) (by intro v hv; simp only [List.mem_cons, List.not_mem_nil, or_false] at hv; rcases hv with rfl | rfl <;> assumption) hh k
theorem aw_I2 {q' : aK} {i : Nat} {v0 v1 : aA} (h : KI q pc q' 2 nx) (h0 : q.2.2.2.2 = []) (hrm : Nat.ble (2 * st.length + q'.2.2.1) 25 = true) (hv0 : (cvA E v0).category = 1) (hv1 : (cvA E v1).category = 1) (k : Sp l E q' d [rV i, v0, v1] M (cnA l E q (d + 1) nx L st P)) : aw l E q (d + 1) pc L (v1 :: v0 :: rV i :: st) M P := aw_I (as := [v0, v1]) h h0 rfl (Nat.le_of_ble_eq_true hrm) (by intro v hv; simp only [List.mem_cons, List.not_mem_nil, or_false] at hv; rcases hv with rfl | rfl <;> assumption) k
theorem aw_S3 {q' : aK} {v0 v1 v2 : aA} (h : KS q pc q' 3 nx) (h0 : q.2.2.2.2 = []) (hrm : Nat.ble (2 * st.length + q'.2.2.1) 25 = true) (hv0 : (cvA E v0).category = 1) (hv1 : (cvA E v1).category = 1) (hv2 : (cvA E v2).category = 1) (k : Sp l E q' d [v0, v1, v2] M (cnA l E q (d + 1) nx L st P)) : aw l E q (d + 1) pc L (v2 :: v1 :: v0 :: st) M P := aw_S (as := [v0, v1, v2]) h h0 rfl (Nat.le_of_ble_eq_true hrm) (by intro v hv; simp only [List.mem_cons, List.not_mem_nil, or_false] at hv; rcases hv with rfl | rfl | rfl <;> assumption) k
theorem aw_V3 {q' : aK} {ci i nn : Nat} {v0 v1 v2 : aA} (h : KV q pc q' ci 3 nx) (h0 : q.2.2.2.2 = []) (hrm : Nat.ble (2 * st.length + q'.2.2.1) 25 = true) (hv0 : (cvA E v0).category = 1) (hv1 : (cvA E v1).category = 1) (hv2 : (cvA E v2).category = 1) (hh : hasA S i (ci + 4) nn) (k : Sp l E q' d [rV i, v0, v1, v2] (S, g, u) (cnA l E q (d + 1) nx L st P)) : aw l E q (d + 1) pc L (v2 :: v1 :: v0 :: rV i :: st) (S, g, u) P := aw_V (as := [v0, v1, v2]) h h0 rfl (Nat.le_of_ble_eq_true hrm) (by intro v hv; simp only [List.mem_cons, List.not_mem_nil, or_false] at hv; rcases hv with rfl | rfl | rfl <;> assumption) hh k
theorem aw_H3 {q' : aK} {ci i nn : Nat} {v0 v1 v2 : aA} (h : KV q pc q' ci 3 nx) (hrm : Nat.ble (2 * st.length + q'.2.2.1) 25 = true) (hv0 : (cvA E v0).category = 1) (hv1 : (cvA E v1).category = 1) (hv2 : (cvA E v2).category = 1) (hh : hasA S i (ci + 4) nn) (k : Sp l E q' d [rV i, v0, v1, v2] (S, g, u) (cnH l E q (d + 1) pc nx L st P)) : aw l E q (d + 1) pc L (v2 :: v1 :: v0 :: rV i :: st) (S, g, u) P := aw_VH (as := [v0, v1, v2]) h rfl (Nat.le_of_ble_eq_true hrm) (by intro v hv; simp only [List.mem_cons, List.not_mem_nil, or_false] at hv; rcases hv with rfl | rfl | rfl <;> assumption) hh k
theorem aw_S4 {q' : aK} {v0 v1 v2 v3 : aA} (h : KS q pc q' 4 nx) (h0 : q.2.2.2.2 = []) (hrm : Nat.ble (2 * st.length + q'.2.2.1) 25 = true) (hv0 : (cvA E v0).category = 1) (hv1 : (cvA E v1).category = 1) (hv2 : (cvA E v2).category = 1) (hv3 : (cvA E v3).category = 1) (k : Sp l E q' d [v0, v1, v2, v3] M (cnA l E q (d + 1) nx L st P)) : aw l E q (d + 1) pc L (v3 :: v2 :: v1 :: v0 :: st) M P := aw_S (as := [v0, v1, v2, v3]) h h0 rfl (Nat.le_of_ble_eq_true hrm) (by intro v hv; simp only [List.mem_cons, List.not_mem_nil, or_false] at hv; rcases hv with rfl | rfl | rfl | rfl <;> assumption) k
theorem aw_V4 {q' : aK} {ci i nn : Nat} {v0 v1 v2 v3 : aA} (h : KV q pc q' ci 4 nx) (h0 : q.2.2.2.2 = []) (hrm : Nat.ble (2 * st.length + q'.2.2.1) 25 = true) (hv0 : (cvA E v0).category = 1) (hv1 : (cvA E v1).category = 1) (hv2 : (cvA E v2).category = 1) (hv3 : (cvA E v3).category = 1) (hh : hasA S i (ci + 4) nn) (k : Sp l E q' d [rV i, v0, v1, v2, v3] (S, g, u) (cnA l E q (d + 1) nx L st P)) : aw l E q (d + 1) pc L (v3 :: v2 :: v1 :: v0 :: rV i :: st) (S, g, u) P := aw_V (as := [v0, v1, v2, v3]) h h0 rfl (Nat.le_of_ble_eq_true hrm) (by intro v hv; simp only [List.mem_cons, List.not_mem_nil, or_false] at hv; rcases hv with rfl | rfl | rfl | rfl <;> assumption) hh k
theorem aw_H4 {q' : aK} {ci i nn : Nat} {v0 v1 v2 v3 : aA} (h : KV q pc q' ci 4 nx) (hrm : Nat.ble (2 * st.length + q'.2.2.1) 25 = true) (hv0 : (cvA E v0).category = 1) (hv1 : (cvA E v1).category = 1) (hv2 : (cvA E v2).category = 1) (hv3 : (cvA E v3).category = 1) (hh : hasA S i (ci + 4) nn) (k : Sp l E q' d [rV i, v0, v1, v2, v3] (S, g, u) (cnH l E q (d + 1) pc nx L st P)) : aw l E q (d + 1) pc L (v3 :: v2 :: v1 :: v0 :: rV i :: st) (S, g, u) P := aw_VH (as := [v0, v1, v2, v3]) h rfl (Nat.le_of_ble_eq_true hrm) (by intro v hv; simp only [List.mem_cons, List.not_mem_nil, or_false] at hv; rcases hv with rfl | rfl | rfl | rfl <;> assumption) hh k
theorem aw_S5 {q' : aK} {v0 v1 v2 v3 v4 : aA} (h : KS q pc q' 5 nx) (h0 : q.2.2.2.2 = []) (hrm : Nat.ble (2 * st.length + q'.2.2.1) 25 = true) (hv0 : (cvA E v0).category = 1) (hv1 : (cvA E v1).category = 1) (hv2 : (cvA E v2).category = 1) (hv3 : (cvA E v3).category = 1) (hv4 : (cvA E v4).category = 1) (k : Sp l E q' d [v0, v1, v2, v3, v4] M (cnA l E q (d + 1) nx L st P)) : aw l E q (d + 1) pc L (v4 :: v3 :: v2 :: v1 :: v0 :: st) M P := aw_S (as := [v0, v1, v2, v3, v4]) h h0 rfl (Nat.le_of_ble_eq_true hrm) (by intro v hv; simp only [List.mem_cons, List.not_mem_nil, or_false] at hv; rcases hv with rfl | rfl | rfl | rfl | rfl <;> assumption) k
theorem aw_S6 {q' : aK} {v0 v1 v2 v3 v4 v5 : aA} (h : KS q pc q' 6 nx) (h0 : q.2.2.2.2 = []) (hrm : Nat.ble (2 * st.length + q'.2.2.1) 25 = true) (hv0 : (cvA E v0).category = 1) (hv1 : (cvA E v1).category = 1) (hv2 : (cvA E v2).category = 1) (hv3 : (cvA E v3).category = 1) (hv4 : (cvA E v4).category = 1) (hv5 : (cvA E v5).category = 1) (k : Sp l E q' d [v0, v1, v2, v3, v4, v5] M (cnA l E q (d + 1) nx L st P)) : aw l E q (d + 1) pc L (v5 :: v4 :: v3 :: v2 :: v1 :: v0 :: st) M P := aw_S (as := [v0, v1, v2, v3, v4, v5]) h h0 rfl (Nat.le_of_ble_eq_true hrm) (by intro v hv; simp only [List.mem_cons, List.not_mem_nil, or_false] at hv; rcases hv with rfl | rfl | rfl | rfl | rfl | rfl <;> assumption) k
end AW4
end
section
theorem bnX0 : ∀ j, j < 9 → ∃ b, (rfX 0)[j]? = some b ∧ defaultValue (tyX0 j) = if b then .null else .int 0 := by
  intro j hj
  have h : ∀ j, j < 9 → ((rfX 0)[j]?).isSome = true ∧ defaultValue (tyX0 j) = if ((rfX 0)[j]?).getD false then .null else .int 0 := by decide +kernel
  obtain ⟨h1, h2⟩ := h j hj
  obtain ⟨b, hb⟩ := Option.isSome_iff_exists.mp h1
  exact ⟨b, hb, by rw [hb] at h2; exact h2⟩
theorem bnX1 : ∀ j, j < 5 → ∃ b, (rfX 1)[j]? = some b ∧ defaultValue (tyX1 j) = if b then .null else .int 0 := by
  intro j hj
  have h : ∀ j, j < 5 → ((rfX 1)[j]?).isSome = true ∧ defaultValue (tyX1 j) = if ((rfX 1)[j]?).getD false then .null else .int 0 := by decide +kernel
  obtain ⟨h1, h2⟩ := h j hj
  obtain ⟨b, hb⟩ := Option.isSome_iff_exists.mp h1
  exact ⟨b, hb, by rw [hb] at h2; exact h2⟩
theorem bnX2 : ∀ j, j < 10 → ∃ b, (rfX 2)[j]? = some b ∧ defaultValue (tyX2 j) = if b then .null else .int 0 := by
  intro j hj
  have h : ∀ j, j < 10 → ((rfX 2)[j]?).isSome = true ∧ defaultValue (tyX2 j) = if ((rfX 2)[j]?).getD false then .null else .int 0 := by decide +kernel
  obtain ⟨h1, h2⟩ := h j hj
  obtain ⟨b, hb⟩ := Option.isSome_iff_exists.mp h1
  exact ⟨b, hb, by rw [hb] at h2; exact h2⟩
theorem bnX3 : ∀ j, j < 6 → ∃ b, (rfX 3)[j]? = some b ∧ defaultValue (tyX3 j) = if b then .null else .int 0 := by
  intro j hj
  have h : ∀ j, j < 6 → ((rfX 3)[j]?).isSome = true ∧ defaultValue (tyX3 j) = if ((rfX 3)[j]?).getD false then .null else .int 0 := by decide +kernel
  obtain ⟨h1, h2⟩ := h j hj
  obtain ⟨b, hb⟩ := Option.isSome_iff_exists.mp h1
  exact ⟨b, hb, by rw [hb] at h2; exact h2⟩
theorem bnX4 : ∀ j, j < 21 → ∃ b, (rfX 4)[j]? = some b ∧ defaultValue (tyX4 j) = if b then .null else .int 0 := by
  intro j hj
  have h : ∀ j, j < 21 → ((rfX 4)[j]?).isSome = true ∧ defaultValue (tyX4 j) = if ((rfX 4)[j]?).getD false then .null else .int 0 := by decide +kernel
  obtain ⟨h1, h2⟩ := h j hj
  obtain ⟨b, hb⟩ := Option.isSome_iff_exists.mp h1
  exact ⟨b, hb, by rw [hb] at h2; exact h2⟩
def O_init : aK := (⟨"OmegaNets", "<init>", "(II)V"⟩, prog_1_method_1_code, 3, none, [])
def O_within : aK := (⟨"OmegaNets", "within", "(III)I"⟩, prog_1_method_32_code, 3, (some .int), [])
def N_init : aK := (⟨"OmegaNets$Net", "<init>", "(II)V"⟩, prog_3_method_1_code, 3, none, [])
def T_init : aK := (⟨"OmegaNets$Tree", "<init>", "(LOmegaNets$Net;)V"⟩, prog_4_method_1_code, 2, none, [])
def G_init : aK := (⟨"OmegaNets$Goals", "<init>", "(LOmegaNets$Net;)V"⟩, prog_2_method_1_code, 2, none, [])
def O_reset : aK := (⟨"OmegaNets", "reset", "()I"⟩, prog_1_method_7_code, 2, (some .int), [])
def O_returnToStart : aK := (⟨"OmegaNets", "returnToStart", "()V"⟩, prog_1_method_22_code, 1, none, [])
def L_cell : aK := (⟨"OmegaNetsLaw", "cell", "([II)I"⟩, method_2_code, 2, (some .int), [])
def L_arc : aK := (⟨"OmegaNetsLaw", "arc", "(LOmegaNets;IIII[J)I"⟩, method_3_code, 7, (some .int), [(0, 14, 17, 13), (0, 14, 21, 15)])
def O_arc : aK := (⟨"OmegaNets", "arc", "(IIII)I"⟩, prog_1_method_2_code, 5, (some .int), [])
def O_checkTransition : aK := (⟨"OmegaNets", "checkTransition", "(I)V"⟩, prog_1_method_25_code, 2, none, [])
def O_checkIndex : aK := (⟨"OmegaNets", "checkIndex", "(II)V"⟩, prog_1_method_30_code, 2, none, [])
def O_checkPlace : aK := (⟨"OmegaNets", "checkPlace", "(I)V"⟩, prog_1_method_26_code, 2, none, [])
def O_checkNumber : aK := (⟨"OmegaNets", "checkNumber", "(II)V"⟩, prog_1_method_31_code, 2, none, [])
def O_forgetTreeAndGoals : aK := (⟨"OmegaNets", "forgetTreeAndGoals", "()V"⟩, prog_1_method_23_code, 1, none, [])
def L_start : aK := (⟨"OmegaNetsLaw", "start", "(LOmegaNets;II[J)I"⟩, method_4_code, 5, (some .int), [(0, 10, 13, 13), (0, 10, 17, 15)])
def O_start : aK := (⟨"OmegaNets", "start", "(II)I"⟩, prog_1_method_3_code, 4, (some .int), [])
def L_want : aK := (⟨"OmegaNetsLaw", "want", "(LOmegaNets;II[J)I"⟩, method_5_code, 5, (some .int), [(0, 10, 13, 13), (0, 10, 17, 15)])
def O_want : aK := (⟨"OmegaNets", "want", "(II)I"⟩, prog_1_method_4_code, 4, (some .int), [])
def L_fire : aK := (⟨"OmegaNetsLaw", "fire", "(LOmegaNets;I[J)I"⟩, method_6_code, 4, (some .int), [(0, 16, 19, 13)])
def O_fire : aK := (⟨"OmegaNets", "fire", "(I)Z"⟩, prog_1_method_5_code, 2, (some .boolean), [])
def N_enables : aK := (⟨"OmegaNets$Net", "enables", "([II)Z"⟩, prog_3_method_2_code, 3, (some .boolean), [])
def O_isBelow : aK := (⟨"OmegaNets", "isBelow", "([I[I)Z"⟩, prog_1_method_34_code, 3, (some .boolean), [])
def N_move : aK := (⟨"OmegaNets$Net", "move", "([II[I)V"⟩, prog_3_method_4_code, 5, none, [])
def L_at : aK := (⟨"OmegaNetsLaw", "at", "(LOmegaNets;I[J)I"⟩, method_7_code, 4, (some .int), [(0, 9, 12, 13)])
def O_at : aK := (⟨"OmegaNets", "at", "(I)I"⟩, prog_1_method_6_code, 2, (some .int), [])
def L_explore : aK := (⟨"OmegaNetsLaw", "explore", "(LOmegaNets;[J)I"⟩, method_8_code, 3, (some .int), [(0, 8, 11, 36)])
def O_explore : aK := (⟨"OmegaNets", "explore", "()I"⟩, prog_1_method_8_code, 1, (some .int), [])
def T_grow : aK := (⟨"OmegaNets$Tree", "grow", "()V"⟩, prog_4_method_2_code, 3, none, [])
def T_plant : aK := (⟨"OmegaNets$Tree", "plant", "()V"⟩, prog_4_method_3_code, 1, none, [])
def T_repeatsOneAbove : aK := (⟨"OmegaNets$Tree", "repeatsOneAbove", "(I)Z"⟩, prog_4_method_4_code, 4, (some .boolean), [])
def O_isSame : aK := (⟨"OmegaNets", "isSame", "([I[I)Z"⟩, prog_1_method_35_code, 2, (some .boolean), [])
def T_branch : aK := (⟨"OmegaNets$Tree", "branch", "(I)Z"⟩, prog_4_method_5_code, 3, (some .boolean), [])
def T_addNode : aK := (⟨"OmegaNets$Tree", "addNode", "(II)V"⟩, prog_4_method_6_code, 4, none, [])
def T_lift : aK := (⟨"OmegaNets$Tree", "lift", "(I)V"⟩, prog_4_method_7_code, 6, none, [])
def T_liftOver : aK := (⟨"OmegaNets$Tree", "liftOver", "([I[I)Z"⟩, prog_4_method_8_code, 5, (some .boolean), [])
def T_findPeaks : aK := (⟨"OmegaNets$Tree", "findPeaks", "()V"⟩, prog_4_method_9_code, 2, none, [])
def T_isPeak : aK := (⟨"OmegaNets$Tree", "isPeak", "(I)Z"⟩, prog_4_method_10_code, 4, (some .boolean), [])
def L_count : aK := (⟨"OmegaNetsLaw", "count", "(LOmegaNets;II[J)I"⟩, method_9_code, 5, (some .int), [(0, 10, 13, 36), (0, 10, 17, 13)])
def O_count : aK := (⟨"OmegaNets", "count", "(II)I"⟩, prog_1_method_9_code, 3, (some .int), [])
def O_checkTree : aK := (⟨"OmegaNets", "checkTree", "()V"⟩, prog_1_method_28_code, 1, none, [])
def O_checkNode : aK := (⟨"OmegaNets", "checkNode", "(I)V"⟩, prog_1_method_27_code, 2, none, [])
def O_shown : aK := (⟨"OmegaNets", "shown", "(I)I"⟩, prog_1_method_33_code, 1, (some .int), [])
def L_node : aK := (⟨"OmegaNetsLaw", "node", "(LOmegaNets;II[J)I"⟩, method_10_code, 5, (some .int), [(0, 10, 13, 36), (0, 10, 17, 13), (0, 10, 21, 15)])
def O_node : aK := (⟨"OmegaNets", "node", "(II)I"⟩, prog_1_method_10_code, 3, (some .int), [])
def L_path : aK := (⟨"OmegaNetsLaw", "path", "(LOmegaNets;II[J)I"⟩, method_11_code, 5, (some .int), [(0, 10, 13, 36), (0, 10, 17, 13)])
def O_path : aK := (⟨"OmegaNets", "path", "(II)I"⟩, prog_1_method_11_code, 3, (some .int), [])
def T_stepTo : aK := (⟨"OmegaNets$Tree", "stepTo", "(II)I"⟩, prog_4_method_11_code, 5, (some .int), [])
def L_bound : aK := (⟨"OmegaNetsLaw", "bound", "(LOmegaNets;I[J)I"⟩, method_12_code, 4, (some .int), [(0, 9, 12, 36), (0, 9, 15, 13)])
def O_bound : aK := (⟨"OmegaNets", "bound", "(I)I"⟩, prog_1_method_12_code, 2, (some .int), [])
def T_greatest : aK := (⟨"OmegaNets$Tree", "greatest", "(I)I"⟩, prog_4_method_12_code, 4, (some .int), [])
def L_tops : aK := (⟨"OmegaNetsLaw", "tops", "(LOmegaNets;[J)I"⟩, method_13_code, 3, (some .int), [(0, 8, 11, 36)])
def O_tops : aK := (⟨"OmegaNets", "tops", "()I"⟩, prog_1_method_13_code, 1, (some .int), [])
def L_top : aK := (⟨"OmegaNetsLaw", "top", "(LOmegaNets;I[J)I"⟩, method_14_code, 4, (some .int), [(0, 9, 12, 36), (0, 9, 15, 13)])
def O_top : aK := (⟨"OmegaNets", "top", "(I)I"⟩, prog_1_method_14_code, 2, (some .int), [])
def L_covered : aK := (⟨"OmegaNetsLaw", "covered", "(LOmegaNets;[J)I"⟩, method_15_code, 3, (some .int), [(0, 15, 18, 36)])
def O_covered : aK := (⟨"OmegaNets", "covered", "()Z"⟩, prog_1_method_15_code, 1, (some .boolean), [])
def T_reachesAbove : aK := (⟨"OmegaNets$Tree", "reachesAbove", "([I)Z"⟩, prog_4_method_13_code, 3, (some .boolean), [])
def L_lives : aK := (⟨"OmegaNetsLaw", "lives", "(LOmegaNets;I[J)I"⟩, method_16_code, 4, (some .int), [(0, 16, 19, 36), (0, 16, 22, 13)])
def O_lives : aK := (⟨"OmegaNets", "lives", "(I)Z"⟩, prog_1_method_16_code, 2, (some .boolean), [])
def T_everEnables : aK := (⟨"OmegaNets$Tree", "everEnables", "(I)Z"⟩, prog_4_method_14_code, 2, (some .boolean), [])
def L_dead : aK := (⟨"OmegaNetsLaw", "dead", "(LOmegaNets;[J)I"⟩, method_17_code, 3, (some .int), [(0, 8, 11, 36)])
def O_dead : aK := (⟨"OmegaNets", "dead", "()I"⟩, prog_1_method_17_code, 1, (some .int), [])
def T_firstStuck : aK := (⟨"OmegaNets$Tree", "firstStuck", "()I"⟩, prog_4_method_15_code, 2, (some .int), [])
def N_isStuck : aK := (⟨"OmegaNets$Net", "isStuck", "([I)Z"⟩, prog_3_method_3_code, 3, (some .boolean), [])
def L_back : aK := (⟨"OmegaNetsLaw", "back", "(LOmegaNets;[J)I"⟩, method_18_code, 3, (some .int), [(0, 8, 11, 36)])
def O_back : aK := (⟨"OmegaNets", "back", "()I"⟩, prog_1_method_18_code, 1, (some .int), [])
def G_gather : aK := (⟨"OmegaNets$Goals", "gather", "([I)V"⟩, prog_2_method_2_code, 4, none, [])
def G_plant : aK := (⟨"OmegaNets$Goals", "plant", "([I)V"⟩, prog_2_method_3_code, 2, none, [])
def G_goBack : aK := (⟨"OmegaNets$Goals", "goBack", "(I)Z"⟩, prog_2_method_4_code, 3, (some .boolean), [])
def N_moveBack : aK := (⟨"OmegaNets$Net", "moveBack", "([II[I)V"⟩, prog_3_method_5_code, 5, none, [])
def G_isKnown : aK := (⟨"OmegaNets$Goals", "isKnown", "([I)Z"⟩, prog_2_method_5_code, 3, (some .boolean), [])
def G_addCandidate : aK := (⟨"OmegaNets$Goals", "addCandidate", "(II)V"⟩, prog_2_method_6_code, 4, none, [])
def G_keptCount : aK := (⟨"OmegaNets$Goals", "keptCount", "()I"⟩, prog_2_method_7_code, 3, (some .int), [])
def L_goal : aK := (⟨"OmegaNetsLaw", "goal", "(LOmegaNets;II[J)I"⟩, method_19_code, 5, (some .int), [(0, 10, 13, 36), (0, 10, 17, 13)])
def O_goal : aK := (⟨"OmegaNets", "goal", "(II)I"⟩, prog_1_method_19_code, 4, (some .int), [])
def O_checkGoals : aK := (⟨"OmegaNets", "checkGoals", "()V"⟩, prog_1_method_29_code, 1, none, [])
def G_kept : aK := (⟨"OmegaNets$Goals", "kept", "(I)I"⟩, prog_2_method_8_code, 4, (some .int), [])
def L_length : aK := (⟨"OmegaNetsLaw", "length", "(LOmegaNets;[J)I"⟩, method_20_code, 3, (some .int), [(0, 8, 11, 36), (0, 8, 14, 75)])
def O_length : aK := (⟨"OmegaNets", "length", "()I"⟩, prog_1_method_20_code, 1, (some .int), [])
def O_goalBelowStart : aK := (⟨"OmegaNets", "goalBelowStart", "()I"⟩, prog_1_method_24_code, 2, (some .int), [])
def G_firstBelow : aK := (⟨"OmegaNets$Goals", "firstBelow", "([I)I"⟩, prog_2_method_9_code, 3, (some .int), [])
def L_way : aK := (⟨"OmegaNetsLaw", "way", "(LOmegaNets;I[J)I"⟩, method_21_code, 4, (some .int), [(0, 9, 12, 36), (0, 9, 15, 75), (0, 9, 18, 13)])
def O_way : aK := (⟨"OmegaNets", "way", "(I)I"⟩, prog_1_method_21_code, 3, (some .int), [])
def G_stepFrom : aK := (⟨"OmegaNets$Goals", "stepFrom", "(II)I"⟩, prog_2_method_10_code, 5, (some .int), [])
def M_init : aK := (⟨"OmegaNetsModel", "<init>", "(II)V"⟩, prog_6_method_1_code, 3, none, [])
def M_thrown : aK := (⟨"OmegaNetsModel", "thrown", "()I"⟩, prog_6_method_2_code, 1, (some .int), [])
def M_arc : aK := (⟨"OmegaNetsModel", "arc", "(IIII)I"⟩, prog_6_method_6_code, 6, (some .int), [])
def M_isTransition : aK := (⟨"OmegaNetsModel", "isTransition", "(I)Z"⟩, prog_6_method_4_code, 2, (some .boolean), [])
def M_isPlace : aK := (⟨"OmegaNetsModel", "isPlace", "(I)Z"⟩, prog_6_method_3_code, 2, (some .boolean), [])
def M_changed : aK := (⟨"OmegaNetsModel", "changed", "()V"⟩, prog_6_method_5_code, 1, none, [])
def M_start : aK := (⟨"OmegaNetsModel", "start", "(II)I"⟩, prog_6_method_8_code, 4, (some .int), [])
def M_begin : aK := (⟨"OmegaNetsModel", "begin", "()V"⟩, prog_6_method_7_code, 2, none, [])
def M_want : aK := (⟨"OmegaNetsModel", "want", "(II)I"⟩, prog_6_method_9_code, 4, (some .int), [])
def M_fire : aK := (⟨"OmegaNetsModel", "fire", "(I)Z"⟩, prog_6_method_10_code, 4, (some .boolean), [])
def M_at : aK := (⟨"OmegaNetsModel", "at", "(I)I"⟩, prog_6_method_11_code, 2, (some .int), [])
def M_reset : aK := (⟨"OmegaNetsModel", "reset", "()I"⟩, prog_6_method_12_code, 2, (some .int), [])
def M_explore : aK := (⟨"OmegaNetsModel", "explore", "()I"⟩, prog_6_method_19_code, 3, (some .int), [])
def M_isLeaf : aK := (⟨"OmegaNetsModel", "isLeaf", "(I)Z"⟩, prog_6_method_16_code, 4, (some .boolean), [])
def M_isSame : aK := (⟨"OmegaNetsModel", "isSame", "(II)Z"⟩, prog_6_method_14_code, 3, (some .boolean), [])
def M_isBelow : aK := (⟨"OmegaNetsModel", "isBelow", "(II)Z"⟩, prog_6_method_13_code, 5, (some .boolean), [])
def M_isEnabled : aK := (⟨"OmegaNetsModel", "isEnabled", "(II)Z"⟩, prog_6_method_15_code, 5, (some .boolean), [])
def M_grow : aK := (⟨"OmegaNetsModel", "grow", "(II)V"⟩, prog_6_method_18_code, 6, none, [])
def M_raise : aK := (⟨"OmegaNetsModel", "raise", "(I)Z"⟩, prog_6_method_17_code, 6, (some .boolean), [])
def M_count : aK := (⟨"OmegaNetsModel", "count", "(II)I"⟩, prog_6_method_22_code, 3, (some .int), [])
def M_isNode : aK := (⟨"OmegaNetsModel", "isNode", "(I)Z"⟩, prog_6_method_20_code, 2, (some .boolean), [])
def M_told : aK := (⟨"OmegaNetsModel", "told", "(I)I"⟩, prog_6_method_21_code, 1, (some .int), [])
def M_node : aK := (⟨"OmegaNetsModel", "node", "(II)I"⟩, prog_6_method_23_code, 3, (some .int), [])
def M_path : aK := (⟨"OmegaNetsModel", "path", "(II)I"⟩, prog_6_method_25_code, 6, (some .int), [])
def M_depth : aK := (⟨"OmegaNetsModel", "depth", "(I)I"⟩, prog_6_method_24_code, 4, (some .int), [])
def M_bound : aK := (⟨"OmegaNetsModel", "bound", "(I)I"⟩, prog_6_method_26_code, 4, (some .int), [])
def M_tops : aK := (⟨"OmegaNetsModel", "tops", "()I"⟩, prog_6_method_29_code, 3, (some .int), [])
def M_isTop : aK := (⟨"OmegaNetsModel", "isTop", "(I)Z"⟩, prog_6_method_27_code, 5, (some .boolean), [])
def M_top : aK := (⟨"OmegaNetsModel", "top", "(I)I"⟩, prog_6_method_30_code, 3, (some .int), [])
def M_topAt : aK := (⟨"OmegaNetsModel", "topAt", "(I)I"⟩, prog_6_method_28_code, 4, (some .int), [])
def M_covered : aK := (⟨"OmegaNetsModel", "covered", "()Z"⟩, prog_6_method_31_code, 5, (some .boolean), [])
def M_lives : aK := (⟨"OmegaNetsModel", "lives", "(I)Z"⟩, prog_6_method_32_code, 4, (some .boolean), [])
def M_dead : aK := (⟨"OmegaNetsModel", "dead", "()I"⟩, prog_6_method_33_code, 4, (some .int), [])
def M_back : aK := (⟨"OmegaNetsModel", "back", "()I"⟩, prog_6_method_36_code, 5, (some .int), [])
def M_makeGoal : aK := (⟨"OmegaNetsModel", "makeGoal", "(II)Z"⟩, prog_6_method_35_code, 6, (some .boolean), [])
def M_isGoalBelow : aK := (⟨"OmegaNetsModel", "isGoalBelow", "(II)Z"⟩, prog_6_method_34_code, 5, (some .boolean), [])
def M_goal : aK := (⟨"OmegaNetsModel", "goal", "(II)I"⟩, prog_6_method_37_code, 6, (some .int), [])
def M_length : aK := (⟨"OmegaNetsModel", "length", "()I"⟩, prog_6_method_39_code, 4, (some .int), [])
def M_firstGoal : aK := (⟨"OmegaNetsModel", "firstGoal", "()I"⟩, prog_6_method_38_code, 4, (some .int), [])
def M_way : aK := (⟨"OmegaNetsModel", "way", "(I)I"⟩, prog_6_method_40_code, 5, (some .int), [])
def L_law : aK := (⟨"OmegaNetsLaw", "law", "([I)Z"⟩, code, 7, (some .boolean), [])
theorem w_0 : Cond.initialized "OmegaNetsLaw" ∈ lw_tbl := List.mem_append_right _ (List.mem_of_getElem? (i := 0) (by decide +kernel))
theorem w_1 : Cond.initialized "OmegaNets" ∈ lw_tbl := List.mem_append_right _ (List.mem_of_getElem? (i := 1) (by decide +kernel))
theorem w_2 : Cond.initialized "OmegaNets$Net" ∈ lw_tbl := List.mem_append_right _ (List.mem_of_getElem? (i := 2) (by decide +kernel))
theorem w_4 : Cond.initialized "OmegaNets$Tree" ∈ lw_tbl := List.mem_append_right _ (List.mem_of_getElem? (i := 4) (by decide +kernel))
theorem w_5 : Cond.initialized "OmegaNets$Goals" ∈ lw_tbl := List.mem_append_right _ (List.mem_of_getElem? (i := 5) (by decide +kernel))
theorem w_6 : Cond.initialized "OmegaNetsModel" ∈ lw_tbl := List.mem_append_right _ (List.mem_of_getElem? (i := 6) (by decide +kernel))
theorem w_10 : Cond.initialized "java/lang/IndexOutOfBoundsException" ∈ lw_tbl := List.mem_append_right _ (List.mem_of_getElem? (i := 10) (by decide +kernel))
theorem w_11 : Cond.initialized "java/lang/IllegalArgumentException" ∈ lw_tbl := List.mem_append_right _ (List.mem_of_getElem? (i := 11) (by decide +kernel))
theorem w_13 : Cond.initialized "java/lang/IllegalStateException" ∈ lw_tbl := List.mem_append_right _ (List.mem_of_getElem? (i := 13) (by decide +kernel))
theorem w_14 : Cond.initialized "java/lang/UnsupportedOperationException" ∈ lw_tbl := List.mem_append_right _ (List.mem_of_getElem? (i := 14) (by decide +kernel))
theorem w_15 : Cond.classLink "OmegaNetsLaw" 8 "OmegaNets" ∈ lw_tbl := List.mem_append_right _ (List.mem_of_getElem? (i := 15) (by decide +kernel))
theorem w_17 : Cond.methodLink "OmegaNetsLaw" 86 ⟨"OmegaNets", "<init>", "(II)V"⟩ ∈ lw_tbl := List.mem_append_right _ (List.mem_of_getElem? (i := 17) (by decide +kernel))
theorem w_18 : Cond.instanceMethod ⟨"OmegaNets", "<init>", "(II)V"⟩ ∈ lw_tbl := List.mem_append_right _ (List.mem_of_getElem? (i := 18) (by decide +kernel))
theorem w_19 : Cond.code ⟨"OmegaNets", "<init>", "(II)V"⟩ prog_1_method_1_code 3 none ∈ lw_tbl := List.mem_append_right _ (List.mem_of_getElem? (i := 19) (by decide +kernel))
theorem w_20 : Cond.methodLink "OmegaNets" 1 ⟨"java/lang/Object", "<init>", "()V"⟩ ∈ lw_tbl := List.mem_append_right _ (List.mem_of_getElem? (i := 20) (by decide +kernel))
theorem w_21 : Cond.instanceMethod ⟨"java/lang/Object", "<init>", "()V"⟩ ∈ lw_tbl := List.mem_append_right _ (List.mem_of_getElem? (i := 21) (by decide +kernel))
theorem w_22 : Cond.code ⟨"java/lang/Object", "<init>", "()V"⟩ object_method_1_code 1 none ∈ lw_tbl := List.mem_append_right _ (List.mem_of_getElem? (i := 22) (by decide +kernel))
theorem w_23 : Cond.classLink "OmegaNets" 7 "OmegaNets$Net" ∈ lw_tbl := List.mem_append_right _ (List.mem_of_getElem? (i := 23) (by decide +kernel))
theorem w_25 : Cond.methodLink "OmegaNets" 11 ⟨"OmegaNets", "within", "(III)I"⟩ ∈ lw_tbl := List.mem_append_right _ (List.mem_of_getElem? (i := 25) (by decide +kernel))
theorem w_26 : Cond.static ⟨"OmegaNets", "within", "(III)I"⟩ ∈ lw_tbl := List.mem_append_right _ (List.mem_of_getElem? (i := 26) (by decide +kernel))
theorem w_27 : Cond.code ⟨"OmegaNets", "within", "(III)I"⟩ prog_1_method_32_code 3 (some .int) ∈ lw_tbl := List.mem_append_right _ (List.mem_of_getElem? (i := 27) (by decide +kernel))
theorem w_28 : Cond.methodLink "OmegaNets" 216 ⟨"java/lang/Math", "min", "(II)I"⟩ ∈ lw_tbl := List.mem_append_right _ (List.mem_of_getElem? (i := 28) (by decide +kernel))
theorem w_31 : Cond.methodLink "OmegaNets" 221 ⟨"java/lang/Math", "max", "(II)I"⟩ ∈ lw_tbl := List.mem_append_right _ (List.mem_of_getElem? (i := 31) (by decide +kernel))
theorem w_34 : Cond.methodLink "OmegaNets" 15 ⟨"OmegaNets$Net", "<init>", "(II)V"⟩ ∈ lw_tbl := List.mem_append_right _ (List.mem_of_getElem? (i := 34) (by decide +kernel))
theorem w_35 : Cond.instanceMethod ⟨"OmegaNets$Net", "<init>", "(II)V"⟩ ∈ lw_tbl := List.mem_append_right _ (List.mem_of_getElem? (i := 35) (by decide +kernel))
theorem w_36 : Cond.code ⟨"OmegaNets$Net", "<init>", "(II)V"⟩ prog_3_method_1_code 3 none ∈ lw_tbl := List.mem_append_right _ (List.mem_of_getElem? (i := 36) (by decide +kernel))
theorem w_37 : Cond.methodLink "OmegaNets$Net" 3 ⟨"java/lang/Object", "<init>", "()V"⟩ ∈ lw_tbl := List.mem_append_right _ (List.mem_of_getElem? (i := 37) (by decide +kernel))
theorem w_38 : Cond.classLink "OmegaNets$Net" 18 "[[I" ∈ lw_tbl := List.mem_append_right _ (List.mem_of_getElem? (i := 38) (by decide +kernel))
theorem w_39 : Cond.arrayOver (.array .int) ∈ lw_tbl := List.mem_append_right _ (List.mem_of_getElem? (i := 39) (by decide +kernel))
theorem w_40 : Cond.fieldLink "OmegaNets$Net" 9 "OmegaNets$Net" "places" "I" ∈ lw_tbl := List.mem_append_right _ (List.mem_of_getElem? (i := 40) (by decide +kernel))
theorem w_41 : Cond.fieldLink "OmegaNets$Goals" 29 "OmegaNets$Net" "places" "I" ∈ lw_tbl := List.mem_append_right _ (List.mem_of_getElem? (i := 41) (by decide +kernel))
theorem w_42 : Cond.fieldLink "OmegaNets$Tree" 32 "OmegaNets$Net" "places" "I" ∈ lw_tbl := List.mem_append_right _ (List.mem_of_getElem? (i := 42) (by decide +kernel))
theorem w_43 : Cond.fieldLink "OmegaNets" 38 "OmegaNets$Net" "places" "I" ∈ lw_tbl := List.mem_append_right _ (List.mem_of_getElem? (i := 43) (by decide +kernel))
theorem w_44 : Cond.fieldLink "OmegaNets$Net" 15 "OmegaNets$Net" "transitions" "I" ∈ lw_tbl := List.mem_append_right _ (List.mem_of_getElem? (i := 44) (by decide +kernel))
theorem w_45 : Cond.fieldLink "OmegaNets$Goals" 64 "OmegaNets$Net" "transitions" "I" ∈ lw_tbl := List.mem_append_right _ (List.mem_of_getElem? (i := 45) (by decide +kernel))
theorem w_46 : Cond.fieldLink "OmegaNets$Tree" 76 "OmegaNets$Net" "transitions" "I" ∈ lw_tbl := List.mem_append_right _ (List.mem_of_getElem? (i := 46) (by decide +kernel))
theorem w_47 : Cond.fieldLink "OmegaNets" 206 "OmegaNets$Net" "transitions" "I" ∈ lw_tbl := List.mem_append_right _ (List.mem_of_getElem? (i := 47) (by decide +kernel))
theorem w_48 : Cond.fieldLink "OmegaNets$Net" 20 "OmegaNets$Net" "needs" "[[I" ∈ lw_tbl := List.mem_append_right _ (List.mem_of_getElem? (i := 48) (by decide +kernel))
theorem w_49 : Cond.fieldLink "OmegaNets" 62 "OmegaNets$Net" "needs" "[[I" ∈ lw_tbl := List.mem_append_right _ (List.mem_of_getElem? (i := 49) (by decide +kernel))
theorem w_50 : Cond.fieldLink "OmegaNets$Tree" 113 "OmegaNets$Net" "needs" "[[I" ∈ lw_tbl := List.mem_append_right _ (List.mem_of_getElem? (i := 50) (by decide +kernel))
theorem w_51 : Cond.fieldLink "OmegaNets$Net" 23 "OmegaNets$Net" "gives" "[[I" ∈ lw_tbl := List.mem_append_right _ (List.mem_of_getElem? (i := 51) (by decide +kernel))
theorem w_52 : Cond.fieldLink "OmegaNets" 66 "OmegaNets$Net" "gives" "[[I" ∈ lw_tbl := List.mem_append_right _ (List.mem_of_getElem? (i := 52) (by decide +kernel))
theorem w_53 : Cond.fieldLink "OmegaNets$Net" 26 "OmegaNets$Net" "first" "[I" ∈ lw_tbl := List.mem_append_right _ (List.mem_of_getElem? (i := 53) (by decide +kernel))
theorem w_54 : Cond.fieldLink "OmegaNets$Tree" 63 "OmegaNets$Net" "first" "[I" ∈ lw_tbl := List.mem_append_right _ (List.mem_of_getElem? (i := 54) (by decide +kernel))
theorem w_55 : Cond.fieldLink "OmegaNets" 72 "OmegaNets$Net" "first" "[I" ∈ lw_tbl := List.mem_append_right _ (List.mem_of_getElem? (i := 55) (by decide +kernel))
theorem w_67 : Cond.arrayClass .int ∈ lw_tbl := List.mem_append_right _ (List.mem_of_getElem? (i := 67) (by decide +kernel))
theorem w_68 : Cond.classLink "OmegaNets" 22 "OmegaNets$Tree" ∈ lw_tbl := List.mem_append_right _ (List.mem_of_getElem? (i := 68) (by decide +kernel))
theorem w_70 : Cond.methodLink "OmegaNets" 24 ⟨"OmegaNets$Tree", "<init>", "(LOmegaNets$Net;)V"⟩ ∈ lw_tbl := List.mem_append_right _ (List.mem_of_getElem? (i := 70) (by decide +kernel))
theorem w_71 : Cond.instanceMethod ⟨"OmegaNets$Tree", "<init>", "(LOmegaNets$Net;)V"⟩ ∈ lw_tbl := List.mem_append_right _ (List.mem_of_getElem? (i := 71) (by decide +kernel))
theorem w_72 : Cond.code ⟨"OmegaNets$Tree", "<init>", "(LOmegaNets$Net;)V"⟩ prog_4_method_1_code 2 none ∈ lw_tbl := List.mem_append_right _ (List.mem_of_getElem? (i := 72) (by decide +kernel))
theorem w_73 : Cond.methodLink "OmegaNets$Tree" 3 ⟨"java/lang/Object", "<init>", "()V"⟩ ∈ lw_tbl := List.mem_append_right _ (List.mem_of_getElem? (i := 73) (by decide +kernel))
theorem w_74 : Cond.classLink "OmegaNets$Tree" 38 "[[I" ∈ lw_tbl := List.mem_append_right _ (List.mem_of_getElem? (i := 74) (by decide +kernel))
theorem w_75 : Cond.fieldLink "OmegaNets$Tree" 28 "OmegaNets$Tree" "net" "LOmegaNets$Net;" ∈ lw_tbl := List.mem_append_right _ (List.mem_of_getElem? (i := 75) (by decide +kernel))
theorem w_76 : Cond.fieldLink "OmegaNets$Tree" 40 "OmegaNets$Tree" "markings" "[[I" ∈ lw_tbl := List.mem_append_right _ (List.mem_of_getElem? (i := 76) (by decide +kernel))
theorem w_77 : Cond.fieldLink "OmegaNets" 110 "OmegaNets$Tree" "markings" "[[I" ∈ lw_tbl := List.mem_append_right _ (List.mem_of_getElem? (i := 77) (by decide +kernel))
theorem w_78 : Cond.fieldLink "OmegaNets$Tree" 9 "OmegaNets$Tree" "parents" "[I" ∈ lw_tbl := List.mem_append_right _ (List.mem_of_getElem? (i := 78) (by decide +kernel))
theorem w_79 : Cond.fieldLink "OmegaNets" 117 "OmegaNets$Tree" "parents" "[I" ∈ lw_tbl := List.mem_append_right _ (List.mem_of_getElem? (i := 79) (by decide +kernel))
theorem w_80 : Cond.fieldLink "OmegaNets$Tree" 15 "OmegaNets$Tree" "transitions" "[I" ∈ lw_tbl := List.mem_append_right _ (List.mem_of_getElem? (i := 80) (by decide +kernel))
theorem w_81 : Cond.fieldLink "OmegaNets" 120 "OmegaNets$Tree" "transitions" "[I" ∈ lw_tbl := List.mem_append_right _ (List.mem_of_getElem? (i := 81) (by decide +kernel))
theorem w_82 : Cond.fieldLink "OmegaNets$Tree" 18 "OmegaNets$Tree" "depths" "[I" ∈ lw_tbl := List.mem_append_right _ (List.mem_of_getElem? (i := 82) (by decide +kernel))
theorem w_83 : Cond.fieldLink "OmegaNets" 132 "OmegaNets$Tree" "depths" "[I" ∈ lw_tbl := List.mem_append_right _ (List.mem_of_getElem? (i := 83) (by decide +kernel))
theorem w_84 : Cond.fieldLink "OmegaNets$Tree" 21 "OmegaNets$Tree" "leaves" "[Z" ∈ lw_tbl := List.mem_append_right _ (List.mem_of_getElem? (i := 84) (by decide +kernel))
theorem w_85 : Cond.fieldLink "OmegaNets" 123 "OmegaNets$Tree" "leaves" "[Z" ∈ lw_tbl := List.mem_append_right _ (List.mem_of_getElem? (i := 85) (by decide +kernel))
theorem w_86 : Cond.fieldLink "OmegaNets$Tree" 25 "OmegaNets$Tree" "peaks" "[I" ∈ lw_tbl := List.mem_append_right _ (List.mem_of_getElem? (i := 86) (by decide +kernel))
theorem w_87 : Cond.fieldLink "OmegaNets" 148 "OmegaNets$Tree" "peaks" "[I" ∈ lw_tbl := List.mem_append_right _ (List.mem_of_getElem? (i := 87) (by decide +kernel))
theorem w_88 : Cond.fieldLink "OmegaNets$Tree" 50 "OmegaNets$Tree" "size" "I" ∈ lw_tbl := List.mem_append_right _ (List.mem_of_getElem? (i := 88) (by decide +kernel))
theorem w_89 : Cond.fieldLink "OmegaNets" 101 "OmegaNets$Tree" "size" "I" ∈ lw_tbl := List.mem_append_right _ (List.mem_of_getElem? (i := 89) (by decide +kernel))
theorem w_90 : Cond.fieldLink "OmegaNets$Tree" 101 "OmegaNets$Tree" "peakCount" "I" ∈ lw_tbl := List.mem_append_right _ (List.mem_of_getElem? (i := 90) (by decide +kernel))
theorem w_91 : Cond.fieldLink "OmegaNets" 145 "OmegaNets$Tree" "peakCount" "I" ∈ lw_tbl := List.mem_append_right _ (List.mem_of_getElem? (i := 91) (by decide +kernel))
theorem w_92 : Cond.fieldLink "OmegaNets$Tree" 43 "OmegaNets$Tree" "made" "Z" ∈ lw_tbl := List.mem_append_right _ (List.mem_of_getElem? (i := 92) (by decide +kernel))
theorem w_93 : Cond.fieldLink "OmegaNets" 93 "OmegaNets$Tree" "made" "Z" ∈ lw_tbl := List.mem_append_right _ (List.mem_of_getElem? (i := 93) (by decide +kernel))
theorem w_115 : Cond.arrayClass .boolean ∈ lw_tbl := List.mem_append_right _ (List.mem_of_getElem? (i := 115) (by decide +kernel))
theorem w_116 : Cond.classLink "OmegaNets" 31 "OmegaNets$Goals" ∈ lw_tbl := List.mem_append_right _ (List.mem_of_getElem? (i := 116) (by decide +kernel))
theorem w_118 : Cond.methodLink "OmegaNets" 33 ⟨"OmegaNets$Goals", "<init>", "(LOmegaNets$Net;)V"⟩ ∈ lw_tbl := List.mem_append_right _ (List.mem_of_getElem? (i := 118) (by decide +kernel))
theorem w_119 : Cond.instanceMethod ⟨"OmegaNets$Goals", "<init>", "(LOmegaNets$Net;)V"⟩ ∈ lw_tbl := List.mem_append_right _ (List.mem_of_getElem? (i := 119) (by decide +kernel))
theorem w_120 : Cond.code ⟨"OmegaNets$Goals", "<init>", "(LOmegaNets$Net;)V"⟩ prog_2_method_1_code 2 none ∈ lw_tbl := List.mem_append_right _ (List.mem_of_getElem? (i := 120) (by decide +kernel))
theorem w_121 : Cond.methodLink "OmegaNets$Goals" 3 ⟨"java/lang/Object", "<init>", "()V"⟩ ∈ lw_tbl := List.mem_append_right _ (List.mem_of_getElem? (i := 121) (by decide +kernel))
theorem w_122 : Cond.classLink "OmegaNets$Goals" 35 "[[I" ∈ lw_tbl := List.mem_append_right _ (List.mem_of_getElem? (i := 122) (by decide +kernel))
theorem w_123 : Cond.fieldLink "OmegaNets$Goals" 25 "OmegaNets$Goals" "net" "LOmegaNets$Net;" ∈ lw_tbl := List.mem_append_right _ (List.mem_of_getElem? (i := 123) (by decide +kernel))
theorem w_124 : Cond.fieldLink "OmegaNets$Goals" 37 "OmegaNets$Goals" "markings" "[[I" ∈ lw_tbl := List.mem_append_right _ (List.mem_of_getElem? (i := 124) (by decide +kernel))
theorem w_125 : Cond.fieldLink "OmegaNets" 183 "OmegaNets$Goals" "markings" "[[I" ∈ lw_tbl := List.mem_append_right _ (List.mem_of_getElem? (i := 125) (by decide +kernel))
theorem w_126 : Cond.fieldLink "OmegaNets$Goals" 9 "OmegaNets$Goals" "nexts" "[I" ∈ lw_tbl := List.mem_append_right _ (List.mem_of_getElem? (i := 126) (by decide +kernel))
theorem w_127 : Cond.fieldLink "OmegaNets$Goals" 15 "OmegaNets$Goals" "transitions" "[I" ∈ lw_tbl := List.mem_append_right _ (List.mem_of_getElem? (i := 127) (by decide +kernel))
theorem w_128 : Cond.fieldLink "OmegaNets$Goals" 18 "OmegaNets$Goals" "depths" "[I" ∈ lw_tbl := List.mem_append_right _ (List.mem_of_getElem? (i := 128) (by decide +kernel))
theorem w_129 : Cond.fieldLink "OmegaNets" 184 "OmegaNets$Goals" "depths" "[I" ∈ lw_tbl := List.mem_append_right _ (List.mem_of_getElem? (i := 129) (by decide +kernel))
theorem w_130 : Cond.fieldLink "OmegaNets$Goals" 21 "OmegaNets$Goals" "givenUp" "[Z" ∈ lw_tbl := List.mem_append_right _ (List.mem_of_getElem? (i := 130) (by decide +kernel))
theorem w_131 : Cond.fieldLink "OmegaNets$Goals" 40 "OmegaNets$Goals" "candidate" "[I" ∈ lw_tbl := List.mem_append_right _ (List.mem_of_getElem? (i := 131) (by decide +kernel))
theorem w_132 : Cond.fieldLink "OmegaNets$Goals" 51 "OmegaNets$Goals" "size" "I" ∈ lw_tbl := List.mem_append_right _ (List.mem_of_getElem? (i := 132) (by decide +kernel))
theorem w_133 : Cond.fieldLink "OmegaNets$Goals" 43 "OmegaNets$Goals" "made" "Z" ∈ lw_tbl := List.mem_append_right _ (List.mem_of_getElem? (i := 133) (by decide +kernel))
theorem w_134 : Cond.fieldLink "OmegaNets" 78 "OmegaNets$Goals" "made" "Z" ∈ lw_tbl := List.mem_append_right _ (List.mem_of_getElem? (i := 134) (by decide +kernel))
theorem w_154 : Cond.fieldLink "OmegaNets" 18 "OmegaNets" "net" "LOmegaNets$Net;" ∈ lw_tbl := List.mem_append_right _ (List.mem_of_getElem? (i := 154) (by decide +kernel))
theorem w_155 : Cond.fieldLink "OmegaNets" 27 "OmegaNets" "tree" "LOmegaNets$Tree;" ∈ lw_tbl := List.mem_append_right _ (List.mem_of_getElem? (i := 155) (by decide +kernel))
theorem w_156 : Cond.fieldLink "OmegaNets" 34 "OmegaNets" "goals" "LOmegaNets$Goals;" ∈ lw_tbl := List.mem_append_right _ (List.mem_of_getElem? (i := 156) (by decide +kernel))
theorem w_157 : Cond.fieldLink "OmegaNets" 42 "OmegaNets" "wanted" "[I" ∈ lw_tbl := List.mem_append_right _ (List.mem_of_getElem? (i := 157) (by decide +kernel))
theorem w_158 : Cond.fieldLink "OmegaNets" 46 "OmegaNets" "present" "[I" ∈ lw_tbl := List.mem_append_right _ (List.mem_of_getElem? (i := 158) (by decide +kernel))
theorem w_159 : Cond.fieldLink "OmegaNets" 49 "OmegaNets" "firings" "I" ∈ lw_tbl := List.mem_append_right _ (List.mem_of_getElem? (i := 159) (by decide +kernel))
theorem w_173 : Cond.methodLink "OmegaNetsLaw" 113 ⟨"OmegaNets", "reset", "()I"⟩ ∈ lw_tbl := List.mem_append_right _ (List.mem_of_getElem? (i := 173) (by decide +kernel))
theorem w_174 : Cond.instanceMethod ⟨"OmegaNets", "reset", "()I"⟩ ∈ lw_tbl := List.mem_append_right _ (List.mem_of_getElem? (i := 174) (by decide +kernel))
theorem w_175 : Cond.selects "OmegaNets" ⟨"OmegaNets", "reset", "()I"⟩ ⟨"OmegaNets", "reset", "()I"⟩ ∈ lw_tbl := List.mem_append_right _ (List.mem_of_getElem? (i := 175) (by decide +kernel))
theorem w_176 : Cond.code ⟨"OmegaNets", "reset", "()I"⟩ prog_1_method_7_code 2 (some .int) ∈ lw_tbl := List.mem_append_right _ (List.mem_of_getElem? (i := 176) (by decide +kernel))
theorem w_177 : Cond.methodLink "OmegaNets" 75 ⟨"OmegaNets", "returnToStart", "()V"⟩ ∈ lw_tbl := List.mem_append_right _ (List.mem_of_getElem? (i := 177) (by decide +kernel))
theorem w_179 : Cond.instanceMethod ⟨"OmegaNets", "returnToStart", "()V"⟩ ∈ lw_tbl := List.mem_append_right _ (List.mem_of_getElem? (i := 179) (by decide +kernel))
theorem w_180 : Cond.code ⟨"OmegaNets", "returnToStart", "()V"⟩ prog_1_method_22_code 1 none ∈ lw_tbl := List.mem_append_right _ (List.mem_of_getElem? (i := 180) (by decide +kernel))
theorem w_181 : Cond.methodLink "OmegaNets" 191 ⟨"java/lang/System", "arraycopy", "(Ljava/lang/Object;ILjava/lang/Object;II)V"⟩ ∈ lw_tbl := List.mem_append_right _ (List.mem_of_getElem? (i := 181) (by decide +kernel))
theorem w_184 : Cond.methodLink "OmegaNetsLaw" 80 ⟨"OmegaNetsLaw", "cell", "([II)I"⟩ ∈ lw_tbl := List.mem_append_right _ (List.mem_of_getElem? (i := 184) (by decide +kernel))
theorem w_185 : Cond.static ⟨"OmegaNetsLaw", "cell", "([II)I"⟩ ∈ lw_tbl := List.mem_append_right _ (List.mem_of_getElem? (i := 185) (by decide +kernel))
theorem w_186 : Cond.code ⟨"OmegaNetsLaw", "cell", "([II)I"⟩ method_2_code 2 (some .int) ∈ lw_tbl := List.mem_append_right _ (List.mem_of_getElem? (i := 186) (by decide +kernel))
theorem w_187 : Cond.methodLink "OmegaNetsLaw" 92 ⟨"OmegaNetsLaw", "arc", "(LOmegaNets;IIII[J)I"⟩ ∈ lw_tbl := List.mem_append_right _ (List.mem_of_getElem? (i := 187) (by decide +kernel))
theorem w_188 : Cond.static ⟨"OmegaNetsLaw", "arc", "(LOmegaNets;IIII[J)I"⟩ ∈ lw_tbl := List.mem_append_right _ (List.mem_of_getElem? (i := 188) (by decide +kernel))
theorem w_189 : Cond.codeWith ⟨"OmegaNetsLaw", "arc", "(LOmegaNets;IIII[J)I"⟩ method_3_code 7 (some .int) [(0, 14, 17, 13), (0, 14, 21, 15)] ∈ lw_tbl := List.mem_append_right _ (List.mem_of_getElem? (i := 189) (by decide +kernel))
theorem w_190 : Cond.classLink "OmegaNetsLaw" 13 "java/lang/IndexOutOfBoundsException" ∈ lw_tbl := List.mem_append_right _ (List.mem_of_getElem? (i := 190) (by decide +kernel))
theorem w_191 : Cond.classLink "OmegaNetsLaw" 15 "java/lang/IllegalArgumentException" ∈ lw_tbl := List.mem_append_right _ (List.mem_of_getElem? (i := 191) (by decide +kernel))
theorem w_192 : Cond.methodLink "OmegaNetsLaw" 7 ⟨"OmegaNets", "arc", "(IIII)I"⟩ ∈ lw_tbl := List.mem_append_right _ (List.mem_of_getElem? (i := 192) (by decide +kernel))
theorem w_193 : Cond.instanceMethod ⟨"OmegaNets", "arc", "(IIII)I"⟩ ∈ lw_tbl := List.mem_append_right _ (List.mem_of_getElem? (i := 193) (by decide +kernel))
theorem w_194 : Cond.selects "OmegaNets" ⟨"OmegaNets", "arc", "(IIII)I"⟩ ⟨"OmegaNets", "arc", "(IIII)I"⟩ ∈ lw_tbl := List.mem_append_right _ (List.mem_of_getElem? (i := 194) (by decide +kernel))
theorem w_195 : Cond.code ⟨"OmegaNets", "arc", "(IIII)I"⟩ prog_1_method_2_code 5 (some .int) ∈ lw_tbl := List.mem_append_right _ (List.mem_of_getElem? (i := 195) (by decide +kernel))
theorem w_196 : Cond.methodLink "OmegaNets" 52 ⟨"OmegaNets", "checkTransition", "(I)V"⟩ ∈ lw_tbl := List.mem_append_right _ (List.mem_of_getElem? (i := 196) (by decide +kernel))
theorem w_198 : Cond.instanceMethod ⟨"OmegaNets", "checkTransition", "(I)V"⟩ ∈ lw_tbl := List.mem_append_right _ (List.mem_of_getElem? (i := 198) (by decide +kernel))
theorem w_199 : Cond.code ⟨"OmegaNets", "checkTransition", "(I)V"⟩ prog_1_method_25_code 2 none ∈ lw_tbl := List.mem_append_right _ (List.mem_of_getElem? (i := 199) (by decide +kernel))
theorem w_200 : Cond.methodLink "OmegaNets" 135 ⟨"OmegaNets", "checkIndex", "(II)V"⟩ ∈ lw_tbl := List.mem_append_right _ (List.mem_of_getElem? (i := 200) (by decide +kernel))
theorem w_201 : Cond.static ⟨"OmegaNets", "checkIndex", "(II)V"⟩ ∈ lw_tbl := List.mem_append_right _ (List.mem_of_getElem? (i := 201) (by decide +kernel))
theorem w_202 : Cond.code ⟨"OmegaNets", "checkIndex", "(II)V"⟩ prog_1_method_30_code 2 none ∈ lw_tbl := List.mem_append_right _ (List.mem_of_getElem? (i := 202) (by decide +kernel))
theorem w_203 : Cond.classLink "OmegaNets" 178 "java/lang/IndexOutOfBoundsException" ∈ lw_tbl := List.mem_append_right _ (List.mem_of_getElem? (i := 203) (by decide +kernel))
theorem w_205 : Cond.castable "java/lang/IndexOutOfBoundsException" "java/lang/IndexOutOfBoundsException" ∈ lw_tbl := List.mem_append_right _ (List.mem_of_getElem? (i := 205) (by decide +kernel))
theorem w_272 : Cond.methodLink "OmegaNets" 56 ⟨"OmegaNets", "checkPlace", "(I)V"⟩ ∈ lw_tbl := List.mem_append_right _ (List.mem_of_getElem? (i := 272) (by decide +kernel))
theorem w_274 : Cond.instanceMethod ⟨"OmegaNets", "checkPlace", "(I)V"⟩ ∈ lw_tbl := List.mem_append_right _ (List.mem_of_getElem? (i := 274) (by decide +kernel))
theorem w_275 : Cond.code ⟨"OmegaNets", "checkPlace", "(I)V"⟩ prog_1_method_26_code 2 none ∈ lw_tbl := List.mem_append_right _ (List.mem_of_getElem? (i := 275) (by decide +kernel))
theorem w_276 : Cond.methodLink "OmegaNets" 59 ⟨"OmegaNets", "checkNumber", "(II)V"⟩ ∈ lw_tbl := List.mem_append_right _ (List.mem_of_getElem? (i := 276) (by decide +kernel))
theorem w_277 : Cond.static ⟨"OmegaNets", "checkNumber", "(II)V"⟩ ∈ lw_tbl := List.mem_append_right _ (List.mem_of_getElem? (i := 277) (by decide +kernel))
theorem w_278 : Cond.code ⟨"OmegaNets", "checkNumber", "(II)V"⟩ prog_1_method_31_code 2 none ∈ lw_tbl := List.mem_append_right _ (List.mem_of_getElem? (i := 278) (by decide +kernel))
theorem w_279 : Cond.classLink "OmegaNets" 127 "java/lang/IllegalArgumentException" ∈ lw_tbl := List.mem_append_right _ (List.mem_of_getElem? (i := 279) (by decide +kernel))
theorem w_281 : Cond.castable "java/lang/IllegalArgumentException" "java/lang/IllegalArgumentException" ∈ lw_tbl := List.mem_append_right _ (List.mem_of_getElem? (i := 281) (by decide +kernel))
theorem w_295 : Cond.methodLink "OmegaNets" 69 ⟨"OmegaNets", "forgetTreeAndGoals", "()V"⟩ ∈ lw_tbl := List.mem_append_right _ (List.mem_of_getElem? (i := 295) (by decide +kernel))
theorem w_297 : Cond.instanceMethod ⟨"OmegaNets", "forgetTreeAndGoals", "()V"⟩ ∈ lw_tbl := List.mem_append_right _ (List.mem_of_getElem? (i := 297) (by decide +kernel))
theorem w_298 : Cond.code ⟨"OmegaNets", "forgetTreeAndGoals", "()V"⟩ prog_1_method_23_code 1 none ∈ lw_tbl := List.mem_append_right _ (List.mem_of_getElem? (i := 298) (by decide +kernel))
theorem w_299 : Cond.methodLink "OmegaNetsLaw" 99 ⟨"OmegaNetsLaw", "start", "(LOmegaNets;II[J)I"⟩ ∈ lw_tbl := List.mem_append_right _ (List.mem_of_getElem? (i := 299) (by decide +kernel))
theorem w_300 : Cond.static ⟨"OmegaNetsLaw", "start", "(LOmegaNets;II[J)I"⟩ ∈ lw_tbl := List.mem_append_right _ (List.mem_of_getElem? (i := 300) (by decide +kernel))
theorem w_301 : Cond.codeWith ⟨"OmegaNetsLaw", "start", "(LOmegaNets;II[J)I"⟩ method_4_code 5 (some .int) [(0, 10, 13, 13), (0, 10, 17, 15)] ∈ lw_tbl := List.mem_append_right _ (List.mem_of_getElem? (i := 301) (by decide +kernel))
theorem w_302 : Cond.methodLink "OmegaNetsLaw" 17 ⟨"OmegaNets", "start", "(II)I"⟩ ∈ lw_tbl := List.mem_append_right _ (List.mem_of_getElem? (i := 302) (by decide +kernel))
theorem w_303 : Cond.instanceMethod ⟨"OmegaNets", "start", "(II)I"⟩ ∈ lw_tbl := List.mem_append_right _ (List.mem_of_getElem? (i := 303) (by decide +kernel))
theorem w_304 : Cond.selects "OmegaNets" ⟨"OmegaNets", "start", "(II)I"⟩ ⟨"OmegaNets", "start", "(II)I"⟩ ∈ lw_tbl := List.mem_append_right _ (List.mem_of_getElem? (i := 304) (by decide +kernel))
theorem w_305 : Cond.code ⟨"OmegaNets", "start", "(II)I"⟩ prog_1_method_3_code 4 (some .int) ∈ lw_tbl := List.mem_append_right _ (List.mem_of_getElem? (i := 305) (by decide +kernel))
theorem w_306 : Cond.methodLink "OmegaNetsLaw" 103 ⟨"OmegaNetsLaw", "want", "(LOmegaNets;II[J)I"⟩ ∈ lw_tbl := List.mem_append_right _ (List.mem_of_getElem? (i := 306) (by decide +kernel))
theorem w_307 : Cond.static ⟨"OmegaNetsLaw", "want", "(LOmegaNets;II[J)I"⟩ ∈ lw_tbl := List.mem_append_right _ (List.mem_of_getElem? (i := 307) (by decide +kernel))
theorem w_308 : Cond.codeWith ⟨"OmegaNetsLaw", "want", "(LOmegaNets;II[J)I"⟩ method_5_code 5 (some .int) [(0, 10, 13, 13), (0, 10, 17, 15)] ∈ lw_tbl := List.mem_append_right _ (List.mem_of_getElem? (i := 308) (by decide +kernel))
theorem w_309 : Cond.methodLink "OmegaNetsLaw" 21 ⟨"OmegaNets", "want", "(II)I"⟩ ∈ lw_tbl := List.mem_append_right _ (List.mem_of_getElem? (i := 309) (by decide +kernel))
theorem w_310 : Cond.instanceMethod ⟨"OmegaNets", "want", "(II)I"⟩ ∈ lw_tbl := List.mem_append_right _ (List.mem_of_getElem? (i := 310) (by decide +kernel))
theorem w_311 : Cond.selects "OmegaNets" ⟨"OmegaNets", "want", "(II)I"⟩ ⟨"OmegaNets", "want", "(II)I"⟩ ∈ lw_tbl := List.mem_append_right _ (List.mem_of_getElem? (i := 311) (by decide +kernel))
theorem w_312 : Cond.code ⟨"OmegaNets", "want", "(II)I"⟩ prog_1_method_4_code 4 (some .int) ∈ lw_tbl := List.mem_append_right _ (List.mem_of_getElem? (i := 312) (by decide +kernel))
theorem w_313 : Cond.methodLink "OmegaNetsLaw" 106 ⟨"OmegaNetsLaw", "fire", "(LOmegaNets;I[J)I"⟩ ∈ lw_tbl := List.mem_append_right _ (List.mem_of_getElem? (i := 313) (by decide +kernel))
theorem w_314 : Cond.static ⟨"OmegaNetsLaw", "fire", "(LOmegaNets;I[J)I"⟩ ∈ lw_tbl := List.mem_append_right _ (List.mem_of_getElem? (i := 314) (by decide +kernel))
theorem w_315 : Cond.codeWith ⟨"OmegaNetsLaw", "fire", "(LOmegaNets;I[J)I"⟩ method_6_code 4 (some .int) [(0, 16, 19, 13)] ∈ lw_tbl := List.mem_append_right _ (List.mem_of_getElem? (i := 315) (by decide +kernel))
theorem w_316 : Cond.methodLink "OmegaNetsLaw" 24 ⟨"OmegaNets", "fire", "(I)Z"⟩ ∈ lw_tbl := List.mem_append_right _ (List.mem_of_getElem? (i := 316) (by decide +kernel))
theorem w_317 : Cond.instanceMethod ⟨"OmegaNets", "fire", "(I)Z"⟩ ∈ lw_tbl := List.mem_append_right _ (List.mem_of_getElem? (i := 317) (by decide +kernel))
theorem w_318 : Cond.selects "OmegaNets" ⟨"OmegaNets", "fire", "(I)Z"⟩ ⟨"OmegaNets", "fire", "(I)Z"⟩ ∈ lw_tbl := List.mem_append_right _ (List.mem_of_getElem? (i := 318) (by decide +kernel))
theorem w_319 : Cond.code ⟨"OmegaNets", "fire", "(I)Z"⟩ prog_1_method_5_code 2 (some .boolean) ∈ lw_tbl := List.mem_append_right _ (List.mem_of_getElem? (i := 319) (by decide +kernel))
theorem w_320 : Cond.methodLink "OmegaNets" 82 ⟨"OmegaNets$Net", "enables", "([II)Z"⟩ ∈ lw_tbl := List.mem_append_right _ (List.mem_of_getElem? (i := 320) (by decide +kernel))
theorem w_321 : Cond.instanceMethod ⟨"OmegaNets$Net", "enables", "([II)Z"⟩ ∈ lw_tbl := List.mem_append_right _ (List.mem_of_getElem? (i := 321) (by decide +kernel))
theorem w_322 : Cond.selects "OmegaNets$Net" ⟨"OmegaNets$Net", "enables", "([II)Z"⟩ ⟨"OmegaNets$Net", "enables", "([II)Z"⟩ ∈ lw_tbl := List.mem_append_right _ (List.mem_of_getElem? (i := 322) (by decide +kernel))
theorem w_323 : Cond.code ⟨"OmegaNets$Net", "enables", "([II)Z"⟩ prog_3_method_2_code 3 (some .boolean) ∈ lw_tbl := List.mem_append_right _ (List.mem_of_getElem? (i := 323) (by decide +kernel))
theorem w_324 : Cond.methodLinkNest "OmegaNets$Net" 30 ⟨"OmegaNets", "isBelow", "([I[I)Z"⟩ "OmegaNets" ∈ lw_tbl := List.mem_append_right _ (List.mem_of_getElem? (i := 324) (by decide +kernel))
theorem w_325 : Cond.static ⟨"OmegaNets", "isBelow", "([I[I)Z"⟩ ∈ lw_tbl := List.mem_append_right _ (List.mem_of_getElem? (i := 325) (by decide +kernel))
theorem w_326 : Cond.code ⟨"OmegaNets", "isBelow", "([I[I)Z"⟩ prog_1_method_34_code 3 (some .boolean) ∈ lw_tbl := List.mem_append_right _ (List.mem_of_getElem? (i := 326) (by decide +kernel))
theorem w_327 : Cond.methodLink "OmegaNets" 86 ⟨"OmegaNets$Net", "move", "([II[I)V"⟩ ∈ lw_tbl := List.mem_append_right _ (List.mem_of_getElem? (i := 327) (by decide +kernel))
theorem w_328 : Cond.instanceMethod ⟨"OmegaNets$Net", "move", "([II[I)V"⟩ ∈ lw_tbl := List.mem_append_right _ (List.mem_of_getElem? (i := 328) (by decide +kernel))
theorem w_329 : Cond.selects "OmegaNets$Net" ⟨"OmegaNets$Net", "move", "([II[I)V"⟩ ⟨"OmegaNets$Net", "move", "([II[I)V"⟩ ∈ lw_tbl := List.mem_append_right _ (List.mem_of_getElem? (i := 329) (by decide +kernel))
theorem w_330 : Cond.code ⟨"OmegaNets$Net", "move", "([II[I)V"⟩ prog_3_method_4_code 5 none ∈ lw_tbl := List.mem_append_right _ (List.mem_of_getElem? (i := 330) (by decide +kernel))
theorem w_331 : Cond.constant "OmegaNets$Net" 38 1000000000 ∈ lw_tbl := List.mem_append_right _ (List.mem_of_getElem? (i := 331) (by decide +kernel))
theorem w_332 : Cond.methodLink "OmegaNetsLaw" 110 ⟨"OmegaNetsLaw", "at", "(LOmegaNets;I[J)I"⟩ ∈ lw_tbl := List.mem_append_right _ (List.mem_of_getElem? (i := 332) (by decide +kernel))
theorem w_333 : Cond.static ⟨"OmegaNetsLaw", "at", "(LOmegaNets;I[J)I"⟩ ∈ lw_tbl := List.mem_append_right _ (List.mem_of_getElem? (i := 333) (by decide +kernel))
theorem w_334 : Cond.codeWith ⟨"OmegaNetsLaw", "at", "(LOmegaNets;I[J)I"⟩ method_7_code 4 (some .int) [(0, 9, 12, 13)] ∈ lw_tbl := List.mem_append_right _ (List.mem_of_getElem? (i := 334) (by decide +kernel))
theorem w_335 : Cond.methodLink "OmegaNetsLaw" 28 ⟨"OmegaNets", "at", "(I)I"⟩ ∈ lw_tbl := List.mem_append_right _ (List.mem_of_getElem? (i := 335) (by decide +kernel))
theorem w_336 : Cond.instanceMethod ⟨"OmegaNets", "at", "(I)I"⟩ ∈ lw_tbl := List.mem_append_right _ (List.mem_of_getElem? (i := 336) (by decide +kernel))
theorem w_337 : Cond.selects "OmegaNets" ⟨"OmegaNets", "at", "(I)I"⟩ ⟨"OmegaNets", "at", "(I)I"⟩ ∈ lw_tbl := List.mem_append_right _ (List.mem_of_getElem? (i := 337) (by decide +kernel))
theorem w_338 : Cond.code ⟨"OmegaNets", "at", "(I)I"⟩ prog_1_method_6_code 2 (some .int) ∈ lw_tbl := List.mem_append_right _ (List.mem_of_getElem? (i := 338) (by decide +kernel))
theorem w_339 : Cond.methodLink "OmegaNetsLaw" 117 ⟨"OmegaNetsLaw", "explore", "(LOmegaNets;[J)I"⟩ ∈ lw_tbl := List.mem_append_right _ (List.mem_of_getElem? (i := 339) (by decide +kernel))
theorem w_340 : Cond.static ⟨"OmegaNetsLaw", "explore", "(LOmegaNets;[J)I"⟩ ∈ lw_tbl := List.mem_append_right _ (List.mem_of_getElem? (i := 340) (by decide +kernel))
theorem w_341 : Cond.codeWith ⟨"OmegaNetsLaw", "explore", "(LOmegaNets;[J)I"⟩ method_8_code 3 (some .int) [(0, 8, 11, 36)] ∈ lw_tbl := List.mem_append_right _ (List.mem_of_getElem? (i := 341) (by decide +kernel))
theorem w_342 : Cond.classLink "OmegaNetsLaw" 36 "java/lang/IllegalStateException" ∈ lw_tbl := List.mem_append_right _ (List.mem_of_getElem? (i := 342) (by decide +kernel))
theorem w_343 : Cond.methodLink "OmegaNetsLaw" 32 ⟨"OmegaNets", "explore", "()I"⟩ ∈ lw_tbl := List.mem_append_right _ (List.mem_of_getElem? (i := 343) (by decide +kernel))
theorem w_344 : Cond.instanceMethod ⟨"OmegaNets", "explore", "()I"⟩ ∈ lw_tbl := List.mem_append_right _ (List.mem_of_getElem? (i := 344) (by decide +kernel))
theorem w_345 : Cond.selects "OmegaNets" ⟨"OmegaNets", "explore", "()I"⟩ ⟨"OmegaNets", "explore", "()I"⟩ ∈ lw_tbl := List.mem_append_right _ (List.mem_of_getElem? (i := 345) (by decide +kernel))
theorem w_346 : Cond.code ⟨"OmegaNets", "explore", "()I"⟩ prog_1_method_8_code 1 (some .int) ∈ lw_tbl := List.mem_append_right _ (List.mem_of_getElem? (i := 346) (by decide +kernel))
theorem w_347 : Cond.methodLink "OmegaNets" 90 ⟨"OmegaNets$Tree", "grow", "()V"⟩ ∈ lw_tbl := List.mem_append_right _ (List.mem_of_getElem? (i := 347) (by decide +kernel))
theorem w_348 : Cond.instanceMethod ⟨"OmegaNets$Tree", "grow", "()V"⟩ ∈ lw_tbl := List.mem_append_right _ (List.mem_of_getElem? (i := 348) (by decide +kernel))
theorem w_349 : Cond.selects "OmegaNets$Tree" ⟨"OmegaNets$Tree", "grow", "()V"⟩ ⟨"OmegaNets$Tree", "grow", "()V"⟩ ∈ lw_tbl := List.mem_append_right _ (List.mem_of_getElem? (i := 349) (by decide +kernel))
theorem w_350 : Cond.code ⟨"OmegaNets$Tree", "grow", "()V"⟩ prog_4_method_2_code 3 none ∈ lw_tbl := List.mem_append_right _ (List.mem_of_getElem? (i := 350) (by decide +kernel))
theorem w_351 : Cond.methodLink "OmegaNets$Tree" 47 ⟨"OmegaNets$Tree", "plant", "()V"⟩ ∈ lw_tbl := List.mem_append_right _ (List.mem_of_getElem? (i := 351) (by decide +kernel))
theorem w_353 : Cond.instanceMethod ⟨"OmegaNets$Tree", "plant", "()V"⟩ ∈ lw_tbl := List.mem_append_right _ (List.mem_of_getElem? (i := 353) (by decide +kernel))
theorem w_354 : Cond.code ⟨"OmegaNets$Tree", "plant", "()V"⟩ prog_4_method_3_code 1 none ∈ lw_tbl := List.mem_append_right _ (List.mem_of_getElem? (i := 354) (by decide +kernel))
theorem w_355 : Cond.methodLink "OmegaNets$Tree" 66 ⟨"java/lang/System", "arraycopy", "(Ljava/lang/Object;ILjava/lang/Object;II)V"⟩ ∈ lw_tbl := List.mem_append_right _ (List.mem_of_getElem? (i := 355) (by decide +kernel))
theorem w_356 : Cond.methodLink "OmegaNets$Tree" 53 ⟨"OmegaNets$Tree", "repeatsOneAbove", "(I)Z"⟩ ∈ lw_tbl := List.mem_append_right _ (List.mem_of_getElem? (i := 356) (by decide +kernel))
theorem w_358 : Cond.instanceMethod ⟨"OmegaNets$Tree", "repeatsOneAbove", "(I)Z"⟩ ∈ lw_tbl := List.mem_append_right _ (List.mem_of_getElem? (i := 358) (by decide +kernel))
theorem w_359 : Cond.code ⟨"OmegaNets$Tree", "repeatsOneAbove", "(I)Z"⟩ prog_4_method_4_code 4 (some .boolean) ∈ lw_tbl := List.mem_append_right _ (List.mem_of_getElem? (i := 359) (by decide +kernel))
theorem w_360 : Cond.methodLinkNest "OmegaNets$Tree" 72 ⟨"OmegaNets", "isSame", "([I[I)Z"⟩ "OmegaNets" ∈ lw_tbl := List.mem_append_right _ (List.mem_of_getElem? (i := 360) (by decide +kernel))
theorem w_361 : Cond.static ⟨"OmegaNets", "isSame", "([I[I)Z"⟩ ∈ lw_tbl := List.mem_append_right _ (List.mem_of_getElem? (i := 361) (by decide +kernel))
theorem w_362 : Cond.code ⟨"OmegaNets", "isSame", "([I[I)Z"⟩ prog_1_method_35_code 2 (some .boolean) ∈ lw_tbl := List.mem_append_right _ (List.mem_of_getElem? (i := 362) (by decide +kernel))
theorem w_363 : Cond.methodLink "OmegaNets" 225 ⟨"OmegaNets", "isBelow", "([I[I)Z"⟩ ∈ lw_tbl := List.mem_append_right _ (List.mem_of_getElem? (i := 363) (by decide +kernel))
theorem w_364 : Cond.methodLink "OmegaNets$Tree" 57 ⟨"OmegaNets$Tree", "branch", "(I)Z"⟩ ∈ lw_tbl := List.mem_append_right _ (List.mem_of_getElem? (i := 364) (by decide +kernel))
theorem w_366 : Cond.instanceMethod ⟨"OmegaNets$Tree", "branch", "(I)Z"⟩ ∈ lw_tbl := List.mem_append_right _ (List.mem_of_getElem? (i := 366) (by decide +kernel))
theorem w_367 : Cond.code ⟨"OmegaNets$Tree", "branch", "(I)Z"⟩ prog_4_method_5_code 3 (some .boolean) ∈ lw_tbl := List.mem_append_right _ (List.mem_of_getElem? (i := 367) (by decide +kernel))
theorem w_368 : Cond.methodLink "OmegaNets$Tree" 78 ⟨"OmegaNets$Net", "enables", "([II)Z"⟩ ∈ lw_tbl := List.mem_append_right _ (List.mem_of_getElem? (i := 368) (by decide +kernel))
theorem w_369 : Cond.methodLink "OmegaNets$Tree" 82 ⟨"OmegaNets$Tree", "addNode", "(II)V"⟩ ∈ lw_tbl := List.mem_append_right _ (List.mem_of_getElem? (i := 369) (by decide +kernel))
theorem w_371 : Cond.instanceMethod ⟨"OmegaNets$Tree", "addNode", "(II)V"⟩ ∈ lw_tbl := List.mem_append_right _ (List.mem_of_getElem? (i := 371) (by decide +kernel))
theorem w_372 : Cond.code ⟨"OmegaNets$Tree", "addNode", "(II)V"⟩ prog_4_method_6_code 4 none ∈ lw_tbl := List.mem_append_right _ (List.mem_of_getElem? (i := 372) (by decide +kernel))
theorem w_373 : Cond.methodLink "OmegaNets$Tree" 86 ⟨"OmegaNets$Net", "move", "([II[I)V"⟩ ∈ lw_tbl := List.mem_append_right _ (List.mem_of_getElem? (i := 373) (by decide +kernel))
theorem w_374 : Cond.methodLink "OmegaNets$Tree" 90 ⟨"OmegaNets$Tree", "lift", "(I)V"⟩ ∈ lw_tbl := List.mem_append_right _ (List.mem_of_getElem? (i := 374) (by decide +kernel))
theorem w_376 : Cond.instanceMethod ⟨"OmegaNets$Tree", "lift", "(I)V"⟩ ∈ lw_tbl := List.mem_append_right _ (List.mem_of_getElem? (i := 376) (by decide +kernel))
theorem w_377 : Cond.code ⟨"OmegaNets$Tree", "lift", "(I)V"⟩ prog_4_method_7_code 6 none ∈ lw_tbl := List.mem_append_right _ (List.mem_of_getElem? (i := 377) (by decide +kernel))
theorem w_378 : Cond.methodLink "OmegaNets$Tree" 94 ⟨"OmegaNets$Tree", "liftOver", "([I[I)Z"⟩ ∈ lw_tbl := List.mem_append_right _ (List.mem_of_getElem? (i := 378) (by decide +kernel))
theorem w_380 : Cond.instanceMethod ⟨"OmegaNets$Tree", "liftOver", "([I[I)Z"⟩ ∈ lw_tbl := List.mem_append_right _ (List.mem_of_getElem? (i := 380) (by decide +kernel))
theorem w_381 : Cond.code ⟨"OmegaNets$Tree", "liftOver", "([I[I)Z"⟩ prog_4_method_8_code 5 (some .boolean) ∈ lw_tbl := List.mem_append_right _ (List.mem_of_getElem? (i := 381) (by decide +kernel))
theorem w_382 : Cond.methodLinkNest "OmegaNets$Tree" 97 ⟨"OmegaNets", "isBelow", "([I[I)Z"⟩ "OmegaNets" ∈ lw_tbl := List.mem_append_right _ (List.mem_of_getElem? (i := 382) (by decide +kernel))
theorem w_383 : Cond.constant "OmegaNets$Tree" 100 1000000000 ∈ lw_tbl := List.mem_append_right _ (List.mem_of_getElem? (i := 383) (by decide +kernel))
theorem w_384 : Cond.methodLink "OmegaNets$Tree" 60 ⟨"OmegaNets$Tree", "findPeaks", "()V"⟩ ∈ lw_tbl := List.mem_append_right _ (List.mem_of_getElem? (i := 384) (by decide +kernel))
theorem w_386 : Cond.instanceMethod ⟨"OmegaNets$Tree", "findPeaks", "()V"⟩ ∈ lw_tbl := List.mem_append_right _ (List.mem_of_getElem? (i := 386) (by decide +kernel))
theorem w_387 : Cond.code ⟨"OmegaNets$Tree", "findPeaks", "()V"⟩ prog_4_method_9_code 2 none ∈ lw_tbl := List.mem_append_right _ (List.mem_of_getElem? (i := 387) (by decide +kernel))
theorem w_388 : Cond.methodLink "OmegaNets$Tree" 104 ⟨"OmegaNets$Tree", "isPeak", "(I)Z"⟩ ∈ lw_tbl := List.mem_append_right _ (List.mem_of_getElem? (i := 388) (by decide +kernel))
theorem w_390 : Cond.instanceMethod ⟨"OmegaNets$Tree", "isPeak", "(I)Z"⟩ ∈ lw_tbl := List.mem_append_right _ (List.mem_of_getElem? (i := 390) (by decide +kernel))
theorem w_391 : Cond.code ⟨"OmegaNets$Tree", "isPeak", "(I)Z"⟩ prog_4_method_10_code 4 (some .boolean) ∈ lw_tbl := List.mem_append_right _ (List.mem_of_getElem? (i := 391) (by decide +kernel))
theorem w_392 : Cond.classLink "OmegaNets" 94 "java/lang/IllegalStateException" ∈ lw_tbl := List.mem_append_right _ (List.mem_of_getElem? (i := 392) (by decide +kernel))
theorem w_394 : Cond.castable "java/lang/IllegalStateException" "java/lang/IllegalStateException" ∈ lw_tbl := List.mem_append_right _ (List.mem_of_getElem? (i := 394) (by decide +kernel))
theorem w_408 : Cond.methodLink "OmegaNetsLaw" 121 ⟨"OmegaNetsLaw", "count", "(LOmegaNets;II[J)I"⟩ ∈ lw_tbl := List.mem_append_right _ (List.mem_of_getElem? (i := 408) (by decide +kernel))
theorem w_409 : Cond.static ⟨"OmegaNetsLaw", "count", "(LOmegaNets;II[J)I"⟩ ∈ lw_tbl := List.mem_append_right _ (List.mem_of_getElem? (i := 409) (by decide +kernel))
theorem w_410 : Cond.codeWith ⟨"OmegaNetsLaw", "count", "(LOmegaNets;II[J)I"⟩ method_9_code 5 (some .int) [(0, 10, 13, 36), (0, 10, 17, 13)] ∈ lw_tbl := List.mem_append_right _ (List.mem_of_getElem? (i := 410) (by decide +kernel))
theorem w_411 : Cond.methodLink "OmegaNetsLaw" 38 ⟨"OmegaNets", "count", "(II)I"⟩ ∈ lw_tbl := List.mem_append_right _ (List.mem_of_getElem? (i := 411) (by decide +kernel))
theorem w_412 : Cond.instanceMethod ⟨"OmegaNets", "count", "(II)I"⟩ ∈ lw_tbl := List.mem_append_right _ (List.mem_of_getElem? (i := 412) (by decide +kernel))
theorem w_413 : Cond.selects "OmegaNets" ⟨"OmegaNets", "count", "(II)I"⟩ ⟨"OmegaNets", "count", "(II)I"⟩ ∈ lw_tbl := List.mem_append_right _ (List.mem_of_getElem? (i := 413) (by decide +kernel))
theorem w_414 : Cond.code ⟨"OmegaNets", "count", "(II)I"⟩ prog_1_method_9_code 3 (some .int) ∈ lw_tbl := List.mem_append_right _ (List.mem_of_getElem? (i := 414) (by decide +kernel))
theorem w_415 : Cond.methodLink "OmegaNets" 104 ⟨"OmegaNets", "checkTree", "()V"⟩ ∈ lw_tbl := List.mem_append_right _ (List.mem_of_getElem? (i := 415) (by decide +kernel))
theorem w_417 : Cond.instanceMethod ⟨"OmegaNets", "checkTree", "()V"⟩ ∈ lw_tbl := List.mem_append_right _ (List.mem_of_getElem? (i := 417) (by decide +kernel))
theorem w_418 : Cond.code ⟨"OmegaNets", "checkTree", "()V"⟩ prog_1_method_28_code 1 none ∈ lw_tbl := List.mem_append_right _ (List.mem_of_getElem? (i := 418) (by decide +kernel))
theorem w_420 : Cond.methodLink "OmegaNets" 107 ⟨"OmegaNets", "checkNode", "(I)V"⟩ ∈ lw_tbl := List.mem_append_right _ (List.mem_of_getElem? (i := 420) (by decide +kernel))
theorem w_422 : Cond.instanceMethod ⟨"OmegaNets", "checkNode", "(I)V"⟩ ∈ lw_tbl := List.mem_append_right _ (List.mem_of_getElem? (i := 422) (by decide +kernel))
theorem w_423 : Cond.code ⟨"OmegaNets", "checkNode", "(I)V"⟩ prog_1_method_27_code 2 none ∈ lw_tbl := List.mem_append_right _ (List.mem_of_getElem? (i := 423) (by decide +kernel))
theorem w_424 : Cond.methodLink "OmegaNets" 113 ⟨"OmegaNets", "shown", "(I)I"⟩ ∈ lw_tbl := List.mem_append_right _ (List.mem_of_getElem? (i := 424) (by decide +kernel))
theorem w_425 : Cond.static ⟨"OmegaNets", "shown", "(I)I"⟩ ∈ lw_tbl := List.mem_append_right _ (List.mem_of_getElem? (i := 425) (by decide +kernel))
theorem w_426 : Cond.code ⟨"OmegaNets", "shown", "(I)I"⟩ prog_1_method_33_code 1 (some .int) ∈ lw_tbl := List.mem_append_right _ (List.mem_of_getElem? (i := 426) (by decide +kernel))
theorem w_427 : Cond.constant "OmegaNets" 224 1000000000 ∈ lw_tbl := List.mem_append_right _ (List.mem_of_getElem? (i := 427) (by decide +kernel))
theorem w_428 : Cond.methodLink "OmegaNetsLaw" 124 ⟨"OmegaNetsLaw", "node", "(LOmegaNets;II[J)I"⟩ ∈ lw_tbl := List.mem_append_right _ (List.mem_of_getElem? (i := 428) (by decide +kernel))
theorem w_429 : Cond.static ⟨"OmegaNetsLaw", "node", "(LOmegaNets;II[J)I"⟩ ∈ lw_tbl := List.mem_append_right _ (List.mem_of_getElem? (i := 429) (by decide +kernel))
theorem w_430 : Cond.codeWith ⟨"OmegaNetsLaw", "node", "(LOmegaNets;II[J)I"⟩ method_10_code 5 (some .int) [(0, 10, 13, 36), (0, 10, 17, 13), (0, 10, 21, 15)] ∈ lw_tbl := List.mem_append_right _ (List.mem_of_getElem? (i := 430) (by decide +kernel))
theorem w_431 : Cond.methodLink "OmegaNetsLaw" 41 ⟨"OmegaNets", "node", "(II)I"⟩ ∈ lw_tbl := List.mem_append_right _ (List.mem_of_getElem? (i := 431) (by decide +kernel))
theorem w_432 : Cond.instanceMethod ⟨"OmegaNets", "node", "(II)I"⟩ ∈ lw_tbl := List.mem_append_right _ (List.mem_of_getElem? (i := 432) (by decide +kernel))
theorem w_433 : Cond.selects "OmegaNets" ⟨"OmegaNets", "node", "(II)I"⟩ ⟨"OmegaNets", "node", "(II)I"⟩ ∈ lw_tbl := List.mem_append_right _ (List.mem_of_getElem? (i := 433) (by decide +kernel))
theorem w_434 : Cond.code ⟨"OmegaNets", "node", "(II)I"⟩ prog_1_method_10_code 3 (some .int) ∈ lw_tbl := List.mem_append_right _ (List.mem_of_getElem? (i := 434) (by decide +kernel))
theorem w_436 : Cond.methodLink "OmegaNetsLaw" 127 ⟨"OmegaNetsLaw", "path", "(LOmegaNets;II[J)I"⟩ ∈ lw_tbl := List.mem_append_right _ (List.mem_of_getElem? (i := 436) (by decide +kernel))
theorem w_437 : Cond.static ⟨"OmegaNetsLaw", "path", "(LOmegaNets;II[J)I"⟩ ∈ lw_tbl := List.mem_append_right _ (List.mem_of_getElem? (i := 437) (by decide +kernel))
theorem w_438 : Cond.codeWith ⟨"OmegaNetsLaw", "path", "(LOmegaNets;II[J)I"⟩ method_11_code 5 (some .int) [(0, 10, 13, 36), (0, 10, 17, 13)] ∈ lw_tbl := List.mem_append_right _ (List.mem_of_getElem? (i := 438) (by decide +kernel))
theorem w_439 : Cond.methodLink "OmegaNetsLaw" 44 ⟨"OmegaNets", "path", "(II)I"⟩ ∈ lw_tbl := List.mem_append_right _ (List.mem_of_getElem? (i := 439) (by decide +kernel))
theorem w_440 : Cond.instanceMethod ⟨"OmegaNets", "path", "(II)I"⟩ ∈ lw_tbl := List.mem_append_right _ (List.mem_of_getElem? (i := 440) (by decide +kernel))
theorem w_441 : Cond.selects "OmegaNets" ⟨"OmegaNets", "path", "(II)I"⟩ ⟨"OmegaNets", "path", "(II)I"⟩ ∈ lw_tbl := List.mem_append_right _ (List.mem_of_getElem? (i := 441) (by decide +kernel))
theorem w_442 : Cond.code ⟨"OmegaNets", "path", "(II)I"⟩ prog_1_method_11_code 3 (some .int) ∈ lw_tbl := List.mem_append_right _ (List.mem_of_getElem? (i := 442) (by decide +kernel))
theorem w_443 : Cond.methodLink "OmegaNets" 138 ⟨"OmegaNets$Tree", "stepTo", "(II)I"⟩ ∈ lw_tbl := List.mem_append_right _ (List.mem_of_getElem? (i := 443) (by decide +kernel))
theorem w_444 : Cond.instanceMethod ⟨"OmegaNets$Tree", "stepTo", "(II)I"⟩ ∈ lw_tbl := List.mem_append_right _ (List.mem_of_getElem? (i := 444) (by decide +kernel))
theorem w_445 : Cond.selects "OmegaNets$Tree" ⟨"OmegaNets$Tree", "stepTo", "(II)I"⟩ ⟨"OmegaNets$Tree", "stepTo", "(II)I"⟩ ∈ lw_tbl := List.mem_append_right _ (List.mem_of_getElem? (i := 445) (by decide +kernel))
theorem w_446 : Cond.code ⟨"OmegaNets$Tree", "stepTo", "(II)I"⟩ prog_4_method_11_code 5 (some .int) ∈ lw_tbl := List.mem_append_right _ (List.mem_of_getElem? (i := 446) (by decide +kernel))
theorem w_447 : Cond.methodLink "OmegaNetsLaw" 130 ⟨"OmegaNetsLaw", "bound", "(LOmegaNets;I[J)I"⟩ ∈ lw_tbl := List.mem_append_right _ (List.mem_of_getElem? (i := 447) (by decide +kernel))
theorem w_448 : Cond.static ⟨"OmegaNetsLaw", "bound", "(LOmegaNets;I[J)I"⟩ ∈ lw_tbl := List.mem_append_right _ (List.mem_of_getElem? (i := 448) (by decide +kernel))
theorem w_449 : Cond.codeWith ⟨"OmegaNetsLaw", "bound", "(LOmegaNets;I[J)I"⟩ method_12_code 4 (some .int) [(0, 9, 12, 36), (0, 9, 15, 13)] ∈ lw_tbl := List.mem_append_right _ (List.mem_of_getElem? (i := 449) (by decide +kernel))
theorem w_450 : Cond.methodLink "OmegaNetsLaw" 47 ⟨"OmegaNets", "bound", "(I)I"⟩ ∈ lw_tbl := List.mem_append_right _ (List.mem_of_getElem? (i := 450) (by decide +kernel))
theorem w_451 : Cond.instanceMethod ⟨"OmegaNets", "bound", "(I)I"⟩ ∈ lw_tbl := List.mem_append_right _ (List.mem_of_getElem? (i := 451) (by decide +kernel))
theorem w_452 : Cond.selects "OmegaNets" ⟨"OmegaNets", "bound", "(I)I"⟩ ⟨"OmegaNets", "bound", "(I)I"⟩ ∈ lw_tbl := List.mem_append_right _ (List.mem_of_getElem? (i := 452) (by decide +kernel))
theorem w_453 : Cond.code ⟨"OmegaNets", "bound", "(I)I"⟩ prog_1_method_12_code 2 (some .int) ∈ lw_tbl := List.mem_append_right _ (List.mem_of_getElem? (i := 453) (by decide +kernel))
theorem w_454 : Cond.methodLink "OmegaNets" 142 ⟨"OmegaNets$Tree", "greatest", "(I)I"⟩ ∈ lw_tbl := List.mem_append_right _ (List.mem_of_getElem? (i := 454) (by decide +kernel))
theorem w_455 : Cond.instanceMethod ⟨"OmegaNets$Tree", "greatest", "(I)I"⟩ ∈ lw_tbl := List.mem_append_right _ (List.mem_of_getElem? (i := 455) (by decide +kernel))
theorem w_456 : Cond.selects "OmegaNets$Tree" ⟨"OmegaNets$Tree", "greatest", "(I)I"⟩ ⟨"OmegaNets$Tree", "greatest", "(I)I"⟩ ∈ lw_tbl := List.mem_append_right _ (List.mem_of_getElem? (i := 456) (by decide +kernel))
theorem w_457 : Cond.code ⟨"OmegaNets$Tree", "greatest", "(I)I"⟩ prog_4_method_12_code 4 (some .int) ∈ lw_tbl := List.mem_append_right _ (List.mem_of_getElem? (i := 457) (by decide +kernel))
theorem w_458 : Cond.methodLink "OmegaNets$Tree" 107 ⟨"java/lang/Math", "max", "(II)I"⟩ ∈ lw_tbl := List.mem_append_right _ (List.mem_of_getElem? (i := 458) (by decide +kernel))
theorem w_459 : Cond.methodLink "OmegaNetsLaw" 133 ⟨"OmegaNetsLaw", "tops", "(LOmegaNets;[J)I"⟩ ∈ lw_tbl := List.mem_append_right _ (List.mem_of_getElem? (i := 459) (by decide +kernel))
theorem w_460 : Cond.static ⟨"OmegaNetsLaw", "tops", "(LOmegaNets;[J)I"⟩ ∈ lw_tbl := List.mem_append_right _ (List.mem_of_getElem? (i := 460) (by decide +kernel))
theorem w_461 : Cond.codeWith ⟨"OmegaNetsLaw", "tops", "(LOmegaNets;[J)I"⟩ method_13_code 3 (some .int) [(0, 8, 11, 36)] ∈ lw_tbl := List.mem_append_right _ (List.mem_of_getElem? (i := 461) (by decide +kernel))
theorem w_462 : Cond.methodLink "OmegaNetsLaw" 50 ⟨"OmegaNets", "tops", "()I"⟩ ∈ lw_tbl := List.mem_append_right _ (List.mem_of_getElem? (i := 462) (by decide +kernel))
theorem w_463 : Cond.instanceMethod ⟨"OmegaNets", "tops", "()I"⟩ ∈ lw_tbl := List.mem_append_right _ (List.mem_of_getElem? (i := 463) (by decide +kernel))
theorem w_464 : Cond.selects "OmegaNets" ⟨"OmegaNets", "tops", "()I"⟩ ⟨"OmegaNets", "tops", "()I"⟩ ∈ lw_tbl := List.mem_append_right _ (List.mem_of_getElem? (i := 464) (by decide +kernel))
theorem w_465 : Cond.code ⟨"OmegaNets", "tops", "()I"⟩ prog_1_method_13_code 1 (some .int) ∈ lw_tbl := List.mem_append_right _ (List.mem_of_getElem? (i := 465) (by decide +kernel))
theorem w_466 : Cond.methodLink "OmegaNetsLaw" 136 ⟨"OmegaNetsLaw", "top", "(LOmegaNets;I[J)I"⟩ ∈ lw_tbl := List.mem_append_right _ (List.mem_of_getElem? (i := 466) (by decide +kernel))
theorem w_467 : Cond.static ⟨"OmegaNetsLaw", "top", "(LOmegaNets;I[J)I"⟩ ∈ lw_tbl := List.mem_append_right _ (List.mem_of_getElem? (i := 467) (by decide +kernel))
theorem w_468 : Cond.codeWith ⟨"OmegaNetsLaw", "top", "(LOmegaNets;I[J)I"⟩ method_14_code 4 (some .int) [(0, 9, 12, 36), (0, 9, 15, 13)] ∈ lw_tbl := List.mem_append_right _ (List.mem_of_getElem? (i := 468) (by decide +kernel))
theorem w_469 : Cond.methodLink "OmegaNetsLaw" 53 ⟨"OmegaNets", "top", "(I)I"⟩ ∈ lw_tbl := List.mem_append_right _ (List.mem_of_getElem? (i := 469) (by decide +kernel))
theorem w_470 : Cond.instanceMethod ⟨"OmegaNets", "top", "(I)I"⟩ ∈ lw_tbl := List.mem_append_right _ (List.mem_of_getElem? (i := 470) (by decide +kernel))
theorem w_471 : Cond.selects "OmegaNets" ⟨"OmegaNets", "top", "(I)I"⟩ ⟨"OmegaNets", "top", "(I)I"⟩ ∈ lw_tbl := List.mem_append_right _ (List.mem_of_getElem? (i := 471) (by decide +kernel))
theorem w_472 : Cond.code ⟨"OmegaNets", "top", "(I)I"⟩ prog_1_method_14_code 2 (some .int) ∈ lw_tbl := List.mem_append_right _ (List.mem_of_getElem? (i := 472) (by decide +kernel))
theorem w_473 : Cond.methodLink "OmegaNetsLaw" 139 ⟨"OmegaNetsLaw", "covered", "(LOmegaNets;[J)I"⟩ ∈ lw_tbl := List.mem_append_right _ (List.mem_of_getElem? (i := 473) (by decide +kernel))
theorem w_474 : Cond.static ⟨"OmegaNetsLaw", "covered", "(LOmegaNets;[J)I"⟩ ∈ lw_tbl := List.mem_append_right _ (List.mem_of_getElem? (i := 474) (by decide +kernel))
theorem w_475 : Cond.codeWith ⟨"OmegaNetsLaw", "covered", "(LOmegaNets;[J)I"⟩ method_15_code 3 (some .int) [(0, 15, 18, 36)] ∈ lw_tbl := List.mem_append_right _ (List.mem_of_getElem? (i := 475) (by decide +kernel))
theorem w_476 : Cond.methodLink "OmegaNetsLaw" 56 ⟨"OmegaNets", "covered", "()Z"⟩ ∈ lw_tbl := List.mem_append_right _ (List.mem_of_getElem? (i := 476) (by decide +kernel))
theorem w_477 : Cond.instanceMethod ⟨"OmegaNets", "covered", "()Z"⟩ ∈ lw_tbl := List.mem_append_right _ (List.mem_of_getElem? (i := 477) (by decide +kernel))
theorem w_478 : Cond.selects "OmegaNets" ⟨"OmegaNets", "covered", "()Z"⟩ ⟨"OmegaNets", "covered", "()Z"⟩ ∈ lw_tbl := List.mem_append_right _ (List.mem_of_getElem? (i := 478) (by decide +kernel))
theorem w_479 : Cond.code ⟨"OmegaNets", "covered", "()Z"⟩ prog_1_method_15_code 1 (some .boolean) ∈ lw_tbl := List.mem_append_right _ (List.mem_of_getElem? (i := 479) (by decide +kernel))
theorem w_480 : Cond.methodLink "OmegaNets" 151 ⟨"OmegaNets$Tree", "reachesAbove", "([I)Z"⟩ ∈ lw_tbl := List.mem_append_right _ (List.mem_of_getElem? (i := 480) (by decide +kernel))
theorem w_481 : Cond.instanceMethod ⟨"OmegaNets$Tree", "reachesAbove", "([I)Z"⟩ ∈ lw_tbl := List.mem_append_right _ (List.mem_of_getElem? (i := 481) (by decide +kernel))
theorem w_482 : Cond.selects "OmegaNets$Tree" ⟨"OmegaNets$Tree", "reachesAbove", "([I)Z"⟩ ⟨"OmegaNets$Tree", "reachesAbove", "([I)Z"⟩ ∈ lw_tbl := List.mem_append_right _ (List.mem_of_getElem? (i := 482) (by decide +kernel))
theorem w_483 : Cond.code ⟨"OmegaNets$Tree", "reachesAbove", "([I)Z"⟩ prog_4_method_13_code 3 (some .boolean) ∈ lw_tbl := List.mem_append_right _ (List.mem_of_getElem? (i := 483) (by decide +kernel))
theorem w_484 : Cond.methodLink "OmegaNetsLaw" 142 ⟨"OmegaNetsLaw", "lives", "(LOmegaNets;I[J)I"⟩ ∈ lw_tbl := List.mem_append_right _ (List.mem_of_getElem? (i := 484) (by decide +kernel))
theorem w_485 : Cond.static ⟨"OmegaNetsLaw", "lives", "(LOmegaNets;I[J)I"⟩ ∈ lw_tbl := List.mem_append_right _ (List.mem_of_getElem? (i := 485) (by decide +kernel))
theorem w_486 : Cond.codeWith ⟨"OmegaNetsLaw", "lives", "(LOmegaNets;I[J)I"⟩ method_16_code 4 (some .int) [(0, 16, 19, 36), (0, 16, 22, 13)] ∈ lw_tbl := List.mem_append_right _ (List.mem_of_getElem? (i := 486) (by decide +kernel))
theorem w_487 : Cond.methodLink "OmegaNetsLaw" 60 ⟨"OmegaNets", "lives", "(I)Z"⟩ ∈ lw_tbl := List.mem_append_right _ (List.mem_of_getElem? (i := 487) (by decide +kernel))
theorem w_488 : Cond.instanceMethod ⟨"OmegaNets", "lives", "(I)Z"⟩ ∈ lw_tbl := List.mem_append_right _ (List.mem_of_getElem? (i := 488) (by decide +kernel))
theorem w_489 : Cond.selects "OmegaNets" ⟨"OmegaNets", "lives", "(I)Z"⟩ ⟨"OmegaNets", "lives", "(I)Z"⟩ ∈ lw_tbl := List.mem_append_right _ (List.mem_of_getElem? (i := 489) (by decide +kernel))
theorem w_490 : Cond.code ⟨"OmegaNets", "lives", "(I)Z"⟩ prog_1_method_16_code 2 (some .boolean) ∈ lw_tbl := List.mem_append_right _ (List.mem_of_getElem? (i := 490) (by decide +kernel))
theorem w_491 : Cond.methodLink "OmegaNets" 155 ⟨"OmegaNets$Tree", "everEnables", "(I)Z"⟩ ∈ lw_tbl := List.mem_append_right _ (List.mem_of_getElem? (i := 491) (by decide +kernel))
theorem w_492 : Cond.instanceMethod ⟨"OmegaNets$Tree", "everEnables", "(I)Z"⟩ ∈ lw_tbl := List.mem_append_right _ (List.mem_of_getElem? (i := 492) (by decide +kernel))
theorem w_493 : Cond.selects "OmegaNets$Tree" ⟨"OmegaNets$Tree", "everEnables", "(I)Z"⟩ ⟨"OmegaNets$Tree", "everEnables", "(I)Z"⟩ ∈ lw_tbl := List.mem_append_right _ (List.mem_of_getElem? (i := 493) (by decide +kernel))
theorem w_494 : Cond.code ⟨"OmegaNets$Tree", "everEnables", "(I)Z"⟩ prog_4_method_14_code 2 (some .boolean) ∈ lw_tbl := List.mem_append_right _ (List.mem_of_getElem? (i := 494) (by decide +kernel))
theorem w_495 : Cond.methodLink "OmegaNets$Tree" 116 ⟨"OmegaNets$Tree", "reachesAbove", "([I)Z"⟩ ∈ lw_tbl := List.mem_append_right _ (List.mem_of_getElem? (i := 495) (by decide +kernel))
theorem w_496 : Cond.methodLink "OmegaNetsLaw" 145 ⟨"OmegaNetsLaw", "dead", "(LOmegaNets;[J)I"⟩ ∈ lw_tbl := List.mem_append_right _ (List.mem_of_getElem? (i := 496) (by decide +kernel))
theorem w_497 : Cond.static ⟨"OmegaNetsLaw", "dead", "(LOmegaNets;[J)I"⟩ ∈ lw_tbl := List.mem_append_right _ (List.mem_of_getElem? (i := 497) (by decide +kernel))
theorem w_498 : Cond.codeWith ⟨"OmegaNetsLaw", "dead", "(LOmegaNets;[J)I"⟩ method_17_code 3 (some .int) [(0, 8, 11, 36)] ∈ lw_tbl := List.mem_append_right _ (List.mem_of_getElem? (i := 498) (by decide +kernel))
theorem w_499 : Cond.methodLink "OmegaNetsLaw" 63 ⟨"OmegaNets", "dead", "()I"⟩ ∈ lw_tbl := List.mem_append_right _ (List.mem_of_getElem? (i := 499) (by decide +kernel))
theorem w_500 : Cond.instanceMethod ⟨"OmegaNets", "dead", "()I"⟩ ∈ lw_tbl := List.mem_append_right _ (List.mem_of_getElem? (i := 500) (by decide +kernel))
theorem w_501 : Cond.selects "OmegaNets" ⟨"OmegaNets", "dead", "()I"⟩ ⟨"OmegaNets", "dead", "()I"⟩ ∈ lw_tbl := List.mem_append_right _ (List.mem_of_getElem? (i := 501) (by decide +kernel))
theorem w_502 : Cond.code ⟨"OmegaNets", "dead", "()I"⟩ prog_1_method_17_code 1 (some .int) ∈ lw_tbl := List.mem_append_right _ (List.mem_of_getElem? (i := 502) (by decide +kernel))
theorem w_503 : Cond.methodLink "OmegaNets" 159 ⟨"OmegaNets$Tree", "firstStuck", "()I"⟩ ∈ lw_tbl := List.mem_append_right _ (List.mem_of_getElem? (i := 503) (by decide +kernel))
theorem w_504 : Cond.instanceMethod ⟨"OmegaNets$Tree", "firstStuck", "()I"⟩ ∈ lw_tbl := List.mem_append_right _ (List.mem_of_getElem? (i := 504) (by decide +kernel))
theorem w_505 : Cond.selects "OmegaNets$Tree" ⟨"OmegaNets$Tree", "firstStuck", "()I"⟩ ⟨"OmegaNets$Tree", "firstStuck", "()I"⟩ ∈ lw_tbl := List.mem_append_right _ (List.mem_of_getElem? (i := 505) (by decide +kernel))
theorem w_506 : Cond.code ⟨"OmegaNets$Tree", "firstStuck", "()I"⟩ prog_4_method_15_code 2 (some .int) ∈ lw_tbl := List.mem_append_right _ (List.mem_of_getElem? (i := 506) (by decide +kernel))
theorem w_507 : Cond.methodLink "OmegaNets$Tree" 120 ⟨"OmegaNets$Net", "isStuck", "([I)Z"⟩ ∈ lw_tbl := List.mem_append_right _ (List.mem_of_getElem? (i := 507) (by decide +kernel))
theorem w_508 : Cond.instanceMethod ⟨"OmegaNets$Net", "isStuck", "([I)Z"⟩ ∈ lw_tbl := List.mem_append_right _ (List.mem_of_getElem? (i := 508) (by decide +kernel))
theorem w_509 : Cond.selects "OmegaNets$Net" ⟨"OmegaNets$Net", "isStuck", "([I)Z"⟩ ⟨"OmegaNets$Net", "isStuck", "([I)Z"⟩ ∈ lw_tbl := List.mem_append_right _ (List.mem_of_getElem? (i := 509) (by decide +kernel))
theorem w_510 : Cond.code ⟨"OmegaNets$Net", "isStuck", "([I)Z"⟩ prog_3_method_3_code 3 (some .boolean) ∈ lw_tbl := List.mem_append_right _ (List.mem_of_getElem? (i := 510) (by decide +kernel))
theorem w_511 : Cond.methodLink "OmegaNets$Net" 34 ⟨"OmegaNets$Net", "enables", "([II)Z"⟩ ∈ lw_tbl := List.mem_append_right _ (List.mem_of_getElem? (i := 511) (by decide +kernel))
theorem w_512 : Cond.methodLink "OmegaNetsLaw" 148 ⟨"OmegaNetsLaw", "back", "(LOmegaNets;[J)I"⟩ ∈ lw_tbl := List.mem_append_right _ (List.mem_of_getElem? (i := 512) (by decide +kernel))
theorem w_513 : Cond.static ⟨"OmegaNetsLaw", "back", "(LOmegaNets;[J)I"⟩ ∈ lw_tbl := List.mem_append_right _ (List.mem_of_getElem? (i := 513) (by decide +kernel))
theorem w_514 : Cond.codeWith ⟨"OmegaNetsLaw", "back", "(LOmegaNets;[J)I"⟩ method_18_code 3 (some .int) [(0, 8, 11, 36)] ∈ lw_tbl := List.mem_append_right _ (List.mem_of_getElem? (i := 514) (by decide +kernel))
theorem w_515 : Cond.methodLink "OmegaNetsLaw" 66 ⟨"OmegaNets", "back", "()I"⟩ ∈ lw_tbl := List.mem_append_right _ (List.mem_of_getElem? (i := 515) (by decide +kernel))
theorem w_516 : Cond.instanceMethod ⟨"OmegaNets", "back", "()I"⟩ ∈ lw_tbl := List.mem_append_right _ (List.mem_of_getElem? (i := 516) (by decide +kernel))
theorem w_517 : Cond.selects "OmegaNets" ⟨"OmegaNets", "back", "()I"⟩ ⟨"OmegaNets", "back", "()I"⟩ ∈ lw_tbl := List.mem_append_right _ (List.mem_of_getElem? (i := 517) (by decide +kernel))
theorem w_518 : Cond.code ⟨"OmegaNets", "back", "()I"⟩ prog_1_method_18_code 1 (some .int) ∈ lw_tbl := List.mem_append_right _ (List.mem_of_getElem? (i := 518) (by decide +kernel))
theorem w_519 : Cond.methodLink "OmegaNets" 163 ⟨"OmegaNets$Goals", "gather", "([I)V"⟩ ∈ lw_tbl := List.mem_append_right _ (List.mem_of_getElem? (i := 519) (by decide +kernel))
theorem w_520 : Cond.instanceMethod ⟨"OmegaNets$Goals", "gather", "([I)V"⟩ ∈ lw_tbl := List.mem_append_right _ (List.mem_of_getElem? (i := 520) (by decide +kernel))
theorem w_521 : Cond.selects "OmegaNets$Goals" ⟨"OmegaNets$Goals", "gather", "([I)V"⟩ ⟨"OmegaNets$Goals", "gather", "([I)V"⟩ ∈ lw_tbl := List.mem_append_right _ (List.mem_of_getElem? (i := 521) (by decide +kernel))
theorem w_522 : Cond.code ⟨"OmegaNets$Goals", "gather", "([I)V"⟩ prog_2_method_2_code 4 none ∈ lw_tbl := List.mem_append_right _ (List.mem_of_getElem? (i := 522) (by decide +kernel))
theorem w_523 : Cond.methodLink "OmegaNets$Goals" 47 ⟨"OmegaNets$Goals", "plant", "([I)V"⟩ ∈ lw_tbl := List.mem_append_right _ (List.mem_of_getElem? (i := 523) (by decide +kernel))
theorem w_525 : Cond.instanceMethod ⟨"OmegaNets$Goals", "plant", "([I)V"⟩ ∈ lw_tbl := List.mem_append_right _ (List.mem_of_getElem? (i := 525) (by decide +kernel))
theorem w_526 : Cond.code ⟨"OmegaNets$Goals", "plant", "([I)V"⟩ prog_2_method_3_code 2 none ∈ lw_tbl := List.mem_append_right _ (List.mem_of_getElem? (i := 526) (by decide +kernel))
theorem w_527 : Cond.methodLink "OmegaNets$Goals" 58 ⟨"java/lang/System", "arraycopy", "(Ljava/lang/Object;ILjava/lang/Object;II)V"⟩ ∈ lw_tbl := List.mem_append_right _ (List.mem_of_getElem? (i := 527) (by decide +kernel))
theorem w_528 : Cond.methodLink "OmegaNets$Goals" 54 ⟨"OmegaNets$Goals", "goBack", "(I)Z"⟩ ∈ lw_tbl := List.mem_append_right _ (List.mem_of_getElem? (i := 528) (by decide +kernel))
theorem w_530 : Cond.instanceMethod ⟨"OmegaNets$Goals", "goBack", "(I)Z"⟩ ∈ lw_tbl := List.mem_append_right _ (List.mem_of_getElem? (i := 530) (by decide +kernel))
theorem w_531 : Cond.code ⟨"OmegaNets$Goals", "goBack", "(I)Z"⟩ prog_2_method_4_code 3 (some .boolean) ∈ lw_tbl := List.mem_append_right _ (List.mem_of_getElem? (i := 531) (by decide +kernel))
theorem w_532 : Cond.methodLink "OmegaNets$Goals" 66 ⟨"OmegaNets$Net", "moveBack", "([II[I)V"⟩ ∈ lw_tbl := List.mem_append_right _ (List.mem_of_getElem? (i := 532) (by decide +kernel))
theorem w_533 : Cond.instanceMethod ⟨"OmegaNets$Net", "moveBack", "([II[I)V"⟩ ∈ lw_tbl := List.mem_append_right _ (List.mem_of_getElem? (i := 533) (by decide +kernel))
theorem w_534 : Cond.selects "OmegaNets$Net" ⟨"OmegaNets$Net", "moveBack", "([II[I)V"⟩ ⟨"OmegaNets$Net", "moveBack", "([II[I)V"⟩ ∈ lw_tbl := List.mem_append_right _ (List.mem_of_getElem? (i := 534) (by decide +kernel))
theorem w_535 : Cond.code ⟨"OmegaNets$Net", "moveBack", "([II[I)V"⟩ prog_3_method_5_code 5 none ∈ lw_tbl := List.mem_append_right _ (List.mem_of_getElem? (i := 535) (by decide +kernel))
theorem w_536 : Cond.methodLink "OmegaNets$Net" 39 ⟨"java/lang/Math", "max", "(II)I"⟩ ∈ lw_tbl := List.mem_append_right _ (List.mem_of_getElem? (i := 536) (by decide +kernel))
theorem w_537 : Cond.methodLink "OmegaNets$Goals" 70 ⟨"OmegaNets$Goals", "isKnown", "([I)Z"⟩ ∈ lw_tbl := List.mem_append_right _ (List.mem_of_getElem? (i := 537) (by decide +kernel))
theorem w_539 : Cond.instanceMethod ⟨"OmegaNets$Goals", "isKnown", "([I)Z"⟩ ∈ lw_tbl := List.mem_append_right _ (List.mem_of_getElem? (i := 539) (by decide +kernel))
theorem w_540 : Cond.code ⟨"OmegaNets$Goals", "isKnown", "([I)Z"⟩ prog_2_method_5_code 3 (some .boolean) ∈ lw_tbl := List.mem_append_right _ (List.mem_of_getElem? (i := 540) (by decide +kernel))
theorem w_541 : Cond.methodLinkNest "OmegaNets$Goals" 78 ⟨"OmegaNets", "isBelow", "([I[I)Z"⟩ "OmegaNets" ∈ lw_tbl := List.mem_append_right _ (List.mem_of_getElem? (i := 541) (by decide +kernel))
theorem w_542 : Cond.methodLink "OmegaNets$Goals" 74 ⟨"OmegaNets$Goals", "addCandidate", "(II)V"⟩ ∈ lw_tbl := List.mem_append_right _ (List.mem_of_getElem? (i := 542) (by decide +kernel))
theorem w_544 : Cond.instanceMethod ⟨"OmegaNets$Goals", "addCandidate", "(II)V"⟩ ∈ lw_tbl := List.mem_append_right _ (List.mem_of_getElem? (i := 544) (by decide +kernel))
theorem w_545 : Cond.code ⟨"OmegaNets$Goals", "addCandidate", "(II)V"⟩ prog_2_method_6_code 4 none ∈ lw_tbl := List.mem_append_right _ (List.mem_of_getElem? (i := 545) (by decide +kernel))
theorem w_547 : Cond.methodLink "OmegaNets" 169 ⟨"OmegaNets$Goals", "keptCount", "()I"⟩ ∈ lw_tbl := List.mem_append_right _ (List.mem_of_getElem? (i := 547) (by decide +kernel))
theorem w_548 : Cond.instanceMethod ⟨"OmegaNets$Goals", "keptCount", "()I"⟩ ∈ lw_tbl := List.mem_append_right _ (List.mem_of_getElem? (i := 548) (by decide +kernel))
theorem w_549 : Cond.selects "OmegaNets$Goals" ⟨"OmegaNets$Goals", "keptCount", "()I"⟩ ⟨"OmegaNets$Goals", "keptCount", "()I"⟩ ∈ lw_tbl := List.mem_append_right _ (List.mem_of_getElem? (i := 549) (by decide +kernel))
theorem w_550 : Cond.code ⟨"OmegaNets$Goals", "keptCount", "()I"⟩ prog_2_method_7_code 3 (some .int) ∈ lw_tbl := List.mem_append_right _ (List.mem_of_getElem? (i := 550) (by decide +kernel))
theorem w_551 : Cond.methodLink "OmegaNetsLaw" 151 ⟨"OmegaNetsLaw", "goal", "(LOmegaNets;II[J)I"⟩ ∈ lw_tbl := List.mem_append_right _ (List.mem_of_getElem? (i := 551) (by decide +kernel))
theorem w_552 : Cond.static ⟨"OmegaNetsLaw", "goal", "(LOmegaNets;II[J)I"⟩ ∈ lw_tbl := List.mem_append_right _ (List.mem_of_getElem? (i := 552) (by decide +kernel))
theorem w_553 : Cond.codeWith ⟨"OmegaNetsLaw", "goal", "(LOmegaNets;II[J)I"⟩ method_19_code 5 (some .int) [(0, 10, 13, 36), (0, 10, 17, 13)] ∈ lw_tbl := List.mem_append_right _ (List.mem_of_getElem? (i := 553) (by decide +kernel))
theorem w_554 : Cond.methodLink "OmegaNetsLaw" 69 ⟨"OmegaNets", "goal", "(II)I"⟩ ∈ lw_tbl := List.mem_append_right _ (List.mem_of_getElem? (i := 554) (by decide +kernel))
theorem w_555 : Cond.instanceMethod ⟨"OmegaNets", "goal", "(II)I"⟩ ∈ lw_tbl := List.mem_append_right _ (List.mem_of_getElem? (i := 555) (by decide +kernel))
theorem w_556 : Cond.selects "OmegaNets" ⟨"OmegaNets", "goal", "(II)I"⟩ ⟨"OmegaNets", "goal", "(II)I"⟩ ∈ lw_tbl := List.mem_append_right _ (List.mem_of_getElem? (i := 556) (by decide +kernel))
theorem w_557 : Cond.code ⟨"OmegaNets", "goal", "(II)I"⟩ prog_1_method_19_code 4 (some .int) ∈ lw_tbl := List.mem_append_right _ (List.mem_of_getElem? (i := 557) (by decide +kernel))
theorem w_558 : Cond.methodLink "OmegaNets" 172 ⟨"OmegaNets", "checkGoals", "()V"⟩ ∈ lw_tbl := List.mem_append_right _ (List.mem_of_getElem? (i := 558) (by decide +kernel))
theorem w_560 : Cond.instanceMethod ⟨"OmegaNets", "checkGoals", "()V"⟩ ∈ lw_tbl := List.mem_append_right _ (List.mem_of_getElem? (i := 560) (by decide +kernel))
theorem w_561 : Cond.code ⟨"OmegaNets", "checkGoals", "()V"⟩ prog_1_method_29_code 1 none ∈ lw_tbl := List.mem_append_right _ (List.mem_of_getElem? (i := 561) (by decide +kernel))
theorem w_563 : Cond.methodLink "OmegaNets" 175 ⟨"OmegaNets$Goals", "kept", "(I)I"⟩ ∈ lw_tbl := List.mem_append_right _ (List.mem_of_getElem? (i := 563) (by decide +kernel))
theorem w_564 : Cond.instanceMethod ⟨"OmegaNets$Goals", "kept", "(I)I"⟩ ∈ lw_tbl := List.mem_append_right _ (List.mem_of_getElem? (i := 564) (by decide +kernel))
theorem w_565 : Cond.selects "OmegaNets$Goals" ⟨"OmegaNets$Goals", "kept", "(I)I"⟩ ⟨"OmegaNets$Goals", "kept", "(I)I"⟩ ∈ lw_tbl := List.mem_append_right _ (List.mem_of_getElem? (i := 565) (by decide +kernel))
theorem w_566 : Cond.code ⟨"OmegaNets$Goals", "kept", "(I)I"⟩ prog_2_method_8_code 4 (some .int) ∈ lw_tbl := List.mem_append_right _ (List.mem_of_getElem? (i := 566) (by decide +kernel))
theorem w_568 : Cond.methodLink "OmegaNetsLaw" 154 ⟨"OmegaNetsLaw", "length", "(LOmegaNets;[J)I"⟩ ∈ lw_tbl := List.mem_append_right _ (List.mem_of_getElem? (i := 568) (by decide +kernel))
theorem w_569 : Cond.static ⟨"OmegaNetsLaw", "length", "(LOmegaNets;[J)I"⟩ ∈ lw_tbl := List.mem_append_right _ (List.mem_of_getElem? (i := 569) (by decide +kernel))
theorem w_570 : Cond.codeWith ⟨"OmegaNetsLaw", "length", "(LOmegaNets;[J)I"⟩ method_20_code 3 (some .int) [(0, 8, 11, 36), (0, 8, 14, 75)] ∈ lw_tbl := List.mem_append_right _ (List.mem_of_getElem? (i := 570) (by decide +kernel))
theorem w_571 : Cond.classLink "OmegaNetsLaw" 75 "java/lang/UnsupportedOperationException" ∈ lw_tbl := List.mem_append_right _ (List.mem_of_getElem? (i := 571) (by decide +kernel))
theorem w_572 : Cond.methodLink "OmegaNetsLaw" 72 ⟨"OmegaNets", "length", "()I"⟩ ∈ lw_tbl := List.mem_append_right _ (List.mem_of_getElem? (i := 572) (by decide +kernel))
theorem w_573 : Cond.instanceMethod ⟨"OmegaNets", "length", "()I"⟩ ∈ lw_tbl := List.mem_append_right _ (List.mem_of_getElem? (i := 573) (by decide +kernel))
theorem w_574 : Cond.selects "OmegaNets" ⟨"OmegaNets", "length", "()I"⟩ ⟨"OmegaNets", "length", "()I"⟩ ∈ lw_tbl := List.mem_append_right _ (List.mem_of_getElem? (i := 574) (by decide +kernel))
theorem w_575 : Cond.code ⟨"OmegaNets", "length", "()I"⟩ prog_1_method_20_code 1 (some .int) ∈ lw_tbl := List.mem_append_right _ (List.mem_of_getElem? (i := 575) (by decide +kernel))
theorem w_576 : Cond.methodLink "OmegaNets" 185 ⟨"OmegaNets", "goalBelowStart", "()I"⟩ ∈ lw_tbl := List.mem_append_right _ (List.mem_of_getElem? (i := 576) (by decide +kernel))
theorem w_578 : Cond.instanceMethod ⟨"OmegaNets", "goalBelowStart", "()I"⟩ ∈ lw_tbl := List.mem_append_right _ (List.mem_of_getElem? (i := 578) (by decide +kernel))
theorem w_579 : Cond.code ⟨"OmegaNets", "goalBelowStart", "()I"⟩ prog_1_method_24_code 2 (some .int) ∈ lw_tbl := List.mem_append_right _ (List.mem_of_getElem? (i := 579) (by decide +kernel))
theorem w_580 : Cond.methodLink "OmegaNets" 197 ⟨"OmegaNets$Goals", "firstBelow", "([I)I"⟩ ∈ lw_tbl := List.mem_append_right _ (List.mem_of_getElem? (i := 580) (by decide +kernel))
theorem w_581 : Cond.instanceMethod ⟨"OmegaNets$Goals", "firstBelow", "([I)I"⟩ ∈ lw_tbl := List.mem_append_right _ (List.mem_of_getElem? (i := 581) (by decide +kernel))
theorem w_582 : Cond.selects "OmegaNets$Goals" ⟨"OmegaNets$Goals", "firstBelow", "([I)I"⟩ ⟨"OmegaNets$Goals", "firstBelow", "([I)I"⟩ ∈ lw_tbl := List.mem_append_right _ (List.mem_of_getElem? (i := 582) (by decide +kernel))
theorem w_583 : Cond.code ⟨"OmegaNets$Goals", "firstBelow", "([I)I"⟩ prog_2_method_9_code 3 (some .int) ∈ lw_tbl := List.mem_append_right _ (List.mem_of_getElem? (i := 583) (by decide +kernel))
theorem w_584 : Cond.classLink "OmegaNets" 201 "java/lang/UnsupportedOperationException" ∈ lw_tbl := List.mem_append_right _ (List.mem_of_getElem? (i := 584) (by decide +kernel))
theorem w_586 : Cond.castable "java/lang/UnsupportedOperationException" "java/lang/UnsupportedOperationException" ∈ lw_tbl := List.mem_append_right _ (List.mem_of_getElem? (i := 586) (by decide +kernel))
theorem w_600 : Cond.methodLink "OmegaNetsLaw" 157 ⟨"OmegaNetsLaw", "way", "(LOmegaNets;I[J)I"⟩ ∈ lw_tbl := List.mem_append_right _ (List.mem_of_getElem? (i := 600) (by decide +kernel))
theorem w_601 : Cond.static ⟨"OmegaNetsLaw", "way", "(LOmegaNets;I[J)I"⟩ ∈ lw_tbl := List.mem_append_right _ (List.mem_of_getElem? (i := 601) (by decide +kernel))
theorem w_602 : Cond.codeWith ⟨"OmegaNetsLaw", "way", "(LOmegaNets;I[J)I"⟩ method_21_code 4 (some .int) [(0, 9, 12, 36), (0, 9, 15, 75), (0, 9, 18, 13)] ∈ lw_tbl := List.mem_append_right _ (List.mem_of_getElem? (i := 602) (by decide +kernel))
theorem w_603 : Cond.methodLink "OmegaNetsLaw" 77 ⟨"OmegaNets", "way", "(I)I"⟩ ∈ lw_tbl := List.mem_append_right _ (List.mem_of_getElem? (i := 603) (by decide +kernel))
theorem w_604 : Cond.instanceMethod ⟨"OmegaNets", "way", "(I)I"⟩ ∈ lw_tbl := List.mem_append_right _ (List.mem_of_getElem? (i := 604) (by decide +kernel))
theorem w_605 : Cond.selects "OmegaNets" ⟨"OmegaNets", "way", "(I)I"⟩ ⟨"OmegaNets", "way", "(I)I"⟩ ∈ lw_tbl := List.mem_append_right _ (List.mem_of_getElem? (i := 605) (by decide +kernel))
theorem w_606 : Cond.code ⟨"OmegaNets", "way", "(I)I"⟩ prog_1_method_21_code 3 (some .int) ∈ lw_tbl := List.mem_append_right _ (List.mem_of_getElem? (i := 606) (by decide +kernel))
theorem w_607 : Cond.methodLink "OmegaNets" 188 ⟨"OmegaNets$Goals", "stepFrom", "(II)I"⟩ ∈ lw_tbl := List.mem_append_right _ (List.mem_of_getElem? (i := 607) (by decide +kernel))
theorem w_608 : Cond.instanceMethod ⟨"OmegaNets$Goals", "stepFrom", "(II)I"⟩ ∈ lw_tbl := List.mem_append_right _ (List.mem_of_getElem? (i := 608) (by decide +kernel))
theorem w_609 : Cond.selects "OmegaNets$Goals" ⟨"OmegaNets$Goals", "stepFrom", "(II)I"⟩ ⟨"OmegaNets$Goals", "stepFrom", "(II)I"⟩ ∈ lw_tbl := List.mem_append_right _ (List.mem_of_getElem? (i := 609) (by decide +kernel))
theorem w_610 : Cond.code ⟨"OmegaNets$Goals", "stepFrom", "(II)I"⟩ prog_2_method_10_code 5 (some .int) ∈ lw_tbl := List.mem_append_right _ (List.mem_of_getElem? (i := 610) (by decide +kernel))
theorem w_611 : Cond.classLink "OmegaNetsLaw" 89 "OmegaNetsModel" ∈ lw_tbl := List.mem_append_right _ (List.mem_of_getElem? (i := 611) (by decide +kernel))
theorem w_613 : Cond.methodLink "OmegaNetsLaw" 91 ⟨"OmegaNetsModel", "<init>", "(II)V"⟩ ∈ lw_tbl := List.mem_append_right _ (List.mem_of_getElem? (i := 613) (by decide +kernel))
theorem w_614 : Cond.instanceMethod ⟨"OmegaNetsModel", "<init>", "(II)V"⟩ ∈ lw_tbl := List.mem_append_right _ (List.mem_of_getElem? (i := 614) (by decide +kernel))
theorem w_615 : Cond.code ⟨"OmegaNetsModel", "<init>", "(II)V"⟩ prog_6_method_1_code 3 none ∈ lw_tbl := List.mem_append_right _ (List.mem_of_getElem? (i := 615) (by decide +kernel))
theorem w_616 : Cond.methodLink "OmegaNetsModel" 1 ⟨"java/lang/Object", "<init>", "()V"⟩ ∈ lw_tbl := List.mem_append_right _ (List.mem_of_getElem? (i := 616) (by decide +kernel))
theorem w_617 : Cond.fieldLink "OmegaNetsModel" 57 "OmegaNetsModel" "thrown" "I" ∈ lw_tbl := List.mem_append_right _ (List.mem_of_getElem? (i := 617) (by decide +kernel))
theorem w_618 : Cond.fieldLink "OmegaNetsModel" 50 "OmegaNetsModel" "places" "I" ∈ lw_tbl := List.mem_append_right _ (List.mem_of_getElem? (i := 618) (by decide +kernel))
theorem w_619 : Cond.fieldLink "OmegaNetsModel" 54 "OmegaNetsModel" "transitions" "I" ∈ lw_tbl := List.mem_append_right _ (List.mem_of_getElem? (i := 619) (by decide +kernel))
theorem w_620 : Cond.fieldLink "OmegaNetsModel" 7 "OmegaNetsModel" "needs" "[I" ∈ lw_tbl := List.mem_append_right _ (List.mem_of_getElem? (i := 620) (by decide +kernel))
theorem w_621 : Cond.fieldLink "OmegaNetsModel" 13 "OmegaNetsModel" "gives" "[I" ∈ lw_tbl := List.mem_append_right _ (List.mem_of_getElem? (i := 621) (by decide +kernel))
theorem w_622 : Cond.fieldLink "OmegaNetsModel" 16 "OmegaNetsModel" "starts" "[I" ∈ lw_tbl := List.mem_append_right _ (List.mem_of_getElem? (i := 622) (by decide +kernel))
theorem w_623 : Cond.fieldLink "OmegaNetsModel" 19 "OmegaNetsModel" "wanted" "[I" ∈ lw_tbl := List.mem_append_right _ (List.mem_of_getElem? (i := 623) (by decide +kernel))
theorem w_624 : Cond.fieldLink "OmegaNetsModel" 22 "OmegaNetsModel" "present" "[I" ∈ lw_tbl := List.mem_append_right _ (List.mem_of_getElem? (i := 624) (by decide +kernel))
theorem w_625 : Cond.fieldLink "OmegaNetsModel" 77 "OmegaNetsModel" "firings" "I" ∈ lw_tbl := List.mem_append_right _ (List.mem_of_getElem? (i := 625) (by decide +kernel))
theorem w_626 : Cond.fieldLink "OmegaNetsModel" 60 "OmegaNetsModel" "tree" "Z" ∈ lw_tbl := List.mem_append_right _ (List.mem_of_getElem? (i := 626) (by decide +kernel))
theorem w_627 : Cond.fieldLink "OmegaNetsModel" 91 "OmegaNetsModel" "nodes" "I" ∈ lw_tbl := List.mem_append_right _ (List.mem_of_getElem? (i := 627) (by decide +kernel))
theorem w_628 : Cond.fieldLink "OmegaNetsModel" 25 "OmegaNetsModel" "marks" "[I" ∈ lw_tbl := List.mem_append_right _ (List.mem_of_getElem? (i := 628) (by decide +kernel))
theorem w_629 : Cond.fieldLink "OmegaNetsModel" 28 "OmegaNetsModel" "parents" "[I" ∈ lw_tbl := List.mem_append_right _ (List.mem_of_getElem? (i := 629) (by decide +kernel))
theorem w_630 : Cond.fieldLink "OmegaNetsModel" 31 "OmegaNetsModel" "by" "[I" ∈ lw_tbl := List.mem_append_right _ (List.mem_of_getElem? (i := 630) (by decide +kernel))
theorem w_631 : Cond.fieldLink "OmegaNetsModel" 34 "OmegaNetsModel" "leaves" "[Z" ∈ lw_tbl := List.mem_append_right _ (List.mem_of_getElem? (i := 631) (by decide +kernel))
theorem w_632 : Cond.fieldLink "OmegaNetsModel" 64 "OmegaNetsModel" "asked" "Z" ∈ lw_tbl := List.mem_append_right _ (List.mem_of_getElem? (i := 632) (by decide +kernel))
theorem w_633 : Cond.fieldLink "OmegaNetsModel" 123 "OmegaNetsModel" "goals" "I" ∈ lw_tbl := List.mem_append_right _ (List.mem_of_getElem? (i := 633) (by decide +kernel))
theorem w_634 : Cond.fieldLink "OmegaNetsModel" 38 "OmegaNetsModel" "goalMarks" "[I" ∈ lw_tbl := List.mem_append_right _ (List.mem_of_getElem? (i := 634) (by decide +kernel))
theorem w_635 : Cond.fieldLink "OmegaNetsModel" 41 "OmegaNetsModel" "goalParents" "[I" ∈ lw_tbl := List.mem_append_right _ (List.mem_of_getElem? (i := 635) (by decide +kernel))
theorem w_636 : Cond.fieldLink "OmegaNetsModel" 44 "OmegaNetsModel" "goalBy" "[I" ∈ lw_tbl := List.mem_append_right _ (List.mem_of_getElem? (i := 636) (by decide +kernel))
theorem w_637 : Cond.fieldLink "OmegaNetsModel" 47 "OmegaNetsModel" "given" "[Z" ∈ lw_tbl := List.mem_append_right _ (List.mem_of_getElem? (i := 637) (by decide +kernel))
theorem w_681 : Cond.methodLink "OmegaNetsLaw" 96 ⟨"OmegaNetsModel", "thrown", "()I"⟩ ∈ lw_tbl := List.mem_append_right _ (List.mem_of_getElem? (i := 681) (by decide +kernel))
theorem w_682 : Cond.instanceMethod ⟨"OmegaNetsModel", "thrown", "()I"⟩ ∈ lw_tbl := List.mem_append_right _ (List.mem_of_getElem? (i := 682) (by decide +kernel))
theorem w_683 : Cond.selects "OmegaNetsModel" ⟨"OmegaNetsModel", "thrown", "()I"⟩ ⟨"OmegaNetsModel", "thrown", "()I"⟩ ∈ lw_tbl := List.mem_append_right _ (List.mem_of_getElem? (i := 683) (by decide +kernel))
theorem w_684 : Cond.code ⟨"OmegaNetsModel", "thrown", "()I"⟩ prog_6_method_2_code 1 (some .int) ∈ lw_tbl := List.mem_append_right _ (List.mem_of_getElem? (i := 684) (by decide +kernel))
theorem w_685 : Cond.methodLink "OmegaNetsLaw" 95 ⟨"OmegaNetsModel", "arc", "(IIII)I"⟩ ∈ lw_tbl := List.mem_append_right _ (List.mem_of_getElem? (i := 685) (by decide +kernel))
theorem w_686 : Cond.instanceMethod ⟨"OmegaNetsModel", "arc", "(IIII)I"⟩ ∈ lw_tbl := List.mem_append_right _ (List.mem_of_getElem? (i := 686) (by decide +kernel))
theorem w_687 : Cond.selects "OmegaNetsModel" ⟨"OmegaNetsModel", "arc", "(IIII)I"⟩ ⟨"OmegaNetsModel", "arc", "(IIII)I"⟩ ∈ lw_tbl := List.mem_append_right _ (List.mem_of_getElem? (i := 687) (by decide +kernel))
theorem w_688 : Cond.code ⟨"OmegaNetsModel", "arc", "(IIII)I"⟩ prog_6_method_6_code 6 (some .int) ∈ lw_tbl := List.mem_append_right _ (List.mem_of_getElem? (i := 688) (by decide +kernel))
theorem w_689 : Cond.methodLink "OmegaNetsModel" 67 ⟨"OmegaNetsModel", "isTransition", "(I)Z"⟩ ∈ lw_tbl := List.mem_append_right _ (List.mem_of_getElem? (i := 689) (by decide +kernel))
theorem w_691 : Cond.instanceMethod ⟨"OmegaNetsModel", "isTransition", "(I)Z"⟩ ∈ lw_tbl := List.mem_append_right _ (List.mem_of_getElem? (i := 691) (by decide +kernel))
theorem w_692 : Cond.code ⟨"OmegaNetsModel", "isTransition", "(I)Z"⟩ prog_6_method_4_code 2 (some .boolean) ∈ lw_tbl := List.mem_append_right _ (List.mem_of_getElem? (i := 692) (by decide +kernel))
theorem w_693 : Cond.methodLink "OmegaNetsModel" 71 ⟨"OmegaNetsModel", "isPlace", "(I)Z"⟩ ∈ lw_tbl := List.mem_append_right _ (List.mem_of_getElem? (i := 693) (by decide +kernel))
theorem w_695 : Cond.instanceMethod ⟨"OmegaNetsModel", "isPlace", "(I)Z"⟩ ∈ lw_tbl := List.mem_append_right _ (List.mem_of_getElem? (i := 695) (by decide +kernel))
theorem w_696 : Cond.code ⟨"OmegaNetsModel", "isPlace", "(I)Z"⟩ prog_6_method_3_code 2 (some .boolean) ∈ lw_tbl := List.mem_append_right _ (List.mem_of_getElem? (i := 696) (by decide +kernel))
theorem w_697 : Cond.methodLink "OmegaNetsModel" 74 ⟨"OmegaNetsModel", "changed", "()V"⟩ ∈ lw_tbl := List.mem_append_right _ (List.mem_of_getElem? (i := 697) (by decide +kernel))
theorem w_699 : Cond.instanceMethod ⟨"OmegaNetsModel", "changed", "()V"⟩ ∈ lw_tbl := List.mem_append_right _ (List.mem_of_getElem? (i := 699) (by decide +kernel))
theorem w_700 : Cond.code ⟨"OmegaNetsModel", "changed", "()V"⟩ prog_6_method_5_code 1 none ∈ lw_tbl := List.mem_append_right _ (List.mem_of_getElem? (i := 700) (by decide +kernel))
theorem w_701 : Cond.methodLink "OmegaNetsLaw" 102 ⟨"OmegaNetsModel", "start", "(II)I"⟩ ∈ lw_tbl := List.mem_append_right _ (List.mem_of_getElem? (i := 701) (by decide +kernel))
theorem w_702 : Cond.instanceMethod ⟨"OmegaNetsModel", "start", "(II)I"⟩ ∈ lw_tbl := List.mem_append_right _ (List.mem_of_getElem? (i := 702) (by decide +kernel))
theorem w_703 : Cond.selects "OmegaNetsModel" ⟨"OmegaNetsModel", "start", "(II)I"⟩ ⟨"OmegaNetsModel", "start", "(II)I"⟩ ∈ lw_tbl := List.mem_append_right _ (List.mem_of_getElem? (i := 703) (by decide +kernel))
theorem w_704 : Cond.code ⟨"OmegaNetsModel", "start", "(II)I"⟩ prog_6_method_8_code 4 (some .int) ∈ lw_tbl := List.mem_append_right _ (List.mem_of_getElem? (i := 704) (by decide +kernel))
theorem w_705 : Cond.methodLink "OmegaNetsModel" 80 ⟨"OmegaNetsModel", "begin", "()V"⟩ ∈ lw_tbl := List.mem_append_right _ (List.mem_of_getElem? (i := 705) (by decide +kernel))
theorem w_707 : Cond.instanceMethod ⟨"OmegaNetsModel", "begin", "()V"⟩ ∈ lw_tbl := List.mem_append_right _ (List.mem_of_getElem? (i := 707) (by decide +kernel))
theorem w_708 : Cond.code ⟨"OmegaNetsModel", "begin", "()V"⟩ prog_6_method_7_code 2 none ∈ lw_tbl := List.mem_append_right _ (List.mem_of_getElem? (i := 708) (by decide +kernel))
theorem w_709 : Cond.methodLink "OmegaNetsLaw" 105 ⟨"OmegaNetsModel", "want", "(II)I"⟩ ∈ lw_tbl := List.mem_append_right _ (List.mem_of_getElem? (i := 709) (by decide +kernel))
theorem w_710 : Cond.instanceMethod ⟨"OmegaNetsModel", "want", "(II)I"⟩ ∈ lw_tbl := List.mem_append_right _ (List.mem_of_getElem? (i := 710) (by decide +kernel))
theorem w_711 : Cond.selects "OmegaNetsModel" ⟨"OmegaNetsModel", "want", "(II)I"⟩ ⟨"OmegaNetsModel", "want", "(II)I"⟩ ∈ lw_tbl := List.mem_append_right _ (List.mem_of_getElem? (i := 711) (by decide +kernel))
theorem w_712 : Cond.code ⟨"OmegaNetsModel", "want", "(II)I"⟩ prog_6_method_9_code 4 (some .int) ∈ lw_tbl := List.mem_append_right _ (List.mem_of_getElem? (i := 712) (by decide +kernel))
theorem w_713 : Cond.methodLink "OmegaNetsLaw" 109 ⟨"OmegaNetsModel", "fire", "(I)Z"⟩ ∈ lw_tbl := List.mem_append_right _ (List.mem_of_getElem? (i := 713) (by decide +kernel))
theorem w_714 : Cond.instanceMethod ⟨"OmegaNetsModel", "fire", "(I)Z"⟩ ∈ lw_tbl := List.mem_append_right _ (List.mem_of_getElem? (i := 714) (by decide +kernel))
theorem w_715 : Cond.selects "OmegaNetsModel" ⟨"OmegaNetsModel", "fire", "(I)Z"⟩ ⟨"OmegaNetsModel", "fire", "(I)Z"⟩ ∈ lw_tbl := List.mem_append_right _ (List.mem_of_getElem? (i := 715) (by decide +kernel))
theorem w_716 : Cond.code ⟨"OmegaNetsModel", "fire", "(I)Z"⟩ prog_6_method_10_code 4 (some .boolean) ∈ lw_tbl := List.mem_append_right _ (List.mem_of_getElem? (i := 716) (by decide +kernel))
theorem w_717 : Cond.methodLink "OmegaNetsLaw" 112 ⟨"OmegaNetsModel", "at", "(I)I"⟩ ∈ lw_tbl := List.mem_append_right _ (List.mem_of_getElem? (i := 717) (by decide +kernel))
theorem w_718 : Cond.instanceMethod ⟨"OmegaNetsModel", "at", "(I)I"⟩ ∈ lw_tbl := List.mem_append_right _ (List.mem_of_getElem? (i := 718) (by decide +kernel))
theorem w_719 : Cond.selects "OmegaNetsModel" ⟨"OmegaNetsModel", "at", "(I)I"⟩ ⟨"OmegaNetsModel", "at", "(I)I"⟩ ∈ lw_tbl := List.mem_append_right _ (List.mem_of_getElem? (i := 719) (by decide +kernel))
theorem w_720 : Cond.code ⟨"OmegaNetsModel", "at", "(I)I"⟩ prog_6_method_11_code 2 (some .int) ∈ lw_tbl := List.mem_append_right _ (List.mem_of_getElem? (i := 720) (by decide +kernel))
theorem w_721 : Cond.methodLink "OmegaNetsLaw" 116 ⟨"OmegaNetsModel", "reset", "()I"⟩ ∈ lw_tbl := List.mem_append_right _ (List.mem_of_getElem? (i := 721) (by decide +kernel))
theorem w_722 : Cond.instanceMethod ⟨"OmegaNetsModel", "reset", "()I"⟩ ∈ lw_tbl := List.mem_append_right _ (List.mem_of_getElem? (i := 722) (by decide +kernel))
theorem w_723 : Cond.selects "OmegaNetsModel" ⟨"OmegaNetsModel", "reset", "()I"⟩ ⟨"OmegaNetsModel", "reset", "()I"⟩ ∈ lw_tbl := List.mem_append_right _ (List.mem_of_getElem? (i := 723) (by decide +kernel))
theorem w_724 : Cond.code ⟨"OmegaNetsModel", "reset", "()I"⟩ prog_6_method_12_code 2 (some .int) ∈ lw_tbl := List.mem_append_right _ (List.mem_of_getElem? (i := 724) (by decide +kernel))
theorem w_725 : Cond.methodLink "OmegaNetsLaw" 120 ⟨"OmegaNetsModel", "explore", "()I"⟩ ∈ lw_tbl := List.mem_append_right _ (List.mem_of_getElem? (i := 725) (by decide +kernel))
theorem w_726 : Cond.instanceMethod ⟨"OmegaNetsModel", "explore", "()I"⟩ ∈ lw_tbl := List.mem_append_right _ (List.mem_of_getElem? (i := 726) (by decide +kernel))
theorem w_727 : Cond.selects "OmegaNetsModel" ⟨"OmegaNetsModel", "explore", "()I"⟩ ⟨"OmegaNetsModel", "explore", "()I"⟩ ∈ lw_tbl := List.mem_append_right _ (List.mem_of_getElem? (i := 727) (by decide +kernel))
theorem w_728 : Cond.code ⟨"OmegaNetsModel", "explore", "()I"⟩ prog_6_method_19_code 3 (some .int) ∈ lw_tbl := List.mem_append_right _ (List.mem_of_getElem? (i := 728) (by decide +kernel))
theorem w_729 : Cond.methodLink "OmegaNetsModel" 97 ⟨"OmegaNetsModel", "isLeaf", "(I)Z"⟩ ∈ lw_tbl := List.mem_append_right _ (List.mem_of_getElem? (i := 729) (by decide +kernel))
theorem w_731 : Cond.instanceMethod ⟨"OmegaNetsModel", "isLeaf", "(I)Z"⟩ ∈ lw_tbl := List.mem_append_right _ (List.mem_of_getElem? (i := 731) (by decide +kernel))
theorem w_732 : Cond.code ⟨"OmegaNetsModel", "isLeaf", "(I)Z"⟩ prog_6_method_16_code 4 (some .boolean) ∈ lw_tbl := List.mem_append_right _ (List.mem_of_getElem? (i := 732) (by decide +kernel))
theorem w_733 : Cond.methodLink "OmegaNetsModel" 87 ⟨"OmegaNetsModel", "isSame", "(II)Z"⟩ ∈ lw_tbl := List.mem_append_right _ (List.mem_of_getElem? (i := 733) (by decide +kernel))
theorem w_735 : Cond.instanceMethod ⟨"OmegaNetsModel", "isSame", "(II)Z"⟩ ∈ lw_tbl := List.mem_append_right _ (List.mem_of_getElem? (i := 735) (by decide +kernel))
theorem w_736 : Cond.code ⟨"OmegaNetsModel", "isSame", "(II)Z"⟩ prog_6_method_14_code 3 (some .boolean) ∈ lw_tbl := List.mem_append_right _ (List.mem_of_getElem? (i := 736) (by decide +kernel))
theorem w_737 : Cond.methodLink "OmegaNetsModel" 83 ⟨"OmegaNetsModel", "isBelow", "(II)Z"⟩ ∈ lw_tbl := List.mem_append_right _ (List.mem_of_getElem? (i := 737) (by decide +kernel))
theorem w_739 : Cond.instanceMethod ⟨"OmegaNetsModel", "isBelow", "(II)Z"⟩ ∈ lw_tbl := List.mem_append_right _ (List.mem_of_getElem? (i := 739) (by decide +kernel))
theorem w_740 : Cond.code ⟨"OmegaNetsModel", "isBelow", "(II)Z"⟩ prog_6_method_13_code 5 (some .boolean) ∈ lw_tbl := List.mem_append_right _ (List.mem_of_getElem? (i := 740) (by decide +kernel))
theorem w_741 : Cond.methodLink "OmegaNetsModel" 100 ⟨"OmegaNetsModel", "isEnabled", "(II)Z"⟩ ∈ lw_tbl := List.mem_append_right _ (List.mem_of_getElem? (i := 741) (by decide +kernel))
theorem w_743 : Cond.instanceMethod ⟨"OmegaNetsModel", "isEnabled", "(II)Z"⟩ ∈ lw_tbl := List.mem_append_right _ (List.mem_of_getElem? (i := 743) (by decide +kernel))
theorem w_744 : Cond.code ⟨"OmegaNetsModel", "isEnabled", "(II)Z"⟩ prog_6_method_15_code 5 (some .boolean) ∈ lw_tbl := List.mem_append_right _ (List.mem_of_getElem? (i := 744) (by decide +kernel))
theorem w_745 : Cond.methodLink "OmegaNetsModel" 103 ⟨"OmegaNetsModel", "grow", "(II)V"⟩ ∈ lw_tbl := List.mem_append_right _ (List.mem_of_getElem? (i := 745) (by decide +kernel))
theorem w_747 : Cond.instanceMethod ⟨"OmegaNetsModel", "grow", "(II)V"⟩ ∈ lw_tbl := List.mem_append_right _ (List.mem_of_getElem? (i := 747) (by decide +kernel))
theorem w_748 : Cond.code ⟨"OmegaNetsModel", "grow", "(II)V"⟩ prog_6_method_18_code 6 none ∈ lw_tbl := List.mem_append_right _ (List.mem_of_getElem? (i := 748) (by decide +kernel))
theorem w_749 : Cond.constant "OmegaNetsModel" 90 1000000000 ∈ lw_tbl := List.mem_append_right _ (List.mem_of_getElem? (i := 749) (by decide +kernel))
theorem w_750 : Cond.methodLink "OmegaNetsModel" 94 ⟨"OmegaNetsModel", "raise", "(I)Z"⟩ ∈ lw_tbl := List.mem_append_right _ (List.mem_of_getElem? (i := 750) (by decide +kernel))
theorem w_752 : Cond.instanceMethod ⟨"OmegaNetsModel", "raise", "(I)Z"⟩ ∈ lw_tbl := List.mem_append_right _ (List.mem_of_getElem? (i := 752) (by decide +kernel))
theorem w_753 : Cond.code ⟨"OmegaNetsModel", "raise", "(I)Z"⟩ prog_6_method_17_code 6 (some .boolean) ∈ lw_tbl := List.mem_append_right _ (List.mem_of_getElem? (i := 753) (by decide +kernel))
theorem w_754 : Cond.methodLink "OmegaNetsLaw" 123 ⟨"OmegaNetsModel", "count", "(II)I"⟩ ∈ lw_tbl := List.mem_append_right _ (List.mem_of_getElem? (i := 754) (by decide +kernel))
theorem w_755 : Cond.instanceMethod ⟨"OmegaNetsModel", "count", "(II)I"⟩ ∈ lw_tbl := List.mem_append_right _ (List.mem_of_getElem? (i := 755) (by decide +kernel))
theorem w_756 : Cond.selects "OmegaNetsModel" ⟨"OmegaNetsModel", "count", "(II)I"⟩ ⟨"OmegaNetsModel", "count", "(II)I"⟩ ∈ lw_tbl := List.mem_append_right _ (List.mem_of_getElem? (i := 756) (by decide +kernel))
theorem w_757 : Cond.code ⟨"OmegaNetsModel", "count", "(II)I"⟩ prog_6_method_22_code 3 (some .int) ∈ lw_tbl := List.mem_append_right _ (List.mem_of_getElem? (i := 757) (by decide +kernel))
theorem w_758 : Cond.methodLink "OmegaNetsModel" 107 ⟨"OmegaNetsModel", "isNode", "(I)Z"⟩ ∈ lw_tbl := List.mem_append_right _ (List.mem_of_getElem? (i := 758) (by decide +kernel))
theorem w_760 : Cond.instanceMethod ⟨"OmegaNetsModel", "isNode", "(I)Z"⟩ ∈ lw_tbl := List.mem_append_right _ (List.mem_of_getElem? (i := 760) (by decide +kernel))
theorem w_761 : Cond.code ⟨"OmegaNetsModel", "isNode", "(I)Z"⟩ prog_6_method_20_code 2 (some .boolean) ∈ lw_tbl := List.mem_append_right _ (List.mem_of_getElem? (i := 761) (by decide +kernel))
theorem w_762 : Cond.methodLink "OmegaNetsModel" 110 ⟨"OmegaNetsModel", "told", "(I)I"⟩ ∈ lw_tbl := List.mem_append_right _ (List.mem_of_getElem? (i := 762) (by decide +kernel))
theorem w_763 : Cond.static ⟨"OmegaNetsModel", "told", "(I)I"⟩ ∈ lw_tbl := List.mem_append_right _ (List.mem_of_getElem? (i := 763) (by decide +kernel))
theorem w_764 : Cond.code ⟨"OmegaNetsModel", "told", "(I)I"⟩ prog_6_method_21_code 1 (some .int) ∈ lw_tbl := List.mem_append_right _ (List.mem_of_getElem? (i := 764) (by decide +kernel))
theorem w_765 : Cond.methodLink "OmegaNetsLaw" 126 ⟨"OmegaNetsModel", "node", "(II)I"⟩ ∈ lw_tbl := List.mem_append_right _ (List.mem_of_getElem? (i := 765) (by decide +kernel))
theorem w_766 : Cond.instanceMethod ⟨"OmegaNetsModel", "node", "(II)I"⟩ ∈ lw_tbl := List.mem_append_right _ (List.mem_of_getElem? (i := 766) (by decide +kernel))
theorem w_767 : Cond.selects "OmegaNetsModel" ⟨"OmegaNetsModel", "node", "(II)I"⟩ ⟨"OmegaNetsModel", "node", "(II)I"⟩ ∈ lw_tbl := List.mem_append_right _ (List.mem_of_getElem? (i := 767) (by decide +kernel))
theorem w_768 : Cond.code ⟨"OmegaNetsModel", "node", "(II)I"⟩ prog_6_method_23_code 3 (some .int) ∈ lw_tbl := List.mem_append_right _ (List.mem_of_getElem? (i := 768) (by decide +kernel))
theorem w_769 : Cond.methodLink "OmegaNetsLaw" 129 ⟨"OmegaNetsModel", "path", "(II)I"⟩ ∈ lw_tbl := List.mem_append_right _ (List.mem_of_getElem? (i := 769) (by decide +kernel))
theorem w_770 : Cond.instanceMethod ⟨"OmegaNetsModel", "path", "(II)I"⟩ ∈ lw_tbl := List.mem_append_right _ (List.mem_of_getElem? (i := 770) (by decide +kernel))
theorem w_771 : Cond.selects "OmegaNetsModel" ⟨"OmegaNetsModel", "path", "(II)I"⟩ ⟨"OmegaNetsModel", "path", "(II)I"⟩ ∈ lw_tbl := List.mem_append_right _ (List.mem_of_getElem? (i := 771) (by decide +kernel))
theorem w_772 : Cond.code ⟨"OmegaNetsModel", "path", "(II)I"⟩ prog_6_method_25_code 6 (some .int) ∈ lw_tbl := List.mem_append_right _ (List.mem_of_getElem? (i := 772) (by decide +kernel))
theorem w_773 : Cond.methodLink "OmegaNetsModel" 114 ⟨"OmegaNetsModel", "depth", "(I)I"⟩ ∈ lw_tbl := List.mem_append_right _ (List.mem_of_getElem? (i := 773) (by decide +kernel))
theorem w_775 : Cond.instanceMethod ⟨"OmegaNetsModel", "depth", "(I)I"⟩ ∈ lw_tbl := List.mem_append_right _ (List.mem_of_getElem? (i := 775) (by decide +kernel))
theorem w_776 : Cond.code ⟨"OmegaNetsModel", "depth", "(I)I"⟩ prog_6_method_24_code 4 (some .int) ∈ lw_tbl := List.mem_append_right _ (List.mem_of_getElem? (i := 776) (by decide +kernel))
theorem w_777 : Cond.methodLink "OmegaNetsLaw" 132 ⟨"OmegaNetsModel", "bound", "(I)I"⟩ ∈ lw_tbl := List.mem_append_right _ (List.mem_of_getElem? (i := 777) (by decide +kernel))
theorem w_778 : Cond.instanceMethod ⟨"OmegaNetsModel", "bound", "(I)I"⟩ ∈ lw_tbl := List.mem_append_right _ (List.mem_of_getElem? (i := 778) (by decide +kernel))
theorem w_779 : Cond.selects "OmegaNetsModel" ⟨"OmegaNetsModel", "bound", "(I)I"⟩ ⟨"OmegaNetsModel", "bound", "(I)I"⟩ ∈ lw_tbl := List.mem_append_right _ (List.mem_of_getElem? (i := 779) (by decide +kernel))
theorem w_780 : Cond.code ⟨"OmegaNetsModel", "bound", "(I)I"⟩ prog_6_method_26_code 4 (some .int) ∈ lw_tbl := List.mem_append_right _ (List.mem_of_getElem? (i := 780) (by decide +kernel))
theorem w_781 : Cond.methodLink "OmegaNetsLaw" 135 ⟨"OmegaNetsModel", "tops", "()I"⟩ ∈ lw_tbl := List.mem_append_right _ (List.mem_of_getElem? (i := 781) (by decide +kernel))
theorem w_782 : Cond.instanceMethod ⟨"OmegaNetsModel", "tops", "()I"⟩ ∈ lw_tbl := List.mem_append_right _ (List.mem_of_getElem? (i := 782) (by decide +kernel))
theorem w_783 : Cond.selects "OmegaNetsModel" ⟨"OmegaNetsModel", "tops", "()I"⟩ ⟨"OmegaNetsModel", "tops", "()I"⟩ ∈ lw_tbl := List.mem_append_right _ (List.mem_of_getElem? (i := 783) (by decide +kernel))
theorem w_784 : Cond.code ⟨"OmegaNetsModel", "tops", "()I"⟩ prog_6_method_29_code 3 (some .int) ∈ lw_tbl := List.mem_append_right _ (List.mem_of_getElem? (i := 784) (by decide +kernel))
theorem w_785 : Cond.methodLink "OmegaNetsModel" 117 ⟨"OmegaNetsModel", "isTop", "(I)Z"⟩ ∈ lw_tbl := List.mem_append_right _ (List.mem_of_getElem? (i := 785) (by decide +kernel))
theorem w_787 : Cond.instanceMethod ⟨"OmegaNetsModel", "isTop", "(I)Z"⟩ ∈ lw_tbl := List.mem_append_right _ (List.mem_of_getElem? (i := 787) (by decide +kernel))
theorem w_788 : Cond.code ⟨"OmegaNetsModel", "isTop", "(I)Z"⟩ prog_6_method_27_code 5 (some .boolean) ∈ lw_tbl := List.mem_append_right _ (List.mem_of_getElem? (i := 788) (by decide +kernel))
theorem w_789 : Cond.methodLink "OmegaNetsLaw" 138 ⟨"OmegaNetsModel", "top", "(I)I"⟩ ∈ lw_tbl := List.mem_append_right _ (List.mem_of_getElem? (i := 789) (by decide +kernel))
theorem w_790 : Cond.instanceMethod ⟨"OmegaNetsModel", "top", "(I)I"⟩ ∈ lw_tbl := List.mem_append_right _ (List.mem_of_getElem? (i := 790) (by decide +kernel))
theorem w_791 : Cond.selects "OmegaNetsModel" ⟨"OmegaNetsModel", "top", "(I)I"⟩ ⟨"OmegaNetsModel", "top", "(I)I"⟩ ∈ lw_tbl := List.mem_append_right _ (List.mem_of_getElem? (i := 791) (by decide +kernel))
theorem w_792 : Cond.code ⟨"OmegaNetsModel", "top", "(I)I"⟩ prog_6_method_30_code 3 (some .int) ∈ lw_tbl := List.mem_append_right _ (List.mem_of_getElem? (i := 792) (by decide +kernel))
theorem w_793 : Cond.methodLink "OmegaNetsModel" 120 ⟨"OmegaNetsModel", "topAt", "(I)I"⟩ ∈ lw_tbl := List.mem_append_right _ (List.mem_of_getElem? (i := 793) (by decide +kernel))
theorem w_795 : Cond.instanceMethod ⟨"OmegaNetsModel", "topAt", "(I)I"⟩ ∈ lw_tbl := List.mem_append_right _ (List.mem_of_getElem? (i := 795) (by decide +kernel))
theorem w_796 : Cond.code ⟨"OmegaNetsModel", "topAt", "(I)I"⟩ prog_6_method_28_code 4 (some .int) ∈ lw_tbl := List.mem_append_right _ (List.mem_of_getElem? (i := 796) (by decide +kernel))
theorem w_797 : Cond.methodLink "OmegaNetsLaw" 141 ⟨"OmegaNetsModel", "covered", "()Z"⟩ ∈ lw_tbl := List.mem_append_right _ (List.mem_of_getElem? (i := 797) (by decide +kernel))
theorem w_798 : Cond.instanceMethod ⟨"OmegaNetsModel", "covered", "()Z"⟩ ∈ lw_tbl := List.mem_append_right _ (List.mem_of_getElem? (i := 798) (by decide +kernel))
theorem w_799 : Cond.selects "OmegaNetsModel" ⟨"OmegaNetsModel", "covered", "()Z"⟩ ⟨"OmegaNetsModel", "covered", "()Z"⟩ ∈ lw_tbl := List.mem_append_right _ (List.mem_of_getElem? (i := 799) (by decide +kernel))
theorem w_800 : Cond.code ⟨"OmegaNetsModel", "covered", "()Z"⟩ prog_6_method_31_code 5 (some .boolean) ∈ lw_tbl := List.mem_append_right _ (List.mem_of_getElem? (i := 800) (by decide +kernel))
theorem w_801 : Cond.methodLink "OmegaNetsLaw" 144 ⟨"OmegaNetsModel", "lives", "(I)Z"⟩ ∈ lw_tbl := List.mem_append_right _ (List.mem_of_getElem? (i := 801) (by decide +kernel))
theorem w_802 : Cond.instanceMethod ⟨"OmegaNetsModel", "lives", "(I)Z"⟩ ∈ lw_tbl := List.mem_append_right _ (List.mem_of_getElem? (i := 802) (by decide +kernel))
theorem w_803 : Cond.selects "OmegaNetsModel" ⟨"OmegaNetsModel", "lives", "(I)Z"⟩ ⟨"OmegaNetsModel", "lives", "(I)Z"⟩ ∈ lw_tbl := List.mem_append_right _ (List.mem_of_getElem? (i := 803) (by decide +kernel))
theorem w_804 : Cond.code ⟨"OmegaNetsModel", "lives", "(I)Z"⟩ prog_6_method_32_code 4 (some .boolean) ∈ lw_tbl := List.mem_append_right _ (List.mem_of_getElem? (i := 804) (by decide +kernel))
theorem w_805 : Cond.methodLink "OmegaNetsLaw" 147 ⟨"OmegaNetsModel", "dead", "()I"⟩ ∈ lw_tbl := List.mem_append_right _ (List.mem_of_getElem? (i := 805) (by decide +kernel))
theorem w_806 : Cond.instanceMethod ⟨"OmegaNetsModel", "dead", "()I"⟩ ∈ lw_tbl := List.mem_append_right _ (List.mem_of_getElem? (i := 806) (by decide +kernel))
theorem w_807 : Cond.selects "OmegaNetsModel" ⟨"OmegaNetsModel", "dead", "()I"⟩ ⟨"OmegaNetsModel", "dead", "()I"⟩ ∈ lw_tbl := List.mem_append_right _ (List.mem_of_getElem? (i := 807) (by decide +kernel))
theorem w_808 : Cond.code ⟨"OmegaNetsModel", "dead", "()I"⟩ prog_6_method_33_code 4 (some .int) ∈ lw_tbl := List.mem_append_right _ (List.mem_of_getElem? (i := 808) (by decide +kernel))
theorem w_809 : Cond.methodLink "OmegaNetsLaw" 150 ⟨"OmegaNetsModel", "back", "()I"⟩ ∈ lw_tbl := List.mem_append_right _ (List.mem_of_getElem? (i := 809) (by decide +kernel))
theorem w_810 : Cond.instanceMethod ⟨"OmegaNetsModel", "back", "()I"⟩ ∈ lw_tbl := List.mem_append_right _ (List.mem_of_getElem? (i := 810) (by decide +kernel))
theorem w_811 : Cond.selects "OmegaNetsModel" ⟨"OmegaNetsModel", "back", "()I"⟩ ⟨"OmegaNetsModel", "back", "()I"⟩ ∈ lw_tbl := List.mem_append_right _ (List.mem_of_getElem? (i := 811) (by decide +kernel))
theorem w_812 : Cond.code ⟨"OmegaNetsModel", "back", "()I"⟩ prog_6_method_36_code 5 (some .int) ∈ lw_tbl := List.mem_append_right _ (List.mem_of_getElem? (i := 812) (by decide +kernel))
theorem w_813 : Cond.methodLink "OmegaNetsModel" 129 ⟨"OmegaNetsModel", "makeGoal", "(II)Z"⟩ ∈ lw_tbl := List.mem_append_right _ (List.mem_of_getElem? (i := 813) (by decide +kernel))
theorem w_815 : Cond.instanceMethod ⟨"OmegaNetsModel", "makeGoal", "(II)Z"⟩ ∈ lw_tbl := List.mem_append_right _ (List.mem_of_getElem? (i := 815) (by decide +kernel))
theorem w_816 : Cond.code ⟨"OmegaNetsModel", "makeGoal", "(II)Z"⟩ prog_6_method_35_code 6 (some .boolean) ∈ lw_tbl := List.mem_append_right _ (List.mem_of_getElem? (i := 816) (by decide +kernel))
theorem w_817 : Cond.methodLink "OmegaNetsModel" 126 ⟨"OmegaNetsModel", "isGoalBelow", "(II)Z"⟩ ∈ lw_tbl := List.mem_append_right _ (List.mem_of_getElem? (i := 817) (by decide +kernel))
theorem w_819 : Cond.instanceMethod ⟨"OmegaNetsModel", "isGoalBelow", "(II)Z"⟩ ∈ lw_tbl := List.mem_append_right _ (List.mem_of_getElem? (i := 819) (by decide +kernel))
theorem w_820 : Cond.code ⟨"OmegaNetsModel", "isGoalBelow", "(II)Z"⟩ prog_6_method_34_code 5 (some .boolean) ∈ lw_tbl := List.mem_append_right _ (List.mem_of_getElem? (i := 820) (by decide +kernel))
theorem w_821 : Cond.methodLink "OmegaNetsLaw" 153 ⟨"OmegaNetsModel", "goal", "(II)I"⟩ ∈ lw_tbl := List.mem_append_right _ (List.mem_of_getElem? (i := 821) (by decide +kernel))
theorem w_822 : Cond.instanceMethod ⟨"OmegaNetsModel", "goal", "(II)I"⟩ ∈ lw_tbl := List.mem_append_right _ (List.mem_of_getElem? (i := 822) (by decide +kernel))
theorem w_823 : Cond.selects "OmegaNetsModel" ⟨"OmegaNetsModel", "goal", "(II)I"⟩ ⟨"OmegaNetsModel", "goal", "(II)I"⟩ ∈ lw_tbl := List.mem_append_right _ (List.mem_of_getElem? (i := 823) (by decide +kernel))
theorem w_824 : Cond.code ⟨"OmegaNetsModel", "goal", "(II)I"⟩ prog_6_method_37_code 6 (some .int) ∈ lw_tbl := List.mem_append_right _ (List.mem_of_getElem? (i := 824) (by decide +kernel))
theorem w_825 : Cond.methodLink "OmegaNetsLaw" 156 ⟨"OmegaNetsModel", "length", "()I"⟩ ∈ lw_tbl := List.mem_append_right _ (List.mem_of_getElem? (i := 825) (by decide +kernel))
theorem w_826 : Cond.instanceMethod ⟨"OmegaNetsModel", "length", "()I"⟩ ∈ lw_tbl := List.mem_append_right _ (List.mem_of_getElem? (i := 826) (by decide +kernel))
theorem w_827 : Cond.selects "OmegaNetsModel" ⟨"OmegaNetsModel", "length", "()I"⟩ ⟨"OmegaNetsModel", "length", "()I"⟩ ∈ lw_tbl := List.mem_append_right _ (List.mem_of_getElem? (i := 827) (by decide +kernel))
theorem w_828 : Cond.code ⟨"OmegaNetsModel", "length", "()I"⟩ prog_6_method_39_code 4 (some .int) ∈ lw_tbl := List.mem_append_right _ (List.mem_of_getElem? (i := 828) (by decide +kernel))
theorem w_829 : Cond.methodLink "OmegaNetsModel" 132 ⟨"OmegaNetsModel", "firstGoal", "()I"⟩ ∈ lw_tbl := List.mem_append_right _ (List.mem_of_getElem? (i := 829) (by decide +kernel))
theorem w_831 : Cond.instanceMethod ⟨"OmegaNetsModel", "firstGoal", "()I"⟩ ∈ lw_tbl := List.mem_append_right _ (List.mem_of_getElem? (i := 831) (by decide +kernel))
theorem w_832 : Cond.code ⟨"OmegaNetsModel", "firstGoal", "()I"⟩ prog_6_method_38_code 4 (some .int) ∈ lw_tbl := List.mem_append_right _ (List.mem_of_getElem? (i := 832) (by decide +kernel))
theorem w_833 : Cond.methodLink "OmegaNetsLaw" 159 ⟨"OmegaNetsModel", "way", "(I)I"⟩ ∈ lw_tbl := List.mem_append_right _ (List.mem_of_getElem? (i := 833) (by decide +kernel))
theorem w_834 : Cond.instanceMethod ⟨"OmegaNetsModel", "way", "(I)I"⟩ ∈ lw_tbl := List.mem_append_right _ (List.mem_of_getElem? (i := 834) (by decide +kernel))
theorem w_835 : Cond.selects "OmegaNetsModel" ⟨"OmegaNetsModel", "way", "(I)I"⟩ ⟨"OmegaNetsModel", "way", "(I)I"⟩ ∈ lw_tbl := List.mem_append_right _ (List.mem_of_getElem? (i := 835) (by decide +kernel))
theorem w_836 : Cond.code ⟨"OmegaNetsModel", "way", "(I)I"⟩ prog_6_method_40_code 5 (some .int) ∈ lw_tbl := List.mem_append_right _ (List.mem_of_getElem? (i := 836) (by decide +kernel))
theorem w_837 : Cond.arrayClass .long ∈ lw_tbl := List.mem_append_right _ (List.mem_of_getElem? (i := 837) (by decide +kernel))
theorem ws_0 : Cond.selects "OmegaNets" ⟨"OmegaNets", "returnToStart", "()V"⟩ ⟨"OmegaNets", "returnToStart", "()V"⟩ ∈ lw_tbl := List.mem_append_left _ (List.mem_of_getElem? (i := 0) (by decide +kernel))
theorem ws_1 : Cond.selects "OmegaNets" ⟨"OmegaNets", "checkTransition", "(I)V"⟩ ⟨"OmegaNets", "checkTransition", "(I)V"⟩ ∈ lw_tbl := List.mem_append_left _ (List.mem_of_getElem? (i := 1) (by decide +kernel))
theorem ws_3 : Cond.selects "OmegaNets" ⟨"OmegaNets", "checkPlace", "(I)V"⟩ ⟨"OmegaNets", "checkPlace", "(I)V"⟩ ∈ lw_tbl := List.mem_append_left _ (List.mem_of_getElem? (i := 3) (by decide +kernel))
theorem ws_4 : Cond.selects "OmegaNets" ⟨"OmegaNets", "forgetTreeAndGoals", "()V"⟩ ⟨"OmegaNets", "forgetTreeAndGoals", "()V"⟩ ∈ lw_tbl := List.mem_append_left _ (List.mem_of_getElem? (i := 4) (by decide +kernel))
theorem ws_5 : Cond.selects "OmegaNets$Tree" ⟨"OmegaNets$Tree", "plant", "()V"⟩ ⟨"OmegaNets$Tree", "plant", "()V"⟩ ∈ lw_tbl := List.mem_append_left _ (List.mem_of_getElem? (i := 5) (by decide +kernel))
theorem ws_6 : Cond.selects "OmegaNets$Tree" ⟨"OmegaNets$Tree", "repeatsOneAbove", "(I)Z"⟩ ⟨"OmegaNets$Tree", "repeatsOneAbove", "(I)Z"⟩ ∈ lw_tbl := List.mem_append_left _ (List.mem_of_getElem? (i := 6) (by decide +kernel))
theorem ws_7 : Cond.selects "OmegaNets$Tree" ⟨"OmegaNets$Tree", "branch", "(I)Z"⟩ ⟨"OmegaNets$Tree", "branch", "(I)Z"⟩ ∈ lw_tbl := List.mem_append_left _ (List.mem_of_getElem? (i := 7) (by decide +kernel))
theorem ws_8 : Cond.selects "OmegaNets$Tree" ⟨"OmegaNets$Tree", "addNode", "(II)V"⟩ ⟨"OmegaNets$Tree", "addNode", "(II)V"⟩ ∈ lw_tbl := List.mem_append_left _ (List.mem_of_getElem? (i := 8) (by decide +kernel))
theorem ws_9 : Cond.selects "OmegaNets$Tree" ⟨"OmegaNets$Tree", "lift", "(I)V"⟩ ⟨"OmegaNets$Tree", "lift", "(I)V"⟩ ∈ lw_tbl := List.mem_append_left _ (List.mem_of_getElem? (i := 9) (by decide +kernel))
theorem ws_10 : Cond.selects "OmegaNets$Tree" ⟨"OmegaNets$Tree", "liftOver", "([I[I)Z"⟩ ⟨"OmegaNets$Tree", "liftOver", "([I[I)Z"⟩ ∈ lw_tbl := List.mem_append_left _ (List.mem_of_getElem? (i := 10) (by decide +kernel))
theorem ws_11 : Cond.selects "OmegaNets$Tree" ⟨"OmegaNets$Tree", "findPeaks", "()V"⟩ ⟨"OmegaNets$Tree", "findPeaks", "()V"⟩ ∈ lw_tbl := List.mem_append_left _ (List.mem_of_getElem? (i := 11) (by decide +kernel))
theorem ws_12 : Cond.selects "OmegaNets$Tree" ⟨"OmegaNets$Tree", "isPeak", "(I)Z"⟩ ⟨"OmegaNets$Tree", "isPeak", "(I)Z"⟩ ∈ lw_tbl := List.mem_append_left _ (List.mem_of_getElem? (i := 12) (by decide +kernel))
theorem ws_13 : Cond.selects "OmegaNets" ⟨"OmegaNets", "checkTree", "()V"⟩ ⟨"OmegaNets", "checkTree", "()V"⟩ ∈ lw_tbl := List.mem_append_left _ (List.mem_of_getElem? (i := 13) (by decide +kernel))
theorem ws_14 : Cond.selects "OmegaNets" ⟨"OmegaNets", "checkNode", "(I)V"⟩ ⟨"OmegaNets", "checkNode", "(I)V"⟩ ∈ lw_tbl := List.mem_append_left _ (List.mem_of_getElem? (i := 14) (by decide +kernel))
theorem ws_15 : Cond.selects "OmegaNets$Goals" ⟨"OmegaNets$Goals", "plant", "([I)V"⟩ ⟨"OmegaNets$Goals", "plant", "([I)V"⟩ ∈ lw_tbl := List.mem_append_left _ (List.mem_of_getElem? (i := 15) (by decide +kernel))
theorem ws_16 : Cond.selects "OmegaNets$Goals" ⟨"OmegaNets$Goals", "goBack", "(I)Z"⟩ ⟨"OmegaNets$Goals", "goBack", "(I)Z"⟩ ∈ lw_tbl := List.mem_append_left _ (List.mem_of_getElem? (i := 16) (by decide +kernel))
theorem ws_17 : Cond.selects "OmegaNets$Goals" ⟨"OmegaNets$Goals", "isKnown", "([I)Z"⟩ ⟨"OmegaNets$Goals", "isKnown", "([I)Z"⟩ ∈ lw_tbl := List.mem_append_left _ (List.mem_of_getElem? (i := 17) (by decide +kernel))
theorem ws_18 : Cond.selects "OmegaNets$Goals" ⟨"OmegaNets$Goals", "addCandidate", "(II)V"⟩ ⟨"OmegaNets$Goals", "addCandidate", "(II)V"⟩ ∈ lw_tbl := List.mem_append_left _ (List.mem_of_getElem? (i := 18) (by decide +kernel))
theorem ws_19 : Cond.selects "OmegaNets" ⟨"OmegaNets", "checkGoals", "()V"⟩ ⟨"OmegaNets", "checkGoals", "()V"⟩ ∈ lw_tbl := List.mem_append_left _ (List.mem_of_getElem? (i := 19) (by decide +kernel))
theorem ws_20 : Cond.selects "OmegaNets" ⟨"OmegaNets", "goalBelowStart", "()I"⟩ ⟨"OmegaNets", "goalBelowStart", "()I"⟩ ∈ lw_tbl := List.mem_append_left _ (List.mem_of_getElem? (i := 20) (by decide +kernel))
theorem ws_21 : Cond.selects "OmegaNetsModel" ⟨"OmegaNetsModel", "isTransition", "(I)Z"⟩ ⟨"OmegaNetsModel", "isTransition", "(I)Z"⟩ ∈ lw_tbl := List.mem_append_left _ (List.mem_of_getElem? (i := 21) (by decide +kernel))
theorem ws_22 : Cond.selects "OmegaNetsModel" ⟨"OmegaNetsModel", "isPlace", "(I)Z"⟩ ⟨"OmegaNetsModel", "isPlace", "(I)Z"⟩ ∈ lw_tbl := List.mem_append_left _ (List.mem_of_getElem? (i := 22) (by decide +kernel))
theorem ws_23 : Cond.selects "OmegaNetsModel" ⟨"OmegaNetsModel", "changed", "()V"⟩ ⟨"OmegaNetsModel", "changed", "()V"⟩ ∈ lw_tbl := List.mem_append_left _ (List.mem_of_getElem? (i := 23) (by decide +kernel))
theorem ws_24 : Cond.selects "OmegaNetsModel" ⟨"OmegaNetsModel", "begin", "()V"⟩ ⟨"OmegaNetsModel", "begin", "()V"⟩ ∈ lw_tbl := List.mem_append_left _ (List.mem_of_getElem? (i := 24) (by decide +kernel))
theorem ws_25 : Cond.selects "OmegaNetsModel" ⟨"OmegaNetsModel", "isLeaf", "(I)Z"⟩ ⟨"OmegaNetsModel", "isLeaf", "(I)Z"⟩ ∈ lw_tbl := List.mem_append_left _ (List.mem_of_getElem? (i := 25) (by decide +kernel))
theorem ws_26 : Cond.selects "OmegaNetsModel" ⟨"OmegaNetsModel", "isSame", "(II)Z"⟩ ⟨"OmegaNetsModel", "isSame", "(II)Z"⟩ ∈ lw_tbl := List.mem_append_left _ (List.mem_of_getElem? (i := 26) (by decide +kernel))
theorem ws_27 : Cond.selects "OmegaNetsModel" ⟨"OmegaNetsModel", "isBelow", "(II)Z"⟩ ⟨"OmegaNetsModel", "isBelow", "(II)Z"⟩ ∈ lw_tbl := List.mem_append_left _ (List.mem_of_getElem? (i := 27) (by decide +kernel))
theorem ws_28 : Cond.selects "OmegaNetsModel" ⟨"OmegaNetsModel", "isEnabled", "(II)Z"⟩ ⟨"OmegaNetsModel", "isEnabled", "(II)Z"⟩ ∈ lw_tbl := List.mem_append_left _ (List.mem_of_getElem? (i := 28) (by decide +kernel))
theorem ws_29 : Cond.selects "OmegaNetsModel" ⟨"OmegaNetsModel", "grow", "(II)V"⟩ ⟨"OmegaNetsModel", "grow", "(II)V"⟩ ∈ lw_tbl := List.mem_append_left _ (List.mem_of_getElem? (i := 29) (by decide +kernel))
theorem ws_30 : Cond.selects "OmegaNetsModel" ⟨"OmegaNetsModel", "raise", "(I)Z"⟩ ⟨"OmegaNetsModel", "raise", "(I)Z"⟩ ∈ lw_tbl := List.mem_append_left _ (List.mem_of_getElem? (i := 30) (by decide +kernel))
theorem ws_31 : Cond.selects "OmegaNetsModel" ⟨"OmegaNetsModel", "isNode", "(I)Z"⟩ ⟨"OmegaNetsModel", "isNode", "(I)Z"⟩ ∈ lw_tbl := List.mem_append_left _ (List.mem_of_getElem? (i := 31) (by decide +kernel))
theorem ws_32 : Cond.selects "OmegaNetsModel" ⟨"OmegaNetsModel", "depth", "(I)I"⟩ ⟨"OmegaNetsModel", "depth", "(I)I"⟩ ∈ lw_tbl := List.mem_append_left _ (List.mem_of_getElem? (i := 32) (by decide +kernel))
theorem ws_33 : Cond.selects "OmegaNetsModel" ⟨"OmegaNetsModel", "isTop", "(I)Z"⟩ ⟨"OmegaNetsModel", "isTop", "(I)Z"⟩ ∈ lw_tbl := List.mem_append_left _ (List.mem_of_getElem? (i := 33) (by decide +kernel))
theorem ws_34 : Cond.selects "OmegaNetsModel" ⟨"OmegaNetsModel", "topAt", "(I)I"⟩ ⟨"OmegaNetsModel", "topAt", "(I)I"⟩ ∈ lw_tbl := List.mem_append_left _ (List.mem_of_getElem? (i := 34) (by decide +kernel))
theorem ws_35 : Cond.selects "OmegaNetsModel" ⟨"OmegaNetsModel", "makeGoal", "(II)Z"⟩ ⟨"OmegaNetsModel", "makeGoal", "(II)Z"⟩ ∈ lw_tbl := List.mem_append_left _ (List.mem_of_getElem? (i := 35) (by decide +kernel))
theorem ws_36 : Cond.selects "OmegaNetsModel" ⟨"OmegaNetsModel", "isGoalBelow", "(II)Z"⟩ ⟨"OmegaNetsModel", "isGoalBelow", "(II)Z"⟩ ∈ lw_tbl := List.mem_append_left _ (List.mem_of_getElem? (i := 36) (by decide +kernel))
theorem ws_37 : Cond.selects "OmegaNetsModel" ⟨"OmegaNetsModel", "firstGoal", "()I"⟩ ⟨"OmegaNetsModel", "firstGoal", "()I"⟩ ∈ lw_tbl := List.mem_append_left _ (List.mem_of_getElem? (i := 37) (by decide +kernel))
theorem fw_O_18 : Kw "OmegaNets" 18 3 0 true := ⟨(RX3, TX3, 6), rfl, by decide, rfl, w_154, inX3, rfl⟩
theorem fw_O_27 : Kw "OmegaNets" 27 3 1 true := ⟨(RX3, TX3, 6), rfl, by decide, rfl, w_155, inX3, rfl⟩
theorem fw_O_34 : Kw "OmegaNets" 34 3 2 true := ⟨(RX3, TX3, 6), rfl, by decide, rfl, w_156, inX3, rfl⟩
theorem fw_O_38 : Kw "OmegaNets" 38 1 0 false := ⟨(RX1, TX1, 5), rfl, by decide, rfl, w_43, inX1, rfl⟩
theorem fw_O_42 : Kw "OmegaNets" 42 3 3 true := ⟨(RX3, TX3, 6), rfl, by decide, rfl, w_157, inX3, rfl⟩
theorem fw_O_46 : Kw "OmegaNets" 46 3 4 true := ⟨(RX3, TX3, 6), rfl, by decide, rfl, w_158, inX3, rfl⟩
theorem fw_O_49 : Kw "OmegaNets" 49 3 5 false := ⟨(RX3, TX3, 6), rfl, by decide, rfl, w_159, inX3, rfl⟩
theorem fw_N_9 : Kw "OmegaNets$Net" 9 1 0 false := ⟨(RX1, TX1, 5), rfl, by decide, rfl, w_40, inX1, rfl⟩
theorem fw_N_15 : Kw "OmegaNets$Net" 15 1 1 false := ⟨(RX1, TX1, 5), rfl, by decide, rfl, w_44, inX1, rfl⟩
theorem fw_N_20 : Kw "OmegaNets$Net" 20 1 2 true := ⟨(RX1, TX1, 5), rfl, by decide, rfl, w_48, inX1, rfl⟩
theorem fw_N_23 : Kw "OmegaNets$Net" 23 1 3 true := ⟨(RX1, TX1, 5), rfl, by decide, rfl, w_51, inX1, rfl⟩
theorem fw_N_26 : Kw "OmegaNets$Net" 26 1 4 true := ⟨(RX1, TX1, 5), rfl, by decide, rfl, w_53, inX1, rfl⟩
theorem fw_T_9 : Kw "OmegaNets$Tree" 9 2 2 true := ⟨(RX2, TX2, 10), rfl, by decide, rfl, w_78, inX2, rfl⟩
theorem fw_T_15 : Kw "OmegaNets$Tree" 15 2 3 true := ⟨(RX2, TX2, 10), rfl, by decide, rfl, w_80, inX2, rfl⟩
theorem fw_T_18 : Kw "OmegaNets$Tree" 18 2 4 true := ⟨(RX2, TX2, 10), rfl, by decide, rfl, w_82, inX2, rfl⟩
theorem fw_T_21 : Kw "OmegaNets$Tree" 21 2 5 true := ⟨(RX2, TX2, 10), rfl, by decide, rfl, w_84, inX2, rfl⟩
theorem fw_T_25 : Kw "OmegaNets$Tree" 25 2 6 true := ⟨(RX2, TX2, 10), rfl, by decide, rfl, w_86, inX2, rfl⟩
theorem fw_T_28 : Kw "OmegaNets$Tree" 28 2 0 true := ⟨(RX2, TX2, 10), rfl, by decide, rfl, w_75, inX2, rfl⟩
theorem fw_T_32 : Kw "OmegaNets$Tree" 32 1 0 false := ⟨(RX1, TX1, 5), rfl, by decide, rfl, w_42, inX1, rfl⟩
theorem fw_T_40 : Kw "OmegaNets$Tree" 40 2 1 true := ⟨(RX2, TX2, 10), rfl, by decide, rfl, w_76, inX2, rfl⟩
theorem fw_G_9 : Kw "OmegaNets$Goals" 9 0 2 true := ⟨(RX0, TX0, 9), rfl, by decide, rfl, w_126, inX0, rfl⟩
theorem fw_G_15 : Kw "OmegaNets$Goals" 15 0 3 true := ⟨(RX0, TX0, 9), rfl, by decide, rfl, w_127, inX0, rfl⟩
theorem fw_G_18 : Kw "OmegaNets$Goals" 18 0 4 true := ⟨(RX0, TX0, 9), rfl, by decide, rfl, w_128, inX0, rfl⟩
theorem fw_G_21 : Kw "OmegaNets$Goals" 21 0 5 true := ⟨(RX0, TX0, 9), rfl, by decide, rfl, w_130, inX0, rfl⟩
theorem fw_G_25 : Kw "OmegaNets$Goals" 25 0 0 true := ⟨(RX0, TX0, 9), rfl, by decide, rfl, w_123, inX0, rfl⟩
theorem fw_G_29 : Kw "OmegaNets$Goals" 29 1 0 false := ⟨(RX1, TX1, 5), rfl, by decide, rfl, w_41, inX1, rfl⟩
theorem fw_G_37 : Kw "OmegaNets$Goals" 37 0 1 true := ⟨(RX0, TX0, 9), rfl, by decide, rfl, w_124, inX0, rfl⟩
theorem fw_G_40 : Kw "OmegaNets$Goals" 40 0 6 true := ⟨(RX0, TX0, 9), rfl, by decide, rfl, w_131, inX0, rfl⟩
theorem fw_O_72 : Kw "OmegaNets" 72 1 4 true := ⟨(RX1, TX1, 5), rfl, by decide, rfl, w_55, inX1, rfl⟩
theorem fw_O_62 : Kw "OmegaNets" 62 1 2 true := ⟨(RX1, TX1, 5), rfl, by decide, rfl, w_49, inX1, rfl⟩
theorem fw_O_66 : Kw "OmegaNets" 66 1 3 true := ⟨(RX1, TX1, 5), rfl, by decide, rfl, w_52, inX1, rfl⟩
theorem fw_O_206 : Kw "OmegaNets" 206 1 1 false := ⟨(RX1, TX1, 5), rfl, by decide, rfl, w_47, inX1, rfl⟩
theorem fw_O_93 : Kw "OmegaNets" 93 2 9 false := ⟨(RX2, TX2, 10), rfl, by decide, rfl, w_93, inX2, rfl⟩
theorem fw_O_78 : Kw "OmegaNets" 78 0 8 false := ⟨(RX0, TX0, 9), rfl, by decide, rfl, w_134, inX0, rfl⟩
theorem fw_O_101 : Kw "OmegaNets" 101 2 7 false := ⟨(RX2, TX2, 10), rfl, by decide, rfl, w_89, inX2, rfl⟩
theorem fw_T_43 : Kw "OmegaNets$Tree" 43 2 9 false := ⟨(RX2, TX2, 10), rfl, by decide, rfl, w_92, inX2, rfl⟩
theorem fw_T_50 : Kw "OmegaNets$Tree" 50 2 7 false := ⟨(RX2, TX2, 10), rfl, by decide, rfl, w_88, inX2, rfl⟩
theorem fw_T_63 : Kw "OmegaNets$Tree" 63 1 4 true := ⟨(RX1, TX1, 5), rfl, by decide, rfl, w_54, inX1, rfl⟩
theorem fw_T_76 : Kw "OmegaNets$Tree" 76 1 1 false := ⟨(RX1, TX1, 5), rfl, by decide, rfl, w_46, inX1, rfl⟩
theorem fw_T_101 : Kw "OmegaNets$Tree" 101 2 8 false := ⟨(RX2, TX2, 10), rfl, by decide, rfl, w_90, inX2, rfl⟩
theorem fw_O_110 : Kw "OmegaNets" 110 2 1 true := ⟨(RX2, TX2, 10), rfl, by decide, rfl, w_77, inX2, rfl⟩
theorem fw_O_117 : Kw "OmegaNets" 117 2 2 true := ⟨(RX2, TX2, 10), rfl, by decide, rfl, w_79, inX2, rfl⟩
theorem fw_O_120 : Kw "OmegaNets" 120 2 3 true := ⟨(RX2, TX2, 10), rfl, by decide, rfl, w_81, inX2, rfl⟩
theorem fw_O_123 : Kw "OmegaNets" 123 2 5 true := ⟨(RX2, TX2, 10), rfl, by decide, rfl, w_85, inX2, rfl⟩
theorem fw_O_132 : Kw "OmegaNets" 132 2 4 true := ⟨(RX2, TX2, 10), rfl, by decide, rfl, w_83, inX2, rfl⟩
theorem fw_O_145 : Kw "OmegaNets" 145 2 8 false := ⟨(RX2, TX2, 10), rfl, by decide, rfl, w_91, inX2, rfl⟩
theorem fw_O_148 : Kw "OmegaNets" 148 2 6 true := ⟨(RX2, TX2, 10), rfl, by decide, rfl, w_87, inX2, rfl⟩
theorem fw_T_113 : Kw "OmegaNets$Tree" 113 1 2 true := ⟨(RX1, TX1, 5), rfl, by decide, rfl, w_50, inX1, rfl⟩
theorem fw_G_43 : Kw "OmegaNets$Goals" 43 0 8 false := ⟨(RX0, TX0, 9), rfl, by decide, rfl, w_133, inX0, rfl⟩
theorem fw_G_51 : Kw "OmegaNets$Goals" 51 0 7 false := ⟨(RX0, TX0, 9), rfl, by decide, rfl, w_132, inX0, rfl⟩
theorem fw_G_64 : Kw "OmegaNets$Goals" 64 1 1 false := ⟨(RX1, TX1, 5), rfl, by decide, rfl, w_45, inX1, rfl⟩
theorem fw_O_183 : Kw "OmegaNets" 183 0 1 true := ⟨(RX0, TX0, 9), rfl, by decide, rfl, w_125, inX0, rfl⟩
theorem fw_O_184 : Kw "OmegaNets" 184 0 4 true := ⟨(RX0, TX0, 9), rfl, by decide, rfl, w_129, inX0, rfl⟩
theorem fw_M_7 : Kw "OmegaNetsModel" 7 4 3 true := ⟨(RX4, TX4, 21), rfl, by decide, rfl, w_620, inX4, rfl⟩
theorem fw_M_13 : Kw "OmegaNetsModel" 13 4 4 true := ⟨(RX4, TX4, 21), rfl, by decide, rfl, w_621, inX4, rfl⟩
theorem fw_M_16 : Kw "OmegaNetsModel" 16 4 5 true := ⟨(RX4, TX4, 21), rfl, by decide, rfl, w_622, inX4, rfl⟩
theorem fw_M_19 : Kw "OmegaNetsModel" 19 4 6 true := ⟨(RX4, TX4, 21), rfl, by decide, rfl, w_623, inX4, rfl⟩
theorem fw_M_22 : Kw "OmegaNetsModel" 22 4 7 true := ⟨(RX4, TX4, 21), rfl, by decide, rfl, w_624, inX4, rfl⟩
theorem fw_M_25 : Kw "OmegaNetsModel" 25 4 11 true := ⟨(RX4, TX4, 21), rfl, by decide, rfl, w_628, inX4, rfl⟩
theorem fw_M_28 : Kw "OmegaNetsModel" 28 4 12 true := ⟨(RX4, TX4, 21), rfl, by decide, rfl, w_629, inX4, rfl⟩
theorem fw_M_31 : Kw "OmegaNetsModel" 31 4 13 true := ⟨(RX4, TX4, 21), rfl, by decide, rfl, w_630, inX4, rfl⟩
theorem fw_M_34 : Kw "OmegaNetsModel" 34 4 14 true := ⟨(RX4, TX4, 21), rfl, by decide, rfl, w_631, inX4, rfl⟩
theorem fw_M_38 : Kw "OmegaNetsModel" 38 4 17 true := ⟨(RX4, TX4, 21), rfl, by decide, rfl, w_634, inX4, rfl⟩
theorem fw_M_41 : Kw "OmegaNetsModel" 41 4 18 true := ⟨(RX4, TX4, 21), rfl, by decide, rfl, w_635, inX4, rfl⟩
theorem fw_M_44 : Kw "OmegaNetsModel" 44 4 19 true := ⟨(RX4, TX4, 21), rfl, by decide, rfl, w_636, inX4, rfl⟩
theorem fw_M_47 : Kw "OmegaNetsModel" 47 4 20 true := ⟨(RX4, TX4, 21), rfl, by decide, rfl, w_637, inX4, rfl⟩
theorem fw_M_50 : Kw "OmegaNetsModel" 50 4 1 false := ⟨(RX4, TX4, 21), rfl, by decide, rfl, w_618, inX4, rfl⟩
theorem fw_M_54 : Kw "OmegaNetsModel" 54 4 2 false := ⟨(RX4, TX4, 21), rfl, by decide, rfl, w_619, inX4, rfl⟩
theorem fw_M_57 : Kw "OmegaNetsModel" 57 4 0 false := ⟨(RX4, TX4, 21), rfl, by decide, rfl, w_617, inX4, rfl⟩
theorem fw_M_60 : Kw "OmegaNetsModel" 60 4 9 false := ⟨(RX4, TX4, 21), rfl, by decide, rfl, w_626, inX4, rfl⟩
theorem fw_M_64 : Kw "OmegaNetsModel" 64 4 15 false := ⟨(RX4, TX4, 21), rfl, by decide, rfl, w_632, inX4, rfl⟩
theorem fw_M_77 : Kw "OmegaNetsModel" 77 4 8 false := ⟨(RX4, TX4, 21), rfl, by decide, rfl, w_625, inX4, rfl⟩
theorem fw_M_91 : Kw "OmegaNetsModel" 91 4 10 false := ⟨(RX4, TX4, 21), rfl, by decide, rfl, w_627, inX4, rfl⟩
theorem fw_M_123 : Kw "OmegaNetsModel" 123 4 16 false := ⟨(RX4, TX4, 21), rfl, by decide, rfl, w_633, inX4, rfl⟩
theorem ko_O_3_0 : Ko "OmegaNets" 3 0 (.object "OmegaNets$Net") true := ⟨(RX3, TX3, 6), tyX3, rfl, tyX3_ok, nmX3, rfl, rfl, fun _ => rfl⟩
theorem ko_O_3_1 : Ko "OmegaNets" 3 1 (.object "OmegaNets$Tree") true := ⟨(RX3, TX3, 6), tyX3, rfl, tyX3_ok, nmX3, rfl, rfl, fun _ => rfl⟩
theorem ko_O_3_2 : Ko "OmegaNets" 3 2 (.object "OmegaNets$Goals") true := ⟨(RX3, TX3, 6), tyX3, rfl, tyX3_ok, nmX3, rfl, rfl, fun _ => rfl⟩
theorem ko_O_3_3 : Ko "OmegaNets" 3 3 (.array .int) true := ⟨(RX3, TX3, 6), tyX3, rfl, tyX3_ok, nmX3, rfl, rfl, fun _ => rfl⟩
theorem ko_O_3_4 : Ko "OmegaNets" 3 4 (.array .int) true := ⟨(RX3, TX3, 6), tyX3, rfl, tyX3_ok, nmX3, rfl, rfl, fun _ => rfl⟩
theorem ko_O_3_5 : Ko "OmegaNets" 3 5 .int false := ⟨(RX3, TX3, 6), tyX3, rfl, tyX3_ok, nmX3, rfl, rfl, fun h => by cases h⟩
theorem ko_N_1_0 : Ko "OmegaNets$Net" 1 0 .int true := ⟨(RX1, TX1, 5), tyX1, rfl, tyX1_ok, nmX1, rfl, rfl, fun _ => rfl⟩
theorem ko_N_1_1 : Ko "OmegaNets$Net" 1 1 .int true := ⟨(RX1, TX1, 5), tyX1, rfl, tyX1_ok, nmX1, rfl, rfl, fun _ => rfl⟩
theorem ko_N_1_2 : Ko "OmegaNets$Net" 1 2 (.array (.array .int)) true := ⟨(RX1, TX1, 5), tyX1, rfl, tyX1_ok, nmX1, rfl, rfl, fun _ => rfl⟩
theorem ko_N_1_3 : Ko "OmegaNets$Net" 1 3 (.array (.array .int)) true := ⟨(RX1, TX1, 5), tyX1, rfl, tyX1_ok, nmX1, rfl, rfl, fun _ => rfl⟩
theorem ko_N_1_4 : Ko "OmegaNets$Net" 1 4 (.array .int) true := ⟨(RX1, TX1, 5), tyX1, rfl, tyX1_ok, nmX1, rfl, rfl, fun _ => rfl⟩
theorem ko_T_2_2 : Ko "OmegaNets$Tree" 2 2 (.array .int) true := ⟨(RX2, TX2, 10), tyX2, rfl, tyX2_ok, nmX2, rfl, rfl, fun _ => rfl⟩
theorem ko_T_2_3 : Ko "OmegaNets$Tree" 2 3 (.array .int) true := ⟨(RX2, TX2, 10), tyX2, rfl, tyX2_ok, nmX2, rfl, rfl, fun _ => rfl⟩
theorem ko_T_2_4 : Ko "OmegaNets$Tree" 2 4 (.array .int) true := ⟨(RX2, TX2, 10), tyX2, rfl, tyX2_ok, nmX2, rfl, rfl, fun _ => rfl⟩
theorem ko_T_2_5 : Ko "OmegaNets$Tree" 2 5 (.array .boolean) true := ⟨(RX2, TX2, 10), tyX2, rfl, tyX2_ok, nmX2, rfl, rfl, fun _ => rfl⟩
theorem ko_T_2_6 : Ko "OmegaNets$Tree" 2 6 (.array .int) true := ⟨(RX2, TX2, 10), tyX2, rfl, tyX2_ok, nmX2, rfl, rfl, fun _ => rfl⟩
theorem ko_T_2_0 : Ko "OmegaNets$Tree" 2 0 (.object "OmegaNets$Net") true := ⟨(RX2, TX2, 10), tyX2, rfl, tyX2_ok, nmX2, rfl, rfl, fun _ => rfl⟩
theorem ko_T_2_1 : Ko "OmegaNets$Tree" 2 1 (.array (.array .int)) true := ⟨(RX2, TX2, 10), tyX2, rfl, tyX2_ok, nmX2, rfl, rfl, fun _ => rfl⟩
theorem ko_G_0_2 : Ko "OmegaNets$Goals" 0 2 (.array .int) true := ⟨(RX0, TX0, 9), tyX0, rfl, tyX0_ok, nmX0, rfl, rfl, fun _ => rfl⟩
theorem ko_G_0_3 : Ko "OmegaNets$Goals" 0 3 (.array .int) true := ⟨(RX0, TX0, 9), tyX0, rfl, tyX0_ok, nmX0, rfl, rfl, fun _ => rfl⟩
theorem ko_G_0_4 : Ko "OmegaNets$Goals" 0 4 (.array .int) true := ⟨(RX0, TX0, 9), tyX0, rfl, tyX0_ok, nmX0, rfl, rfl, fun _ => rfl⟩
theorem ko_G_0_5 : Ko "OmegaNets$Goals" 0 5 (.array .boolean) true := ⟨(RX0, TX0, 9), tyX0, rfl, tyX0_ok, nmX0, rfl, rfl, fun _ => rfl⟩
theorem ko_G_0_0 : Ko "OmegaNets$Goals" 0 0 (.object "OmegaNets$Net") true := ⟨(RX0, TX0, 9), tyX0, rfl, tyX0_ok, nmX0, rfl, rfl, fun _ => rfl⟩
theorem ko_G_0_1 : Ko "OmegaNets$Goals" 0 1 (.array (.array .int)) true := ⟨(RX0, TX0, 9), tyX0, rfl, tyX0_ok, nmX0, rfl, rfl, fun _ => rfl⟩
theorem ko_G_0_6 : Ko "OmegaNets$Goals" 0 6 (.array .int) true := ⟨(RX0, TX0, 9), tyX0, rfl, tyX0_ok, nmX0, rfl, rfl, fun _ => rfl⟩
theorem ko_O_2_9 : Ko "OmegaNets" 2 9 .boolean false := ⟨(RX2, TX2, 10), tyX2, rfl, tyX2_ok, nmX2, rfl, rfl, fun h => by cases h⟩
theorem ko_O_0_8 : Ko "OmegaNets" 0 8 .boolean false := ⟨(RX0, TX0, 9), tyX0, rfl, tyX0_ok, nmX0, rfl, rfl, fun h => by cases h⟩
theorem ko_T_2_9 : Ko "OmegaNets$Tree" 2 9 .boolean false := ⟨(RX2, TX2, 10), tyX2, rfl, tyX2_ok, nmX2, rfl, rfl, fun h => by cases h⟩
theorem ko_T_2_7 : Ko "OmegaNets$Tree" 2 7 .int false := ⟨(RX2, TX2, 10), tyX2, rfl, tyX2_ok, nmX2, rfl, rfl, fun h => by cases h⟩
theorem ko_T_2_8 : Ko "OmegaNets$Tree" 2 8 .int false := ⟨(RX2, TX2, 10), tyX2, rfl, tyX2_ok, nmX2, rfl, rfl, fun h => by cases h⟩
theorem ko_G_0_8 : Ko "OmegaNets$Goals" 0 8 .boolean false := ⟨(RX0, TX0, 9), tyX0, rfl, tyX0_ok, nmX0, rfl, rfl, fun h => by cases h⟩
theorem ko_G_0_7 : Ko "OmegaNets$Goals" 0 7 .int false := ⟨(RX0, TX0, 9), tyX0, rfl, tyX0_ok, nmX0, rfl, rfl, fun h => by cases h⟩
theorem ko_M_4_3 : Ko "OmegaNetsModel" 4 3 (.array .int) true := ⟨(RX4, TX4, 21), tyX4, rfl, tyX4_ok, nmX4, rfl, rfl, fun _ => rfl⟩
theorem ko_M_4_4 : Ko "OmegaNetsModel" 4 4 (.array .int) true := ⟨(RX4, TX4, 21), tyX4, rfl, tyX4_ok, nmX4, rfl, rfl, fun _ => rfl⟩
theorem ko_M_4_5 : Ko "OmegaNetsModel" 4 5 (.array .int) true := ⟨(RX4, TX4, 21), tyX4, rfl, tyX4_ok, nmX4, rfl, rfl, fun _ => rfl⟩
theorem ko_M_4_6 : Ko "OmegaNetsModel" 4 6 (.array .int) true := ⟨(RX4, TX4, 21), tyX4, rfl, tyX4_ok, nmX4, rfl, rfl, fun _ => rfl⟩
theorem ko_M_4_7 : Ko "OmegaNetsModel" 4 7 (.array .int) true := ⟨(RX4, TX4, 21), tyX4, rfl, tyX4_ok, nmX4, rfl, rfl, fun _ => rfl⟩
theorem ko_M_4_11 : Ko "OmegaNetsModel" 4 11 (.array .int) true := ⟨(RX4, TX4, 21), tyX4, rfl, tyX4_ok, nmX4, rfl, rfl, fun _ => rfl⟩
theorem ko_M_4_12 : Ko "OmegaNetsModel" 4 12 (.array .int) true := ⟨(RX4, TX4, 21), tyX4, rfl, tyX4_ok, nmX4, rfl, rfl, fun _ => rfl⟩
theorem ko_M_4_13 : Ko "OmegaNetsModel" 4 13 (.array .int) true := ⟨(RX4, TX4, 21), tyX4, rfl, tyX4_ok, nmX4, rfl, rfl, fun _ => rfl⟩
theorem ko_M_4_14 : Ko "OmegaNetsModel" 4 14 (.array .boolean) true := ⟨(RX4, TX4, 21), tyX4, rfl, tyX4_ok, nmX4, rfl, rfl, fun _ => rfl⟩
theorem ko_M_4_17 : Ko "OmegaNetsModel" 4 17 (.array .int) true := ⟨(RX4, TX4, 21), tyX4, rfl, tyX4_ok, nmX4, rfl, rfl, fun _ => rfl⟩
theorem ko_M_4_18 : Ko "OmegaNetsModel" 4 18 (.array .int) true := ⟨(RX4, TX4, 21), tyX4, rfl, tyX4_ok, nmX4, rfl, rfl, fun _ => rfl⟩
theorem ko_M_4_19 : Ko "OmegaNetsModel" 4 19 (.array .int) true := ⟨(RX4, TX4, 21), tyX4, rfl, tyX4_ok, nmX4, rfl, rfl, fun _ => rfl⟩
theorem ko_M_4_20 : Ko "OmegaNetsModel" 4 20 (.array .boolean) true := ⟨(RX4, TX4, 21), tyX4, rfl, tyX4_ok, nmX4, rfl, rfl, fun _ => rfl⟩
theorem ko_M_4_1 : Ko "OmegaNetsModel" 4 1 .int true := ⟨(RX4, TX4, 21), tyX4, rfl, tyX4_ok, nmX4, rfl, rfl, fun _ => rfl⟩
theorem ko_M_4_2 : Ko "OmegaNetsModel" 4 2 .int true := ⟨(RX4, TX4, 21), tyX4, rfl, tyX4_ok, nmX4, rfl, rfl, fun _ => rfl⟩
theorem ko_M_4_0 : Ko "OmegaNetsModel" 4 0 .int false := ⟨(RX4, TX4, 21), tyX4, rfl, tyX4_ok, nmX4, rfl, rfl, fun h => by cases h⟩
theorem ko_M_4_9 : Ko "OmegaNetsModel" 4 9 .boolean false := ⟨(RX4, TX4, 21), tyX4, rfl, tyX4_ok, nmX4, rfl, rfl, fun h => by cases h⟩
theorem ko_M_4_15 : Ko "OmegaNetsModel" 4 15 .boolean false := ⟨(RX4, TX4, 21), tyX4, rfl, tyX4_ok, nmX4, rfl, rfl, fun h => by cases h⟩
theorem ko_M_4_8 : Ko "OmegaNetsModel" 4 8 .int false := ⟨(RX4, TX4, 21), tyX4, rfl, tyX4_ok, nmX4, rfl, rfl, fun h => by cases h⟩
theorem ko_M_4_10 : Ko "OmegaNetsModel" 4 10 .int false := ⟨(RX4, TX4, 21), tyX4, rfl, tyX4_ok, nmX4, rfl, rfl, fun h => by cases h⟩
theorem ko_M_4_16 : Ko "OmegaNetsModel" 4 16 .int false := ⟨(RX4, TX4, 21), tyX4, rfl, tyX4_ok, nmX4, rfl, rfl, fun h => by cases h⟩
theorem xt_182_178 : ∀ w ∈ vx_atS "OmegaNets" 182 "java/lang/IndexOutOfBoundsException" nmE, w ∈ lw_tbl ∧ (stW w && vx_ot w) = true := by decide +kernel
theorem xt_131_127 : ∀ w ∈ vx_atS "OmegaNets" 131 "java/lang/IllegalArgumentException" nmE, w ∈ lw_tbl ∧ (stW w && vx_ot w) = true := by decide +kernel
theorem xt_98_94 : ∀ w ∈ vx_atS "OmegaNets" 98 "java/lang/IllegalStateException" nmE, w ∈ lw_tbl ∧ (stW w && vx_ot w) = true := by decide +kernel
theorem xt_205_201 : ∀ w ∈ vx_atS "OmegaNets" 205 "java/lang/UnsupportedOperationException" nmE, w ∈ lw_tbl ∧ (stW w && vx_ot w) = true := by decide +kernel
theorem O_within_q : Kq O_within := ⟨by decide +kernel, ⟨by decide, by decide⟩, by decide, Or.inl ⟨rfl, w_27⟩, w_1⟩
theorem N_init_q : Kq N_init := ⟨by decide +kernel, ⟨by decide, by decide⟩, by decide, Or.inl ⟨rfl, w_36⟩, w_2⟩
theorem T_init_q : Kq T_init := ⟨by decide +kernel, ⟨by decide, by decide⟩, by decide, Or.inl ⟨rfl, w_72⟩, w_4⟩
theorem G_init_q : Kq G_init := ⟨by decide +kernel, ⟨by decide, by decide⟩, by decide, Or.inl ⟨rfl, w_120⟩, w_5⟩
theorem O_returnToStart_q : Kq O_returnToStart := ⟨by decide +kernel, ⟨by decide, by decide⟩, by decide, Or.inl ⟨rfl, w_180⟩, w_1⟩
theorem O_arc_q : Kq O_arc := ⟨by decide +kernel, ⟨by decide, by decide⟩, by decide, Or.inl ⟨rfl, w_195⟩, w_1⟩
theorem O_checkTransition_q : Kq O_checkTransition := ⟨by decide +kernel, ⟨by decide, by decide⟩, by decide, Or.inl ⟨rfl, w_199⟩, w_1⟩
theorem O_checkPlace_q : Kq O_checkPlace := ⟨by decide +kernel, ⟨by decide, by decide⟩, by decide, Or.inl ⟨rfl, w_275⟩, w_1⟩
theorem O_checkNumber_q : Kq O_checkNumber := ⟨by decide +kernel, ⟨by decide, by decide⟩, by decide, Or.inl ⟨rfl, w_278⟩, w_1⟩
theorem O_forgetTreeAndGoals_q : Kq O_forgetTreeAndGoals := ⟨by decide +kernel, ⟨by decide, by decide⟩, by decide, Or.inl ⟨rfl, w_298⟩, w_1⟩
theorem O_checkIndex_q : Kq O_checkIndex := ⟨by decide +kernel, ⟨by decide, by decide⟩, by decide, Or.inl ⟨rfl, w_202⟩, w_1⟩
theorem O_start_q : Kq O_start := ⟨by decide +kernel, ⟨by decide, by decide⟩, by decide, Or.inl ⟨rfl, w_305⟩, w_1⟩
theorem O_want_q : Kq O_want := ⟨by decide +kernel, ⟨by decide, by decide⟩, by decide, Or.inl ⟨rfl, w_312⟩, w_1⟩
theorem O_fire_q : Kq O_fire := ⟨by decide +kernel, ⟨by decide, by decide⟩, by decide, Or.inl ⟨rfl, w_319⟩, w_1⟩
theorem N_enables_q : Kq N_enables := ⟨by decide +kernel, ⟨by decide, by decide⟩, by decide, Or.inl ⟨rfl, w_323⟩, w_2⟩
theorem N_move_q : Kq N_move := ⟨by decide +kernel, ⟨by decide, by decide⟩, by decide, Or.inl ⟨rfl, w_330⟩, w_2⟩
theorem O_isBelow_q : Kq O_isBelow := ⟨by decide +kernel, ⟨by decide, by decide⟩, by decide, Or.inl ⟨rfl, w_326⟩, w_1⟩
theorem O_at_q : Kq O_at := ⟨by decide +kernel, ⟨by decide, by decide⟩, by decide, Or.inl ⟨rfl, w_338⟩, w_1⟩
theorem O_explore_q : Kq O_explore := ⟨by decide +kernel, ⟨by decide, by decide⟩, by decide, Or.inl ⟨rfl, w_346⟩, w_1⟩
theorem T_grow_q : Kq T_grow := ⟨by decide +kernel, ⟨by decide, by decide⟩, by decide, Or.inl ⟨rfl, w_350⟩, w_4⟩
theorem T_plant_q : Kq T_plant := ⟨by decide +kernel, ⟨by decide, by decide⟩, by decide, Or.inl ⟨rfl, w_354⟩, w_4⟩
theorem T_repeatsOneAbove_q : Kq T_repeatsOneAbove := ⟨by decide +kernel, ⟨by decide, by decide⟩, by decide, Or.inl ⟨rfl, w_359⟩, w_4⟩
theorem T_branch_q : Kq T_branch := ⟨by decide +kernel, ⟨by decide, by decide⟩, by decide, Or.inl ⟨rfl, w_367⟩, w_4⟩
theorem T_findPeaks_q : Kq T_findPeaks := ⟨by decide +kernel, ⟨by decide, by decide⟩, by decide, Or.inl ⟨rfl, w_387⟩, w_4⟩
theorem O_isSame_q : Kq O_isSame := ⟨by decide +kernel, ⟨by decide, by decide⟩, by decide, Or.inl ⟨rfl, w_362⟩, w_1⟩
theorem T_addNode_q : Kq T_addNode := ⟨by decide +kernel, ⟨by decide, by decide⟩, by decide, Or.inl ⟨rfl, w_372⟩, w_4⟩
theorem T_lift_q : Kq T_lift := ⟨by decide +kernel, ⟨by decide, by decide⟩, by decide, Or.inl ⟨rfl, w_377⟩, w_4⟩
theorem T_liftOver_q : Kq T_liftOver := ⟨by decide +kernel, ⟨by decide, by decide⟩, by decide, Or.inl ⟨rfl, w_381⟩, w_4⟩
theorem T_isPeak_q : Kq T_isPeak := ⟨by decide +kernel, ⟨by decide, by decide⟩, by decide, Or.inl ⟨rfl, w_391⟩, w_4⟩
theorem O_count_q : Kq O_count := ⟨by decide +kernel, ⟨by decide, by decide⟩, by decide, Or.inl ⟨rfl, w_414⟩, w_1⟩
theorem O_checkTree_q : Kq O_checkTree := ⟨by decide +kernel, ⟨by decide, by decide⟩, by decide, Or.inl ⟨rfl, w_418⟩, w_1⟩
theorem O_checkNode_q : Kq O_checkNode := ⟨by decide +kernel, ⟨by decide, by decide⟩, by decide, Or.inl ⟨rfl, w_423⟩, w_1⟩
theorem O_shown_q : Kq O_shown := ⟨by decide +kernel, ⟨by decide, by decide⟩, by decide, Or.inl ⟨rfl, w_426⟩, w_1⟩
theorem O_node_q : Kq O_node := ⟨by decide +kernel, ⟨by decide, by decide⟩, by decide, Or.inl ⟨rfl, w_434⟩, w_1⟩
theorem O_path_q : Kq O_path := ⟨by decide +kernel, ⟨by decide, by decide⟩, by decide, Or.inl ⟨rfl, w_442⟩, w_1⟩
theorem T_stepTo_q : Kq T_stepTo := ⟨by decide +kernel, ⟨by decide, by decide⟩, by decide, Or.inl ⟨rfl, w_446⟩, w_4⟩
theorem O_bound_q : Kq O_bound := ⟨by decide +kernel, ⟨by decide, by decide⟩, by decide, Or.inl ⟨rfl, w_453⟩, w_1⟩
theorem T_greatest_q : Kq T_greatest := ⟨by decide +kernel, ⟨by decide, by decide⟩, by decide, Or.inl ⟨rfl, w_457⟩, w_4⟩
theorem O_tops_q : Kq O_tops := ⟨by decide +kernel, ⟨by decide, by decide⟩, by decide, Or.inl ⟨rfl, w_465⟩, w_1⟩
theorem O_top_q : Kq O_top := ⟨by decide +kernel, ⟨by decide, by decide⟩, by decide, Or.inl ⟨rfl, w_472⟩, w_1⟩
theorem O_covered_q : Kq O_covered := ⟨by decide +kernel, ⟨by decide, by decide⟩, by decide, Or.inl ⟨rfl, w_479⟩, w_1⟩
theorem T_reachesAbove_q : Kq T_reachesAbove := ⟨by decide +kernel, ⟨by decide, by decide⟩, by decide, Or.inl ⟨rfl, w_483⟩, w_4⟩
theorem O_lives_q : Kq O_lives := ⟨by decide +kernel, ⟨by decide, by decide⟩, by decide, Or.inl ⟨rfl, w_490⟩, w_1⟩
theorem T_everEnables_q : Kq T_everEnables := ⟨by decide +kernel, ⟨by decide, by decide⟩, by decide, Or.inl ⟨rfl, w_494⟩, w_4⟩
theorem O_dead_q : Kq O_dead := ⟨by decide +kernel, ⟨by decide, by decide⟩, by decide, Or.inl ⟨rfl, w_502⟩, w_1⟩
theorem T_firstStuck_q : Kq T_firstStuck := ⟨by decide +kernel, ⟨by decide, by decide⟩, by decide, Or.inl ⟨rfl, w_506⟩, w_4⟩
theorem N_isStuck_q : Kq N_isStuck := ⟨by decide +kernel, ⟨by decide, by decide⟩, by decide, Or.inl ⟨rfl, w_510⟩, w_2⟩
theorem O_back_q : Kq O_back := ⟨by decide +kernel, ⟨by decide, by decide⟩, by decide, Or.inl ⟨rfl, w_518⟩, w_1⟩
theorem G_gather_q : Kq G_gather := ⟨by decide +kernel, ⟨by decide, by decide⟩, by decide, Or.inl ⟨rfl, w_522⟩, w_5⟩
theorem G_keptCount_q : Kq G_keptCount := ⟨by decide +kernel, ⟨by decide, by decide⟩, by decide, Or.inl ⟨rfl, w_550⟩, w_5⟩
theorem G_plant_q : Kq G_plant := ⟨by decide +kernel, ⟨by decide, by decide⟩, by decide, Or.inl ⟨rfl, w_526⟩, w_5⟩
theorem G_goBack_q : Kq G_goBack := ⟨by decide +kernel, ⟨by decide, by decide⟩, by decide, Or.inl ⟨rfl, w_531⟩, w_5⟩
theorem N_moveBack_q : Kq N_moveBack := ⟨by decide +kernel, ⟨by decide, by decide⟩, by decide, Or.inl ⟨rfl, w_535⟩, w_2⟩
theorem G_isKnown_q : Kq G_isKnown := ⟨by decide +kernel, ⟨by decide, by decide⟩, by decide, Or.inl ⟨rfl, w_540⟩, w_5⟩
theorem G_addCandidate_q : Kq G_addCandidate := ⟨by decide +kernel, ⟨by decide, by decide⟩, by decide, Or.inl ⟨rfl, w_545⟩, w_5⟩
theorem O_goal_q : Kq O_goal := ⟨by decide +kernel, ⟨by decide, by decide⟩, by decide, Or.inl ⟨rfl, w_557⟩, w_1⟩
theorem O_checkGoals_q : Kq O_checkGoals := ⟨by decide +kernel, ⟨by decide, by decide⟩, by decide, Or.inl ⟨rfl, w_561⟩, w_1⟩
theorem G_kept_q : Kq G_kept := ⟨by decide +kernel, ⟨by decide, by decide⟩, by decide, Or.inl ⟨rfl, w_566⟩, w_5⟩
theorem O_length_q : Kq O_length := ⟨by decide +kernel, ⟨by decide, by decide⟩, by decide, Or.inl ⟨rfl, w_575⟩, w_1⟩
theorem O_goalBelowStart_q : Kq O_goalBelowStart := ⟨by decide +kernel, ⟨by decide, by decide⟩, by decide, Or.inl ⟨rfl, w_579⟩, w_1⟩
theorem G_firstBelow_q : Kq G_firstBelow := ⟨by decide +kernel, ⟨by decide, by decide⟩, by decide, Or.inl ⟨rfl, w_583⟩, w_5⟩
theorem O_way_q : Kq O_way := ⟨by decide +kernel, ⟨by decide, by decide⟩, by decide, Or.inl ⟨rfl, w_606⟩, w_1⟩
theorem G_stepFrom_q : Kq G_stepFrom := ⟨by decide +kernel, ⟨by decide, by decide⟩, by decide, Or.inl ⟨rfl, w_610⟩, w_5⟩
theorem M_isTransition_q : Kq M_isTransition := ⟨by decide +kernel, ⟨by decide, by decide⟩, by decide, Or.inl ⟨rfl, w_692⟩, w_6⟩
theorem M_isPlace_q : Kq M_isPlace := ⟨by decide +kernel, ⟨by decide, by decide⟩, by decide, Or.inl ⟨rfl, w_696⟩, w_6⟩
theorem M_changed_q : Kq M_changed := ⟨by decide +kernel, ⟨by decide, by decide⟩, by decide, Or.inl ⟨rfl, w_700⟩, w_6⟩
theorem M_begin_q : Kq M_begin := ⟨by decide +kernel, ⟨by decide, by decide⟩, by decide, Or.inl ⟨rfl, w_708⟩, w_6⟩
theorem M_isLeaf_q : Kq M_isLeaf := ⟨by decide +kernel, ⟨by decide, by decide⟩, by decide, Or.inl ⟨rfl, w_732⟩, w_6⟩
theorem M_isEnabled_q : Kq M_isEnabled := ⟨by decide +kernel, ⟨by decide, by decide⟩, by decide, Or.inl ⟨rfl, w_744⟩, w_6⟩
theorem M_grow_q : Kq M_grow := ⟨by decide +kernel, ⟨by decide, by decide⟩, by decide, Or.inl ⟨rfl, w_748⟩, w_6⟩
theorem M_isSame_q : Kq M_isSame := ⟨by decide +kernel, ⟨by decide, by decide⟩, by decide, Or.inl ⟨rfl, w_736⟩, w_6⟩
theorem M_isBelow_q : Kq M_isBelow := ⟨by decide +kernel, ⟨by decide, by decide⟩, by decide, Or.inl ⟨rfl, w_740⟩, w_6⟩
theorem M_raise_q : Kq M_raise := ⟨by decide +kernel, ⟨by decide, by decide⟩, by decide, Or.inl ⟨rfl, w_753⟩, w_6⟩
theorem M_isNode_q : Kq M_isNode := ⟨by decide +kernel, ⟨by decide, by decide⟩, by decide, Or.inl ⟨rfl, w_761⟩, w_6⟩
theorem M_told_q : Kq M_told := ⟨by decide +kernel, ⟨by decide, by decide⟩, by decide, Or.inl ⟨rfl, w_764⟩, w_6⟩
theorem M_depth_q : Kq M_depth := ⟨by decide +kernel, ⟨by decide, by decide⟩, by decide, Or.inl ⟨rfl, w_776⟩, w_6⟩
theorem M_isTop_q : Kq M_isTop := ⟨by decide +kernel, ⟨by decide, by decide⟩, by decide, Or.inl ⟨rfl, w_788⟩, w_6⟩
theorem M_topAt_q : Kq M_topAt := ⟨by decide +kernel, ⟨by decide, by decide⟩, by decide, Or.inl ⟨rfl, w_796⟩, w_6⟩
theorem M_makeGoal_q : Kq M_makeGoal := ⟨by decide +kernel, ⟨by decide, by decide⟩, by decide, Or.inl ⟨rfl, w_816⟩, w_6⟩
theorem M_isGoalBelow_q : Kq M_isGoalBelow := ⟨by decide +kernel, ⟨by decide, by decide⟩, by decide, Or.inl ⟨rfl, w_820⟩, w_6⟩
theorem M_firstGoal_q : Kq M_firstGoal := ⟨by decide +kernel, ⟨by decide, by decide⟩, by decide, Or.inl ⟨rfl, w_832⟩, w_6⟩
theorem L_cell_q : Kq L_cell := ⟨by decide +kernel, ⟨by decide, by decide⟩, by decide, Or.inl ⟨rfl, w_186⟩, w_0⟩
theorem O_init_q : Kq O_init := ⟨by decide +kernel, ⟨by decide, by decide⟩, by decide, Or.inl ⟨rfl, w_19⟩, w_1⟩
theorem M_init_q : Kq M_init := ⟨by decide +kernel, ⟨by decide, by decide⟩, by decide, Or.inl ⟨rfl, w_615⟩, w_6⟩
theorem L_arc_q : Kq L_arc := ⟨by decide +kernel, ⟨by decide, by decide⟩, by decide, Or.inr w_189, w_0⟩
theorem M_arc_q : Kq M_arc := ⟨by decide +kernel, ⟨by decide, by decide⟩, by decide, Or.inl ⟨rfl, w_688⟩, w_6⟩
theorem M_thrown_q : Kq M_thrown := ⟨by decide +kernel, ⟨by decide, by decide⟩, by decide, Or.inl ⟨rfl, w_684⟩, w_6⟩
theorem L_start_q : Kq L_start := ⟨by decide +kernel, ⟨by decide, by decide⟩, by decide, Or.inr w_301, w_0⟩
theorem M_start_q : Kq M_start := ⟨by decide +kernel, ⟨by decide, by decide⟩, by decide, Or.inl ⟨rfl, w_704⟩, w_6⟩
theorem L_want_q : Kq L_want := ⟨by decide +kernel, ⟨by decide, by decide⟩, by decide, Or.inr w_308, w_0⟩
theorem M_want_q : Kq M_want := ⟨by decide +kernel, ⟨by decide, by decide⟩, by decide, Or.inl ⟨rfl, w_712⟩, w_6⟩
theorem L_fire_q : Kq L_fire := ⟨by decide +kernel, ⟨by decide, by decide⟩, by decide, Or.inr w_315, w_0⟩
theorem M_fire_q : Kq M_fire := ⟨by decide +kernel, ⟨by decide, by decide⟩, by decide, Or.inl ⟨rfl, w_716⟩, w_6⟩
theorem L_at_q : Kq L_at := ⟨by decide +kernel, ⟨by decide, by decide⟩, by decide, Or.inr w_334, w_0⟩
theorem M_at_q : Kq M_at := ⟨by decide +kernel, ⟨by decide, by decide⟩, by decide, Or.inl ⟨rfl, w_720⟩, w_6⟩
theorem O_reset_q : Kq O_reset := ⟨by decide +kernel, ⟨by decide, by decide⟩, by decide, Or.inl ⟨rfl, w_176⟩, w_1⟩
theorem M_reset_q : Kq M_reset := ⟨by decide +kernel, ⟨by decide, by decide⟩, by decide, Or.inl ⟨rfl, w_724⟩, w_6⟩
theorem L_explore_q : Kq L_explore := ⟨by decide +kernel, ⟨by decide, by decide⟩, by decide, Or.inr w_341, w_0⟩
theorem M_explore_q : Kq M_explore := ⟨by decide +kernel, ⟨by decide, by decide⟩, by decide, Or.inl ⟨rfl, w_728⟩, w_6⟩
theorem L_count_q : Kq L_count := ⟨by decide +kernel, ⟨by decide, by decide⟩, by decide, Or.inr w_410, w_0⟩
theorem M_count_q : Kq M_count := ⟨by decide +kernel, ⟨by decide, by decide⟩, by decide, Or.inl ⟨rfl, w_757⟩, w_6⟩
theorem L_node_q : Kq L_node := ⟨by decide +kernel, ⟨by decide, by decide⟩, by decide, Or.inr w_430, w_0⟩
theorem M_node_q : Kq M_node := ⟨by decide +kernel, ⟨by decide, by decide⟩, by decide, Or.inl ⟨rfl, w_768⟩, w_6⟩
theorem L_path_q : Kq L_path := ⟨by decide +kernel, ⟨by decide, by decide⟩, by decide, Or.inr w_438, w_0⟩
theorem M_path_q : Kq M_path := ⟨by decide +kernel, ⟨by decide, by decide⟩, by decide, Or.inl ⟨rfl, w_772⟩, w_6⟩
theorem L_bound_q : Kq L_bound := ⟨by decide +kernel, ⟨by decide, by decide⟩, by decide, Or.inr w_449, w_0⟩
theorem M_bound_q : Kq M_bound := ⟨by decide +kernel, ⟨by decide, by decide⟩, by decide, Or.inl ⟨rfl, w_780⟩, w_6⟩
theorem L_tops_q : Kq L_tops := ⟨by decide +kernel, ⟨by decide, by decide⟩, by decide, Or.inr w_461, w_0⟩
theorem M_tops_q : Kq M_tops := ⟨by decide +kernel, ⟨by decide, by decide⟩, by decide, Or.inl ⟨rfl, w_784⟩, w_6⟩
theorem L_top_q : Kq L_top := ⟨by decide +kernel, ⟨by decide, by decide⟩, by decide, Or.inr w_468, w_0⟩
theorem M_top_q : Kq M_top := ⟨by decide +kernel, ⟨by decide, by decide⟩, by decide, Or.inl ⟨rfl, w_792⟩, w_6⟩
theorem L_covered_q : Kq L_covered := ⟨by decide +kernel, ⟨by decide, by decide⟩, by decide, Or.inr w_475, w_0⟩
theorem M_covered_q : Kq M_covered := ⟨by decide +kernel, ⟨by decide, by decide⟩, by decide, Or.inl ⟨rfl, w_800⟩, w_6⟩
theorem L_lives_q : Kq L_lives := ⟨by decide +kernel, ⟨by decide, by decide⟩, by decide, Or.inr w_486, w_0⟩
theorem M_lives_q : Kq M_lives := ⟨by decide +kernel, ⟨by decide, by decide⟩, by decide, Or.inl ⟨rfl, w_804⟩, w_6⟩
theorem L_dead_q : Kq L_dead := ⟨by decide +kernel, ⟨by decide, by decide⟩, by decide, Or.inr w_498, w_0⟩
theorem M_dead_q : Kq M_dead := ⟨by decide +kernel, ⟨by decide, by decide⟩, by decide, Or.inl ⟨rfl, w_808⟩, w_6⟩
theorem L_back_q : Kq L_back := ⟨by decide +kernel, ⟨by decide, by decide⟩, by decide, Or.inr w_514, w_0⟩
theorem M_back_q : Kq M_back := ⟨by decide +kernel, ⟨by decide, by decide⟩, by decide, Or.inl ⟨rfl, w_812⟩, w_6⟩
theorem L_goal_q : Kq L_goal := ⟨by decide +kernel, ⟨by decide, by decide⟩, by decide, Or.inr w_553, w_0⟩
theorem M_goal_q : Kq M_goal := ⟨by decide +kernel, ⟨by decide, by decide⟩, by decide, Or.inl ⟨rfl, w_824⟩, w_6⟩
theorem L_length_q : Kq L_length := ⟨by decide +kernel, ⟨by decide, by decide⟩, by decide, Or.inr w_570, w_0⟩
theorem M_length_q : Kq M_length := ⟨by decide +kernel, ⟨by decide, by decide⟩, by decide, Or.inl ⟨rfl, w_828⟩, w_6⟩
theorem L_way_q : Kq L_way := ⟨by decide +kernel, ⟨by decide, by decide⟩, by decide, Or.inr w_602, w_0⟩
theorem M_way_q : Kq M_way := ⟨by decide +kernel, ⟨by decide, by decide⟩, by decide, Or.inl ⟨rfl, w_836⟩, w_6⟩
end
section
theorem O_init_0 : Ka O_init 0 0 1 := Or.inr ⟨0, by decide +kernel, rfl, rfl⟩
theorem O_init_1 : KO O_init 1 4 := ⟨1, by decide +kernel, rfl, w_20, w_21, w_22⟩
theorem O_init_4 : Ka O_init 4 0 5 := Or.inr ⟨0, by decide +kernel, rfl, rfl⟩
theorem O_init_5 : KN O_init 5 1 5 8 := ⟨7, (RX1, TX1, 5), tyX1, by decide +kernel, rfl, rfl, rfl, w_23, isX1, w_2, inX1, tyX1_ok, bnX1⟩
theorem O_init_8 : K1 O_init 8 .dup 9 := ⟨by decide +kernel, rfl⟩
theorem O_init_9 : Ki O_init 9 1 10 := Or.inr ⟨1, by decide +kernel, rfl, rfl⟩
theorem O_init_10 : Kc O_init 10 1 11 := ⟨by decide, Or.inl ⟨by decide +kernel, rfl⟩⟩
theorem O_init_11 : Kc O_init 11 6 13 := ⟨by decide, Or.inr (Or.inl ⟨by decide +kernel, rfl, by decide⟩)⟩
theorem O_init_13 : KS O_init 13 O_within 3 16 := ⟨O_within_q, by decide, w_26, rfl, by decide +kernel, 11, by decide +kernel, Or.inl w_25⟩
theorem O_init_16 : Ki O_init 16 2 17 := Or.inr ⟨2, by decide +kernel, rfl, rfl⟩
theorem O_init_17 : Kc O_init 17 1 18 := ⟨by decide, Or.inl ⟨by decide +kernel, rfl⟩⟩
theorem O_init_18 : Kc O_init 18 8 20 := ⟨by decide, Or.inr (Or.inl ⟨by decide +kernel, rfl, by decide⟩)⟩
theorem O_init_20 : KS O_init 20 O_within 3 23 := ⟨O_within_q, by decide, w_26, rfl, by decide +kernel, 11, by decide +kernel, Or.inl w_25⟩
theorem O_init_23 : KI O_init 23 N_init 2 26 := ⟨N_init_q, by decide, rfl, rfl, w_36, rfl, w_35, rfl, by decide +kernel, 15, by decide +kernel, w_34⟩
theorem O_init_26 : Kp O_init 26 3 0 true (.object "OmegaNets$Net") true 29 := ⟨⟨18, by decide +kernel, rfl, fw_O_18⟩, ko_O_3_0, fun _ => rfl⟩
theorem O_init_29 : Ka O_init 29 0 30 := Or.inr ⟨0, by decide +kernel, rfl, rfl⟩
theorem O_init_30 : KN O_init 30 2 10 33 := ⟨22, (RX2, TX2, 10), tyX2, by decide +kernel, rfl, rfl, rfl, w_68, isX2, w_4, inX2, tyX2_ok, bnX2⟩
theorem O_init_33 : K1 O_init 33 .dup 34 := ⟨by decide +kernel, rfl⟩
theorem O_init_34 : Ka O_init 34 0 35 := Or.inr ⟨0, by decide +kernel, rfl, rfl⟩
theorem O_init_35 : Kg O_init 35 3 0 true 38 := ⟨18, by decide +kernel, rfl, fw_O_18⟩
theorem O_init_38 : KI O_init 38 T_init 1 41 := ⟨T_init_q, by decide, rfl, rfl, w_72, rfl, w_71, rfl, by decide +kernel, 24, by decide +kernel, w_70⟩
theorem O_init_41 : Kp O_init 41 3 1 true (.object "OmegaNets$Tree") true 44 := ⟨⟨27, by decide +kernel, rfl, fw_O_27⟩, ko_O_3_1, fun _ => rfl⟩
theorem O_init_44 : Ka O_init 44 0 45 := Or.inr ⟨0, by decide +kernel, rfl, rfl⟩
theorem O_init_45 : KN O_init 45 0 9 48 := ⟨31, (RX0, TX0, 9), tyX0, by decide +kernel, rfl, rfl, rfl, w_116, isX0, w_5, inX0, tyX0_ok, bnX0⟩
theorem O_init_48 : K1 O_init 48 .dup 49 := ⟨by decide +kernel, rfl⟩
theorem O_init_49 : Ka O_init 49 0 50 := Or.inr ⟨0, by decide +kernel, rfl, rfl⟩
theorem O_init_50 : Kg O_init 50 3 0 true 53 := ⟨18, by decide +kernel, rfl, fw_O_18⟩
theorem O_init_53 : KI O_init 53 G_init 1 56 := ⟨G_init_q, by decide, rfl, rfl, w_120, rfl, w_119, rfl, by decide +kernel, 33, by decide +kernel, w_118⟩
theorem O_init_56 : Kp O_init 56 3 2 true (.object "OmegaNets$Goals") true 59 := ⟨⟨34, by decide +kernel, rfl, fw_O_34⟩, ko_O_3_2, fun _ => rfl⟩
theorem O_init_59 : Ka O_init 59 0 60 := Or.inr ⟨0, by decide +kernel, rfl, rfl⟩
theorem O_init_60 : Ka O_init 60 0 61 := Or.inr ⟨0, by decide +kernel, rfl, rfl⟩
theorem O_init_61 : Kg O_init 61 3 0 true 64 := ⟨18, by decide +kernel, rfl, fw_O_18⟩
theorem O_init_64 : Kg O_init 64 1 0 false 67 := ⟨38, by decide +kernel, rfl, fw_O_38⟩
theorem O_init_67 : KA O_init 67 .int 69 := ⟨by decide +kernel, rfl, w_67⟩
theorem O_init_69 : Kp O_init 69 3 3 true (.array .int) true 72 := ⟨⟨42, by decide +kernel, rfl, fw_O_42⟩, ko_O_3_3, fun _ => rfl⟩
theorem O_init_72 : Ka O_init 72 0 73 := Or.inr ⟨0, by decide +kernel, rfl, rfl⟩
theorem O_init_73 : Ka O_init 73 0 74 := Or.inr ⟨0, by decide +kernel, rfl, rfl⟩
theorem O_init_74 : Kg O_init 74 3 0 true 77 := ⟨18, by decide +kernel, rfl, fw_O_18⟩
theorem O_init_77 : Kg O_init 77 1 0 false 80 := ⟨38, by decide +kernel, rfl, fw_O_38⟩
theorem O_init_80 : KA O_init 80 .int 82 := ⟨by decide +kernel, rfl, w_67⟩
theorem O_init_82 : Kp O_init 82 3 4 true (.array .int) true 85 := ⟨⟨46, by decide +kernel, rfl, fw_O_46⟩, ko_O_3_4, fun _ => rfl⟩
theorem O_init_85 : Ka O_init 85 0 86 := Or.inr ⟨0, by decide +kernel, rfl, rfl⟩
theorem O_init_86 : Kc O_init 86 0 87 := ⟨by decide, Or.inl ⟨by decide +kernel, rfl⟩⟩
theorem O_init_87 : Kp O_init 87 3 5 false .int false 90 := ⟨⟨49, by decide +kernel, rfl, fw_O_49⟩, ko_O_3_5, fun h => by cases h⟩
theorem O_init_90 : K1 O_init 90 .return_ 91 := ⟨by decide +kernel, rfl⟩
theorem O_within_0 : Ki O_within 0 1 1 := Or.inr ⟨1, by decide +kernel, rfl, rfl⟩
theorem O_within_1 : Ki O_within 1 2 2 := Or.inr ⟨2, by decide +kernel, rfl, rfl⟩
theorem O_within_2 : Ki O_within 2 0 3 := Or.inr ⟨0, by decide +kernel, rfl, rfl⟩
theorem O_within_3 : KX O_within 3 Lib.Math.min.name 6 := ⟨216, by decide +kernel, rfl, w_28⟩
theorem O_within_6 : KX O_within 6 Lib.Math.max.name 9 := ⟨221, by decide +kernel, rfl, w_31⟩
theorem O_within_9 : K1 O_within 9 .ireturn 10 := ⟨by decide +kernel, rfl⟩
theorem N_init_0 : Ka N_init 0 0 1 := Or.inr ⟨0, by decide +kernel, rfl, rfl⟩
theorem N_init_1 : KO N_init 1 4 := ⟨3, by decide +kernel, rfl, w_37, w_21, w_22⟩
theorem N_init_4 : Ka N_init 4 0 5 := Or.inr ⟨0, by decide +kernel, rfl, rfl⟩
theorem N_init_5 : Ki N_init 5 1 6 := Or.inr ⟨1, by decide +kernel, rfl, rfl⟩
theorem N_init_6 : Kp N_init 6 1 0 false .int true 9 := ⟨⟨9, by decide +kernel, rfl, fw_N_9⟩, ko_N_1_0, fun _ => rfl⟩
theorem N_init_9 : Ka N_init 9 0 10 := Or.inr ⟨0, by decide +kernel, rfl, rfl⟩
theorem N_init_10 : Ki N_init 10 2 11 := Or.inr ⟨2, by decide +kernel, rfl, rfl⟩
theorem N_init_11 : Kp N_init 11 1 1 false .int true 14 := ⟨⟨15, by decide +kernel, rfl, fw_N_15⟩, ko_N_1_1, fun _ => rfl⟩
theorem N_init_14 : Ka N_init 14 0 15 := Or.inr ⟨0, by decide +kernel, rfl, rfl⟩
theorem N_init_15 : Ki N_init 15 2 16 := Or.inr ⟨2, by decide +kernel, rfl, rfl⟩
theorem N_init_16 : Ki N_init 16 1 17 := Or.inr ⟨1, by decide +kernel, rfl, rfl⟩
theorem N_init_17 : KM N_init 17 21 := ⟨18, by decide +kernel, rfl, w_38, w_39, w_67⟩
theorem N_init_21 : Kp N_init 21 1 2 true (.array (.array .int)) true 24 := ⟨⟨20, by decide +kernel, rfl, fw_N_20⟩, ko_N_1_2, fun _ => rfl⟩
theorem N_init_24 : Ka N_init 24 0 25 := Or.inr ⟨0, by decide +kernel, rfl, rfl⟩
theorem N_init_25 : Ki N_init 25 2 26 := Or.inr ⟨2, by decide +kernel, rfl, rfl⟩
theorem N_init_26 : Ki N_init 26 1 27 := Or.inr ⟨1, by decide +kernel, rfl, rfl⟩
theorem N_init_27 : KM N_init 27 31 := ⟨18, by decide +kernel, rfl, w_38, w_39, w_67⟩
theorem N_init_31 : Kp N_init 31 1 3 true (.array (.array .int)) true 34 := ⟨⟨23, by decide +kernel, rfl, fw_N_23⟩, ko_N_1_3, fun _ => rfl⟩
theorem N_init_34 : Ka N_init 34 0 35 := Or.inr ⟨0, by decide +kernel, rfl, rfl⟩
theorem N_init_35 : Ki N_init 35 1 36 := Or.inr ⟨1, by decide +kernel, rfl, rfl⟩
theorem N_init_36 : KA N_init 36 .int 38 := ⟨by decide +kernel, rfl, w_67⟩
theorem N_init_38 : Kp N_init 38 1 4 true (.array .int) true 41 := ⟨⟨26, by decide +kernel, rfl, fw_N_26⟩, ko_N_1_4, fun _ => rfl⟩
theorem N_init_41 : K1 N_init 41 .return_ 42 := ⟨by decide +kernel, rfl⟩
theorem T_init_0 : Ka T_init 0 0 1 := Or.inr ⟨0, by decide +kernel, rfl, rfl⟩
theorem T_init_1 : KO T_init 1 4 := ⟨3, by decide +kernel, rfl, w_73, w_21, w_22⟩
theorem T_init_4 : Ka T_init 4 0 5 := Or.inr ⟨0, by decide +kernel, rfl, rfl⟩
theorem T_init_5 : Kc T_init 5 200 8 := ⟨by decide, Or.inr (Or.inr (Or.inl ⟨by decide +kernel, rfl, by decide⟩))⟩
theorem T_init_8 : KA T_init 8 .int 10 := ⟨by decide +kernel, rfl, w_67⟩
theorem T_init_10 : Kp T_init 10 2 2 true (.array .int) true 13 := ⟨⟨9, by decide +kernel, rfl, fw_T_9⟩, ko_T_2_2, fun _ => rfl⟩
theorem T_init_13 : Ka T_init 13 0 14 := Or.inr ⟨0, by decide +kernel, rfl, rfl⟩
theorem T_init_14 : Kc T_init 14 200 17 := ⟨by decide, Or.inr (Or.inr (Or.inl ⟨by decide +kernel, rfl, by decide⟩))⟩
theorem T_init_17 : KA T_init 17 .int 19 := ⟨by decide +kernel, rfl, w_67⟩
theorem T_init_19 : Kp T_init 19 2 3 true (.array .int) true 22 := ⟨⟨15, by decide +kernel, rfl, fw_T_15⟩, ko_T_2_3, fun _ => rfl⟩
theorem T_init_22 : Ka T_init 22 0 23 := Or.inr ⟨0, by decide +kernel, rfl, rfl⟩
theorem T_init_23 : Kc T_init 23 200 26 := ⟨by decide, Or.inr (Or.inr (Or.inl ⟨by decide +kernel, rfl, by decide⟩))⟩
theorem T_init_26 : KA T_init 26 .int 28 := ⟨by decide +kernel, rfl, w_67⟩
theorem T_init_28 : Kp T_init 28 2 4 true (.array .int) true 31 := ⟨⟨18, by decide +kernel, rfl, fw_T_18⟩, ko_T_2_4, fun _ => rfl⟩
theorem T_init_31 : Ka T_init 31 0 32 := Or.inr ⟨0, by decide +kernel, rfl, rfl⟩
theorem T_init_32 : Kc T_init 32 200 35 := ⟨by decide, Or.inr (Or.inr (Or.inl ⟨by decide +kernel, rfl, by decide⟩))⟩
theorem T_init_35 : KA T_init 35 .boolean 37 := ⟨by decide +kernel, rfl, w_115⟩
theorem T_init_37 : Kp T_init 37 2 5 true (.array .boolean) true 40 := ⟨⟨21, by decide +kernel, rfl, fw_T_21⟩, ko_T_2_5, fun _ => rfl⟩
theorem T_init_40 : Ka T_init 40 0 41 := Or.inr ⟨0, by decide +kernel, rfl, rfl⟩
theorem T_init_41 : Kc T_init 41 200 44 := ⟨by decide, Or.inr (Or.inr (Or.inl ⟨by decide +kernel, rfl, by decide⟩))⟩
theorem T_init_44 : KA T_init 44 .int 46 := ⟨by decide +kernel, rfl, w_67⟩
theorem T_init_46 : Kp T_init 46 2 6 true (.array .int) true 49 := ⟨⟨25, by decide +kernel, rfl, fw_T_25⟩, ko_T_2_6, fun _ => rfl⟩
theorem T_init_49 : Ka T_init 49 0 50 := Or.inr ⟨0, by decide +kernel, rfl, rfl⟩
theorem T_init_50 : Ka T_init 50 1 51 := Or.inr ⟨1, by decide +kernel, rfl, rfl⟩
theorem T_init_51 : Kp T_init 51 2 0 true (.object "OmegaNets$Net") true 54 := ⟨⟨28, by decide +kernel, rfl, fw_T_28⟩, ko_T_2_0, fun _ => rfl⟩
theorem T_init_54 : Ka T_init 54 0 55 := Or.inr ⟨0, by decide +kernel, rfl, rfl⟩
theorem T_init_55 : Kc T_init 55 200 58 := ⟨by decide, Or.inr (Or.inr (Or.inl ⟨by decide +kernel, rfl, by decide⟩))⟩
theorem T_init_58 : Ka T_init 58 1 59 := Or.inr ⟨1, by decide +kernel, rfl, rfl⟩
theorem T_init_59 : Kg T_init 59 1 0 false 62 := ⟨32, by decide +kernel, rfl, fw_T_32⟩
theorem T_init_62 : KM T_init 62 66 := ⟨38, by decide +kernel, rfl, w_74, w_39, w_67⟩
theorem T_init_66 : Kp T_init 66 2 1 true (.array (.array .int)) true 69 := ⟨⟨40, by decide +kernel, rfl, fw_T_40⟩, ko_T_2_1, fun _ => rfl⟩
theorem T_init_69 : K1 T_init 69 .return_ 70 := ⟨by decide +kernel, rfl⟩
theorem G_init_0 : Ka G_init 0 0 1 := Or.inr ⟨0, by decide +kernel, rfl, rfl⟩
theorem G_init_1 : KO G_init 1 4 := ⟨3, by decide +kernel, rfl, w_121, w_21, w_22⟩
theorem G_init_4 : Ka G_init 4 0 5 := Or.inr ⟨0, by decide +kernel, rfl, rfl⟩
theorem G_init_5 : Kc G_init 5 48 7 := ⟨by decide, Or.inr (Or.inl ⟨by decide +kernel, rfl, by decide⟩)⟩
theorem G_init_7 : KA G_init 7 .int 9 := ⟨by decide +kernel, rfl, w_67⟩
theorem G_init_9 : Kp G_init 9 0 2 true (.array .int) true 12 := ⟨⟨9, by decide +kernel, rfl, fw_G_9⟩, ko_G_0_2, fun _ => rfl⟩
theorem G_init_12 : Ka G_init 12 0 13 := Or.inr ⟨0, by decide +kernel, rfl, rfl⟩
theorem G_init_13 : Kc G_init 13 48 15 := ⟨by decide, Or.inr (Or.inl ⟨by decide +kernel, rfl, by decide⟩)⟩
theorem G_init_15 : KA G_init 15 .int 17 := ⟨by decide +kernel, rfl, w_67⟩
theorem G_init_17 : Kp G_init 17 0 3 true (.array .int) true 20 := ⟨⟨15, by decide +kernel, rfl, fw_G_15⟩, ko_G_0_3, fun _ => rfl⟩
theorem G_init_20 : Ka G_init 20 0 21 := Or.inr ⟨0, by decide +kernel, rfl, rfl⟩
theorem G_init_21 : Kc G_init 21 48 23 := ⟨by decide, Or.inr (Or.inl ⟨by decide +kernel, rfl, by decide⟩)⟩
theorem G_init_23 : KA G_init 23 .int 25 := ⟨by decide +kernel, rfl, w_67⟩
theorem G_init_25 : Kp G_init 25 0 4 true (.array .int) true 28 := ⟨⟨18, by decide +kernel, rfl, fw_G_18⟩, ko_G_0_4, fun _ => rfl⟩
theorem G_init_28 : Ka G_init 28 0 29 := Or.inr ⟨0, by decide +kernel, rfl, rfl⟩
theorem G_init_29 : Kc G_init 29 48 31 := ⟨by decide, Or.inr (Or.inl ⟨by decide +kernel, rfl, by decide⟩)⟩
theorem G_init_31 : KA G_init 31 .boolean 33 := ⟨by decide +kernel, rfl, w_115⟩
theorem G_init_33 : Kp G_init 33 0 5 true (.array .boolean) true 36 := ⟨⟨21, by decide +kernel, rfl, fw_G_21⟩, ko_G_0_5, fun _ => rfl⟩
theorem G_init_36 : Ka G_init 36 0 37 := Or.inr ⟨0, by decide +kernel, rfl, rfl⟩
theorem G_init_37 : Ka G_init 37 1 38 := Or.inr ⟨1, by decide +kernel, rfl, rfl⟩
theorem G_init_38 : Kp G_init 38 0 0 true (.object "OmegaNets$Net") true 41 := ⟨⟨25, by decide +kernel, rfl, fw_G_25⟩, ko_G_0_0, fun _ => rfl⟩
theorem G_init_41 : Ka G_init 41 0 42 := Or.inr ⟨0, by decide +kernel, rfl, rfl⟩
theorem G_init_42 : Kc G_init 42 48 44 := ⟨by decide, Or.inr (Or.inl ⟨by decide +kernel, rfl, by decide⟩)⟩
theorem G_init_44 : Ka G_init 44 1 45 := Or.inr ⟨1, by decide +kernel, rfl, rfl⟩
theorem G_init_45 : Kg G_init 45 1 0 false 48 := ⟨29, by decide +kernel, rfl, fw_G_29⟩
theorem G_init_48 : KM G_init 48 52 := ⟨35, by decide +kernel, rfl, w_122, w_39, w_67⟩
theorem G_init_52 : Kp G_init 52 0 1 true (.array (.array .int)) true 55 := ⟨⟨37, by decide +kernel, rfl, fw_G_37⟩, ko_G_0_1, fun _ => rfl⟩
theorem G_init_55 : Ka G_init 55 0 56 := Or.inr ⟨0, by decide +kernel, rfl, rfl⟩
theorem G_init_56 : Ka G_init 56 1 57 := Or.inr ⟨1, by decide +kernel, rfl, rfl⟩
theorem G_init_57 : Kg G_init 57 1 0 false 60 := ⟨29, by decide +kernel, rfl, fw_G_29⟩
theorem G_init_60 : KA G_init 60 .int 62 := ⟨by decide +kernel, rfl, w_67⟩
theorem G_init_62 : Kp G_init 62 0 6 true (.array .int) true 65 := ⟨⟨40, by decide +kernel, rfl, fw_G_40⟩, ko_G_0_6, fun _ => rfl⟩
theorem G_init_65 : K1 G_init 65 .return_ 66 := ⟨by decide +kernel, rfl⟩
theorem O_reset_0 : Ka O_reset 0 0 1 := Or.inr ⟨0, by decide +kernel, rfl, rfl⟩
theorem O_reset_1 : Kg O_reset 1 3 5 false 4 := ⟨49, by decide +kernel, rfl, fw_O_49⟩
theorem O_reset_4 : Ks O_reset 4 1 5 := ⟨by decide, Or.inr ⟨1, by decide +kernel, rfl, rfl⟩⟩
theorem O_reset_5 : Ka O_reset 5 0 6 := Or.inr ⟨0, by decide +kernel, rfl, rfl⟩
theorem O_reset_6 : KV O_reset 6 O_returnToStart 3 0 9 := ⟨O_returnToStart_q, by decide, w_179, ws_0, rfl, by decide +kernel, ⟨(RX3, TX3, 6), rfl, rfl⟩, 75, by decide +kernel, w_177⟩
theorem O_reset_9 : Ki O_reset 9 1 10 := Or.inr ⟨1, by decide +kernel, rfl, rfl⟩
theorem O_reset_10 : K1 O_reset 10 .ireturn 11 := ⟨by decide +kernel, rfl⟩
theorem O_returnToStart_0 : Ka O_returnToStart 0 0 1 := Or.inr ⟨0, by decide +kernel, rfl, rfl⟩
theorem O_returnToStart_1 : Kg O_returnToStart 1 3 0 true 4 := ⟨18, by decide +kernel, rfl, fw_O_18⟩
theorem O_returnToStart_4 : Kg O_returnToStart 4 1 4 true 7 := ⟨72, by decide +kernel, rfl, fw_O_72⟩
theorem O_returnToStart_7 : Kc O_returnToStart 7 0 8 := ⟨by decide, Or.inl ⟨by decide +kernel, rfl⟩⟩
theorem O_returnToStart_8 : Ka O_returnToStart 8 0 9 := Or.inr ⟨0, by decide +kernel, rfl, rfl⟩
theorem O_returnToStart_9 : Kg O_returnToStart 9 3 4 true 12 := ⟨46, by decide +kernel, rfl, fw_O_46⟩
theorem O_returnToStart_12 : Kc O_returnToStart 12 0 13 := ⟨by decide, Or.inl ⟨by decide +kernel, rfl⟩⟩
theorem O_returnToStart_13 : Ka O_returnToStart 13 0 14 := Or.inr ⟨0, by decide +kernel, rfl, rfl⟩
theorem O_returnToStart_14 : Kg O_returnToStart 14 3 0 true 17 := ⟨18, by decide +kernel, rfl, fw_O_18⟩
theorem O_returnToStart_17 : Kg O_returnToStart 17 1 0 false 20 := ⟨38, by decide +kernel, rfl, fw_O_38⟩
theorem O_returnToStart_20 : KX O_returnToStart 20 arraycopyName 23 := ⟨191, by decide +kernel, rfl, w_181⟩
theorem O_returnToStart_23 : Ka O_returnToStart 23 0 24 := Or.inr ⟨0, by decide +kernel, rfl, rfl⟩
theorem O_returnToStart_24 : Kc O_returnToStart 24 0 25 := ⟨by decide, Or.inl ⟨by decide +kernel, rfl⟩⟩
theorem O_returnToStart_25 : Kp O_returnToStart 25 3 5 false .int false 28 := ⟨⟨49, by decide +kernel, rfl, fw_O_49⟩, ko_O_3_5, fun h => by cases h⟩
theorem O_returnToStart_28 : K1 O_returnToStart 28 .return_ 29 := ⟨by decide +kernel, rfl⟩
theorem O_arc_0 : Ka O_arc 0 0 1 := Or.inr ⟨0, by decide +kernel, rfl, rfl⟩
theorem O_arc_1 : Ki O_arc 1 1 2 := Or.inr ⟨1, by decide +kernel, rfl, rfl⟩
theorem O_arc_2 : KV O_arc 2 O_checkTransition 3 1 5 := ⟨O_checkTransition_q, by decide, w_198, ws_1, rfl, by decide +kernel, ⟨(RX3, TX3, 6), rfl, rfl⟩, 52, by decide +kernel, w_196⟩
theorem O_arc_5 : Ka O_arc 5 0 6 := Or.inr ⟨0, by decide +kernel, rfl, rfl⟩
theorem O_arc_6 : Ki O_arc 6 2 7 := Or.inr ⟨2, by decide +kernel, rfl, rfl⟩
theorem O_arc_7 : KV O_arc 7 O_checkPlace 3 1 10 := ⟨O_checkPlace_q, by decide, w_274, ws_3, rfl, by decide +kernel, ⟨(RX3, TX3, 6), rfl, rfl⟩, 56, by decide +kernel, w_272⟩
theorem O_arc_10 : Ki O_arc 10 3 11 := Or.inr ⟨3, by decide +kernel, rfl, rfl⟩
theorem O_arc_11 : Kc O_arc 11 9 13 := ⟨by decide, Or.inr (Or.inl ⟨by decide +kernel, rfl, by decide⟩)⟩
theorem O_arc_13 : KS O_arc 13 O_checkNumber 2 16 := ⟨O_checkNumber_q, by decide, w_277, rfl, by decide +kernel, 59, by decide +kernel, Or.inl w_276⟩
theorem O_arc_16 : Ki O_arc 16 4 18 := Or.inl ⟨by decide +kernel, rfl⟩
theorem O_arc_18 : Kc O_arc 18 9 20 := ⟨by decide, Or.inr (Or.inl ⟨by decide +kernel, rfl, by decide⟩)⟩
theorem O_arc_20 : KS O_arc 20 O_checkNumber 2 23 := ⟨O_checkNumber_q, by decide, w_277, rfl, by decide +kernel, 59, by decide +kernel, Or.inl w_276⟩
theorem O_arc_23 : Ka O_arc 23 0 24 := Or.inr ⟨0, by decide +kernel, rfl, rfl⟩
theorem O_arc_24 : Kg O_arc 24 3 0 true 27 := ⟨18, by decide +kernel, rfl, fw_O_18⟩
theorem O_arc_27 : Kg O_arc 27 1 2 true 30 := ⟨62, by decide +kernel, rfl, fw_O_62⟩
theorem O_arc_30 : Ki O_arc 30 1 31 := Or.inr ⟨1, by decide +kernel, rfl, rfl⟩
theorem O_arc_31 : K1 O_arc 31 .aaload 32 := ⟨by decide +kernel, rfl⟩
theorem O_arc_32 : Ki O_arc 32 2 33 := Or.inr ⟨2, by decide +kernel, rfl, rfl⟩
theorem O_arc_33 : Ki O_arc 33 3 34 := Or.inr ⟨3, by decide +kernel, rfl, rfl⟩
theorem O_arc_34 : K1 O_arc 34 .iastore 35 := ⟨by decide +kernel, rfl⟩
theorem O_arc_35 : Ka O_arc 35 0 36 := Or.inr ⟨0, by decide +kernel, rfl, rfl⟩
theorem O_arc_36 : Kg O_arc 36 3 0 true 39 := ⟨18, by decide +kernel, rfl, fw_O_18⟩
theorem O_arc_39 : Kg O_arc 39 1 3 true 42 := ⟨66, by decide +kernel, rfl, fw_O_66⟩
theorem O_arc_42 : Ki O_arc 42 1 43 := Or.inr ⟨1, by decide +kernel, rfl, rfl⟩
theorem O_arc_43 : K1 O_arc 43 .aaload 44 := ⟨by decide +kernel, rfl⟩
theorem O_arc_44 : Ki O_arc 44 2 45 := Or.inr ⟨2, by decide +kernel, rfl, rfl⟩
theorem O_arc_45 : Ki O_arc 45 4 47 := Or.inl ⟨by decide +kernel, rfl⟩
theorem O_arc_47 : K1 O_arc 47 .iastore 48 := ⟨by decide +kernel, rfl⟩
theorem O_arc_48 : Ka O_arc 48 0 49 := Or.inr ⟨0, by decide +kernel, rfl, rfl⟩
theorem O_arc_49 : KV O_arc 49 O_forgetTreeAndGoals 3 0 52 := ⟨O_forgetTreeAndGoals_q, by decide, w_297, ws_4, rfl, by decide +kernel, ⟨(RX3, TX3, 6), rfl, rfl⟩, 69, by decide +kernel, w_295⟩
theorem O_arc_52 : Ki O_arc 52 4 54 := Or.inl ⟨by decide +kernel, rfl⟩
theorem O_arc_54 : Ki O_arc 54 3 55 := Or.inr ⟨3, by decide +kernel, rfl, rfl⟩
theorem O_arc_55 : K1 O_arc 55 .isub 56 := ⟨by decide +kernel, rfl⟩
theorem O_arc_56 : K1 O_arc 56 .ireturn 57 := ⟨by decide +kernel, rfl⟩
theorem O_checkTransition_0 : Ki O_checkTransition 0 1 1 := Or.inr ⟨1, by decide +kernel, rfl, rfl⟩
theorem O_checkTransition_1 : Ka O_checkTransition 1 0 2 := Or.inr ⟨0, by decide +kernel, rfl, rfl⟩
theorem O_checkTransition_2 : Kg O_checkTransition 2 3 0 true 5 := ⟨18, by decide +kernel, rfl, fw_O_18⟩
theorem O_checkTransition_5 : Kg O_checkTransition 5 1 1 false 8 := ⟨206, by decide +kernel, rfl, fw_O_206⟩
theorem O_checkTransition_8 : KS O_checkTransition 8 O_checkIndex 2 11 := ⟨O_checkIndex_q, by decide, w_201, rfl, by decide +kernel, 135, by decide +kernel, Or.inl w_200⟩
theorem O_checkTransition_11 : K1 O_checkTransition 11 .return_ 12 := ⟨by decide +kernel, rfl⟩
theorem O_checkIndex_0 : Ki O_checkIndex 0 0 1 := Or.inr ⟨0, by decide +kernel, rfl, rfl⟩
theorem O_checkIndex_1 : Kj O_checkIndex 1 (.ifCond .lt) 9 4 := ⟨8, by decide +kernel, by decide, rfl⟩
theorem O_checkIndex_4 : Ki O_checkIndex 4 0 5 := Or.inr ⟨0, by decide +kernel, rfl, rfl⟩
theorem O_checkIndex_5 : Ki O_checkIndex 5 1 6 := Or.inr ⟨1, by decide +kernel, rfl, rfl⟩
theorem O_checkIndex_6 : Kj O_checkIndex 6 (.if_icmp .lt) 19 9 := ⟨13, by decide +kernel, by decide, rfl⟩
theorem O_checkIndex_9 : KT O_checkIndex 9 "java/lang/IndexOutOfBoundsException" := ⟨178, 212, 182, "there is none such", by decide +kernel, by decide +kernel, by decide +kernel, by decide +kernel, by decide +kernel, rfl, rfl, by decide +kernel, w_203, w_10, by decide +kernel, xt_182_178⟩
theorem O_checkIndex_19 : K1 O_checkIndex 19 .return_ 20 := ⟨by decide +kernel, rfl⟩
theorem O_checkPlace_0 : Ki O_checkPlace 0 1 1 := Or.inr ⟨1, by decide +kernel, rfl, rfl⟩
theorem O_checkPlace_1 : Ka O_checkPlace 1 0 2 := Or.inr ⟨0, by decide +kernel, rfl, rfl⟩
theorem O_checkPlace_2 : Kg O_checkPlace 2 3 0 true 5 := ⟨18, by decide +kernel, rfl, fw_O_18⟩
theorem O_checkPlace_5 : Kg O_checkPlace 5 1 0 false 8 := ⟨38, by decide +kernel, rfl, fw_O_38⟩
theorem O_checkPlace_8 : KS O_checkPlace 8 O_checkIndex 2 11 := ⟨O_checkIndex_q, by decide, w_201, rfl, by decide +kernel, 135, by decide +kernel, Or.inl w_200⟩
theorem O_checkPlace_11 : K1 O_checkPlace 11 .return_ 12 := ⟨by decide +kernel, rfl⟩
theorem O_checkNumber_0 : Ki O_checkNumber 0 0 1 := Or.inr ⟨0, by decide +kernel, rfl, rfl⟩
theorem O_checkNumber_1 : Kj O_checkNumber 1 (.ifCond .lt) 9 4 := ⟨8, by decide +kernel, by decide, rfl⟩
theorem O_checkNumber_4 : Ki O_checkNumber 4 0 5 := Or.inr ⟨0, by decide +kernel, rfl, rfl⟩
theorem O_checkNumber_5 : Ki O_checkNumber 5 1 6 := Or.inr ⟨1, by decide +kernel, rfl, rfl⟩
theorem O_checkNumber_6 : Kj O_checkNumber 6 (.if_icmp .le) 19 9 := ⟨13, by decide +kernel, by decide, rfl⟩
theorem O_checkNumber_9 : KT O_checkNumber 9 "java/lang/IllegalArgumentException" := ⟨127, 214, 131, "the number is out of its range", by decide +kernel, by decide +kernel, by decide +kernel, by decide +kernel, by decide +kernel, rfl, rfl, by decide +kernel, w_279, w_11, by decide +kernel, xt_131_127⟩
theorem O_checkNumber_19 : K1 O_checkNumber 19 .return_ 20 := ⟨by decide +kernel, rfl⟩
theorem O_forgetTreeAndGoals_0 : Ka O_forgetTreeAndGoals 0 0 1 := Or.inr ⟨0, by decide +kernel, rfl, rfl⟩
theorem O_forgetTreeAndGoals_1 : Kg O_forgetTreeAndGoals 1 3 1 true 4 := ⟨27, by decide +kernel, rfl, fw_O_27⟩
theorem O_forgetTreeAndGoals_4 : Kc O_forgetTreeAndGoals 4 0 5 := ⟨by decide, Or.inl ⟨by decide +kernel, rfl⟩⟩
theorem O_forgetTreeAndGoals_5 : Kp O_forgetTreeAndGoals 5 2 9 false .boolean false 8 := ⟨⟨93, by decide +kernel, rfl, fw_O_93⟩, ko_O_2_9, fun h => by cases h⟩
theorem O_forgetTreeAndGoals_8 : Ka O_forgetTreeAndGoals 8 0 9 := Or.inr ⟨0, by decide +kernel, rfl, rfl⟩
theorem O_forgetTreeAndGoals_9 : Kg O_forgetTreeAndGoals 9 3 2 true 12 := ⟨34, by decide +kernel, rfl, fw_O_34⟩
theorem O_forgetTreeAndGoals_12 : Kc O_forgetTreeAndGoals 12 0 13 := ⟨by decide, Or.inl ⟨by decide +kernel, rfl⟩⟩
theorem O_forgetTreeAndGoals_13 : Kp O_forgetTreeAndGoals 13 0 8 false .boolean false 16 := ⟨⟨78, by decide +kernel, rfl, fw_O_78⟩, ko_O_0_8, fun h => by cases h⟩
theorem O_forgetTreeAndGoals_16 : K1 O_forgetTreeAndGoals 16 .return_ 17 := ⟨by decide +kernel, rfl⟩
theorem O_start_0 : Ka O_start 0 0 1 := Or.inr ⟨0, by decide +kernel, rfl, rfl⟩
theorem O_start_1 : Ki O_start 1 1 2 := Or.inr ⟨1, by decide +kernel, rfl, rfl⟩
theorem O_start_2 : KV O_start 2 O_checkPlace 3 1 5 := ⟨O_checkPlace_q, by decide, w_274, ws_3, rfl, by decide +kernel, ⟨(RX3, TX3, 6), rfl, rfl⟩, 56, by decide +kernel, w_272⟩
theorem O_start_5 : Ki O_start 5 2 6 := Or.inr ⟨2, by decide +kernel, rfl, rfl⟩
theorem O_start_6 : Kc O_start 6 100 8 := ⟨by decide, Or.inr (Or.inl ⟨by decide +kernel, rfl, by decide⟩)⟩
theorem O_start_8 : KS O_start 8 O_checkNumber 2 11 := ⟨O_checkNumber_q, by decide, w_277, rfl, by decide +kernel, 59, by decide +kernel, Or.inl w_276⟩
theorem O_start_11 : Ka O_start 11 0 12 := Or.inr ⟨0, by decide +kernel, rfl, rfl⟩
theorem O_start_12 : Kg O_start 12 3 0 true 15 := ⟨18, by decide +kernel, rfl, fw_O_18⟩
theorem O_start_15 : Kg O_start 15 1 4 true 18 := ⟨72, by decide +kernel, rfl, fw_O_72⟩
theorem O_start_18 : Ki O_start 18 1 19 := Or.inr ⟨1, by decide +kernel, rfl, rfl⟩
theorem O_start_19 : K1 O_start 19 .iaload 20 := ⟨by decide +kernel, rfl⟩
theorem O_start_20 : Ks O_start 20 3 21 := ⟨by decide, Or.inr ⟨3, by decide +kernel, rfl, rfl⟩⟩
theorem O_start_21 : Ka O_start 21 0 22 := Or.inr ⟨0, by decide +kernel, rfl, rfl⟩
theorem O_start_22 : Kg O_start 22 3 0 true 25 := ⟨18, by decide +kernel, rfl, fw_O_18⟩
theorem O_start_25 : Kg O_start 25 1 4 true 28 := ⟨72, by decide +kernel, rfl, fw_O_72⟩
theorem O_start_28 : Ki O_start 28 1 29 := Or.inr ⟨1, by decide +kernel, rfl, rfl⟩
theorem O_start_29 : Ki O_start 29 2 30 := Or.inr ⟨2, by decide +kernel, rfl, rfl⟩
theorem O_start_30 : K1 O_start 30 .iastore 31 := ⟨by decide +kernel, rfl⟩
theorem O_start_31 : Ka O_start 31 0 32 := Or.inr ⟨0, by decide +kernel, rfl, rfl⟩
theorem O_start_32 : KV O_start 32 O_returnToStart 3 0 35 := ⟨O_returnToStart_q, by decide, w_179, ws_0, rfl, by decide +kernel, ⟨(RX3, TX3, 6), rfl, rfl⟩, 75, by decide +kernel, w_177⟩
theorem O_start_35 : Ka O_start 35 0 36 := Or.inr ⟨0, by decide +kernel, rfl, rfl⟩
theorem O_start_36 : KV O_start 36 O_forgetTreeAndGoals 3 0 39 := ⟨O_forgetTreeAndGoals_q, by decide, w_297, ws_4, rfl, by decide +kernel, ⟨(RX3, TX3, 6), rfl, rfl⟩, 69, by decide +kernel, w_295⟩
theorem O_start_39 : Ki O_start 39 3 40 := Or.inr ⟨3, by decide +kernel, rfl, rfl⟩
theorem O_start_40 : K1 O_start 40 .ireturn 41 := ⟨by decide +kernel, rfl⟩
theorem O_want_0 : Ka O_want 0 0 1 := Or.inr ⟨0, by decide +kernel, rfl, rfl⟩
theorem O_want_1 : Ki O_want 1 1 2 := Or.inr ⟨1, by decide +kernel, rfl, rfl⟩
theorem O_want_2 : KV O_want 2 O_checkPlace 3 1 5 := ⟨O_checkPlace_q, by decide, w_274, ws_3, rfl, by decide +kernel, ⟨(RX3, TX3, 6), rfl, rfl⟩, 56, by decide +kernel, w_272⟩
theorem O_want_5 : Ki O_want 5 2 6 := Or.inr ⟨2, by decide +kernel, rfl, rfl⟩
theorem O_want_6 : Kc O_want 6 100 8 := ⟨by decide, Or.inr (Or.inl ⟨by decide +kernel, rfl, by decide⟩)⟩
theorem O_want_8 : KS O_want 8 O_checkNumber 2 11 := ⟨O_checkNumber_q, by decide, w_277, rfl, by decide +kernel, 59, by decide +kernel, Or.inl w_276⟩
theorem O_want_11 : Ka O_want 11 0 12 := Or.inr ⟨0, by decide +kernel, rfl, rfl⟩
theorem O_want_12 : Kg O_want 12 3 3 true 15 := ⟨42, by decide +kernel, rfl, fw_O_42⟩
theorem O_want_15 : Ki O_want 15 1 16 := Or.inr ⟨1, by decide +kernel, rfl, rfl⟩
theorem O_want_16 : K1 O_want 16 .iaload 17 := ⟨by decide +kernel, rfl⟩
theorem O_want_17 : Ks O_want 17 3 18 := ⟨by decide, Or.inr ⟨3, by decide +kernel, rfl, rfl⟩⟩
theorem O_want_18 : Ka O_want 18 0 19 := Or.inr ⟨0, by decide +kernel, rfl, rfl⟩
theorem O_want_19 : Kg O_want 19 3 3 true 22 := ⟨42, by decide +kernel, rfl, fw_O_42⟩
theorem O_want_22 : Ki O_want 22 1 23 := Or.inr ⟨1, by decide +kernel, rfl, rfl⟩
theorem O_want_23 : Ki O_want 23 2 24 := Or.inr ⟨2, by decide +kernel, rfl, rfl⟩
theorem O_want_24 : K1 O_want 24 .iastore 25 := ⟨by decide +kernel, rfl⟩
theorem O_want_25 : Ka O_want 25 0 26 := Or.inr ⟨0, by decide +kernel, rfl, rfl⟩
theorem O_want_26 : Kg O_want 26 3 2 true 29 := ⟨34, by decide +kernel, rfl, fw_O_34⟩
theorem O_want_29 : Kc O_want 29 0 30 := ⟨by decide, Or.inl ⟨by decide +kernel, rfl⟩⟩
theorem O_want_30 : Kp O_want 30 0 8 false .boolean false 33 := ⟨⟨78, by decide +kernel, rfl, fw_O_78⟩, ko_O_0_8, fun h => by cases h⟩
theorem O_want_33 : Ki O_want 33 3 34 := Or.inr ⟨3, by decide +kernel, rfl, rfl⟩
theorem O_want_34 : K1 O_want 34 .ireturn 35 := ⟨by decide +kernel, rfl⟩
theorem O_fire_0 : Ka O_fire 0 0 1 := Or.inr ⟨0, by decide +kernel, rfl, rfl⟩
theorem O_fire_1 : Ki O_fire 1 1 2 := Or.inr ⟨1, by decide +kernel, rfl, rfl⟩
theorem O_fire_2 : KV O_fire 2 O_checkTransition 3 1 5 := ⟨O_checkTransition_q, by decide, w_198, ws_1, rfl, by decide +kernel, ⟨(RX3, TX3, 6), rfl, rfl⟩, 52, by decide +kernel, w_196⟩
theorem O_fire_5 : Ka O_fire 5 0 6 := Or.inr ⟨0, by decide +kernel, rfl, rfl⟩
theorem O_fire_6 : Kg O_fire 6 3 0 true 9 := ⟨18, by decide +kernel, rfl, fw_O_18⟩
theorem O_fire_9 : Ka O_fire 9 0 10 := Or.inr ⟨0, by decide +kernel, rfl, rfl⟩
theorem O_fire_10 : Kg O_fire 10 3 4 true 13 := ⟨46, by decide +kernel, rfl, fw_O_46⟩
theorem O_fire_13 : Ki O_fire 13 1 14 := Or.inr ⟨1, by decide +kernel, rfl, rfl⟩
theorem O_fire_14 : KV O_fire 14 N_enables 1 2 17 := ⟨N_enables_q, by decide, w_321, w_322, rfl, by decide +kernel, ⟨(RX1, TX1, 5), rfl, rfl⟩, 82, by decide +kernel, w_320⟩
theorem O_fire_17 : Kj O_fire 17 (.ifCond .ne) 22 20 := ⟨5, by decide +kernel, by decide, rfl⟩
theorem O_fire_20 : Kc O_fire 20 0 21 := ⟨by decide, Or.inl ⟨by decide +kernel, rfl⟩⟩
theorem O_fire_21 : K1 O_fire 21 .ireturn 22 := ⟨by decide +kernel, rfl⟩
theorem O_fire_22 : Ka O_fire 22 0 23 := Or.inr ⟨0, by decide +kernel, rfl, rfl⟩
theorem O_fire_23 : Kg O_fire 23 3 0 true 26 := ⟨18, by decide +kernel, rfl, fw_O_18⟩
theorem O_fire_26 : Ka O_fire 26 0 27 := Or.inr ⟨0, by decide +kernel, rfl, rfl⟩
theorem O_fire_27 : Kg O_fire 27 3 4 true 30 := ⟨46, by decide +kernel, rfl, fw_O_46⟩
theorem O_fire_30 : Ki O_fire 30 1 31 := Or.inr ⟨1, by decide +kernel, rfl, rfl⟩
theorem O_fire_31 : Ka O_fire 31 0 32 := Or.inr ⟨0, by decide +kernel, rfl, rfl⟩
theorem O_fire_32 : Kg O_fire 32 3 4 true 35 := ⟨46, by decide +kernel, rfl, fw_O_46⟩
theorem O_fire_35 : KV O_fire 35 N_move 1 3 38 := ⟨N_move_q, by decide, w_328, w_329, rfl, by decide +kernel, ⟨(RX1, TX1, 5), rfl, rfl⟩, 86, by decide +kernel, w_327⟩
theorem O_fire_38 : Ka O_fire 38 0 39 := Or.inr ⟨0, by decide +kernel, rfl, rfl⟩
theorem O_fire_39 : K1 O_fire 39 .dup 40 := ⟨by decide +kernel, rfl⟩
theorem O_fire_40 : Kg O_fire 40 3 5 false 43 := ⟨49, by decide +kernel, rfl, fw_O_49⟩
theorem O_fire_43 : Kc O_fire 43 1 44 := ⟨by decide, Or.inl ⟨by decide +kernel, rfl⟩⟩
theorem O_fire_44 : K1 O_fire 44 .iadd 45 := ⟨by decide +kernel, rfl⟩
theorem O_fire_45 : Kp O_fire 45 3 5 false .int false 48 := ⟨⟨49, by decide +kernel, rfl, fw_O_49⟩, ko_O_3_5, fun h => by cases h⟩
theorem O_fire_48 : Kc O_fire 48 1 49 := ⟨by decide, Or.inl ⟨by decide +kernel, rfl⟩⟩
theorem O_fire_49 : K1 O_fire 49 .ireturn 50 := ⟨by decide +kernel, rfl⟩
theorem N_enables_0 : Ka N_enables 0 0 1 := Or.inr ⟨0, by decide +kernel, rfl, rfl⟩
theorem N_enables_1 : Kg N_enables 1 1 2 true 4 := ⟨20, by decide +kernel, rfl, fw_N_20⟩
theorem N_enables_4 : Ki N_enables 4 2 5 := Or.inr ⟨2, by decide +kernel, rfl, rfl⟩
theorem N_enables_5 : K1 N_enables 5 .aaload 6 := ⟨by decide +kernel, rfl⟩
theorem N_enables_6 : Ka N_enables 6 1 7 := Or.inr ⟨1, by decide +kernel, rfl, rfl⟩
theorem N_enables_7 : KS N_enables 7 O_isBelow 2 10 := ⟨O_isBelow_q, by decide, w_325, rfl, by decide +kernel, 30, by decide +kernel, Or.inr ⟨_, w_324⟩⟩
theorem N_enables_10 : K1 N_enables 10 .ireturn 11 := ⟨by decide +kernel, rfl⟩
theorem O_isBelow_0 : Kc O_isBelow 0 0 1 := ⟨by decide, Or.inl ⟨by decide +kernel, rfl⟩⟩
theorem O_isBelow_1 : Ks O_isBelow 1 2 2 := ⟨by decide, Or.inr ⟨2, by decide +kernel, rfl, rfl⟩⟩
theorem O_isBelow_2 : Ki O_isBelow 2 2 3 := Or.inr ⟨2, by decide +kernel, rfl, rfl⟩
theorem O_isBelow_3 : Ka O_isBelow 3 0 4 := Or.inr ⟨0, by decide +kernel, rfl, rfl⟩
theorem O_isBelow_4 : K1 O_isBelow 4 .arraylength 5 := ⟨by decide +kernel, rfl⟩
theorem O_isBelow_5 : Kj O_isBelow 5 (.if_icmp .ge) 31 8 := ⟨26, by decide +kernel, by decide, rfl⟩
theorem O_isBelow_8 : Ki O_isBelow 8 2 9 := Or.inr ⟨2, by decide +kernel, rfl, rfl⟩
theorem O_isBelow_9 : Ka O_isBelow 9 1 10 := Or.inr ⟨1, by decide +kernel, rfl, rfl⟩
theorem O_isBelow_10 : K1 O_isBelow 10 .arraylength 11 := ⟨by decide +kernel, rfl⟩
theorem O_isBelow_11 : Kj O_isBelow 11 (.if_icmp .ge) 31 14 := ⟨20, by decide +kernel, by decide, rfl⟩
theorem O_isBelow_14 : Ka O_isBelow 14 0 15 := Or.inr ⟨0, by decide +kernel, rfl, rfl⟩
theorem O_isBelow_15 : Ki O_isBelow 15 2 16 := Or.inr ⟨2, by decide +kernel, rfl, rfl⟩
theorem O_isBelow_16 : K1 O_isBelow 16 .iaload 17 := ⟨by decide +kernel, rfl⟩
theorem O_isBelow_17 : Ka O_isBelow 17 1 18 := Or.inr ⟨1, by decide +kernel, rfl, rfl⟩
theorem O_isBelow_18 : Ki O_isBelow 18 2 19 := Or.inr ⟨2, by decide +kernel, rfl, rfl⟩
theorem O_isBelow_19 : K1 O_isBelow 19 .iaload 20 := ⟨by decide +kernel, rfl⟩
theorem O_isBelow_20 : Kj O_isBelow 20 (.if_icmp .le) 25 23 := ⟨5, by decide +kernel, by decide, rfl⟩
theorem O_isBelow_23 : Kc O_isBelow 23 0 24 := ⟨by decide, Or.inl ⟨by decide +kernel, rfl⟩⟩
theorem O_isBelow_24 : K1 O_isBelow 24 .ireturn 25 := ⟨by decide +kernel, rfl⟩
theorem O_isBelow_25 : Kn O_isBelow 25 2 1 28 := ⟨by decide, by decide +kernel, rfl⟩
theorem O_isBelow_28 : Kj O_isBelow 28 .goto 2 31 := ⟨(-26), by decide +kernel, by decide, rfl⟩
theorem O_isBelow_31 : Kc O_isBelow 31 1 32 := ⟨by decide, Or.inl ⟨by decide +kernel, rfl⟩⟩
theorem O_isBelow_32 : K1 O_isBelow 32 .ireturn 33 := ⟨by decide +kernel, rfl⟩
theorem N_move_0 : Kc N_move 0 0 1 := ⟨by decide, Or.inl ⟨by decide +kernel, rfl⟩⟩
theorem N_move_1 : Ks N_move 1 4 3 := ⟨by decide, Or.inl ⟨by decide +kernel, rfl⟩⟩
theorem N_move_3 : Ki N_move 3 4 5 := Or.inl ⟨by decide +kernel, rfl⟩
theorem N_move_5 : Ka N_move 5 0 6 := Or.inr ⟨0, by decide +kernel, rfl, rfl⟩
theorem N_move_6 : Kg N_move 6 1 0 false 9 := ⟨9, by decide +kernel, rfl, fw_N_9⟩
theorem N_move_9 : Kj N_move 9 (.if_icmp .ge) 60 12 := ⟨51, by decide +kernel, by decide, rfl⟩
theorem N_move_12 : Ka N_move 12 3 13 := Or.inr ⟨3, by decide +kernel, rfl, rfl⟩
theorem N_move_13 : Ki N_move 13 4 15 := Or.inl ⟨by decide +kernel, rfl⟩
theorem N_move_15 : Ka N_move 15 1 16 := Or.inr ⟨1, by decide +kernel, rfl, rfl⟩
theorem N_move_16 : Ki N_move 16 4 18 := Or.inl ⟨by decide +kernel, rfl⟩
theorem N_move_18 : K1 N_move 18 .iaload 19 := ⟨by decide +kernel, rfl⟩
theorem N_move_19 : Kc N_move 19 1000000000 21 := ⟨by decide, Or.inr (Or.inr (Or.inr ⟨38, by decide +kernel, rfl, w_331, rfl⟩))⟩
theorem N_move_21 : Kj N_move 21 (.if_icmp .ne) 29 24 := ⟨8, by decide +kernel, by decide, rfl⟩
theorem N_move_24 : Kc N_move 24 1000000000 26 := ⟨by decide, Or.inr (Or.inr (Or.inr ⟨38, by decide +kernel, rfl, w_331, rfl⟩))⟩
theorem N_move_26 : Kj N_move 26 .goto 53 29 := ⟨27, by decide +kernel, by decide, rfl⟩
theorem N_move_29 : Ka N_move 29 1 30 := Or.inr ⟨1, by decide +kernel, rfl, rfl⟩
theorem N_move_30 : Ki N_move 30 4 32 := Or.inl ⟨by decide +kernel, rfl⟩
theorem N_move_32 : K1 N_move 32 .iaload 33 := ⟨by decide +kernel, rfl⟩
theorem N_move_33 : Ka N_move 33 0 34 := Or.inr ⟨0, by decide +kernel, rfl, rfl⟩
theorem N_move_34 : Kg N_move 34 1 2 true 37 := ⟨20, by decide +kernel, rfl, fw_N_20⟩
theorem N_move_37 : Ki N_move 37 2 38 := Or.inr ⟨2, by decide +kernel, rfl, rfl⟩
theorem N_move_38 : K1 N_move 38 .aaload 39 := ⟨by decide +kernel, rfl⟩
theorem N_move_39 : Ki N_move 39 4 41 := Or.inl ⟨by decide +kernel, rfl⟩
theorem N_move_41 : K1 N_move 41 .iaload 42 := ⟨by decide +kernel, rfl⟩
theorem N_move_42 : K1 N_move 42 .isub 43 := ⟨by decide +kernel, rfl⟩
theorem N_move_43 : Ka N_move 43 0 44 := Or.inr ⟨0, by decide +kernel, rfl, rfl⟩
theorem N_move_44 : Kg N_move 44 1 3 true 47 := ⟨23, by decide +kernel, rfl, fw_N_23⟩
theorem N_move_47 : Ki N_move 47 2 48 := Or.inr ⟨2, by decide +kernel, rfl, rfl⟩
theorem N_move_48 : K1 N_move 48 .aaload 49 := ⟨by decide +kernel, rfl⟩
theorem N_move_49 : Ki N_move 49 4 51 := Or.inl ⟨by decide +kernel, rfl⟩
theorem N_move_51 : K1 N_move 51 .iaload 52 := ⟨by decide +kernel, rfl⟩
theorem N_move_52 : K1 N_move 52 .iadd 53 := ⟨by decide +kernel, rfl⟩
theorem N_move_53 : K1 N_move 53 .iastore 54 := ⟨by decide +kernel, rfl⟩
theorem N_move_54 : Kn N_move 54 4 1 57 := ⟨by decide, by decide +kernel, rfl⟩
theorem N_move_57 : Kj N_move 57 .goto 3 60 := ⟨(-54), by decide +kernel, by decide, rfl⟩
theorem N_move_60 : K1 N_move 60 .return_ 61 := ⟨by decide +kernel, rfl⟩
theorem O_at_0 : Ka O_at 0 0 1 := Or.inr ⟨0, by decide +kernel, rfl, rfl⟩
theorem O_at_1 : Ki O_at 1 1 2 := Or.inr ⟨1, by decide +kernel, rfl, rfl⟩
theorem O_at_2 : KV O_at 2 O_checkPlace 3 1 5 := ⟨O_checkPlace_q, by decide, w_274, ws_3, rfl, by decide +kernel, ⟨(RX3, TX3, 6), rfl, rfl⟩, 56, by decide +kernel, w_272⟩
theorem O_at_5 : Ka O_at 5 0 6 := Or.inr ⟨0, by decide +kernel, rfl, rfl⟩
theorem O_at_6 : Kg O_at 6 3 4 true 9 := ⟨46, by decide +kernel, rfl, fw_O_46⟩
theorem O_at_9 : Ki O_at 9 1 10 := Or.inr ⟨1, by decide +kernel, rfl, rfl⟩
theorem O_at_10 : K1 O_at 10 .iaload 11 := ⟨by decide +kernel, rfl⟩
theorem O_at_11 : K1 O_at 11 .ireturn 12 := ⟨by decide +kernel, rfl⟩
theorem O_explore_0 : Ka O_explore 0 0 1 := Or.inr ⟨0, by decide +kernel, rfl, rfl⟩
theorem O_explore_1 : Kg O_explore 1 3 1 true 4 := ⟨27, by decide +kernel, rfl, fw_O_27⟩
theorem O_explore_4 : KV O_explore 4 T_grow 2 0 7 := ⟨T_grow_q, by decide, w_348, w_349, rfl, by decide +kernel, ⟨(RX2, TX2, 10), rfl, rfl⟩, 90, by decide +kernel, w_347⟩
theorem O_explore_7 : Ka O_explore 7 0 8 := Or.inr ⟨0, by decide +kernel, rfl, rfl⟩
theorem O_explore_8 : Kg O_explore 8 3 1 true 11 := ⟨27, by decide +kernel, rfl, fw_O_27⟩
theorem O_explore_11 : Kg O_explore 11 2 9 false 14 := ⟨93, by decide +kernel, rfl, fw_O_93⟩
theorem O_explore_14 : Kj O_explore 14 (.ifCond .ne) 27 17 := ⟨13, by decide +kernel, by decide, rfl⟩
theorem O_explore_17 : KT O_explore 17 "java/lang/IllegalStateException" := ⟨94, 96, 98, "the tree would have too many nodes", by decide +kernel, by decide +kernel, by decide +kernel, by decide +kernel, by decide +kernel, rfl, rfl, by decide +kernel, w_392, w_13, by decide +kernel, xt_98_94⟩
theorem O_explore_27 : Ka O_explore 27 0 28 := Or.inr ⟨0, by decide +kernel, rfl, rfl⟩
theorem O_explore_28 : Kg O_explore 28 3 1 true 31 := ⟨27, by decide +kernel, rfl, fw_O_27⟩
theorem O_explore_31 : Kg O_explore 31 2 7 false 34 := ⟨101, by decide +kernel, rfl, fw_O_101⟩
theorem O_explore_34 : K1 O_explore 34 .ireturn 35 := ⟨by decide +kernel, rfl⟩
theorem T_grow_0 : Ka T_grow 0 0 1 := Or.inr ⟨0, by decide +kernel, rfl, rfl⟩
theorem T_grow_1 : Kc T_grow 1 0 2 := ⟨by decide, Or.inl ⟨by decide +kernel, rfl⟩⟩
theorem T_grow_2 : Kp T_grow 2 2 9 false .boolean false 5 := ⟨⟨43, by decide +kernel, rfl, fw_T_43⟩, ko_T_2_9, fun h => by cases h⟩
theorem T_grow_5 : Ka T_grow 5 0 6 := Or.inr ⟨0, by decide +kernel, rfl, rfl⟩
theorem T_grow_6 : KV T_grow 6 T_plant 2 0 9 := ⟨T_plant_q, by decide, w_353, ws_5, rfl, by decide +kernel, ⟨(RX2, TX2, 10), rfl, rfl⟩, 47, by decide +kernel, w_351⟩
theorem T_grow_9 : Kc T_grow 9 1 10 := ⟨by decide, Or.inl ⟨by decide +kernel, rfl⟩⟩
theorem T_grow_10 : Ks T_grow 10 1 11 := ⟨by decide, Or.inr ⟨1, by decide +kernel, rfl, rfl⟩⟩
theorem T_grow_11 : Kc T_grow 11 0 12 := ⟨by decide, Or.inl ⟨by decide +kernel, rfl⟩⟩
theorem T_grow_12 : Ks T_grow 12 2 13 := ⟨by decide, Or.inr ⟨2, by decide +kernel, rfl, rfl⟩⟩
theorem T_grow_13 : Ki T_grow 13 1 14 := Or.inr ⟨1, by decide +kernel, rfl, rfl⟩
theorem T_grow_14 : Kj T_grow 14 (.ifCond .eq) 72 17 := ⟨58, by decide +kernel, by decide, rfl⟩
theorem T_grow_17 : Ki T_grow 17 2 18 := Or.inr ⟨2, by decide +kernel, rfl, rfl⟩
theorem T_grow_18 : Ka T_grow 18 0 19 := Or.inr ⟨0, by decide +kernel, rfl, rfl⟩
theorem T_grow_19 : Kg T_grow 19 2 7 false 22 := ⟨50, by decide +kernel, rfl, fw_T_50⟩
theorem T_grow_22 : Kj T_grow 22 (.if_icmp .ge) 72 25 := ⟨50, by decide +kernel, by decide, rfl⟩
theorem T_grow_25 : Ki T_grow 25 2 26 := Or.inr ⟨2, by decide +kernel, rfl, rfl⟩
theorem T_grow_26 : Kc T_grow 26 200 29 := ⟨by decide, Or.inr (Or.inr (Or.inl ⟨by decide +kernel, rfl, by decide⟩))⟩
theorem T_grow_29 : Kj T_grow 29 (.if_icmp .ge) 72 32 := ⟨43, by decide +kernel, by decide, rfl⟩
theorem T_grow_32 : Ka T_grow 32 0 33 := Or.inr ⟨0, by decide +kernel, rfl, rfl⟩
theorem T_grow_33 : Kg T_grow 33 2 5 true 36 := ⟨21, by decide +kernel, rfl, fw_T_21⟩
theorem T_grow_36 : Ki T_grow 36 2 37 := Or.inr ⟨2, by decide +kernel, rfl, rfl⟩
theorem T_grow_37 : Ka T_grow 37 0 38 := Or.inr ⟨0, by decide +kernel, rfl, rfl⟩
theorem T_grow_38 : Ki T_grow 38 2 39 := Or.inr ⟨2, by decide +kernel, rfl, rfl⟩
theorem T_grow_39 : KV T_grow 39 T_repeatsOneAbove 2 1 42 := ⟨T_repeatsOneAbove_q, by decide, w_358, ws_6, rfl, by decide +kernel, ⟨(RX2, TX2, 10), rfl, rfl⟩, 53, by decide +kernel, w_356⟩
theorem T_grow_42 : K1 T_grow 42 .bastore 43 := ⟨by decide +kernel, rfl⟩
theorem T_grow_43 : Ka T_grow 43 0 44 := Or.inr ⟨0, by decide +kernel, rfl, rfl⟩
theorem T_grow_44 : Kg T_grow 44 2 5 true 47 := ⟨21, by decide +kernel, rfl, fw_T_21⟩
theorem T_grow_47 : Ki T_grow 47 2 48 := Or.inr ⟨2, by decide +kernel, rfl, rfl⟩
theorem T_grow_48 : K1 T_grow 48 .baload 49 := ⟨by decide +kernel, rfl⟩
theorem T_grow_49 : Kj T_grow 49 (.ifCond .ne) 60 52 := ⟨11, by decide +kernel, by decide, rfl⟩
theorem T_grow_52 : Ka T_grow 52 0 53 := Or.inr ⟨0, by decide +kernel, rfl, rfl⟩
theorem T_grow_53 : Ki T_grow 53 2 54 := Or.inr ⟨2, by decide +kernel, rfl, rfl⟩
theorem T_grow_54 : KV T_grow 54 T_branch 2 1 57 := ⟨T_branch_q, by decide, w_366, ws_7, rfl, by decide +kernel, ⟨(RX2, TX2, 10), rfl, rfl⟩, 57, by decide +kernel, w_364⟩
theorem T_grow_57 : Kj T_grow 57 (.ifCond .eq) 64 60 := ⟨7, by decide +kernel, by decide, rfl⟩
theorem T_grow_60 : Kc T_grow 60 1 61 := ⟨by decide, Or.inl ⟨by decide +kernel, rfl⟩⟩
theorem T_grow_61 : Kj T_grow 61 .goto 65 64 := ⟨4, by decide +kernel, by decide, rfl⟩
theorem T_grow_64 : Kc T_grow 64 0 65 := ⟨by decide, Or.inl ⟨by decide +kernel, rfl⟩⟩
theorem T_grow_65 : Ks T_grow 65 1 66 := ⟨by decide, Or.inr ⟨1, by decide +kernel, rfl, rfl⟩⟩
theorem T_grow_66 : Kn T_grow 66 2 1 69 := ⟨by decide, by decide +kernel, rfl⟩
theorem T_grow_69 : Kj T_grow 69 .goto 13 72 := ⟨(-56), by decide +kernel, by decide, rfl⟩
theorem T_grow_72 : Ki T_grow 72 1 73 := Or.inr ⟨1, by decide +kernel, rfl, rfl⟩
theorem T_grow_73 : Kj T_grow 73 (.ifCond .eq) 85 76 := ⟨12, by decide +kernel, by decide, rfl⟩
theorem T_grow_76 : Ka T_grow 76 0 77 := Or.inr ⟨0, by decide +kernel, rfl, rfl⟩
theorem T_grow_77 : KV T_grow 77 T_findPeaks 2 0 80 := ⟨T_findPeaks_q, by decide, w_386, ws_11, rfl, by decide +kernel, ⟨(RX2, TX2, 10), rfl, rfl⟩, 60, by decide +kernel, w_384⟩
theorem T_grow_80 : Ka T_grow 80 0 81 := Or.inr ⟨0, by decide +kernel, rfl, rfl⟩
theorem T_grow_81 : Kc T_grow 81 1 82 := ⟨by decide, Or.inl ⟨by decide +kernel, rfl⟩⟩
theorem T_grow_82 : Kp T_grow 82 2 9 false .boolean false 85 := ⟨⟨43, by decide +kernel, rfl, fw_T_43⟩, ko_T_2_9, fun h => by cases h⟩
theorem T_grow_85 : K1 T_grow 85 .return_ 86 := ⟨by decide +kernel, rfl⟩
theorem T_plant_0 : Ka T_plant 0 0 1 := Or.inr ⟨0, by decide +kernel, rfl, rfl⟩
theorem T_plant_1 : Kg T_plant 1 2 0 true 4 := ⟨28, by decide +kernel, rfl, fw_T_28⟩
theorem T_plant_4 : Kg T_plant 4 1 4 true 7 := ⟨63, by decide +kernel, rfl, fw_T_63⟩
theorem T_plant_7 : Kc T_plant 7 0 8 := ⟨by decide, Or.inl ⟨by decide +kernel, rfl⟩⟩
theorem T_plant_8 : Ka T_plant 8 0 9 := Or.inr ⟨0, by decide +kernel, rfl, rfl⟩
theorem T_plant_9 : Kg T_plant 9 2 1 true 12 := ⟨40, by decide +kernel, rfl, fw_T_40⟩
theorem T_plant_12 : Kc T_plant 12 0 13 := ⟨by decide, Or.inl ⟨by decide +kernel, rfl⟩⟩
theorem T_plant_13 : K1 T_plant 13 .aaload 14 := ⟨by decide +kernel, rfl⟩
theorem T_plant_14 : Kc T_plant 14 0 15 := ⟨by decide, Or.inl ⟨by decide +kernel, rfl⟩⟩
theorem T_plant_15 : Ka T_plant 15 0 16 := Or.inr ⟨0, by decide +kernel, rfl, rfl⟩
theorem T_plant_16 : Kg T_plant 16 2 0 true 19 := ⟨28, by decide +kernel, rfl, fw_T_28⟩
theorem T_plant_19 : Kg T_plant 19 1 0 false 22 := ⟨32, by decide +kernel, rfl, fw_T_32⟩
theorem T_plant_22 : KX T_plant 22 arraycopyName 25 := ⟨66, by decide +kernel, rfl, w_355⟩
theorem T_plant_25 : Ka T_plant 25 0 26 := Or.inr ⟨0, by decide +kernel, rfl, rfl⟩
theorem T_plant_26 : Kg T_plant 26 2 2 true 29 := ⟨9, by decide +kernel, rfl, fw_T_9⟩
theorem T_plant_29 : Kc T_plant 29 0 30 := ⟨by decide, Or.inl ⟨by decide +kernel, rfl⟩⟩
theorem T_plant_30 : Kc T_plant 30 (-2) 32 := ⟨by decide, Or.inr (Or.inl ⟨by decide +kernel, rfl, by decide⟩)⟩
theorem T_plant_32 : K1 T_plant 32 .iastore 33 := ⟨by decide +kernel, rfl⟩
theorem T_plant_33 : Ka T_plant 33 0 34 := Or.inr ⟨0, by decide +kernel, rfl, rfl⟩
theorem T_plant_34 : Kg T_plant 34 2 3 true 37 := ⟨15, by decide +kernel, rfl, fw_T_15⟩
theorem T_plant_37 : Kc T_plant 37 0 38 := ⟨by decide, Or.inl ⟨by decide +kernel, rfl⟩⟩
theorem T_plant_38 : Kc T_plant 38 (-2) 40 := ⟨by decide, Or.inr (Or.inl ⟨by decide +kernel, rfl, by decide⟩)⟩
theorem T_plant_40 : K1 T_plant 40 .iastore 41 := ⟨by decide +kernel, rfl⟩
theorem T_plant_41 : Ka T_plant 41 0 42 := Or.inr ⟨0, by decide +kernel, rfl, rfl⟩
theorem T_plant_42 : Kg T_plant 42 2 4 true 45 := ⟨18, by decide +kernel, rfl, fw_T_18⟩
theorem T_plant_45 : Kc T_plant 45 0 46 := ⟨by decide, Or.inl ⟨by decide +kernel, rfl⟩⟩
theorem T_plant_46 : Kc T_plant 46 0 47 := ⟨by decide, Or.inl ⟨by decide +kernel, rfl⟩⟩
theorem T_plant_47 : K1 T_plant 47 .iastore 48 := ⟨by decide +kernel, rfl⟩
theorem T_plant_48 : Ka T_plant 48 0 49 := Or.inr ⟨0, by decide +kernel, rfl, rfl⟩
theorem T_plant_49 : Kc T_plant 49 1 50 := ⟨by decide, Or.inl ⟨by decide +kernel, rfl⟩⟩
theorem T_plant_50 : Kp T_plant 50 2 7 false .int false 53 := ⟨⟨50, by decide +kernel, rfl, fw_T_50⟩, ko_T_2_7, fun h => by cases h⟩
theorem T_plant_53 : K1 T_plant 53 .return_ 54 := ⟨by decide +kernel, rfl⟩
theorem T_repeatsOneAbove_0 : Ka T_repeatsOneAbove 0 0 1 := Or.inr ⟨0, by decide +kernel, rfl, rfl⟩
theorem T_repeatsOneAbove_1 : Kg T_repeatsOneAbove 1 2 2 true 4 := ⟨9, by decide +kernel, rfl, fw_T_9⟩
theorem T_repeatsOneAbove_4 : Ki T_repeatsOneAbove 4 1 5 := Or.inr ⟨1, by decide +kernel, rfl, rfl⟩
theorem T_repeatsOneAbove_5 : K1 T_repeatsOneAbove 5 .iaload 6 := ⟨by decide +kernel, rfl⟩
theorem T_repeatsOneAbove_6 : Ks T_repeatsOneAbove 6 2 7 := ⟨by decide, Or.inr ⟨2, by decide +kernel, rfl, rfl⟩⟩
theorem T_repeatsOneAbove_7 : Kc T_repeatsOneAbove 7 0 8 := ⟨by decide, Or.inl ⟨by decide +kernel, rfl⟩⟩
theorem T_repeatsOneAbove_8 : Ks T_repeatsOneAbove 8 3 9 := ⟨by decide, Or.inr ⟨3, by decide +kernel, rfl, rfl⟩⟩
theorem T_repeatsOneAbove_9 : Ki T_repeatsOneAbove 9 3 10 := Or.inr ⟨3, by decide +kernel, rfl, rfl⟩
theorem T_repeatsOneAbove_10 : Ka T_repeatsOneAbove 10 0 11 := Or.inr ⟨0, by decide +kernel, rfl, rfl⟩
theorem T_repeatsOneAbove_11 : Kg T_repeatsOneAbove 11 2 4 true 14 := ⟨18, by decide +kernel, rfl, fw_T_18⟩
theorem T_repeatsOneAbove_14 : Ki T_repeatsOneAbove 14 1 15 := Or.inr ⟨1, by decide +kernel, rfl, rfl⟩
theorem T_repeatsOneAbove_15 : K1 T_repeatsOneAbove 15 .iaload 16 := ⟨by decide +kernel, rfl⟩
theorem T_repeatsOneAbove_16 : Kj T_repeatsOneAbove 16 (.if_icmp .ge) 52 19 := ⟨36, by decide +kernel, by decide, rfl⟩
theorem T_repeatsOneAbove_19 : Ka T_repeatsOneAbove 19 0 20 := Or.inr ⟨0, by decide +kernel, rfl, rfl⟩
theorem T_repeatsOneAbove_20 : Kg T_repeatsOneAbove 20 2 1 true 23 := ⟨40, by decide +kernel, rfl, fw_T_40⟩
theorem T_repeatsOneAbove_23 : Ki T_repeatsOneAbove 23 2 24 := Or.inr ⟨2, by decide +kernel, rfl, rfl⟩
theorem T_repeatsOneAbove_24 : K1 T_repeatsOneAbove 24 .aaload 25 := ⟨by decide +kernel, rfl⟩
theorem T_repeatsOneAbove_25 : Ka T_repeatsOneAbove 25 0 26 := Or.inr ⟨0, by decide +kernel, rfl, rfl⟩
theorem T_repeatsOneAbove_26 : Kg T_repeatsOneAbove 26 2 1 true 29 := ⟨40, by decide +kernel, rfl, fw_T_40⟩
theorem T_repeatsOneAbove_29 : Ki T_repeatsOneAbove 29 1 30 := Or.inr ⟨1, by decide +kernel, rfl, rfl⟩
theorem T_repeatsOneAbove_30 : K1 T_repeatsOneAbove 30 .aaload 31 := ⟨by decide +kernel, rfl⟩
theorem T_repeatsOneAbove_31 : KS T_repeatsOneAbove 31 O_isSame 2 34 := ⟨O_isSame_q, by decide, w_361, rfl, by decide +kernel, 72, by decide +kernel, Or.inr ⟨_, w_360⟩⟩
theorem T_repeatsOneAbove_34 : Kj T_repeatsOneAbove 34 (.ifCond .eq) 39 37 := ⟨5, by decide +kernel, by decide, rfl⟩
theorem T_repeatsOneAbove_37 : Kc T_repeatsOneAbove 37 1 38 := ⟨by decide, Or.inl ⟨by decide +kernel, rfl⟩⟩
theorem T_repeatsOneAbove_38 : K1 T_repeatsOneAbove 38 .ireturn 39 := ⟨by decide +kernel, rfl⟩
theorem T_repeatsOneAbove_39 : Ka T_repeatsOneAbove 39 0 40 := Or.inr ⟨0, by decide +kernel, rfl, rfl⟩
theorem T_repeatsOneAbove_40 : Kg T_repeatsOneAbove 40 2 2 true 43 := ⟨9, by decide +kernel, rfl, fw_T_9⟩
theorem T_repeatsOneAbove_43 : Ki T_repeatsOneAbove 43 2 44 := Or.inr ⟨2, by decide +kernel, rfl, rfl⟩
theorem T_repeatsOneAbove_44 : K1 T_repeatsOneAbove 44 .iaload 45 := ⟨by decide +kernel, rfl⟩
theorem T_repeatsOneAbove_45 : Ks T_repeatsOneAbove 45 2 46 := ⟨by decide, Or.inr ⟨2, by decide +kernel, rfl, rfl⟩⟩
theorem T_repeatsOneAbove_46 : Kn T_repeatsOneAbove 46 3 1 49 := ⟨by decide, by decide +kernel, rfl⟩
theorem T_repeatsOneAbove_49 : Kj T_repeatsOneAbove 49 .goto 9 52 := ⟨(-40), by decide +kernel, by decide, rfl⟩
theorem T_repeatsOneAbove_52 : Kc T_repeatsOneAbove 52 0 53 := ⟨by decide, Or.inl ⟨by decide +kernel, rfl⟩⟩
theorem T_repeatsOneAbove_53 : K1 T_repeatsOneAbove 53 .ireturn 54 := ⟨by decide +kernel, rfl⟩
theorem O_isSame_0 : Ka O_isSame 0 0 1 := Or.inr ⟨0, by decide +kernel, rfl, rfl⟩
theorem O_isSame_1 : Ka O_isSame 1 1 2 := Or.inr ⟨1, by decide +kernel, rfl, rfl⟩
theorem O_isSame_2 : KS O_isSame 2 O_isBelow 2 5 := ⟨O_isBelow_q, by decide, w_325, rfl, by decide +kernel, 225, by decide +kernel, Or.inl w_363⟩
theorem O_isSame_5 : Kj O_isSame 5 (.ifCond .eq) 20 8 := ⟨15, by decide +kernel, by decide, rfl⟩
theorem O_isSame_8 : Ka O_isSame 8 1 9 := Or.inr ⟨1, by decide +kernel, rfl, rfl⟩
theorem O_isSame_9 : Ka O_isSame 9 0 10 := Or.inr ⟨0, by decide +kernel, rfl, rfl⟩
theorem O_isSame_10 : KS O_isSame 10 O_isBelow 2 13 := ⟨O_isBelow_q, by decide, w_325, rfl, by decide +kernel, 225, by decide +kernel, Or.inl w_363⟩
theorem O_isSame_13 : Kj O_isSame 13 (.ifCond .eq) 20 16 := ⟨7, by decide +kernel, by decide, rfl⟩
theorem O_isSame_16 : Kc O_isSame 16 1 17 := ⟨by decide, Or.inl ⟨by decide +kernel, rfl⟩⟩
theorem O_isSame_17 : Kj O_isSame 17 .goto 21 20 := ⟨4, by decide +kernel, by decide, rfl⟩
theorem O_isSame_20 : Kc O_isSame 20 0 21 := ⟨by decide, Or.inl ⟨by decide +kernel, rfl⟩⟩
theorem O_isSame_21 : K1 O_isSame 21 .ireturn 22 := ⟨by decide +kernel, rfl⟩
theorem T_branch_0 : Kc T_branch 0 0 1 := ⟨by decide, Or.inl ⟨by decide +kernel, rfl⟩⟩
theorem T_branch_1 : Ks T_branch 1 2 2 := ⟨by decide, Or.inr ⟨2, by decide +kernel, rfl, rfl⟩⟩
theorem T_branch_2 : Ki T_branch 2 2 3 := Or.inr ⟨2, by decide +kernel, rfl, rfl⟩
theorem T_branch_3 : Ka T_branch 3 0 4 := Or.inr ⟨0, by decide +kernel, rfl, rfl⟩
theorem T_branch_4 : Kg T_branch 4 2 0 true 7 := ⟨28, by decide +kernel, rfl, fw_T_28⟩
theorem T_branch_7 : Kg T_branch 7 1 1 false 10 := ⟨76, by decide +kernel, rfl, fw_T_76⟩
theorem T_branch_10 : Kj T_branch 10 (.if_icmp .ge) 54 13 := ⟨44, by decide +kernel, by decide, rfl⟩
theorem T_branch_13 : Ka T_branch 13 0 14 := Or.inr ⟨0, by decide +kernel, rfl, rfl⟩
theorem T_branch_14 : Kg T_branch 14 2 0 true 17 := ⟨28, by decide +kernel, rfl, fw_T_28⟩
theorem T_branch_17 : Ka T_branch 17 0 18 := Or.inr ⟨0, by decide +kernel, rfl, rfl⟩
theorem T_branch_18 : Kg T_branch 18 2 1 true 21 := ⟨40, by decide +kernel, rfl, fw_T_40⟩
theorem T_branch_21 : Ki T_branch 21 1 22 := Or.inr ⟨1, by decide +kernel, rfl, rfl⟩
theorem T_branch_22 : K1 T_branch 22 .aaload 23 := ⟨by decide +kernel, rfl⟩
theorem T_branch_23 : Ki T_branch 23 2 24 := Or.inr ⟨2, by decide +kernel, rfl, rfl⟩
theorem T_branch_24 : KV T_branch 24 N_enables 1 2 27 := ⟨N_enables_q, by decide, w_321, w_322, rfl, by decide +kernel, ⟨(RX1, TX1, 5), rfl, rfl⟩, 78, by decide +kernel, w_368⟩
theorem T_branch_27 : Kj T_branch 27 (.ifCond .eq) 48 30 := ⟨21, by decide +kernel, by decide, rfl⟩
theorem T_branch_30 : Ka T_branch 30 0 31 := Or.inr ⟨0, by decide +kernel, rfl, rfl⟩
theorem T_branch_31 : Kg T_branch 31 2 7 false 34 := ⟨50, by decide +kernel, rfl, fw_T_50⟩
theorem T_branch_34 : Kc T_branch 34 200 37 := ⟨by decide, Or.inr (Or.inr (Or.inl ⟨by decide +kernel, rfl, by decide⟩))⟩
theorem T_branch_37 : Kj T_branch 37 (.if_icmp .ne) 42 40 := ⟨5, by decide +kernel, by decide, rfl⟩
theorem T_branch_40 : Kc T_branch 40 0 41 := ⟨by decide, Or.inl ⟨by decide +kernel, rfl⟩⟩
theorem T_branch_41 : K1 T_branch 41 .ireturn 42 := ⟨by decide +kernel, rfl⟩
theorem T_branch_42 : Ka T_branch 42 0 43 := Or.inr ⟨0, by decide +kernel, rfl, rfl⟩
theorem T_branch_43 : Ki T_branch 43 1 44 := Or.inr ⟨1, by decide +kernel, rfl, rfl⟩
theorem T_branch_44 : Ki T_branch 44 2 45 := Or.inr ⟨2, by decide +kernel, rfl, rfl⟩
theorem T_branch_45 : KV T_branch 45 T_addNode 2 2 48 := ⟨T_addNode_q, by decide, w_371, ws_8, rfl, by decide +kernel, ⟨(RX2, TX2, 10), rfl, rfl⟩, 82, by decide +kernel, w_369⟩
theorem T_branch_48 : Kn T_branch 48 2 1 51 := ⟨by decide, by decide +kernel, rfl⟩
theorem T_branch_51 : Kj T_branch 51 .goto 2 54 := ⟨(-49), by decide +kernel, by decide, rfl⟩
theorem T_branch_54 : Kc T_branch 54 1 55 := ⟨by decide, Or.inl ⟨by decide +kernel, rfl⟩⟩
theorem T_branch_55 : K1 T_branch 55 .ireturn 56 := ⟨by decide +kernel, rfl⟩
theorem T_addNode_0 : Ka T_addNode 0 0 1 := Or.inr ⟨0, by decide +kernel, rfl, rfl⟩
theorem T_addNode_1 : Kg T_addNode 1 2 7 false 4 := ⟨50, by decide +kernel, rfl, fw_T_50⟩
theorem T_addNode_4 : Ks T_addNode 4 3 5 := ⟨by decide, Or.inr ⟨3, by decide +kernel, rfl, rfl⟩⟩
theorem T_addNode_5 : Ka T_addNode 5 0 6 := Or.inr ⟨0, by decide +kernel, rfl, rfl⟩
theorem T_addNode_6 : K1 T_addNode 6 .dup 7 := ⟨by decide +kernel, rfl⟩
theorem T_addNode_7 : Kg T_addNode 7 2 7 false 10 := ⟨50, by decide +kernel, rfl, fw_T_50⟩
theorem T_addNode_10 : Kc T_addNode 10 1 11 := ⟨by decide, Or.inl ⟨by decide +kernel, rfl⟩⟩
theorem T_addNode_11 : K1 T_addNode 11 .iadd 12 := ⟨by decide +kernel, rfl⟩
theorem T_addNode_12 : Kp T_addNode 12 2 7 false .int false 15 := ⟨⟨50, by decide +kernel, rfl, fw_T_50⟩, ko_T_2_7, fun h => by cases h⟩
theorem T_addNode_15 : Ka T_addNode 15 0 16 := Or.inr ⟨0, by decide +kernel, rfl, rfl⟩
theorem T_addNode_16 : Kg T_addNode 16 2 2 true 19 := ⟨9, by decide +kernel, rfl, fw_T_9⟩
theorem T_addNode_19 : Ki T_addNode 19 3 20 := Or.inr ⟨3, by decide +kernel, rfl, rfl⟩
theorem T_addNode_20 : Ki T_addNode 20 1 21 := Or.inr ⟨1, by decide +kernel, rfl, rfl⟩
theorem T_addNode_21 : K1 T_addNode 21 .iastore 22 := ⟨by decide +kernel, rfl⟩
theorem T_addNode_22 : Ka T_addNode 22 0 23 := Or.inr ⟨0, by decide +kernel, rfl, rfl⟩
theorem T_addNode_23 : Kg T_addNode 23 2 3 true 26 := ⟨15, by decide +kernel, rfl, fw_T_15⟩
theorem T_addNode_26 : Ki T_addNode 26 3 27 := Or.inr ⟨3, by decide +kernel, rfl, rfl⟩
theorem T_addNode_27 : Ki T_addNode 27 2 28 := Or.inr ⟨2, by decide +kernel, rfl, rfl⟩
theorem T_addNode_28 : K1 T_addNode 28 .iastore 29 := ⟨by decide +kernel, rfl⟩
theorem T_addNode_29 : Ka T_addNode 29 0 30 := Or.inr ⟨0, by decide +kernel, rfl, rfl⟩
theorem T_addNode_30 : Kg T_addNode 30 2 4 true 33 := ⟨18, by decide +kernel, rfl, fw_T_18⟩
theorem T_addNode_33 : Ki T_addNode 33 3 34 := Or.inr ⟨3, by decide +kernel, rfl, rfl⟩
theorem T_addNode_34 : Ka T_addNode 34 0 35 := Or.inr ⟨0, by decide +kernel, rfl, rfl⟩
theorem T_addNode_35 : Kg T_addNode 35 2 4 true 38 := ⟨18, by decide +kernel, rfl, fw_T_18⟩
theorem T_addNode_38 : Ki T_addNode 38 1 39 := Or.inr ⟨1, by decide +kernel, rfl, rfl⟩
theorem T_addNode_39 : K1 T_addNode 39 .iaload 40 := ⟨by decide +kernel, rfl⟩
theorem T_addNode_40 : Kc T_addNode 40 1 41 := ⟨by decide, Or.inl ⟨by decide +kernel, rfl⟩⟩
theorem T_addNode_41 : K1 T_addNode 41 .iadd 42 := ⟨by decide +kernel, rfl⟩
theorem T_addNode_42 : K1 T_addNode 42 .iastore 43 := ⟨by decide +kernel, rfl⟩
theorem T_addNode_43 : Ka T_addNode 43 0 44 := Or.inr ⟨0, by decide +kernel, rfl, rfl⟩
theorem T_addNode_44 : Kg T_addNode 44 2 0 true 47 := ⟨28, by decide +kernel, rfl, fw_T_28⟩
theorem T_addNode_47 : Ka T_addNode 47 0 48 := Or.inr ⟨0, by decide +kernel, rfl, rfl⟩
theorem T_addNode_48 : Kg T_addNode 48 2 1 true 51 := ⟨40, by decide +kernel, rfl, fw_T_40⟩
theorem T_addNode_51 : Ki T_addNode 51 1 52 := Or.inr ⟨1, by decide +kernel, rfl, rfl⟩
theorem T_addNode_52 : K1 T_addNode 52 .aaload 53 := ⟨by decide +kernel, rfl⟩
theorem T_addNode_53 : Ki T_addNode 53 2 54 := Or.inr ⟨2, by decide +kernel, rfl, rfl⟩
theorem T_addNode_54 : Ka T_addNode 54 0 55 := Or.inr ⟨0, by decide +kernel, rfl, rfl⟩
theorem T_addNode_55 : Kg T_addNode 55 2 1 true 58 := ⟨40, by decide +kernel, rfl, fw_T_40⟩
theorem T_addNode_58 : Ki T_addNode 58 3 59 := Or.inr ⟨3, by decide +kernel, rfl, rfl⟩
theorem T_addNode_59 : K1 T_addNode 59 .aaload 60 := ⟨by decide +kernel, rfl⟩
theorem T_addNode_60 : KV T_addNode 60 N_move 1 3 63 := ⟨N_move_q, by decide, w_328, w_329, rfl, by decide +kernel, ⟨(RX1, TX1, 5), rfl, rfl⟩, 86, by decide +kernel, w_373⟩
theorem T_addNode_63 : Ka T_addNode 63 0 64 := Or.inr ⟨0, by decide +kernel, rfl, rfl⟩
theorem T_addNode_64 : Ki T_addNode 64 3 65 := Or.inr ⟨3, by decide +kernel, rfl, rfl⟩
theorem T_addNode_65 : KV T_addNode 65 T_lift 2 1 68 := ⟨T_lift_q, by decide, w_376, ws_9, rfl, by decide +kernel, ⟨(RX2, TX2, 10), rfl, rfl⟩, 90, by decide +kernel, w_374⟩
theorem T_addNode_68 : K1 T_addNode 68 .return_ 69 := ⟨by decide +kernel, rfl⟩
theorem T_lift_0 : Kc T_lift 0 1 1 := ⟨by decide, Or.inl ⟨by decide +kernel, rfl⟩⟩
theorem T_lift_1 : Ks T_lift 1 2 2 := ⟨by decide, Or.inr ⟨2, by decide +kernel, rfl, rfl⟩⟩
theorem T_lift_2 : Kc T_lift 2 0 3 := ⟨by decide, Or.inl ⟨by decide +kernel, rfl⟩⟩
theorem T_lift_3 : Ks T_lift 3 3 4 := ⟨by decide, Or.inr ⟨3, by decide +kernel, rfl, rfl⟩⟩
theorem T_lift_4 : Ki T_lift 4 2 5 := Or.inr ⟨2, by decide +kernel, rfl, rfl⟩
theorem T_lift_5 : Kj T_lift 5 (.ifCond .eq) 84 8 := ⟨79, by decide +kernel, by decide, rfl⟩
theorem T_lift_8 : Ki T_lift 8 3 9 := Or.inr ⟨3, by decide +kernel, rfl, rfl⟩
theorem T_lift_9 : Ka T_lift 9 0 10 := Or.inr ⟨0, by decide +kernel, rfl, rfl⟩
theorem T_lift_10 : Kg T_lift 10 2 0 true 13 := ⟨28, by decide +kernel, rfl, fw_T_28⟩
theorem T_lift_13 : Kg T_lift 13 1 0 false 16 := ⟨32, by decide +kernel, rfl, fw_T_32⟩
theorem T_lift_16 : Kj T_lift 16 (.if_icmp .gt) 84 19 := ⟨68, by decide +kernel, by decide, rfl⟩
theorem T_lift_19 : Kc T_lift 19 0 20 := ⟨by decide, Or.inl ⟨by decide +kernel, rfl⟩⟩
theorem T_lift_20 : Ks T_lift 20 2 21 := ⟨by decide, Or.inr ⟨2, by decide +kernel, rfl, rfl⟩⟩
theorem T_lift_21 : Ka T_lift 21 0 22 := Or.inr ⟨0, by decide +kernel, rfl, rfl⟩
theorem T_lift_22 : Kg T_lift 22 2 2 true 25 := ⟨9, by decide +kernel, rfl, fw_T_9⟩
theorem T_lift_25 : Ki T_lift 25 1 26 := Or.inr ⟨1, by decide +kernel, rfl, rfl⟩
theorem T_lift_26 : K1 T_lift 26 .iaload 27 := ⟨by decide +kernel, rfl⟩
theorem T_lift_27 : Ks T_lift 27 4 29 := ⟨by decide, Or.inl ⟨by decide +kernel, rfl⟩⟩
theorem T_lift_29 : Kc T_lift 29 0 30 := ⟨by decide, Or.inl ⟨by decide +kernel, rfl⟩⟩
theorem T_lift_30 : Ks T_lift 30 5 32 := ⟨by decide, Or.inl ⟨by decide +kernel, rfl⟩⟩
theorem T_lift_32 : Ki T_lift 32 5 34 := Or.inl ⟨by decide +kernel, rfl⟩
theorem T_lift_34 : Ka T_lift 34 0 35 := Or.inr ⟨0, by decide +kernel, rfl, rfl⟩
theorem T_lift_35 : Kg T_lift 35 2 4 true 38 := ⟨18, by decide +kernel, rfl, fw_T_18⟩
theorem T_lift_38 : Ki T_lift 38 1 39 := Or.inr ⟨1, by decide +kernel, rfl, rfl⟩
theorem T_lift_39 : K1 T_lift 39 .iaload 40 := ⟨by decide +kernel, rfl⟩
theorem T_lift_40 : Kj T_lift 40 (.if_icmp .ge) 78 43 := ⟨38, by decide +kernel, by decide, rfl⟩
theorem T_lift_43 : Ki T_lift 43 2 44 := Or.inr ⟨2, by decide +kernel, rfl, rfl⟩
theorem T_lift_44 : Ka T_lift 44 0 45 := Or.inr ⟨0, by decide +kernel, rfl, rfl⟩
theorem T_lift_45 : Ka T_lift 45 0 46 := Or.inr ⟨0, by decide +kernel, rfl, rfl⟩
theorem T_lift_46 : Kg T_lift 46 2 1 true 49 := ⟨40, by decide +kernel, rfl, fw_T_40⟩
theorem T_lift_49 : Ki T_lift 49 4 51 := Or.inl ⟨by decide +kernel, rfl⟩
theorem T_lift_51 : K1 T_lift 51 .aaload 52 := ⟨by decide +kernel, rfl⟩
theorem T_lift_52 : Ka T_lift 52 0 53 := Or.inr ⟨0, by decide +kernel, rfl, rfl⟩
theorem T_lift_53 : Kg T_lift 53 2 1 true 56 := ⟨40, by decide +kernel, rfl, fw_T_40⟩
theorem T_lift_56 : Ki T_lift 56 1 57 := Or.inr ⟨1, by decide +kernel, rfl, rfl⟩
theorem T_lift_57 : K1 T_lift 57 .aaload 58 := ⟨by decide +kernel, rfl⟩
theorem T_lift_58 : KV T_lift 58 T_liftOver 2 2 61 := ⟨T_liftOver_q, by decide, w_380, ws_10, rfl, by decide +kernel, ⟨(RX2, TX2, 10), rfl, rfl⟩, 94, by decide +kernel, w_378⟩
theorem T_lift_61 : K1 T_lift 61 .ior 62 := ⟨by decide +kernel, rfl⟩
theorem T_lift_62 : Ks T_lift 62 2 63 := ⟨by decide, Or.inr ⟨2, by decide +kernel, rfl, rfl⟩⟩
theorem T_lift_63 : Ka T_lift 63 0 64 := Or.inr ⟨0, by decide +kernel, rfl, rfl⟩
theorem T_lift_64 : Kg T_lift 64 2 2 true 67 := ⟨9, by decide +kernel, rfl, fw_T_9⟩
theorem T_lift_67 : Ki T_lift 67 4 69 := Or.inl ⟨by decide +kernel, rfl⟩
theorem T_lift_69 : K1 T_lift 69 .iaload 70 := ⟨by decide +kernel, rfl⟩
theorem T_lift_70 : Ks T_lift 70 4 72 := ⟨by decide, Or.inl ⟨by decide +kernel, rfl⟩⟩
theorem T_lift_72 : Kn T_lift 72 5 1 75 := ⟨by decide, by decide +kernel, rfl⟩
theorem T_lift_75 : Kj T_lift 75 .goto 32 78 := ⟨(-43), by decide +kernel, by decide, rfl⟩
theorem T_lift_78 : Kn T_lift 78 3 1 81 := ⟨by decide, by decide +kernel, rfl⟩
theorem T_lift_81 : Kj T_lift 81 .goto 4 84 := ⟨(-77), by decide +kernel, by decide, rfl⟩
theorem T_lift_84 : K1 T_lift 84 .return_ 85 := ⟨by decide +kernel, rfl⟩
theorem T_liftOver_0 : Ka T_liftOver 0 1 1 := Or.inr ⟨1, by decide +kernel, rfl, rfl⟩
theorem T_liftOver_1 : Ka T_liftOver 1 2 2 := Or.inr ⟨2, by decide +kernel, rfl, rfl⟩
theorem T_liftOver_2 : KS T_liftOver 2 O_isBelow 2 5 := ⟨O_isBelow_q, by decide, w_325, rfl, by decide +kernel, 97, by decide +kernel, Or.inr ⟨_, w_382⟩⟩
theorem T_liftOver_5 : Kj T_liftOver 5 (.ifCond .ne) 10 8 := ⟨5, by decide +kernel, by decide, rfl⟩
theorem T_liftOver_8 : Kc T_liftOver 8 0 9 := ⟨by decide, Or.inl ⟨by decide +kernel, rfl⟩⟩
theorem T_liftOver_9 : K1 T_liftOver 9 .ireturn 10 := ⟨by decide +kernel, rfl⟩
theorem T_liftOver_10 : Kc T_liftOver 10 0 11 := ⟨by decide, Or.inl ⟨by decide +kernel, rfl⟩⟩
theorem T_liftOver_11 : Ks T_liftOver 11 3 12 := ⟨by decide, Or.inr ⟨3, by decide +kernel, rfl, rfl⟩⟩
theorem T_liftOver_12 : Kc T_liftOver 12 0 13 := ⟨by decide, Or.inl ⟨by decide +kernel, rfl⟩⟩
theorem T_liftOver_13 : Ks T_liftOver 13 4 15 := ⟨by decide, Or.inl ⟨by decide +kernel, rfl⟩⟩
theorem T_liftOver_15 : Ki T_liftOver 15 4 17 := Or.inl ⟨by decide +kernel, rfl⟩
theorem T_liftOver_17 : Ka T_liftOver 17 0 18 := Or.inr ⟨0, by decide +kernel, rfl, rfl⟩
theorem T_liftOver_18 : Kg T_liftOver 18 2 0 true 21 := ⟨28, by decide +kernel, rfl, fw_T_28⟩
theorem T_liftOver_21 : Kg T_liftOver 21 1 0 false 24 := ⟨32, by decide +kernel, rfl, fw_T_32⟩
theorem T_liftOver_24 : Kj T_liftOver 24 (.if_icmp .ge) 61 27 := ⟨37, by decide +kernel, by decide, rfl⟩
theorem T_liftOver_27 : Ka T_liftOver 27 2 28 := Or.inr ⟨2, by decide +kernel, rfl, rfl⟩
theorem T_liftOver_28 : Ki T_liftOver 28 4 30 := Or.inl ⟨by decide +kernel, rfl⟩
theorem T_liftOver_30 : K1 T_liftOver 30 .iaload 31 := ⟨by decide +kernel, rfl⟩
theorem T_liftOver_31 : Kc T_liftOver 31 1000000000 33 := ⟨by decide, Or.inr (Or.inr (Or.inr ⟨100, by decide +kernel, rfl, w_383, rfl⟩))⟩
theorem T_liftOver_33 : Kj T_liftOver 33 (.if_icmp .eq) 55 36 := ⟨22, by decide +kernel, by decide, rfl⟩
theorem T_liftOver_36 : Ka T_liftOver 36 1 37 := Or.inr ⟨1, by decide +kernel, rfl, rfl⟩
theorem T_liftOver_37 : Ki T_liftOver 37 4 39 := Or.inl ⟨by decide +kernel, rfl⟩
theorem T_liftOver_39 : K1 T_liftOver 39 .iaload 40 := ⟨by decide +kernel, rfl⟩
theorem T_liftOver_40 : Ka T_liftOver 40 2 41 := Or.inr ⟨2, by decide +kernel, rfl, rfl⟩
theorem T_liftOver_41 : Ki T_liftOver 41 4 43 := Or.inl ⟨by decide +kernel, rfl⟩
theorem T_liftOver_43 : K1 T_liftOver 43 .iaload 44 := ⟨by decide +kernel, rfl⟩
theorem T_liftOver_44 : Kj T_liftOver 44 (.if_icmp .ge) 55 47 := ⟨11, by decide +kernel, by decide, rfl⟩
theorem T_liftOver_47 : Ka T_liftOver 47 2 48 := Or.inr ⟨2, by decide +kernel, rfl, rfl⟩
theorem T_liftOver_48 : Ki T_liftOver 48 4 50 := Or.inl ⟨by decide +kernel, rfl⟩
theorem T_liftOver_50 : Kc T_liftOver 50 1000000000 52 := ⟨by decide, Or.inr (Or.inr (Or.inr ⟨100, by decide +kernel, rfl, w_383, rfl⟩))⟩
theorem T_liftOver_52 : K1 T_liftOver 52 .iastore 53 := ⟨by decide +kernel, rfl⟩
theorem T_liftOver_53 : Kc T_liftOver 53 1 54 := ⟨by decide, Or.inl ⟨by decide +kernel, rfl⟩⟩
theorem T_liftOver_54 : Ks T_liftOver 54 3 55 := ⟨by decide, Or.inr ⟨3, by decide +kernel, rfl, rfl⟩⟩
theorem T_liftOver_55 : Kn T_liftOver 55 4 1 58 := ⟨by decide, by decide +kernel, rfl⟩
theorem T_liftOver_58 : Kj T_liftOver 58 .goto 15 61 := ⟨(-43), by decide +kernel, by decide, rfl⟩
theorem T_liftOver_61 : Ki T_liftOver 61 3 62 := Or.inr ⟨3, by decide +kernel, rfl, rfl⟩
theorem T_liftOver_62 : K1 T_liftOver 62 .ireturn 63 := ⟨by decide +kernel, rfl⟩
theorem T_findPeaks_0 : Ka T_findPeaks 0 0 1 := Or.inr ⟨0, by decide +kernel, rfl, rfl⟩
theorem T_findPeaks_1 : Kc T_findPeaks 1 0 2 := ⟨by decide, Or.inl ⟨by decide +kernel, rfl⟩⟩
theorem T_findPeaks_2 : Kp T_findPeaks 2 2 8 false .int false 5 := ⟨⟨101, by decide +kernel, rfl, fw_T_101⟩, ko_T_2_8, fun h => by cases h⟩
theorem T_findPeaks_5 : Kc T_findPeaks 5 0 6 := ⟨by decide, Or.inl ⟨by decide +kernel, rfl⟩⟩
theorem T_findPeaks_6 : Ks T_findPeaks 6 1 7 := ⟨by decide, Or.inr ⟨1, by decide +kernel, rfl, rfl⟩⟩
theorem T_findPeaks_7 : Ki T_findPeaks 7 1 8 := Or.inr ⟨1, by decide +kernel, rfl, rfl⟩
theorem T_findPeaks_8 : Ka T_findPeaks 8 0 9 := Or.inr ⟨0, by decide +kernel, rfl, rfl⟩
theorem T_findPeaks_9 : Kg T_findPeaks 9 2 7 false 12 := ⟨50, by decide +kernel, rfl, fw_T_50⟩
theorem T_findPeaks_12 : Kj T_findPeaks 12 (.if_icmp .ge) 49 15 := ⟨37, by decide +kernel, by decide, rfl⟩
theorem T_findPeaks_15 : Ka T_findPeaks 15 0 16 := Or.inr ⟨0, by decide +kernel, rfl, rfl⟩
theorem T_findPeaks_16 : Ki T_findPeaks 16 1 17 := Or.inr ⟨1, by decide +kernel, rfl, rfl⟩
theorem T_findPeaks_17 : KV T_findPeaks 17 T_isPeak 2 1 20 := ⟨T_isPeak_q, by decide, w_390, ws_12, rfl, by decide +kernel, ⟨(RX2, TX2, 10), rfl, rfl⟩, 104, by decide +kernel, w_388⟩
theorem T_findPeaks_20 : Kj T_findPeaks 20 (.ifCond .eq) 43 23 := ⟨23, by decide +kernel, by decide, rfl⟩
theorem T_findPeaks_23 : Ka T_findPeaks 23 0 24 := Or.inr ⟨0, by decide +kernel, rfl, rfl⟩
theorem T_findPeaks_24 : Kg T_findPeaks 24 2 6 true 27 := ⟨25, by decide +kernel, rfl, fw_T_25⟩
theorem T_findPeaks_27 : Ka T_findPeaks 27 0 28 := Or.inr ⟨0, by decide +kernel, rfl, rfl⟩
theorem T_findPeaks_28 : Kg T_findPeaks 28 2 8 false 31 := ⟨101, by decide +kernel, rfl, fw_T_101⟩
theorem T_findPeaks_31 : Ki T_findPeaks 31 1 32 := Or.inr ⟨1, by decide +kernel, rfl, rfl⟩
theorem T_findPeaks_32 : K1 T_findPeaks 32 .iastore 33 := ⟨by decide +kernel, rfl⟩
theorem T_findPeaks_33 : Ka T_findPeaks 33 0 34 := Or.inr ⟨0, by decide +kernel, rfl, rfl⟩
theorem T_findPeaks_34 : K1 T_findPeaks 34 .dup 35 := ⟨by decide +kernel, rfl⟩
theorem T_findPeaks_35 : Kg T_findPeaks 35 2 8 false 38 := ⟨101, by decide +kernel, rfl, fw_T_101⟩
theorem T_findPeaks_38 : Kc T_findPeaks 38 1 39 := ⟨by decide, Or.inl ⟨by decide +kernel, rfl⟩⟩
theorem T_findPeaks_39 : K1 T_findPeaks 39 .iadd 40 := ⟨by decide +kernel, rfl⟩
theorem T_findPeaks_40 : Kp T_findPeaks 40 2 8 false .int false 43 := ⟨⟨101, by decide +kernel, rfl, fw_T_101⟩, ko_T_2_8, fun h => by cases h⟩
theorem T_findPeaks_43 : Kn T_findPeaks 43 1 1 46 := ⟨by decide, by decide +kernel, rfl⟩
theorem T_findPeaks_46 : Kj T_findPeaks 46 .goto 7 49 := ⟨(-39), by decide +kernel, by decide, rfl⟩
theorem T_findPeaks_49 : K1 T_findPeaks 49 .return_ 50 := ⟨by decide +kernel, rfl⟩
theorem T_isPeak_0 : Kc T_isPeak 0 0 1 := ⟨by decide, Or.inl ⟨by decide +kernel, rfl⟩⟩
theorem T_isPeak_1 : Ks T_isPeak 1 2 2 := ⟨by decide, Or.inr ⟨2, by decide +kernel, rfl, rfl⟩⟩
theorem T_isPeak_2 : Ki T_isPeak 2 2 3 := Or.inr ⟨2, by decide +kernel, rfl, rfl⟩
theorem T_isPeak_3 : Ka T_isPeak 3 0 4 := Or.inr ⟨0, by decide +kernel, rfl, rfl⟩
theorem T_isPeak_4 : Kg T_isPeak 4 2 7 false 7 := ⟨50, by decide +kernel, rfl, fw_T_50⟩
theorem T_isPeak_7 : Kj T_isPeak 7 (.if_icmp .ge) 74 10 := ⟨67, by decide +kernel, by decide, rfl⟩
theorem T_isPeak_10 : Ki T_isPeak 10 2 11 := Or.inr ⟨2, by decide +kernel, rfl, rfl⟩
theorem T_isPeak_11 : Ki T_isPeak 11 1 12 := Or.inr ⟨1, by decide +kernel, rfl, rfl⟩
theorem T_isPeak_12 : Kj T_isPeak 12 (.if_icmp .eq) 68 15 := ⟨56, by decide +kernel, by decide, rfl⟩
theorem T_isPeak_15 : Ka T_isPeak 15 0 16 := Or.inr ⟨0, by decide +kernel, rfl, rfl⟩
theorem T_isPeak_16 : Kg T_isPeak 16 2 1 true 19 := ⟨40, by decide +kernel, rfl, fw_T_40⟩
theorem T_isPeak_19 : Ki T_isPeak 19 1 20 := Or.inr ⟨1, by decide +kernel, rfl, rfl⟩
theorem T_isPeak_20 : K1 T_isPeak 20 .aaload 21 := ⟨by decide +kernel, rfl⟩
theorem T_isPeak_21 : Ka T_isPeak 21 0 22 := Or.inr ⟨0, by decide +kernel, rfl, rfl⟩
theorem T_isPeak_22 : Kg T_isPeak 22 2 1 true 25 := ⟨40, by decide +kernel, rfl, fw_T_40⟩
theorem T_isPeak_25 : Ki T_isPeak 25 2 26 := Or.inr ⟨2, by decide +kernel, rfl, rfl⟩
theorem T_isPeak_26 : K1 T_isPeak 26 .aaload 27 := ⟨by decide +kernel, rfl⟩
theorem T_isPeak_27 : KS T_isPeak 27 O_isBelow 2 30 := ⟨O_isBelow_q, by decide, w_325, rfl, by decide +kernel, 97, by decide +kernel, Or.inr ⟨_, w_382⟩⟩
theorem T_isPeak_30 : Kj T_isPeak 30 (.ifCond .eq) 68 33 := ⟨38, by decide +kernel, by decide, rfl⟩
theorem T_isPeak_33 : Ki T_isPeak 33 2 34 := Or.inr ⟨2, by decide +kernel, rfl, rfl⟩
theorem T_isPeak_34 : Ki T_isPeak 34 1 35 := Or.inr ⟨1, by decide +kernel, rfl, rfl⟩
theorem T_isPeak_35 : Kj T_isPeak 35 (.if_icmp .le) 60 38 := ⟨25, by decide +kernel, by decide, rfl⟩
theorem T_isPeak_38 : Ka T_isPeak 38 0 39 := Or.inr ⟨0, by decide +kernel, rfl, rfl⟩
theorem T_isPeak_39 : Kg T_isPeak 39 2 1 true 42 := ⟨40, by decide +kernel, rfl, fw_T_40⟩
theorem T_isPeak_42 : Ki T_isPeak 42 2 43 := Or.inr ⟨2, by decide +kernel, rfl, rfl⟩
theorem T_isPeak_43 : K1 T_isPeak 43 .aaload 44 := ⟨by decide +kernel, rfl⟩
theorem T_isPeak_44 : Ka T_isPeak 44 0 45 := Or.inr ⟨0, by decide +kernel, rfl, rfl⟩
theorem T_isPeak_45 : Kg T_isPeak 45 2 1 true 48 := ⟨40, by decide +kernel, rfl, fw_T_40⟩
theorem T_isPeak_48 : Ki T_isPeak 48 1 49 := Or.inr ⟨1, by decide +kernel, rfl, rfl⟩
theorem T_isPeak_49 : K1 T_isPeak 49 .aaload 50 := ⟨by decide +kernel, rfl⟩
theorem T_isPeak_50 : KS T_isPeak 50 O_isBelow 2 53 := ⟨O_isBelow_q, by decide, w_325, rfl, by decide +kernel, 97, by decide +kernel, Or.inr ⟨_, w_382⟩⟩
theorem T_isPeak_53 : Kj T_isPeak 53 (.ifCond .eq) 60 56 := ⟨7, by decide +kernel, by decide, rfl⟩
theorem T_isPeak_56 : Kc T_isPeak 56 1 57 := ⟨by decide, Or.inl ⟨by decide +kernel, rfl⟩⟩
theorem T_isPeak_57 : Kj T_isPeak 57 .goto 61 60 := ⟨4, by decide +kernel, by decide, rfl⟩
theorem T_isPeak_60 : Kc T_isPeak 60 0 61 := ⟨by decide, Or.inl ⟨by decide +kernel, rfl⟩⟩
theorem T_isPeak_61 : Ks T_isPeak 61 3 62 := ⟨by decide, Or.inr ⟨3, by decide +kernel, rfl, rfl⟩⟩
theorem T_isPeak_62 : Ki T_isPeak 62 3 63 := Or.inr ⟨3, by decide +kernel, rfl, rfl⟩
theorem T_isPeak_63 : Kj T_isPeak 63 (.ifCond .ne) 68 66 := ⟨5, by decide +kernel, by decide, rfl⟩
theorem T_isPeak_66 : Kc T_isPeak 66 0 67 := ⟨by decide, Or.inl ⟨by decide +kernel, rfl⟩⟩
theorem T_isPeak_67 : K1 T_isPeak 67 .ireturn 68 := ⟨by decide +kernel, rfl⟩
theorem T_isPeak_68 : Kn T_isPeak 68 2 1 71 := ⟨by decide, by decide +kernel, rfl⟩
theorem T_isPeak_71 : Kj T_isPeak 71 .goto 2 74 := ⟨(-69), by decide +kernel, by decide, rfl⟩
theorem T_isPeak_74 : Kc T_isPeak 74 1 75 := ⟨by decide, Or.inl ⟨by decide +kernel, rfl⟩⟩
theorem T_isPeak_75 : K1 T_isPeak 75 .ireturn 76 := ⟨by decide +kernel, rfl⟩
theorem O_count_0 : Ka O_count 0 0 1 := Or.inr ⟨0, by decide +kernel, rfl, rfl⟩
theorem O_count_1 : KV O_count 1 O_checkTree 3 0 4 := ⟨O_checkTree_q, by decide, w_417, ws_13, rfl, by decide +kernel, ⟨(RX3, TX3, 6), rfl, rfl⟩, 104, by decide +kernel, w_415⟩
theorem O_count_4 : Ka O_count 4 0 5 := Or.inr ⟨0, by decide +kernel, rfl, rfl⟩
theorem O_count_5 : Ki O_count 5 1 6 := Or.inr ⟨1, by decide +kernel, rfl, rfl⟩
theorem O_count_6 : KV O_count 6 O_checkNode 3 1 9 := ⟨O_checkNode_q, by decide, w_422, ws_14, rfl, by decide +kernel, ⟨(RX3, TX3, 6), rfl, rfl⟩, 107, by decide +kernel, w_420⟩
theorem O_count_9 : Ka O_count 9 0 10 := Or.inr ⟨0, by decide +kernel, rfl, rfl⟩
theorem O_count_10 : Ki O_count 10 2 11 := Or.inr ⟨2, by decide +kernel, rfl, rfl⟩
theorem O_count_11 : KV O_count 11 O_checkPlace 3 1 14 := ⟨O_checkPlace_q, by decide, w_274, ws_3, rfl, by decide +kernel, ⟨(RX3, TX3, 6), rfl, rfl⟩, 56, by decide +kernel, w_272⟩
theorem O_count_14 : Ka O_count 14 0 15 := Or.inr ⟨0, by decide +kernel, rfl, rfl⟩
theorem O_count_15 : Kg O_count 15 3 1 true 18 := ⟨27, by decide +kernel, rfl, fw_O_27⟩
theorem O_count_18 : Kg O_count 18 2 1 true 21 := ⟨110, by decide +kernel, rfl, fw_O_110⟩
theorem O_count_21 : Ki O_count 21 1 22 := Or.inr ⟨1, by decide +kernel, rfl, rfl⟩
theorem O_count_22 : K1 O_count 22 .aaload 23 := ⟨by decide +kernel, rfl⟩
theorem O_count_23 : Ki O_count 23 2 24 := Or.inr ⟨2, by decide +kernel, rfl, rfl⟩
theorem O_count_24 : K1 O_count 24 .iaload 25 := ⟨by decide +kernel, rfl⟩
theorem O_count_25 : KS O_count 25 O_shown 1 28 := ⟨O_shown_q, by decide, w_425, rfl, by decide +kernel, 113, by decide +kernel, Or.inl w_424⟩
theorem O_count_28 : K1 O_count 28 .ireturn 29 := ⟨by decide +kernel, rfl⟩
theorem O_checkTree_0 : Ka O_checkTree 0 0 1 := Or.inr ⟨0, by decide +kernel, rfl, rfl⟩
theorem O_checkTree_1 : Kg O_checkTree 1 3 1 true 4 := ⟨27, by decide +kernel, rfl, fw_O_27⟩
theorem O_checkTree_4 : Kg O_checkTree 4 2 9 false 7 := ⟨93, by decide +kernel, rfl, fw_O_93⟩
theorem O_checkTree_7 : Kj O_checkTree 7 (.ifCond .ne) 20 10 := ⟨13, by decide +kernel, by decide, rfl⟩
theorem O_checkTree_10 : KT O_checkTree 10 "java/lang/IllegalStateException" := ⟨94, 208, 98, "there is no tree", by decide +kernel, by decide +kernel, by decide +kernel, by decide +kernel, by decide +kernel, rfl, rfl, by decide +kernel, w_392, w_13, by decide +kernel, xt_98_94⟩
theorem O_checkTree_20 : K1 O_checkTree 20 .return_ 21 := ⟨by decide +kernel, rfl⟩
theorem O_checkNode_0 : Ki O_checkNode 0 1 1 := Or.inr ⟨1, by decide +kernel, rfl, rfl⟩
theorem O_checkNode_1 : Ka O_checkNode 1 0 2 := Or.inr ⟨0, by decide +kernel, rfl, rfl⟩
theorem O_checkNode_2 : Kg O_checkNode 2 3 1 true 5 := ⟨27, by decide +kernel, rfl, fw_O_27⟩
theorem O_checkNode_5 : Kg O_checkNode 5 2 7 false 8 := ⟨101, by decide +kernel, rfl, fw_O_101⟩
theorem O_checkNode_8 : KS O_checkNode 8 O_checkIndex 2 11 := ⟨O_checkIndex_q, by decide, w_201, rfl, by decide +kernel, 135, by decide +kernel, Or.inl w_200⟩
theorem O_checkNode_11 : K1 O_checkNode 11 .return_ 12 := ⟨by decide +kernel, rfl⟩
theorem O_shown_0 : Ki O_shown 0 0 1 := Or.inr ⟨0, by decide +kernel, rfl, rfl⟩
theorem O_shown_1 : Kc O_shown 1 1000000000 3 := ⟨by decide, Or.inr (Or.inr (Or.inr ⟨224, by decide +kernel, rfl, w_427, rfl⟩))⟩
theorem O_shown_3 : Kj O_shown 3 (.if_icmp .ne) 10 6 := ⟨7, by decide +kernel, by decide, rfl⟩
theorem O_shown_6 : Kc O_shown 6 (-1) 7 := ⟨by decide, Or.inl ⟨by decide +kernel, rfl⟩⟩
theorem O_shown_7 : Kj O_shown 7 .goto 11 10 := ⟨4, by decide +kernel, by decide, rfl⟩
theorem O_shown_10 : Ki O_shown 10 0 11 := Or.inr ⟨0, by decide +kernel, rfl, rfl⟩
theorem O_shown_11 : K1 O_shown 11 .ireturn 12 := ⟨by decide +kernel, rfl⟩
theorem O_node_0 : Ka O_node 0 0 1 := Or.inr ⟨0, by decide +kernel, rfl, rfl⟩
theorem O_node_1 : KV O_node 1 O_checkTree 3 0 4 := ⟨O_checkTree_q, by decide, w_417, ws_13, rfl, by decide +kernel, ⟨(RX3, TX3, 6), rfl, rfl⟩, 104, by decide +kernel, w_415⟩
theorem O_node_4 : Ka O_node 4 0 5 := Or.inr ⟨0, by decide +kernel, rfl, rfl⟩
theorem O_node_5 : Ki O_node 5 1 6 := Or.inr ⟨1, by decide +kernel, rfl, rfl⟩
theorem O_node_6 : KV O_node 6 O_checkNode 3 1 9 := ⟨O_checkNode_q, by decide, w_422, ws_14, rfl, by decide +kernel, ⟨(RX3, TX3, 6), rfl, rfl⟩, 107, by decide +kernel, w_420⟩
theorem O_node_9 : Ki O_node 9 2 10 := Or.inr ⟨2, by decide +kernel, rfl, rfl⟩
theorem O_node_10 : Kz O_node 10 0 2 74 [36, 46, 56] := ⟨64, #[26, 36, 46], 26, by decide +kernel, by decide, by decide⟩
theorem O_node_36 : Ka O_node 36 0 37 := Or.inr ⟨0, by decide +kernel, rfl, rfl⟩
theorem O_node_37 : Kg O_node 37 3 1 true 40 := ⟨27, by decide +kernel, rfl, fw_O_27⟩
theorem O_node_40 : Kg O_node 40 2 2 true 43 := ⟨117, by decide +kernel, rfl, fw_O_117⟩
theorem O_node_43 : Ki O_node 43 1 44 := Or.inr ⟨1, by decide +kernel, rfl, rfl⟩
theorem O_node_44 : K1 O_node 44 .iaload 45 := ⟨by decide +kernel, rfl⟩
theorem O_node_45 : K1 O_node 45 .ireturn 46 := ⟨by decide +kernel, rfl⟩
theorem O_node_46 : Ka O_node 46 0 47 := Or.inr ⟨0, by decide +kernel, rfl, rfl⟩
theorem O_node_47 : Kg O_node 47 3 1 true 50 := ⟨27, by decide +kernel, rfl, fw_O_27⟩
theorem O_node_50 : Kg O_node 50 2 3 true 53 := ⟨120, by decide +kernel, rfl, fw_O_120⟩
theorem O_node_53 : Ki O_node 53 1 54 := Or.inr ⟨1, by decide +kernel, rfl, rfl⟩
theorem O_node_54 : K1 O_node 54 .iaload 55 := ⟨by decide +kernel, rfl⟩
theorem O_node_55 : K1 O_node 55 .ireturn 56 := ⟨by decide +kernel, rfl⟩
theorem O_node_56 : Ka O_node 56 0 57 := Or.inr ⟨0, by decide +kernel, rfl, rfl⟩
theorem O_node_57 : Kg O_node 57 3 1 true 60 := ⟨27, by decide +kernel, rfl, fw_O_27⟩
theorem O_node_60 : Kg O_node 60 2 5 true 63 := ⟨123, by decide +kernel, rfl, fw_O_123⟩
theorem O_node_63 : Ki O_node 63 1 64 := Or.inr ⟨1, by decide +kernel, rfl, rfl⟩
theorem O_node_64 : K1 O_node 64 .baload 65 := ⟨by decide +kernel, rfl⟩
theorem O_node_65 : Kj O_node 65 (.ifCond .eq) 72 68 := ⟨7, by decide +kernel, by decide, rfl⟩
theorem O_node_68 : Kc O_node 68 1 69 := ⟨by decide, Or.inl ⟨by decide +kernel, rfl⟩⟩
theorem O_node_69 : Kj O_node 69 .goto 73 72 := ⟨4, by decide +kernel, by decide, rfl⟩
theorem O_node_72 : Kc O_node 72 0 73 := ⟨by decide, Or.inl ⟨by decide +kernel, rfl⟩⟩
theorem O_node_73 : K1 O_node 73 .ireturn 74 := ⟨by decide +kernel, rfl⟩
theorem O_node_74 : KT O_node 74 "java/lang/IllegalArgumentException" := ⟨127, 129, 131, "a node is not asked for this", by decide +kernel, by decide +kernel, by decide +kernel, by decide +kernel, by decide +kernel, rfl, rfl, by decide +kernel, w_279, w_11, by decide +kernel, xt_131_127⟩
theorem O_path_0 : Ka O_path 0 0 1 := Or.inr ⟨0, by decide +kernel, rfl, rfl⟩
theorem O_path_1 : KV O_path 1 O_checkTree 3 0 4 := ⟨O_checkTree_q, by decide, w_417, ws_13, rfl, by decide +kernel, ⟨(RX3, TX3, 6), rfl, rfl⟩, 104, by decide +kernel, w_415⟩
theorem O_path_4 : Ka O_path 4 0 5 := Or.inr ⟨0, by decide +kernel, rfl, rfl⟩
theorem O_path_5 : Ki O_path 5 1 6 := Or.inr ⟨1, by decide +kernel, rfl, rfl⟩
theorem O_path_6 : KV O_path 6 O_checkNode 3 1 9 := ⟨O_checkNode_q, by decide, w_422, ws_14, rfl, by decide +kernel, ⟨(RX3, TX3, 6), rfl, rfl⟩, 107, by decide +kernel, w_420⟩
theorem O_path_9 : Ki O_path 9 2 10 := Or.inr ⟨2, by decide +kernel, rfl, rfl⟩
theorem O_path_10 : Ka O_path 10 0 11 := Or.inr ⟨0, by decide +kernel, rfl, rfl⟩
theorem O_path_11 : Kg O_path 11 3 1 true 14 := ⟨27, by decide +kernel, rfl, fw_O_27⟩
theorem O_path_14 : Kg O_path 14 2 4 true 17 := ⟨132, by decide +kernel, rfl, fw_O_132⟩
theorem O_path_17 : Ki O_path 17 1 18 := Or.inr ⟨1, by decide +kernel, rfl, rfl⟩
theorem O_path_18 : K1 O_path 18 .iaload 19 := ⟨by decide +kernel, rfl⟩
theorem O_path_19 : KS O_path 19 O_checkIndex 2 22 := ⟨O_checkIndex_q, by decide, w_201, rfl, by decide +kernel, 135, by decide +kernel, Or.inl w_200⟩
theorem O_path_22 : Ka O_path 22 0 23 := Or.inr ⟨0, by decide +kernel, rfl, rfl⟩
theorem O_path_23 : Kg O_path 23 3 1 true 26 := ⟨27, by decide +kernel, rfl, fw_O_27⟩
theorem O_path_26 : Ki O_path 26 1 27 := Or.inr ⟨1, by decide +kernel, rfl, rfl⟩
theorem O_path_27 : Ki O_path 27 2 28 := Or.inr ⟨2, by decide +kernel, rfl, rfl⟩
theorem O_path_28 : KV O_path 28 T_stepTo 2 2 31 := ⟨T_stepTo_q, by decide, w_444, w_445, rfl, by decide +kernel, ⟨(RX2, TX2, 10), rfl, rfl⟩, 138, by decide +kernel, w_443⟩
theorem O_path_31 : K1 O_path 31 .ireturn 32 := ⟨by decide +kernel, rfl⟩
theorem T_stepTo_0 : Ki T_stepTo 0 1 1 := Or.inr ⟨1, by decide +kernel, rfl, rfl⟩
theorem T_stepTo_1 : Ks T_stepTo 1 3 2 := ⟨by decide, Or.inr ⟨3, by decide +kernel, rfl, rfl⟩⟩
theorem T_stepTo_2 : Ka T_stepTo 2 0 3 := Or.inr ⟨0, by decide +kernel, rfl, rfl⟩
theorem T_stepTo_3 : Kg T_stepTo 3 2 4 true 6 := ⟨18, by decide +kernel, rfl, fw_T_18⟩
theorem T_stepTo_6 : Ki T_stepTo 6 1 7 := Or.inr ⟨1, by decide +kernel, rfl, rfl⟩
theorem T_stepTo_7 : K1 T_stepTo 7 .iaload 8 := ⟨by decide +kernel, rfl⟩
theorem T_stepTo_8 : Ks T_stepTo 8 4 10 := ⟨by decide, Or.inl ⟨by decide +kernel, rfl⟩⟩
theorem T_stepTo_10 : Ki T_stepTo 10 4 12 := Or.inl ⟨by decide +kernel, rfl⟩
theorem T_stepTo_12 : Ki T_stepTo 12 2 13 := Or.inr ⟨2, by decide +kernel, rfl, rfl⟩
theorem T_stepTo_13 : Kc T_stepTo 13 1 14 := ⟨by decide, Or.inl ⟨by decide +kernel, rfl⟩⟩
theorem T_stepTo_14 : K1 T_stepTo 14 .iadd 15 := ⟨by decide +kernel, rfl⟩
theorem T_stepTo_15 : Kj T_stepTo 15 (.if_icmp .le) 31 18 := ⟨16, by decide +kernel, by decide, rfl⟩
theorem T_stepTo_18 : Ka T_stepTo 18 0 19 := Or.inr ⟨0, by decide +kernel, rfl, rfl⟩
theorem T_stepTo_19 : Kg T_stepTo 19 2 2 true 22 := ⟨9, by decide +kernel, rfl, fw_T_9⟩
theorem T_stepTo_22 : Ki T_stepTo 22 3 23 := Or.inr ⟨3, by decide +kernel, rfl, rfl⟩
theorem T_stepTo_23 : K1 T_stepTo 23 .iaload 24 := ⟨by decide +kernel, rfl⟩
theorem T_stepTo_24 : Ks T_stepTo 24 3 25 := ⟨by decide, Or.inr ⟨3, by decide +kernel, rfl, rfl⟩⟩
theorem T_stepTo_25 : Kn T_stepTo 25 4 (-1) 28 := ⟨by decide, by decide +kernel, rfl⟩
theorem T_stepTo_28 : Kj T_stepTo 28 .goto 10 31 := ⟨(-18), by decide +kernel, by decide, rfl⟩
theorem T_stepTo_31 : Ka T_stepTo 31 0 32 := Or.inr ⟨0, by decide +kernel, rfl, rfl⟩
theorem T_stepTo_32 : Kg T_stepTo 32 2 3 true 35 := ⟨15, by decide +kernel, rfl, fw_T_15⟩
theorem T_stepTo_35 : Ki T_stepTo 35 3 36 := Or.inr ⟨3, by decide +kernel, rfl, rfl⟩
theorem T_stepTo_36 : K1 T_stepTo 36 .iaload 37 := ⟨by decide +kernel, rfl⟩
theorem T_stepTo_37 : K1 T_stepTo 37 .ireturn 38 := ⟨by decide +kernel, rfl⟩
theorem O_bound_0 : Ka O_bound 0 0 1 := Or.inr ⟨0, by decide +kernel, rfl, rfl⟩
theorem O_bound_1 : KV O_bound 1 O_checkTree 3 0 4 := ⟨O_checkTree_q, by decide, w_417, ws_13, rfl, by decide +kernel, ⟨(RX3, TX3, 6), rfl, rfl⟩, 104, by decide +kernel, w_415⟩
theorem O_bound_4 : Ka O_bound 4 0 5 := Or.inr ⟨0, by decide +kernel, rfl, rfl⟩
theorem O_bound_5 : Ki O_bound 5 1 6 := Or.inr ⟨1, by decide +kernel, rfl, rfl⟩
theorem O_bound_6 : KV O_bound 6 O_checkPlace 3 1 9 := ⟨O_checkPlace_q, by decide, w_274, ws_3, rfl, by decide +kernel, ⟨(RX3, TX3, 6), rfl, rfl⟩, 56, by decide +kernel, w_272⟩
theorem O_bound_9 : Ka O_bound 9 0 10 := Or.inr ⟨0, by decide +kernel, rfl, rfl⟩
theorem O_bound_10 : Kg O_bound 10 3 1 true 13 := ⟨27, by decide +kernel, rfl, fw_O_27⟩
theorem O_bound_13 : Ki O_bound 13 1 14 := Or.inr ⟨1, by decide +kernel, rfl, rfl⟩
theorem O_bound_14 : KV O_bound 14 T_greatest 2 1 17 := ⟨T_greatest_q, by decide, w_455, w_456, rfl, by decide +kernel, ⟨(RX2, TX2, 10), rfl, rfl⟩, 142, by decide +kernel, w_454⟩
theorem O_bound_17 : KS O_bound 17 O_shown 1 20 := ⟨O_shown_q, by decide, w_425, rfl, by decide +kernel, 113, by decide +kernel, Or.inl w_424⟩
theorem O_bound_20 : K1 O_bound 20 .ireturn 21 := ⟨by decide +kernel, rfl⟩
theorem T_greatest_0 : Kc T_greatest 0 0 1 := ⟨by decide, Or.inl ⟨by decide +kernel, rfl⟩⟩
theorem T_greatest_1 : Ks T_greatest 1 2 2 := ⟨by decide, Or.inr ⟨2, by decide +kernel, rfl, rfl⟩⟩
theorem T_greatest_2 : Kc T_greatest 2 0 3 := ⟨by decide, Or.inl ⟨by decide +kernel, rfl⟩⟩
theorem T_greatest_3 : Ks T_greatest 3 3 4 := ⟨by decide, Or.inr ⟨3, by decide +kernel, rfl, rfl⟩⟩
theorem T_greatest_4 : Ki T_greatest 4 3 5 := Or.inr ⟨3, by decide +kernel, rfl, rfl⟩
theorem T_greatest_5 : Ka T_greatest 5 0 6 := Or.inr ⟨0, by decide +kernel, rfl, rfl⟩
theorem T_greatest_6 : Kg T_greatest 6 2 7 false 9 := ⟨50, by decide +kernel, rfl, fw_T_50⟩
theorem T_greatest_9 : Kj T_greatest 9 (.if_icmp .ge) 31 12 := ⟨22, by decide +kernel, by decide, rfl⟩
theorem T_greatest_12 : Ki T_greatest 12 2 13 := Or.inr ⟨2, by decide +kernel, rfl, rfl⟩
theorem T_greatest_13 : Ka T_greatest 13 0 14 := Or.inr ⟨0, by decide +kernel, rfl, rfl⟩
theorem T_greatest_14 : Kg T_greatest 14 2 1 true 17 := ⟨40, by decide +kernel, rfl, fw_T_40⟩
theorem T_greatest_17 : Ki T_greatest 17 3 18 := Or.inr ⟨3, by decide +kernel, rfl, rfl⟩
theorem T_greatest_18 : K1 T_greatest 18 .aaload 19 := ⟨by decide +kernel, rfl⟩
theorem T_greatest_19 : Ki T_greatest 19 1 20 := Or.inr ⟨1, by decide +kernel, rfl, rfl⟩
theorem T_greatest_20 : K1 T_greatest 20 .iaload 21 := ⟨by decide +kernel, rfl⟩
theorem T_greatest_21 : KX T_greatest 21 Lib.Math.max.name 24 := ⟨107, by decide +kernel, rfl, w_458⟩
theorem T_greatest_24 : Ks T_greatest 24 2 25 := ⟨by decide, Or.inr ⟨2, by decide +kernel, rfl, rfl⟩⟩
theorem T_greatest_25 : Kn T_greatest 25 3 1 28 := ⟨by decide, by decide +kernel, rfl⟩
theorem T_greatest_28 : Kj T_greatest 28 .goto 4 31 := ⟨(-24), by decide +kernel, by decide, rfl⟩
theorem T_greatest_31 : Ki T_greatest 31 2 32 := Or.inr ⟨2, by decide +kernel, rfl, rfl⟩
theorem T_greatest_32 : K1 T_greatest 32 .ireturn 33 := ⟨by decide +kernel, rfl⟩
theorem O_tops_0 : Ka O_tops 0 0 1 := Or.inr ⟨0, by decide +kernel, rfl, rfl⟩
theorem O_tops_1 : KV O_tops 1 O_checkTree 3 0 4 := ⟨O_checkTree_q, by decide, w_417, ws_13, rfl, by decide +kernel, ⟨(RX3, TX3, 6), rfl, rfl⟩, 104, by decide +kernel, w_415⟩
theorem O_tops_4 : Ka O_tops 4 0 5 := Or.inr ⟨0, by decide +kernel, rfl, rfl⟩
theorem O_tops_5 : Kg O_tops 5 3 1 true 8 := ⟨27, by decide +kernel, rfl, fw_O_27⟩
theorem O_tops_8 : Kg O_tops 8 2 8 false 11 := ⟨145, by decide +kernel, rfl, fw_O_145⟩
theorem O_tops_11 : K1 O_tops 11 .ireturn 12 := ⟨by decide +kernel, rfl⟩
theorem O_top_0 : Ka O_top 0 0 1 := Or.inr ⟨0, by decide +kernel, rfl, rfl⟩
theorem O_top_1 : KV O_top 1 O_checkTree 3 0 4 := ⟨O_checkTree_q, by decide, w_417, ws_13, rfl, by decide +kernel, ⟨(RX3, TX3, 6), rfl, rfl⟩, 104, by decide +kernel, w_415⟩
theorem O_top_4 : Ki O_top 4 1 5 := Or.inr ⟨1, by decide +kernel, rfl, rfl⟩
theorem O_top_5 : Ka O_top 5 0 6 := Or.inr ⟨0, by decide +kernel, rfl, rfl⟩
theorem O_top_6 : Kg O_top 6 3 1 true 9 := ⟨27, by decide +kernel, rfl, fw_O_27⟩
theorem O_top_9 : Kg O_top 9 2 8 false 12 := ⟨145, by decide +kernel, rfl, fw_O_145⟩
theorem O_top_12 : KS O_top 12 O_checkIndex 2 15 := ⟨O_checkIndex_q, by decide, w_201, rfl, by decide +kernel, 135, by decide +kernel, Or.inl w_200⟩
theorem O_top_15 : Ka O_top 15 0 16 := Or.inr ⟨0, by decide +kernel, rfl, rfl⟩
theorem O_top_16 : Kg O_top 16 3 1 true 19 := ⟨27, by decide +kernel, rfl, fw_O_27⟩
theorem O_top_19 : Kg O_top 19 2 6 true 22 := ⟨148, by decide +kernel, rfl, fw_O_148⟩
theorem O_top_22 : Ki O_top 22 1 23 := Or.inr ⟨1, by decide +kernel, rfl, rfl⟩
theorem O_top_23 : K1 O_top 23 .iaload 24 := ⟨by decide +kernel, rfl⟩
theorem O_top_24 : K1 O_top 24 .ireturn 25 := ⟨by decide +kernel, rfl⟩
theorem O_covered_0 : Ka O_covered 0 0 1 := Or.inr ⟨0, by decide +kernel, rfl, rfl⟩
theorem O_covered_1 : KV O_covered 1 O_checkTree 3 0 4 := ⟨O_checkTree_q, by decide, w_417, ws_13, rfl, by decide +kernel, ⟨(RX3, TX3, 6), rfl, rfl⟩, 104, by decide +kernel, w_415⟩
theorem O_covered_4 : Ka O_covered 4 0 5 := Or.inr ⟨0, by decide +kernel, rfl, rfl⟩
theorem O_covered_5 : Kg O_covered 5 3 1 true 8 := ⟨27, by decide +kernel, rfl, fw_O_27⟩
theorem O_covered_8 : Ka O_covered 8 0 9 := Or.inr ⟨0, by decide +kernel, rfl, rfl⟩
theorem O_covered_9 : Kg O_covered 9 3 3 true 12 := ⟨42, by decide +kernel, rfl, fw_O_42⟩
theorem O_covered_12 : KV O_covered 12 T_reachesAbove 2 1 15 := ⟨T_reachesAbove_q, by decide, w_481, w_482, rfl, by decide +kernel, ⟨(RX2, TX2, 10), rfl, rfl⟩, 151, by decide +kernel, w_480⟩
theorem O_covered_15 : K1 O_covered 15 .ireturn 16 := ⟨by decide +kernel, rfl⟩
theorem T_reachesAbove_0 : Kc T_reachesAbove 0 0 1 := ⟨by decide, Or.inl ⟨by decide +kernel, rfl⟩⟩
theorem T_reachesAbove_1 : Ks T_reachesAbove 1 2 2 := ⟨by decide, Or.inr ⟨2, by decide +kernel, rfl, rfl⟩⟩
theorem T_reachesAbove_2 : Ki T_reachesAbove 2 2 3 := Or.inr ⟨2, by decide +kernel, rfl, rfl⟩
theorem T_reachesAbove_3 : Ka T_reachesAbove 3 0 4 := Or.inr ⟨0, by decide +kernel, rfl, rfl⟩
theorem T_reachesAbove_4 : Kg T_reachesAbove 4 2 7 false 7 := ⟨50, by decide +kernel, rfl, fw_T_50⟩
theorem T_reachesAbove_7 : Kj T_reachesAbove 7 (.if_icmp .ge) 31 10 := ⟨24, by decide +kernel, by decide, rfl⟩
theorem T_reachesAbove_10 : Ka T_reachesAbove 10 1 11 := Or.inr ⟨1, by decide +kernel, rfl, rfl⟩
theorem T_reachesAbove_11 : Ka T_reachesAbove 11 0 12 := Or.inr ⟨0, by decide +kernel, rfl, rfl⟩
theorem T_reachesAbove_12 : Kg T_reachesAbove 12 2 1 true 15 := ⟨40, by decide +kernel, rfl, fw_T_40⟩
theorem T_reachesAbove_15 : Ki T_reachesAbove 15 2 16 := Or.inr ⟨2, by decide +kernel, rfl, rfl⟩
theorem T_reachesAbove_16 : K1 T_reachesAbove 16 .aaload 17 := ⟨by decide +kernel, rfl⟩
theorem T_reachesAbove_17 : KS T_reachesAbove 17 O_isBelow 2 20 := ⟨O_isBelow_q, by decide, w_325, rfl, by decide +kernel, 97, by decide +kernel, Or.inr ⟨_, w_382⟩⟩
theorem T_reachesAbove_20 : Kj T_reachesAbove 20 (.ifCond .eq) 25 23 := ⟨5, by decide +kernel, by decide, rfl⟩
theorem T_reachesAbove_23 : Kc T_reachesAbove 23 1 24 := ⟨by decide, Or.inl ⟨by decide +kernel, rfl⟩⟩
theorem T_reachesAbove_24 : K1 T_reachesAbove 24 .ireturn 25 := ⟨by decide +kernel, rfl⟩
theorem T_reachesAbove_25 : Kn T_reachesAbove 25 2 1 28 := ⟨by decide, by decide +kernel, rfl⟩
theorem T_reachesAbove_28 : Kj T_reachesAbove 28 .goto 2 31 := ⟨(-26), by decide +kernel, by decide, rfl⟩
theorem T_reachesAbove_31 : Kc T_reachesAbove 31 0 32 := ⟨by decide, Or.inl ⟨by decide +kernel, rfl⟩⟩
theorem T_reachesAbove_32 : K1 T_reachesAbove 32 .ireturn 33 := ⟨by decide +kernel, rfl⟩
theorem O_lives_0 : Ka O_lives 0 0 1 := Or.inr ⟨0, by decide +kernel, rfl, rfl⟩
theorem O_lives_1 : KV O_lives 1 O_checkTree 3 0 4 := ⟨O_checkTree_q, by decide, w_417, ws_13, rfl, by decide +kernel, ⟨(RX3, TX3, 6), rfl, rfl⟩, 104, by decide +kernel, w_415⟩
theorem O_lives_4 : Ka O_lives 4 0 5 := Or.inr ⟨0, by decide +kernel, rfl, rfl⟩
theorem O_lives_5 : Ki O_lives 5 1 6 := Or.inr ⟨1, by decide +kernel, rfl, rfl⟩
theorem O_lives_6 : KV O_lives 6 O_checkTransition 3 1 9 := ⟨O_checkTransition_q, by decide, w_198, ws_1, rfl, by decide +kernel, ⟨(RX3, TX3, 6), rfl, rfl⟩, 52, by decide +kernel, w_196⟩
theorem O_lives_9 : Ka O_lives 9 0 10 := Or.inr ⟨0, by decide +kernel, rfl, rfl⟩
theorem O_lives_10 : Kg O_lives 10 3 1 true 13 := ⟨27, by decide +kernel, rfl, fw_O_27⟩
theorem O_lives_13 : Ki O_lives 13 1 14 := Or.inr ⟨1, by decide +kernel, rfl, rfl⟩
theorem O_lives_14 : KV O_lives 14 T_everEnables 2 1 17 := ⟨T_everEnables_q, by decide, w_492, w_493, rfl, by decide +kernel, ⟨(RX2, TX2, 10), rfl, rfl⟩, 155, by decide +kernel, w_491⟩
theorem O_lives_17 : K1 O_lives 17 .ireturn 18 := ⟨by decide +kernel, rfl⟩
theorem T_everEnables_0 : Ka T_everEnables 0 0 1 := Or.inr ⟨0, by decide +kernel, rfl, rfl⟩
theorem T_everEnables_1 : Ka T_everEnables 1 0 2 := Or.inr ⟨0, by decide +kernel, rfl, rfl⟩
theorem T_everEnables_2 : Kg T_everEnables 2 2 0 true 5 := ⟨28, by decide +kernel, rfl, fw_T_28⟩
theorem T_everEnables_5 : Kg T_everEnables 5 1 2 true 8 := ⟨113, by decide +kernel, rfl, fw_T_113⟩
theorem T_everEnables_8 : Ki T_everEnables 8 1 9 := Or.inr ⟨1, by decide +kernel, rfl, rfl⟩
theorem T_everEnables_9 : K1 T_everEnables 9 .aaload 10 := ⟨by decide +kernel, rfl⟩
theorem T_everEnables_10 : KV T_everEnables 10 T_reachesAbove 2 1 13 := ⟨T_reachesAbove_q, by decide, w_481, w_482, rfl, by decide +kernel, ⟨(RX2, TX2, 10), rfl, rfl⟩, 116, by decide +kernel, w_495⟩
theorem T_everEnables_13 : K1 T_everEnables 13 .ireturn 14 := ⟨by decide +kernel, rfl⟩
theorem O_dead_0 : Ka O_dead 0 0 1 := Or.inr ⟨0, by decide +kernel, rfl, rfl⟩
theorem O_dead_1 : KV O_dead 1 O_checkTree 3 0 4 := ⟨O_checkTree_q, by decide, w_417, ws_13, rfl, by decide +kernel, ⟨(RX3, TX3, 6), rfl, rfl⟩, 104, by decide +kernel, w_415⟩
theorem O_dead_4 : Ka O_dead 4 0 5 := Or.inr ⟨0, by decide +kernel, rfl, rfl⟩
theorem O_dead_5 : Kg O_dead 5 3 1 true 8 := ⟨27, by decide +kernel, rfl, fw_O_27⟩
theorem O_dead_8 : KV O_dead 8 T_firstStuck 2 0 11 := ⟨T_firstStuck_q, by decide, w_504, w_505, rfl, by decide +kernel, ⟨(RX2, TX2, 10), rfl, rfl⟩, 159, by decide +kernel, w_503⟩
theorem O_dead_11 : K1 O_dead 11 .ireturn 12 := ⟨by decide +kernel, rfl⟩
theorem T_firstStuck_0 : Kc T_firstStuck 0 0 1 := ⟨by decide, Or.inl ⟨by decide +kernel, rfl⟩⟩
theorem T_firstStuck_1 : Ks T_firstStuck 1 1 2 := ⟨by decide, Or.inr ⟨1, by decide +kernel, rfl, rfl⟩⟩
theorem T_firstStuck_2 : Ki T_firstStuck 2 1 3 := Or.inr ⟨1, by decide +kernel, rfl, rfl⟩
theorem T_firstStuck_3 : Ka T_firstStuck 3 0 4 := Or.inr ⟨0, by decide +kernel, rfl, rfl⟩
theorem T_firstStuck_4 : Kg T_firstStuck 4 2 7 false 7 := ⟨50, by decide +kernel, rfl, fw_T_50⟩
theorem T_firstStuck_7 : Kj T_firstStuck 7 (.if_icmp .ge) 34 10 := ⟨27, by decide +kernel, by decide, rfl⟩
theorem T_firstStuck_10 : Ka T_firstStuck 10 0 11 := Or.inr ⟨0, by decide +kernel, rfl, rfl⟩
theorem T_firstStuck_11 : Kg T_firstStuck 11 2 0 true 14 := ⟨28, by decide +kernel, rfl, fw_T_28⟩
theorem T_firstStuck_14 : Ka T_firstStuck 14 0 15 := Or.inr ⟨0, by decide +kernel, rfl, rfl⟩
theorem T_firstStuck_15 : Kg T_firstStuck 15 2 1 true 18 := ⟨40, by decide +kernel, rfl, fw_T_40⟩
theorem T_firstStuck_18 : Ki T_firstStuck 18 1 19 := Or.inr ⟨1, by decide +kernel, rfl, rfl⟩
theorem T_firstStuck_19 : K1 T_firstStuck 19 .aaload 20 := ⟨by decide +kernel, rfl⟩
theorem T_firstStuck_20 : KV T_firstStuck 20 N_isStuck 1 1 23 := ⟨N_isStuck_q, by decide, w_508, w_509, rfl, by decide +kernel, ⟨(RX1, TX1, 5), rfl, rfl⟩, 120, by decide +kernel, w_507⟩
theorem T_firstStuck_23 : Kj T_firstStuck 23 (.ifCond .eq) 28 26 := ⟨5, by decide +kernel, by decide, rfl⟩
theorem T_firstStuck_26 : Ki T_firstStuck 26 1 27 := Or.inr ⟨1, by decide +kernel, rfl, rfl⟩
theorem T_firstStuck_27 : K1 T_firstStuck 27 .ireturn 28 := ⟨by decide +kernel, rfl⟩
theorem T_firstStuck_28 : Kn T_firstStuck 28 1 1 31 := ⟨by decide, by decide +kernel, rfl⟩
theorem T_firstStuck_31 : Kj T_firstStuck 31 .goto 2 34 := ⟨(-29), by decide +kernel, by decide, rfl⟩
theorem T_firstStuck_34 : Kc T_firstStuck 34 (-2) 36 := ⟨by decide, Or.inr (Or.inl ⟨by decide +kernel, rfl, by decide⟩)⟩
theorem T_firstStuck_36 : K1 T_firstStuck 36 .ireturn 37 := ⟨by decide +kernel, rfl⟩
theorem N_isStuck_0 : Kc N_isStuck 0 0 1 := ⟨by decide, Or.inl ⟨by decide +kernel, rfl⟩⟩
theorem N_isStuck_1 : Ks N_isStuck 1 2 2 := ⟨by decide, Or.inr ⟨2, by decide +kernel, rfl, rfl⟩⟩
theorem N_isStuck_2 : Ki N_isStuck 2 2 3 := Or.inr ⟨2, by decide +kernel, rfl, rfl⟩
theorem N_isStuck_3 : Ka N_isStuck 3 0 4 := Or.inr ⟨0, by decide +kernel, rfl, rfl⟩
theorem N_isStuck_4 : Kg N_isStuck 4 1 1 false 7 := ⟨15, by decide +kernel, rfl, fw_N_15⟩
theorem N_isStuck_7 : Kj N_isStuck 7 (.if_icmp .ge) 27 10 := ⟨20, by decide +kernel, by decide, rfl⟩
theorem N_isStuck_10 : Ka N_isStuck 10 0 11 := Or.inr ⟨0, by decide +kernel, rfl, rfl⟩
theorem N_isStuck_11 : Ka N_isStuck 11 1 12 := Or.inr ⟨1, by decide +kernel, rfl, rfl⟩
theorem N_isStuck_12 : Ki N_isStuck 12 2 13 := Or.inr ⟨2, by decide +kernel, rfl, rfl⟩
theorem N_isStuck_13 : KV N_isStuck 13 N_enables 1 2 16 := ⟨N_enables_q, by decide, w_321, w_322, rfl, by decide +kernel, ⟨(RX1, TX1, 5), rfl, rfl⟩, 34, by decide +kernel, w_511⟩
theorem N_isStuck_16 : Kj N_isStuck 16 (.ifCond .eq) 21 19 := ⟨5, by decide +kernel, by decide, rfl⟩
theorem N_isStuck_19 : Kc N_isStuck 19 0 20 := ⟨by decide, Or.inl ⟨by decide +kernel, rfl⟩⟩
theorem N_isStuck_20 : K1 N_isStuck 20 .ireturn 21 := ⟨by decide +kernel, rfl⟩
theorem N_isStuck_21 : Kn N_isStuck 21 2 1 24 := ⟨by decide, by decide +kernel, rfl⟩
theorem N_isStuck_24 : Kj N_isStuck 24 .goto 2 27 := ⟨(-22), by decide +kernel, by decide, rfl⟩
theorem N_isStuck_27 : Kc N_isStuck 27 1 28 := ⟨by decide, Or.inl ⟨by decide +kernel, rfl⟩⟩
theorem N_isStuck_28 : K1 N_isStuck 28 .ireturn 29 := ⟨by decide +kernel, rfl⟩
theorem O_back_0 : Ka O_back 0 0 1 := Or.inr ⟨0, by decide +kernel, rfl, rfl⟩
theorem O_back_1 : Kg O_back 1 3 2 true 4 := ⟨34, by decide +kernel, rfl, fw_O_34⟩
theorem O_back_4 : Ka O_back 4 0 5 := Or.inr ⟨0, by decide +kernel, rfl, rfl⟩
theorem O_back_5 : Kg O_back 5 3 3 true 8 := ⟨42, by decide +kernel, rfl, fw_O_42⟩
theorem O_back_8 : KV O_back 8 G_gather 0 1 11 := ⟨G_gather_q, by decide, w_520, w_521, rfl, by decide +kernel, ⟨(RX0, TX0, 9), rfl, rfl⟩, 163, by decide +kernel, w_519⟩
theorem O_back_11 : Ka O_back 11 0 12 := Or.inr ⟨0, by decide +kernel, rfl, rfl⟩
theorem O_back_12 : Kg O_back 12 3 2 true 15 := ⟨34, by decide +kernel, rfl, fw_O_34⟩
theorem O_back_15 : Kg O_back 15 0 8 false 18 := ⟨78, by decide +kernel, rfl, fw_O_78⟩
theorem O_back_18 : Kj O_back 18 (.ifCond .ne) 31 21 := ⟨13, by decide +kernel, by decide, rfl⟩
theorem O_back_21 : KT O_back 21 "java/lang/IllegalStateException" := ⟨94, 167, 98, "there would be too many goals", by decide +kernel, by decide +kernel, by decide +kernel, by decide +kernel, by decide +kernel, rfl, rfl, by decide +kernel, w_392, w_13, by decide +kernel, xt_98_94⟩
theorem O_back_31 : Ka O_back 31 0 32 := Or.inr ⟨0, by decide +kernel, rfl, rfl⟩
theorem O_back_32 : Kg O_back 32 3 2 true 35 := ⟨34, by decide +kernel, rfl, fw_O_34⟩
theorem O_back_35 : KV O_back 35 G_keptCount 0 0 38 := ⟨G_keptCount_q, by decide, w_548, w_549, rfl, by decide +kernel, ⟨(RX0, TX0, 9), rfl, rfl⟩, 169, by decide +kernel, w_547⟩
theorem O_back_38 : K1 O_back 38 .ireturn 39 := ⟨by decide +kernel, rfl⟩
theorem G_gather_0 : Ka G_gather 0 0 1 := Or.inr ⟨0, by decide +kernel, rfl, rfl⟩
theorem G_gather_1 : Kc G_gather 1 0 2 := ⟨by decide, Or.inl ⟨by decide +kernel, rfl⟩⟩
theorem G_gather_2 : Kp G_gather 2 0 8 false .boolean false 5 := ⟨⟨43, by decide +kernel, rfl, fw_G_43⟩, ko_G_0_8, fun h => by cases h⟩
theorem G_gather_5 : Ka G_gather 5 0 6 := Or.inr ⟨0, by decide +kernel, rfl, rfl⟩
theorem G_gather_6 : Ka G_gather 6 1 7 := Or.inr ⟨1, by decide +kernel, rfl, rfl⟩
theorem G_gather_7 : KV G_gather 7 G_plant 0 1 10 := ⟨G_plant_q, by decide, w_525, ws_15, rfl, by decide +kernel, ⟨(RX0, TX0, 9), rfl, rfl⟩, 47, by decide +kernel, w_523⟩
theorem G_gather_10 : Kc G_gather 10 1 11 := ⟨by decide, Or.inl ⟨by decide +kernel, rfl⟩⟩
theorem G_gather_11 : Ks G_gather 11 2 12 := ⟨by decide, Or.inr ⟨2, by decide +kernel, rfl, rfl⟩⟩
theorem G_gather_12 : Kc G_gather 12 0 13 := ⟨by decide, Or.inl ⟨by decide +kernel, rfl⟩⟩
theorem G_gather_13 : Ks G_gather 13 3 14 := ⟨by decide, Or.inr ⟨3, by decide +kernel, rfl, rfl⟩⟩
theorem G_gather_14 : Ki G_gather 14 2 15 := Or.inr ⟨2, by decide +kernel, rfl, rfl⟩
theorem G_gather_15 : Kj G_gather 15 (.ifCond .eq) 61 18 := ⟨46, by decide +kernel, by decide, rfl⟩
theorem G_gather_18 : Ki G_gather 18 3 19 := Or.inr ⟨3, by decide +kernel, rfl, rfl⟩
theorem G_gather_19 : Ka G_gather 19 0 20 := Or.inr ⟨0, by decide +kernel, rfl, rfl⟩
theorem G_gather_20 : Kg G_gather 20 0 7 false 23 := ⟨51, by decide +kernel, rfl, fw_G_51⟩
theorem G_gather_23 : Kj G_gather 23 (.if_icmp .ge) 61 26 := ⟨38, by decide +kernel, by decide, rfl⟩
theorem G_gather_26 : Ki G_gather 26 3 27 := Or.inr ⟨3, by decide +kernel, rfl, rfl⟩
theorem G_gather_27 : Kc G_gather 27 48 29 := ⟨by decide, Or.inr (Or.inl ⟨by decide +kernel, rfl, by decide⟩)⟩
theorem G_gather_29 : Kj G_gather 29 (.if_icmp .ge) 61 32 := ⟨32, by decide +kernel, by decide, rfl⟩
theorem G_gather_32 : Ka G_gather 32 0 33 := Or.inr ⟨0, by decide +kernel, rfl, rfl⟩
theorem G_gather_33 : Kg G_gather 33 0 5 true 36 := ⟨21, by decide +kernel, rfl, fw_G_21⟩
theorem G_gather_36 : Ki G_gather 36 3 37 := Or.inr ⟨3, by decide +kernel, rfl, rfl⟩
theorem G_gather_37 : K1 G_gather 37 .baload 38 := ⟨by decide +kernel, rfl⟩
theorem G_gather_38 : Kj G_gather 38 (.ifCond .ne) 49 41 := ⟨11, by decide +kernel, by decide, rfl⟩
theorem G_gather_41 : Ka G_gather 41 0 42 := Or.inr ⟨0, by decide +kernel, rfl, rfl⟩
theorem G_gather_42 : Ki G_gather 42 3 43 := Or.inr ⟨3, by decide +kernel, rfl, rfl⟩
theorem G_gather_43 : KV G_gather 43 G_goBack 0 1 46 := ⟨G_goBack_q, by decide, w_530, ws_16, rfl, by decide +kernel, ⟨(RX0, TX0, 9), rfl, rfl⟩, 54, by decide +kernel, w_528⟩
theorem G_gather_46 : Kj G_gather 46 (.ifCond .eq) 53 49 := ⟨7, by decide +kernel, by decide, rfl⟩
theorem G_gather_49 : Kc G_gather 49 1 50 := ⟨by decide, Or.inl ⟨by decide +kernel, rfl⟩⟩
theorem G_gather_50 : Kj G_gather 50 .goto 54 53 := ⟨4, by decide +kernel, by decide, rfl⟩
theorem G_gather_53 : Kc G_gather 53 0 54 := ⟨by decide, Or.inl ⟨by decide +kernel, rfl⟩⟩
theorem G_gather_54 : Ks G_gather 54 2 55 := ⟨by decide, Or.inr ⟨2, by decide +kernel, rfl, rfl⟩⟩
theorem G_gather_55 : Kn G_gather 55 3 1 58 := ⟨by decide, by decide +kernel, rfl⟩
theorem G_gather_58 : Kj G_gather 58 .goto 14 61 := ⟨(-44), by decide +kernel, by decide, rfl⟩
theorem G_gather_61 : Ka G_gather 61 0 62 := Or.inr ⟨0, by decide +kernel, rfl, rfl⟩
theorem G_gather_62 : Ki G_gather 62 2 63 := Or.inr ⟨2, by decide +kernel, rfl, rfl⟩
theorem G_gather_63 : Kp G_gather 63 0 8 false .boolean false 66 := ⟨⟨43, by decide +kernel, rfl, fw_G_43⟩, ko_G_0_8, fun h => by cases h⟩
theorem G_gather_66 : K1 G_gather 66 .return_ 67 := ⟨by decide +kernel, rfl⟩
theorem G_plant_0 : Ka G_plant 0 1 1 := Or.inr ⟨1, by decide +kernel, rfl, rfl⟩
theorem G_plant_1 : Kc G_plant 1 0 2 := ⟨by decide, Or.inl ⟨by decide +kernel, rfl⟩⟩
theorem G_plant_2 : Ka G_plant 2 0 3 := Or.inr ⟨0, by decide +kernel, rfl, rfl⟩
theorem G_plant_3 : Kg G_plant 3 0 1 true 6 := ⟨37, by decide +kernel, rfl, fw_G_37⟩
theorem G_plant_6 : Kc G_plant 6 0 7 := ⟨by decide, Or.inl ⟨by decide +kernel, rfl⟩⟩
theorem G_plant_7 : K1 G_plant 7 .aaload 8 := ⟨by decide +kernel, rfl⟩
theorem G_plant_8 : Kc G_plant 8 0 9 := ⟨by decide, Or.inl ⟨by decide +kernel, rfl⟩⟩
theorem G_plant_9 : Ka G_plant 9 0 10 := Or.inr ⟨0, by decide +kernel, rfl, rfl⟩
theorem G_plant_10 : Kg G_plant 10 0 0 true 13 := ⟨25, by decide +kernel, rfl, fw_G_25⟩
theorem G_plant_13 : Kg G_plant 13 1 0 false 16 := ⟨29, by decide +kernel, rfl, fw_G_29⟩
theorem G_plant_16 : KX G_plant 16 arraycopyName 19 := ⟨58, by decide +kernel, rfl, w_527⟩
theorem G_plant_19 : Ka G_plant 19 0 20 := Or.inr ⟨0, by decide +kernel, rfl, rfl⟩
theorem G_plant_20 : Kg G_plant 20 0 2 true 23 := ⟨9, by decide +kernel, rfl, fw_G_9⟩
theorem G_plant_23 : Kc G_plant 23 0 24 := ⟨by decide, Or.inl ⟨by decide +kernel, rfl⟩⟩
theorem G_plant_24 : Kc G_plant 24 (-2) 26 := ⟨by decide, Or.inr (Or.inl ⟨by decide +kernel, rfl, by decide⟩)⟩
theorem G_plant_26 : K1 G_plant 26 .iastore 27 := ⟨by decide +kernel, rfl⟩
theorem G_plant_27 : Ka G_plant 27 0 28 := Or.inr ⟨0, by decide +kernel, rfl, rfl⟩
theorem G_plant_28 : Kg G_plant 28 0 3 true 31 := ⟨15, by decide +kernel, rfl, fw_G_15⟩
theorem G_plant_31 : Kc G_plant 31 0 32 := ⟨by decide, Or.inl ⟨by decide +kernel, rfl⟩⟩
theorem G_plant_32 : Kc G_plant 32 (-2) 34 := ⟨by decide, Or.inr (Or.inl ⟨by decide +kernel, rfl, by decide⟩)⟩
theorem G_plant_34 : K1 G_plant 34 .iastore 35 := ⟨by decide +kernel, rfl⟩
theorem G_plant_35 : Ka G_plant 35 0 36 := Or.inr ⟨0, by decide +kernel, rfl, rfl⟩
theorem G_plant_36 : Kg G_plant 36 0 4 true 39 := ⟨18, by decide +kernel, rfl, fw_G_18⟩
theorem G_plant_39 : Kc G_plant 39 0 40 := ⟨by decide, Or.inl ⟨by decide +kernel, rfl⟩⟩
theorem G_plant_40 : Kc G_plant 40 0 41 := ⟨by decide, Or.inl ⟨by decide +kernel, rfl⟩⟩
theorem G_plant_41 : K1 G_plant 41 .iastore 42 := ⟨by decide +kernel, rfl⟩
theorem G_plant_42 : Ka G_plant 42 0 43 := Or.inr ⟨0, by decide +kernel, rfl, rfl⟩
theorem G_plant_43 : Kg G_plant 43 0 5 true 46 := ⟨21, by decide +kernel, rfl, fw_G_21⟩
theorem G_plant_46 : Kc G_plant 46 0 47 := ⟨by decide, Or.inl ⟨by decide +kernel, rfl⟩⟩
theorem G_plant_47 : Kc G_plant 47 0 48 := ⟨by decide, Or.inl ⟨by decide +kernel, rfl⟩⟩
theorem G_plant_48 : K1 G_plant 48 .bastore 49 := ⟨by decide +kernel, rfl⟩
theorem G_plant_49 : Ka G_plant 49 0 50 := Or.inr ⟨0, by decide +kernel, rfl, rfl⟩
theorem G_plant_50 : Kc G_plant 50 1 51 := ⟨by decide, Or.inl ⟨by decide +kernel, rfl⟩⟩
theorem G_plant_51 : Kp G_plant 51 0 7 false .int false 54 := ⟨⟨51, by decide +kernel, rfl, fw_G_51⟩, ko_G_0_7, fun h => by cases h⟩
theorem G_plant_54 : K1 G_plant 54 .return_ 55 := ⟨by decide +kernel, rfl⟩
theorem G_goBack_0 : Kc G_goBack 0 0 1 := ⟨by decide, Or.inl ⟨by decide +kernel, rfl⟩⟩
theorem G_goBack_1 : Ks G_goBack 1 2 2 := ⟨by decide, Or.inr ⟨2, by decide +kernel, rfl, rfl⟩⟩
theorem G_goBack_2 : Ki G_goBack 2 2 3 := Or.inr ⟨2, by decide +kernel, rfl, rfl⟩
theorem G_goBack_3 : Ka G_goBack 3 0 4 := Or.inr ⟨0, by decide +kernel, rfl, rfl⟩
theorem G_goBack_4 : Kg G_goBack 4 0 0 true 7 := ⟨25, by decide +kernel, rfl, fw_G_25⟩
theorem G_goBack_7 : Kg G_goBack 7 1 1 false 10 := ⟨64, by decide +kernel, rfl, fw_G_64⟩
theorem G_goBack_10 : Kj G_goBack 10 (.if_icmp .ge) 65 13 := ⟨55, by decide +kernel, by decide, rfl⟩
theorem G_goBack_13 : Ka G_goBack 13 0 14 := Or.inr ⟨0, by decide +kernel, rfl, rfl⟩
theorem G_goBack_14 : Kg G_goBack 14 0 0 true 17 := ⟨25, by decide +kernel, rfl, fw_G_25⟩
theorem G_goBack_17 : Ka G_goBack 17 0 18 := Or.inr ⟨0, by decide +kernel, rfl, rfl⟩
theorem G_goBack_18 : Kg G_goBack 18 0 1 true 21 := ⟨37, by decide +kernel, rfl, fw_G_37⟩
theorem G_goBack_21 : Ki G_goBack 21 1 22 := Or.inr ⟨1, by decide +kernel, rfl, rfl⟩
theorem G_goBack_22 : K1 G_goBack 22 .aaload 23 := ⟨by decide +kernel, rfl⟩
theorem G_goBack_23 : Ki G_goBack 23 2 24 := Or.inr ⟨2, by decide +kernel, rfl, rfl⟩
theorem G_goBack_24 : Ka G_goBack 24 0 25 := Or.inr ⟨0, by decide +kernel, rfl, rfl⟩
theorem G_goBack_25 : Kg G_goBack 25 0 6 true 28 := ⟨40, by decide +kernel, rfl, fw_G_40⟩
theorem G_goBack_28 : KV G_goBack 28 N_moveBack 1 3 31 := ⟨N_moveBack_q, by decide, w_533, w_534, rfl, by decide +kernel, ⟨(RX1, TX1, 5), rfl, rfl⟩, 66, by decide +kernel, w_532⟩
theorem G_goBack_31 : Ka G_goBack 31 0 32 := Or.inr ⟨0, by decide +kernel, rfl, rfl⟩
theorem G_goBack_32 : Ka G_goBack 32 0 33 := Or.inr ⟨0, by decide +kernel, rfl, rfl⟩
theorem G_goBack_33 : Kg G_goBack 33 0 6 true 36 := ⟨40, by decide +kernel, rfl, fw_G_40⟩
theorem G_goBack_36 : KV G_goBack 36 G_isKnown 0 1 39 := ⟨G_isKnown_q, by decide, w_539, ws_17, rfl, by decide +kernel, ⟨(RX0, TX0, 9), rfl, rfl⟩, 70, by decide +kernel, w_537⟩
theorem G_goBack_39 : Kj G_goBack 39 (.ifCond .ne) 59 42 := ⟨20, by decide +kernel, by decide, rfl⟩
theorem G_goBack_42 : Ka G_goBack 42 0 43 := Or.inr ⟨0, by decide +kernel, rfl, rfl⟩
theorem G_goBack_43 : Kg G_goBack 43 0 7 false 46 := ⟨51, by decide +kernel, rfl, fw_G_51⟩
theorem G_goBack_46 : Kc G_goBack 46 48 48 := ⟨by decide, Or.inr (Or.inl ⟨by decide +kernel, rfl, by decide⟩)⟩
theorem G_goBack_48 : Kj G_goBack 48 (.if_icmp .ne) 53 51 := ⟨5, by decide +kernel, by decide, rfl⟩
theorem G_goBack_51 : Kc G_goBack 51 0 52 := ⟨by decide, Or.inl ⟨by decide +kernel, rfl⟩⟩
theorem G_goBack_52 : K1 G_goBack 52 .ireturn 53 := ⟨by decide +kernel, rfl⟩
theorem G_goBack_53 : Ka G_goBack 53 0 54 := Or.inr ⟨0, by decide +kernel, rfl, rfl⟩
theorem G_goBack_54 : Ki G_goBack 54 1 55 := Or.inr ⟨1, by decide +kernel, rfl, rfl⟩
theorem G_goBack_55 : Ki G_goBack 55 2 56 := Or.inr ⟨2, by decide +kernel, rfl, rfl⟩
theorem G_goBack_56 : KV G_goBack 56 G_addCandidate 0 2 59 := ⟨G_addCandidate_q, by decide, w_544, ws_18, rfl, by decide +kernel, ⟨(RX0, TX0, 9), rfl, rfl⟩, 74, by decide +kernel, w_542⟩
theorem G_goBack_59 : Kn G_goBack 59 2 1 62 := ⟨by decide, by decide +kernel, rfl⟩
theorem G_goBack_62 : Kj G_goBack 62 .goto 2 65 := ⟨(-60), by decide +kernel, by decide, rfl⟩
theorem G_goBack_65 : Kc G_goBack 65 1 66 := ⟨by decide, Or.inl ⟨by decide +kernel, rfl⟩⟩
theorem G_goBack_66 : K1 G_goBack 66 .ireturn 67 := ⟨by decide +kernel, rfl⟩
theorem N_moveBack_0 : Kc N_moveBack 0 0 1 := ⟨by decide, Or.inl ⟨by decide +kernel, rfl⟩⟩
theorem N_moveBack_1 : Ks N_moveBack 1 4 3 := ⟨by decide, Or.inl ⟨by decide +kernel, rfl⟩⟩
theorem N_moveBack_3 : Ki N_moveBack 3 4 5 := Or.inl ⟨by decide +kernel, rfl⟩
theorem N_moveBack_5 : Ka N_moveBack 5 0 6 := Or.inr ⟨0, by decide +kernel, rfl, rfl⟩
theorem N_moveBack_6 : Kg N_moveBack 6 1 0 false 9 := ⟨9, by decide +kernel, rfl, fw_N_9⟩
theorem N_moveBack_9 : Kj N_moveBack 9 (.if_icmp .ge) 58 12 := ⟨49, by decide +kernel, by decide, rfl⟩
theorem N_moveBack_12 : Ka N_moveBack 12 3 13 := Or.inr ⟨3, by decide +kernel, rfl, rfl⟩
theorem N_moveBack_13 : Ki N_moveBack 13 4 15 := Or.inl ⟨by decide +kernel, rfl⟩
theorem N_moveBack_15 : Ka N_moveBack 15 0 16 := Or.inr ⟨0, by decide +kernel, rfl, rfl⟩
theorem N_moveBack_16 : Kg N_moveBack 16 1 2 true 19 := ⟨20, by decide +kernel, rfl, fw_N_20⟩
theorem N_moveBack_19 : Ki N_moveBack 19 2 20 := Or.inr ⟨2, by decide +kernel, rfl, rfl⟩
theorem N_moveBack_20 : K1 N_moveBack 20 .aaload 21 := ⟨by decide +kernel, rfl⟩
theorem N_moveBack_21 : Ki N_moveBack 21 4 23 := Or.inl ⟨by decide +kernel, rfl⟩
theorem N_moveBack_23 : K1 N_moveBack 23 .iaload 24 := ⟨by decide +kernel, rfl⟩
theorem N_moveBack_24 : Ka N_moveBack 24 1 25 := Or.inr ⟨1, by decide +kernel, rfl, rfl⟩
theorem N_moveBack_25 : Ki N_moveBack 25 4 27 := Or.inl ⟨by decide +kernel, rfl⟩
theorem N_moveBack_27 : K1 N_moveBack 27 .iaload 28 := ⟨by decide +kernel, rfl⟩
theorem N_moveBack_28 : Ka N_moveBack 28 0 29 := Or.inr ⟨0, by decide +kernel, rfl, rfl⟩
theorem N_moveBack_29 : Kg N_moveBack 29 1 3 true 32 := ⟨23, by decide +kernel, rfl, fw_N_23⟩
theorem N_moveBack_32 : Ki N_moveBack 32 2 33 := Or.inr ⟨2, by decide +kernel, rfl, rfl⟩
theorem N_moveBack_33 : K1 N_moveBack 33 .aaload 34 := ⟨by decide +kernel, rfl⟩
theorem N_moveBack_34 : Ki N_moveBack 34 4 36 := Or.inl ⟨by decide +kernel, rfl⟩
theorem N_moveBack_36 : K1 N_moveBack 36 .iaload 37 := ⟨by decide +kernel, rfl⟩
theorem N_moveBack_37 : K1 N_moveBack 37 .isub 38 := ⟨by decide +kernel, rfl⟩
theorem N_moveBack_38 : Ka N_moveBack 38 0 39 := Or.inr ⟨0, by decide +kernel, rfl, rfl⟩
theorem N_moveBack_39 : Kg N_moveBack 39 1 2 true 42 := ⟨20, by decide +kernel, rfl, fw_N_20⟩
theorem N_moveBack_42 : Ki N_moveBack 42 2 43 := Or.inr ⟨2, by decide +kernel, rfl, rfl⟩
theorem N_moveBack_43 : K1 N_moveBack 43 .aaload 44 := ⟨by decide +kernel, rfl⟩
theorem N_moveBack_44 : Ki N_moveBack 44 4 46 := Or.inl ⟨by decide +kernel, rfl⟩
theorem N_moveBack_46 : K1 N_moveBack 46 .iaload 47 := ⟨by decide +kernel, rfl⟩
theorem N_moveBack_47 : K1 N_moveBack 47 .iadd 48 := ⟨by decide +kernel, rfl⟩
theorem N_moveBack_48 : KX N_moveBack 48 Lib.Math.max.name 51 := ⟨39, by decide +kernel, rfl, w_536⟩
theorem N_moveBack_51 : K1 N_moveBack 51 .iastore 52 := ⟨by decide +kernel, rfl⟩
theorem N_moveBack_52 : Kn N_moveBack 52 4 1 55 := ⟨by decide, by decide +kernel, rfl⟩
theorem N_moveBack_55 : Kj N_moveBack 55 .goto 3 58 := ⟨(-52), by decide +kernel, by decide, rfl⟩
theorem N_moveBack_58 : K1 N_moveBack 58 .return_ 59 := ⟨by decide +kernel, rfl⟩
theorem G_isKnown_0 : Kc G_isKnown 0 0 1 := ⟨by decide, Or.inl ⟨by decide +kernel, rfl⟩⟩
theorem G_isKnown_1 : Ks G_isKnown 1 2 2 := ⟨by decide, Or.inr ⟨2, by decide +kernel, rfl, rfl⟩⟩
theorem G_isKnown_2 : Ki G_isKnown 2 2 3 := Or.inr ⟨2, by decide +kernel, rfl, rfl⟩
theorem G_isKnown_3 : Ka G_isKnown 3 0 4 := Or.inr ⟨0, by decide +kernel, rfl, rfl⟩
theorem G_isKnown_4 : Kg G_isKnown 4 0 7 false 7 := ⟨51, by decide +kernel, rfl, fw_G_51⟩
theorem G_isKnown_7 : Kj G_isKnown 7 (.if_icmp .ge) 40 10 := ⟨33, by decide +kernel, by decide, rfl⟩
theorem G_isKnown_10 : Ka G_isKnown 10 0 11 := Or.inr ⟨0, by decide +kernel, rfl, rfl⟩
theorem G_isKnown_11 : Kg G_isKnown 11 0 5 true 14 := ⟨21, by decide +kernel, rfl, fw_G_21⟩
theorem G_isKnown_14 : Ki G_isKnown 14 2 15 := Or.inr ⟨2, by decide +kernel, rfl, rfl⟩
theorem G_isKnown_15 : K1 G_isKnown 15 .baload 16 := ⟨by decide +kernel, rfl⟩
theorem G_isKnown_16 : Kj G_isKnown 16 (.ifCond .ne) 34 19 := ⟨18, by decide +kernel, by decide, rfl⟩
theorem G_isKnown_19 : Ka G_isKnown 19 0 20 := Or.inr ⟨0, by decide +kernel, rfl, rfl⟩
theorem G_isKnown_20 : Kg G_isKnown 20 0 1 true 23 := ⟨37, by decide +kernel, rfl, fw_G_37⟩
theorem G_isKnown_23 : Ki G_isKnown 23 2 24 := Or.inr ⟨2, by decide +kernel, rfl, rfl⟩
theorem G_isKnown_24 : K1 G_isKnown 24 .aaload 25 := ⟨by decide +kernel, rfl⟩
theorem G_isKnown_25 : Ka G_isKnown 25 1 26 := Or.inr ⟨1, by decide +kernel, rfl, rfl⟩
theorem G_isKnown_26 : KS G_isKnown 26 O_isBelow 2 29 := ⟨O_isBelow_q, by decide, w_325, rfl, by decide +kernel, 78, by decide +kernel, Or.inr ⟨_, w_541⟩⟩
theorem G_isKnown_29 : Kj G_isKnown 29 (.ifCond .eq) 34 32 := ⟨5, by decide +kernel, by decide, rfl⟩
theorem G_isKnown_32 : Kc G_isKnown 32 1 33 := ⟨by decide, Or.inl ⟨by decide +kernel, rfl⟩⟩
theorem G_isKnown_33 : K1 G_isKnown 33 .ireturn 34 := ⟨by decide +kernel, rfl⟩
theorem G_isKnown_34 : Kn G_isKnown 34 2 1 37 := ⟨by decide, by decide +kernel, rfl⟩
theorem G_isKnown_37 : Kj G_isKnown 37 .goto 2 40 := ⟨(-35), by decide +kernel, by decide, rfl⟩
theorem G_isKnown_40 : Kc G_isKnown 40 0 41 := ⟨by decide, Or.inl ⟨by decide +kernel, rfl⟩⟩
theorem G_isKnown_41 : K1 G_isKnown 41 .ireturn 42 := ⟨by decide +kernel, rfl⟩
theorem G_addCandidate_0 : Kc G_addCandidate 0 0 1 := ⟨by decide, Or.inl ⟨by decide +kernel, rfl⟩⟩
theorem G_addCandidate_1 : Ks G_addCandidate 1 3 2 := ⟨by decide, Or.inr ⟨3, by decide +kernel, rfl, rfl⟩⟩
theorem G_addCandidate_2 : Ki G_addCandidate 2 3 3 := Or.inr ⟨3, by decide +kernel, rfl, rfl⟩
theorem G_addCandidate_3 : Ka G_addCandidate 3 0 4 := Or.inr ⟨0, by decide +kernel, rfl, rfl⟩
theorem G_addCandidate_4 : Kg G_addCandidate 4 0 7 false 7 := ⟨51, by decide +kernel, rfl, fw_G_51⟩
theorem G_addCandidate_7 : Kj G_addCandidate 7 (.if_icmp .ge) 39 10 := ⟨32, by decide +kernel, by decide, rfl⟩
theorem G_addCandidate_10 : Ka G_addCandidate 10 0 11 := Or.inr ⟨0, by decide +kernel, rfl, rfl⟩
theorem G_addCandidate_11 : Kg G_addCandidate 11 0 6 true 14 := ⟨40, by decide +kernel, rfl, fw_G_40⟩
theorem G_addCandidate_14 : Ka G_addCandidate 14 0 15 := Or.inr ⟨0, by decide +kernel, rfl, rfl⟩
theorem G_addCandidate_15 : Kg G_addCandidate 15 0 1 true 18 := ⟨37, by decide +kernel, rfl, fw_G_37⟩
theorem G_addCandidate_18 : Ki G_addCandidate 18 3 19 := Or.inr ⟨3, by decide +kernel, rfl, rfl⟩
theorem G_addCandidate_19 : K1 G_addCandidate 19 .aaload 20 := ⟨by decide +kernel, rfl⟩
theorem G_addCandidate_20 : KS G_addCandidate 20 O_isBelow 2 23 := ⟨O_isBelow_q, by decide, w_325, rfl, by decide +kernel, 78, by decide +kernel, Or.inr ⟨_, w_541⟩⟩
theorem G_addCandidate_23 : Kj G_addCandidate 23 (.ifCond .eq) 33 26 := ⟨10, by decide +kernel, by decide, rfl⟩
theorem G_addCandidate_26 : Ka G_addCandidate 26 0 27 := Or.inr ⟨0, by decide +kernel, rfl, rfl⟩
theorem G_addCandidate_27 : Kg G_addCandidate 27 0 5 true 30 := ⟨21, by decide +kernel, rfl, fw_G_21⟩
theorem G_addCandidate_30 : Ki G_addCandidate 30 3 31 := Or.inr ⟨3, by decide +kernel, rfl, rfl⟩
theorem G_addCandidate_31 : Kc G_addCandidate 31 1 32 := ⟨by decide, Or.inl ⟨by decide +kernel, rfl⟩⟩
theorem G_addCandidate_32 : K1 G_addCandidate 32 .bastore 33 := ⟨by decide +kernel, rfl⟩
theorem G_addCandidate_33 : Kn G_addCandidate 33 3 1 36 := ⟨by decide, by decide +kernel, rfl⟩
theorem G_addCandidate_36 : Kj G_addCandidate 36 .goto 2 39 := ⟨(-34), by decide +kernel, by decide, rfl⟩
theorem G_addCandidate_39 : Ka G_addCandidate 39 0 40 := Or.inr ⟨0, by decide +kernel, rfl, rfl⟩
theorem G_addCandidate_40 : Kg G_addCandidate 40 0 6 true 43 := ⟨40, by decide +kernel, rfl, fw_G_40⟩
theorem G_addCandidate_43 : Kc G_addCandidate 43 0 44 := ⟨by decide, Or.inl ⟨by decide +kernel, rfl⟩⟩
theorem G_addCandidate_44 : Ka G_addCandidate 44 0 45 := Or.inr ⟨0, by decide +kernel, rfl, rfl⟩
theorem G_addCandidate_45 : Kg G_addCandidate 45 0 1 true 48 := ⟨37, by decide +kernel, rfl, fw_G_37⟩
theorem G_addCandidate_48 : Ka G_addCandidate 48 0 49 := Or.inr ⟨0, by decide +kernel, rfl, rfl⟩
theorem G_addCandidate_49 : Kg G_addCandidate 49 0 7 false 52 := ⟨51, by decide +kernel, rfl, fw_G_51⟩
theorem G_addCandidate_52 : K1 G_addCandidate 52 .aaload 53 := ⟨by decide +kernel, rfl⟩
theorem G_addCandidate_53 : Kc G_addCandidate 53 0 54 := ⟨by decide, Or.inl ⟨by decide +kernel, rfl⟩⟩
theorem G_addCandidate_54 : Ka G_addCandidate 54 0 55 := Or.inr ⟨0, by decide +kernel, rfl, rfl⟩
theorem G_addCandidate_55 : Kg G_addCandidate 55 0 0 true 58 := ⟨25, by decide +kernel, rfl, fw_G_25⟩
theorem G_addCandidate_58 : Kg G_addCandidate 58 1 0 false 61 := ⟨29, by decide +kernel, rfl, fw_G_29⟩
theorem G_addCandidate_61 : KX G_addCandidate 61 arraycopyName 64 := ⟨58, by decide +kernel, rfl, w_527⟩
theorem G_addCandidate_64 : Ka G_addCandidate 64 0 65 := Or.inr ⟨0, by decide +kernel, rfl, rfl⟩
theorem G_addCandidate_65 : Kg G_addCandidate 65 0 2 true 68 := ⟨9, by decide +kernel, rfl, fw_G_9⟩
theorem G_addCandidate_68 : Ka G_addCandidate 68 0 69 := Or.inr ⟨0, by decide +kernel, rfl, rfl⟩
theorem G_addCandidate_69 : Kg G_addCandidate 69 0 7 false 72 := ⟨51, by decide +kernel, rfl, fw_G_51⟩
theorem G_addCandidate_72 : Ki G_addCandidate 72 1 73 := Or.inr ⟨1, by decide +kernel, rfl, rfl⟩
theorem G_addCandidate_73 : K1 G_addCandidate 73 .iastore 74 := ⟨by decide +kernel, rfl⟩
theorem G_addCandidate_74 : Ka G_addCandidate 74 0 75 := Or.inr ⟨0, by decide +kernel, rfl, rfl⟩
theorem G_addCandidate_75 : Kg G_addCandidate 75 0 3 true 78 := ⟨15, by decide +kernel, rfl, fw_G_15⟩
theorem G_addCandidate_78 : Ka G_addCandidate 78 0 79 := Or.inr ⟨0, by decide +kernel, rfl, rfl⟩
theorem G_addCandidate_79 : Kg G_addCandidate 79 0 7 false 82 := ⟨51, by decide +kernel, rfl, fw_G_51⟩
theorem G_addCandidate_82 : Ki G_addCandidate 82 2 83 := Or.inr ⟨2, by decide +kernel, rfl, rfl⟩
theorem G_addCandidate_83 : K1 G_addCandidate 83 .iastore 84 := ⟨by decide +kernel, rfl⟩
theorem G_addCandidate_84 : Ka G_addCandidate 84 0 85 := Or.inr ⟨0, by decide +kernel, rfl, rfl⟩
theorem G_addCandidate_85 : Kg G_addCandidate 85 0 4 true 88 := ⟨18, by decide +kernel, rfl, fw_G_18⟩
theorem G_addCandidate_88 : Ka G_addCandidate 88 0 89 := Or.inr ⟨0, by decide +kernel, rfl, rfl⟩
theorem G_addCandidate_89 : Kg G_addCandidate 89 0 7 false 92 := ⟨51, by decide +kernel, rfl, fw_G_51⟩
theorem G_addCandidate_92 : Ka G_addCandidate 92 0 93 := Or.inr ⟨0, by decide +kernel, rfl, rfl⟩
theorem G_addCandidate_93 : Kg G_addCandidate 93 0 4 true 96 := ⟨18, by decide +kernel, rfl, fw_G_18⟩
theorem G_addCandidate_96 : Ki G_addCandidate 96 1 97 := Or.inr ⟨1, by decide +kernel, rfl, rfl⟩
theorem G_addCandidate_97 : K1 G_addCandidate 97 .iaload 98 := ⟨by decide +kernel, rfl⟩
theorem G_addCandidate_98 : Kc G_addCandidate 98 1 99 := ⟨by decide, Or.inl ⟨by decide +kernel, rfl⟩⟩
theorem G_addCandidate_99 : K1 G_addCandidate 99 .iadd 100 := ⟨by decide +kernel, rfl⟩
theorem G_addCandidate_100 : K1 G_addCandidate 100 .iastore 101 := ⟨by decide +kernel, rfl⟩
theorem G_addCandidate_101 : Ka G_addCandidate 101 0 102 := Or.inr ⟨0, by decide +kernel, rfl, rfl⟩
theorem G_addCandidate_102 : Kg G_addCandidate 102 0 5 true 105 := ⟨21, by decide +kernel, rfl, fw_G_21⟩
theorem G_addCandidate_105 : Ka G_addCandidate 105 0 106 := Or.inr ⟨0, by decide +kernel, rfl, rfl⟩
theorem G_addCandidate_106 : Kg G_addCandidate 106 0 7 false 109 := ⟨51, by decide +kernel, rfl, fw_G_51⟩
theorem G_addCandidate_109 : Kc G_addCandidate 109 0 110 := ⟨by decide, Or.inl ⟨by decide +kernel, rfl⟩⟩
theorem G_addCandidate_110 : K1 G_addCandidate 110 .bastore 111 := ⟨by decide +kernel, rfl⟩
theorem G_addCandidate_111 : Ka G_addCandidate 111 0 112 := Or.inr ⟨0, by decide +kernel, rfl, rfl⟩
theorem G_addCandidate_112 : K1 G_addCandidate 112 .dup 113 := ⟨by decide +kernel, rfl⟩
theorem G_addCandidate_113 : Kg G_addCandidate 113 0 7 false 116 := ⟨51, by decide +kernel, rfl, fw_G_51⟩
theorem G_addCandidate_116 : Kc G_addCandidate 116 1 117 := ⟨by decide, Or.inl ⟨by decide +kernel, rfl⟩⟩
theorem G_addCandidate_117 : K1 G_addCandidate 117 .iadd 118 := ⟨by decide +kernel, rfl⟩
theorem G_addCandidate_118 : Kp G_addCandidate 118 0 7 false .int false 121 := ⟨⟨51, by decide +kernel, rfl, fw_G_51⟩, ko_G_0_7, fun h => by cases h⟩
theorem G_addCandidate_121 : K1 G_addCandidate 121 .return_ 122 := ⟨by decide +kernel, rfl⟩
theorem G_keptCount_0 : Kc G_keptCount 0 0 1 := ⟨by decide, Or.inl ⟨by decide +kernel, rfl⟩⟩
theorem G_keptCount_1 : Ks G_keptCount 1 1 2 := ⟨by decide, Or.inr ⟨1, by decide +kernel, rfl, rfl⟩⟩
theorem G_keptCount_2 : Kc G_keptCount 2 0 3 := ⟨by decide, Or.inl ⟨by decide +kernel, rfl⟩⟩
theorem G_keptCount_3 : Ks G_keptCount 3 2 4 := ⟨by decide, Or.inr ⟨2, by decide +kernel, rfl, rfl⟩⟩
theorem G_keptCount_4 : Ki G_keptCount 4 2 5 := Or.inr ⟨2, by decide +kernel, rfl, rfl⟩
theorem G_keptCount_5 : Ka G_keptCount 5 0 6 := Or.inr ⟨0, by decide +kernel, rfl, rfl⟩
theorem G_keptCount_6 : Kg G_keptCount 6 0 7 false 9 := ⟨51, by decide +kernel, rfl, fw_G_51⟩
theorem G_keptCount_9 : Kj G_keptCount 9 (.if_icmp .ge) 30 12 := ⟨21, by decide +kernel, by decide, rfl⟩
theorem G_keptCount_12 : Ka G_keptCount 12 0 13 := Or.inr ⟨0, by decide +kernel, rfl, rfl⟩
theorem G_keptCount_13 : Kg G_keptCount 13 0 5 true 16 := ⟨21, by decide +kernel, rfl, fw_G_21⟩
theorem G_keptCount_16 : Ki G_keptCount 16 2 17 := Or.inr ⟨2, by decide +kernel, rfl, rfl⟩
theorem G_keptCount_17 : K1 G_keptCount 17 .baload 18 := ⟨by decide +kernel, rfl⟩
theorem G_keptCount_18 : Kj G_keptCount 18 (.ifCond .ne) 24 21 := ⟨6, by decide +kernel, by decide, rfl⟩
theorem G_keptCount_21 : Kn G_keptCount 21 1 1 24 := ⟨by decide, by decide +kernel, rfl⟩
theorem G_keptCount_24 : Kn G_keptCount 24 2 1 27 := ⟨by decide, by decide +kernel, rfl⟩
theorem G_keptCount_27 : Kj G_keptCount 27 .goto 4 30 := ⟨(-23), by decide +kernel, by decide, rfl⟩
theorem G_keptCount_30 : Ki G_keptCount 30 1 31 := Or.inr ⟨1, by decide +kernel, rfl, rfl⟩
theorem G_keptCount_31 : K1 G_keptCount 31 .ireturn 32 := ⟨by decide +kernel, rfl⟩
theorem O_goal_0 : Ka O_goal 0 0 1 := Or.inr ⟨0, by decide +kernel, rfl, rfl⟩
theorem O_goal_1 : KV O_goal 1 O_checkGoals 3 0 4 := ⟨O_checkGoals_q, by decide, w_560, ws_19, rfl, by decide +kernel, ⟨(RX3, TX3, 6), rfl, rfl⟩, 172, by decide +kernel, w_558⟩
theorem O_goal_4 : Ka O_goal 4 0 5 := Or.inr ⟨0, by decide +kernel, rfl, rfl⟩
theorem O_goal_5 : Kg O_goal 5 3 2 true 8 := ⟨34, by decide +kernel, rfl, fw_O_34⟩
theorem O_goal_8 : Ki O_goal 8 1 9 := Or.inr ⟨1, by decide +kernel, rfl, rfl⟩
theorem O_goal_9 : KV O_goal 9 G_kept 0 1 12 := ⟨G_kept_q, by decide, w_564, w_565, rfl, by decide +kernel, ⟨(RX0, TX0, 9), rfl, rfl⟩, 175, by decide +kernel, w_563⟩
theorem O_goal_12 : Ks O_goal 12 3 13 := ⟨by decide, Or.inr ⟨3, by decide +kernel, rfl, rfl⟩⟩
theorem O_goal_13 : Ki O_goal 13 3 14 := Or.inr ⟨3, by decide +kernel, rfl, rfl⟩
theorem O_goal_14 : Kc O_goal 14 (-2) 16 := ⟨by decide, Or.inr (Or.inl ⟨by decide +kernel, rfl, by decide⟩)⟩
theorem O_goal_16 : Kj O_goal 16 (.if_icmp .ne) 29 19 := ⟨13, by decide +kernel, by decide, rfl⟩
theorem O_goal_19 : KT O_goal 19 "java/lang/IndexOutOfBoundsException" := ⟨178, 180, 182, "no such goal", by decide +kernel, by decide +kernel, by decide +kernel, by decide +kernel, by decide +kernel, rfl, rfl, by decide +kernel, w_203, w_10, by decide +kernel, xt_182_178⟩
theorem O_goal_29 : Ka O_goal 29 0 30 := Or.inr ⟨0, by decide +kernel, rfl, rfl⟩
theorem O_goal_30 : Ki O_goal 30 2 31 := Or.inr ⟨2, by decide +kernel, rfl, rfl⟩
theorem O_goal_31 : KV O_goal 31 O_checkPlace 3 1 34 := ⟨O_checkPlace_q, by decide, w_274, ws_3, rfl, by decide +kernel, ⟨(RX3, TX3, 6), rfl, rfl⟩, 56, by decide +kernel, w_272⟩
theorem O_goal_34 : Ka O_goal 34 0 35 := Or.inr ⟨0, by decide +kernel, rfl, rfl⟩
theorem O_goal_35 : Kg O_goal 35 3 2 true 38 := ⟨34, by decide +kernel, rfl, fw_O_34⟩
theorem O_goal_38 : Kg O_goal 38 0 1 true 41 := ⟨183, by decide +kernel, rfl, fw_O_183⟩
theorem O_goal_41 : Ki O_goal 41 3 42 := Or.inr ⟨3, by decide +kernel, rfl, rfl⟩
theorem O_goal_42 : K1 O_goal 42 .aaload 43 := ⟨by decide +kernel, rfl⟩
theorem O_goal_43 : Ki O_goal 43 2 44 := Or.inr ⟨2, by decide +kernel, rfl, rfl⟩
theorem O_goal_44 : K1 O_goal 44 .iaload 45 := ⟨by decide +kernel, rfl⟩
theorem O_goal_45 : K1 O_goal 45 .ireturn 46 := ⟨by decide +kernel, rfl⟩
theorem O_checkGoals_0 : Ka O_checkGoals 0 0 1 := Or.inr ⟨0, by decide +kernel, rfl, rfl⟩
theorem O_checkGoals_1 : Kg O_checkGoals 1 3 2 true 4 := ⟨34, by decide +kernel, rfl, fw_O_34⟩
theorem O_checkGoals_4 : Kg O_checkGoals 4 0 8 false 7 := ⟨78, by decide +kernel, rfl, fw_O_78⟩
theorem O_checkGoals_7 : Kj O_checkGoals 7 (.ifCond .ne) 20 10 := ⟨13, by decide +kernel, by decide, rfl⟩
theorem O_checkGoals_10 : KT O_checkGoals 10 "java/lang/IllegalStateException" := ⟨94, 210, 98, "there are no goals", by decide +kernel, by decide +kernel, by decide +kernel, by decide +kernel, by decide +kernel, rfl, rfl, by decide +kernel, w_392, w_13, by decide +kernel, xt_98_94⟩
theorem O_checkGoals_20 : K1 O_checkGoals 20 .return_ 21 := ⟨by decide +kernel, rfl⟩
theorem G_kept_0 : Ki G_kept 0 1 1 := Or.inr ⟨1, by decide +kernel, rfl, rfl⟩
theorem G_kept_1 : Ks G_kept 1 2 2 := ⟨by decide, Or.inr ⟨2, by decide +kernel, rfl, rfl⟩⟩
theorem G_kept_2 : Kc G_kept 2 0 3 := ⟨by decide, Or.inl ⟨by decide +kernel, rfl⟩⟩
theorem G_kept_3 : Ks G_kept 3 3 4 := ⟨by decide, Or.inr ⟨3, by decide +kernel, rfl, rfl⟩⟩
theorem G_kept_4 : Ki G_kept 4 3 5 := Or.inr ⟨3, by decide +kernel, rfl, rfl⟩
theorem G_kept_5 : Ka G_kept 5 0 6 := Or.inr ⟨0, by decide +kernel, rfl, rfl⟩
theorem G_kept_6 : Kg G_kept 6 0 7 false 9 := ⟨51, by decide +kernel, rfl, fw_G_51⟩
theorem G_kept_9 : Kj G_kept 9 (.if_icmp .ge) 36 12 := ⟨27, by decide +kernel, by decide, rfl⟩
theorem G_kept_12 : Ka G_kept 12 0 13 := Or.inr ⟨0, by decide +kernel, rfl, rfl⟩
theorem G_kept_13 : Kg G_kept 13 0 5 true 16 := ⟨21, by decide +kernel, rfl, fw_G_21⟩
theorem G_kept_16 : Ki G_kept 16 3 17 := Or.inr ⟨3, by decide +kernel, rfl, rfl⟩
theorem G_kept_17 : K1 G_kept 17 .baload 18 := ⟨by decide +kernel, rfl⟩
theorem G_kept_18 : Kj G_kept 18 (.ifCond .ne) 30 21 := ⟨12, by decide +kernel, by decide, rfl⟩
theorem G_kept_21 : Ki G_kept 21 2 22 := Or.inr ⟨2, by decide +kernel, rfl, rfl⟩
theorem G_kept_22 : Kj G_kept 22 (.ifCond .ne) 27 25 := ⟨5, by decide +kernel, by decide, rfl⟩
theorem G_kept_25 : Ki G_kept 25 3 26 := Or.inr ⟨3, by decide +kernel, rfl, rfl⟩
theorem G_kept_26 : K1 G_kept 26 .ireturn 27 := ⟨by decide +kernel, rfl⟩
theorem G_kept_27 : Kn G_kept 27 2 (-1) 30 := ⟨by decide, by decide +kernel, rfl⟩
theorem G_kept_30 : Kn G_kept 30 3 1 33 := ⟨by decide, by decide +kernel, rfl⟩
theorem G_kept_33 : Kj G_kept 33 .goto 4 36 := ⟨(-29), by decide +kernel, by decide, rfl⟩
theorem G_kept_36 : Kc G_kept 36 (-2) 38 := ⟨by decide, Or.inr (Or.inl ⟨by decide +kernel, rfl, by decide⟩)⟩
theorem G_kept_38 : K1 G_kept 38 .ireturn 39 := ⟨by decide +kernel, rfl⟩
theorem O_length_0 : Ka O_length 0 0 1 := Or.inr ⟨0, by decide +kernel, rfl, rfl⟩
theorem O_length_1 : KV O_length 1 O_checkGoals 3 0 4 := ⟨O_checkGoals_q, by decide, w_560, ws_19, rfl, by decide +kernel, ⟨(RX3, TX3, 6), rfl, rfl⟩, 172, by decide +kernel, w_558⟩
theorem O_length_4 : Ka O_length 4 0 5 := Or.inr ⟨0, by decide +kernel, rfl, rfl⟩
theorem O_length_5 : Kg O_length 5 3 2 true 8 := ⟨34, by decide +kernel, rfl, fw_O_34⟩
theorem O_length_8 : Kg O_length 8 0 4 true 11 := ⟨184, by decide +kernel, rfl, fw_O_184⟩
theorem O_length_11 : Ka O_length 11 0 12 := Or.inr ⟨0, by decide +kernel, rfl, rfl⟩
theorem O_length_12 : KV O_length 12 O_goalBelowStart 3 0 15 := ⟨O_goalBelowStart_q, by decide, w_578, ws_20, rfl, by decide +kernel, ⟨(RX3, TX3, 6), rfl, rfl⟩, 185, by decide +kernel, w_576⟩
theorem O_length_15 : K1 O_length 15 .iaload 16 := ⟨by decide +kernel, rfl⟩
theorem O_length_16 : K1 O_length 16 .ireturn 17 := ⟨by decide +kernel, rfl⟩
theorem O_goalBelowStart_0 : Ka O_goalBelowStart 0 0 1 := Or.inr ⟨0, by decide +kernel, rfl, rfl⟩
theorem O_goalBelowStart_1 : Kg O_goalBelowStart 1 3 2 true 4 := ⟨34, by decide +kernel, rfl, fw_O_34⟩
theorem O_goalBelowStart_4 : Ka O_goalBelowStart 4 0 5 := Or.inr ⟨0, by decide +kernel, rfl, rfl⟩
theorem O_goalBelowStart_5 : Kg O_goalBelowStart 5 3 0 true 8 := ⟨18, by decide +kernel, rfl, fw_O_18⟩
theorem O_goalBelowStart_8 : Kg O_goalBelowStart 8 1 4 true 11 := ⟨72, by decide +kernel, rfl, fw_O_72⟩
theorem O_goalBelowStart_11 : KV O_goalBelowStart 11 G_firstBelow 0 1 14 := ⟨G_firstBelow_q, by decide, w_581, w_582, rfl, by decide +kernel, ⟨(RX0, TX0, 9), rfl, rfl⟩, 197, by decide +kernel, w_580⟩
theorem O_goalBelowStart_14 : Ks O_goalBelowStart 14 1 15 := ⟨by decide, Or.inr ⟨1, by decide +kernel, rfl, rfl⟩⟩
theorem O_goalBelowStart_15 : Ki O_goalBelowStart 15 1 16 := Or.inr ⟨1, by decide +kernel, rfl, rfl⟩
theorem O_goalBelowStart_16 : Kc O_goalBelowStart 16 (-2) 18 := ⟨by decide, Or.inr (Or.inl ⟨by decide +kernel, rfl, by decide⟩)⟩
theorem O_goalBelowStart_18 : Kj O_goalBelowStart 18 (.if_icmp .ne) 31 21 := ⟨13, by decide +kernel, by decide, rfl⟩
theorem O_goalBelowStart_21 : KT O_goalBelowStart 21 "java/lang/UnsupportedOperationException" := ⟨201, 203, 205, "the wanted marking can't be covered", by decide +kernel, by decide +kernel, by decide +kernel, by decide +kernel, by decide +kernel, rfl, rfl, by decide +kernel, w_584, w_14, by decide +kernel, xt_205_201⟩
theorem O_goalBelowStart_31 : Ki O_goalBelowStart 31 1 32 := Or.inr ⟨1, by decide +kernel, rfl, rfl⟩
theorem O_goalBelowStart_32 : K1 O_goalBelowStart 32 .ireturn 33 := ⟨by decide +kernel, rfl⟩
theorem G_firstBelow_0 : Kc G_firstBelow 0 0 1 := ⟨by decide, Or.inl ⟨by decide +kernel, rfl⟩⟩
theorem G_firstBelow_1 : Ks G_firstBelow 1 2 2 := ⟨by decide, Or.inr ⟨2, by decide +kernel, rfl, rfl⟩⟩
theorem G_firstBelow_2 : Ki G_firstBelow 2 2 3 := Or.inr ⟨2, by decide +kernel, rfl, rfl⟩
theorem G_firstBelow_3 : Ka G_firstBelow 3 0 4 := Or.inr ⟨0, by decide +kernel, rfl, rfl⟩
theorem G_firstBelow_4 : Kg G_firstBelow 4 0 7 false 7 := ⟨51, by decide +kernel, rfl, fw_G_51⟩
theorem G_firstBelow_7 : Kj G_firstBelow 7 (.if_icmp .ge) 31 10 := ⟨24, by decide +kernel, by decide, rfl⟩
theorem G_firstBelow_10 : Ka G_firstBelow 10 0 11 := Or.inr ⟨0, by decide +kernel, rfl, rfl⟩
theorem G_firstBelow_11 : Kg G_firstBelow 11 0 1 true 14 := ⟨37, by decide +kernel, rfl, fw_G_37⟩
theorem G_firstBelow_14 : Ki G_firstBelow 14 2 15 := Or.inr ⟨2, by decide +kernel, rfl, rfl⟩
theorem G_firstBelow_15 : K1 G_firstBelow 15 .aaload 16 := ⟨by decide +kernel, rfl⟩
theorem G_firstBelow_16 : Ka G_firstBelow 16 1 17 := Or.inr ⟨1, by decide +kernel, rfl, rfl⟩
theorem G_firstBelow_17 : KS G_firstBelow 17 O_isBelow 2 20 := ⟨O_isBelow_q, by decide, w_325, rfl, by decide +kernel, 78, by decide +kernel, Or.inr ⟨_, w_541⟩⟩
theorem G_firstBelow_20 : Kj G_firstBelow 20 (.ifCond .eq) 25 23 := ⟨5, by decide +kernel, by decide, rfl⟩
theorem G_firstBelow_23 : Ki G_firstBelow 23 2 24 := Or.inr ⟨2, by decide +kernel, rfl, rfl⟩
theorem G_firstBelow_24 : K1 G_firstBelow 24 .ireturn 25 := ⟨by decide +kernel, rfl⟩
theorem G_firstBelow_25 : Kn G_firstBelow 25 2 1 28 := ⟨by decide, by decide +kernel, rfl⟩
theorem G_firstBelow_28 : Kj G_firstBelow 28 .goto 2 31 := ⟨(-26), by decide +kernel, by decide, rfl⟩
theorem G_firstBelow_31 : Kc G_firstBelow 31 (-2) 33 := ⟨by decide, Or.inr (Or.inl ⟨by decide +kernel, rfl, by decide⟩)⟩
theorem G_firstBelow_33 : K1 G_firstBelow 33 .ireturn 34 := ⟨by decide +kernel, rfl⟩
theorem O_way_0 : Ka O_way 0 0 1 := Or.inr ⟨0, by decide +kernel, rfl, rfl⟩
theorem O_way_1 : KV O_way 1 O_checkGoals 3 0 4 := ⟨O_checkGoals_q, by decide, w_560, ws_19, rfl, by decide +kernel, ⟨(RX3, TX3, 6), rfl, rfl⟩, 172, by decide +kernel, w_558⟩
theorem O_way_4 : Ka O_way 4 0 5 := Or.inr ⟨0, by decide +kernel, rfl, rfl⟩
theorem O_way_5 : KV O_way 5 O_goalBelowStart 3 0 8 := ⟨O_goalBelowStart_q, by decide, w_578, ws_20, rfl, by decide +kernel, ⟨(RX3, TX3, 6), rfl, rfl⟩, 185, by decide +kernel, w_576⟩
theorem O_way_8 : Ks O_way 8 2 9 := ⟨by decide, Or.inr ⟨2, by decide +kernel, rfl, rfl⟩⟩
theorem O_way_9 : Ki O_way 9 1 10 := Or.inr ⟨1, by decide +kernel, rfl, rfl⟩
theorem O_way_10 : Ka O_way 10 0 11 := Or.inr ⟨0, by decide +kernel, rfl, rfl⟩
theorem O_way_11 : Kg O_way 11 3 2 true 14 := ⟨34, by decide +kernel, rfl, fw_O_34⟩
theorem O_way_14 : Kg O_way 14 0 4 true 17 := ⟨184, by decide +kernel, rfl, fw_O_184⟩
theorem O_way_17 : Ki O_way 17 2 18 := Or.inr ⟨2, by decide +kernel, rfl, rfl⟩
theorem O_way_18 : K1 O_way 18 .iaload 19 := ⟨by decide +kernel, rfl⟩
theorem O_way_19 : KS O_way 19 O_checkIndex 2 22 := ⟨O_checkIndex_q, by decide, w_201, rfl, by decide +kernel, 135, by decide +kernel, Or.inl w_200⟩
theorem O_way_22 : Ka O_way 22 0 23 := Or.inr ⟨0, by decide +kernel, rfl, rfl⟩
theorem O_way_23 : Kg O_way 23 3 2 true 26 := ⟨34, by decide +kernel, rfl, fw_O_34⟩
theorem O_way_26 : Ki O_way 26 2 27 := Or.inr ⟨2, by decide +kernel, rfl, rfl⟩
theorem O_way_27 : Ki O_way 27 1 28 := Or.inr ⟨1, by decide +kernel, rfl, rfl⟩
theorem O_way_28 : KV O_way 28 G_stepFrom 0 2 31 := ⟨G_stepFrom_q, by decide, w_608, w_609, rfl, by decide +kernel, ⟨(RX0, TX0, 9), rfl, rfl⟩, 188, by decide +kernel, w_607⟩
theorem O_way_31 : K1 O_way 31 .ireturn 32 := ⟨by decide +kernel, rfl⟩
theorem G_stepFrom_0 : Ki G_stepFrom 0 1 1 := Or.inr ⟨1, by decide +kernel, rfl, rfl⟩
theorem G_stepFrom_1 : Ks G_stepFrom 1 3 2 := ⟨by decide, Or.inr ⟨3, by decide +kernel, rfl, rfl⟩⟩
theorem G_stepFrom_2 : Kc G_stepFrom 2 0 3 := ⟨by decide, Or.inl ⟨by decide +kernel, rfl⟩⟩
theorem G_stepFrom_3 : Ks G_stepFrom 3 4 5 := ⟨by decide, Or.inl ⟨by decide +kernel, rfl⟩⟩
theorem G_stepFrom_5 : Ki G_stepFrom 5 4 7 := Or.inl ⟨by decide +kernel, rfl⟩
theorem G_stepFrom_7 : Ki G_stepFrom 7 2 8 := Or.inr ⟨2, by decide +kernel, rfl, rfl⟩
theorem G_stepFrom_8 : Kj G_stepFrom 8 (.if_icmp .ge) 24 11 := ⟨16, by decide +kernel, by decide, rfl⟩
theorem G_stepFrom_11 : Ka G_stepFrom 11 0 12 := Or.inr ⟨0, by decide +kernel, rfl, rfl⟩
theorem G_stepFrom_12 : Kg G_stepFrom 12 0 2 true 15 := ⟨9, by decide +kernel, rfl, fw_G_9⟩
theorem G_stepFrom_15 : Ki G_stepFrom 15 3 16 := Or.inr ⟨3, by decide +kernel, rfl, rfl⟩
theorem G_stepFrom_16 : K1 G_stepFrom 16 .iaload 17 := ⟨by decide +kernel, rfl⟩
theorem G_stepFrom_17 : Ks G_stepFrom 17 3 18 := ⟨by decide, Or.inr ⟨3, by decide +kernel, rfl, rfl⟩⟩
theorem G_stepFrom_18 : Kn G_stepFrom 18 4 1 21 := ⟨by decide, by decide +kernel, rfl⟩
theorem G_stepFrom_21 : Kj G_stepFrom 21 .goto 5 24 := ⟨(-16), by decide +kernel, by decide, rfl⟩
theorem G_stepFrom_24 : Ka G_stepFrom 24 0 25 := Or.inr ⟨0, by decide +kernel, rfl, rfl⟩
theorem G_stepFrom_25 : Kg G_stepFrom 25 0 3 true 28 := ⟨15, by decide +kernel, rfl, fw_G_15⟩
theorem G_stepFrom_28 : Ki G_stepFrom 28 3 29 := Or.inr ⟨3, by decide +kernel, rfl, rfl⟩
theorem G_stepFrom_29 : K1 G_stepFrom 29 .iaload 30 := ⟨by decide +kernel, rfl⟩
theorem G_stepFrom_30 : K1 G_stepFrom 30 .ireturn 31 := ⟨by decide +kernel, rfl⟩
end
section
theorem M_init_0 : Ka M_init 0 0 1 := Or.inr ⟨0, by decide +kernel, rfl, rfl⟩
theorem M_init_1 : KO M_init 1 4 := ⟨1, by decide +kernel, rfl, w_616, w_21, w_22⟩
theorem M_init_4 : Ka M_init 4 0 5 := Or.inr ⟨0, by decide +kernel, rfl, rfl⟩
theorem M_init_5 : Kc M_init 5 48 7 := ⟨by decide, Or.inr (Or.inl ⟨by decide +kernel, rfl, by decide⟩)⟩
theorem M_init_7 : KA M_init 7 .int 9 := ⟨by decide +kernel, rfl, w_67⟩
theorem M_init_9 : Kp M_init 9 4 3 true (.array .int) true 12 := ⟨⟨7, by decide +kernel, rfl, fw_M_7⟩, ko_M_4_3, fun _ => rfl⟩
theorem M_init_12 : Ka M_init 12 0 13 := Or.inr ⟨0, by decide +kernel, rfl, rfl⟩
theorem M_init_13 : Kc M_init 13 48 15 := ⟨by decide, Or.inr (Or.inl ⟨by decide +kernel, rfl, by decide⟩)⟩
theorem M_init_15 : KA M_init 15 .int 17 := ⟨by decide +kernel, rfl, w_67⟩
theorem M_init_17 : Kp M_init 17 4 4 true (.array .int) true 20 := ⟨⟨13, by decide +kernel, rfl, fw_M_13⟩, ko_M_4_4, fun _ => rfl⟩
theorem M_init_20 : Ka M_init 20 0 21 := Or.inr ⟨0, by decide +kernel, rfl, rfl⟩
theorem M_init_21 : Kc M_init 21 6 23 := ⟨by decide, Or.inr (Or.inl ⟨by decide +kernel, rfl, by decide⟩)⟩
theorem M_init_23 : KA M_init 23 .int 25 := ⟨by decide +kernel, rfl, w_67⟩
theorem M_init_25 : Kp M_init 25 4 5 true (.array .int) true 28 := ⟨⟨16, by decide +kernel, rfl, fw_M_16⟩, ko_M_4_5, fun _ => rfl⟩
theorem M_init_28 : Ka M_init 28 0 29 := Or.inr ⟨0, by decide +kernel, rfl, rfl⟩
theorem M_init_29 : Kc M_init 29 6 31 := ⟨by decide, Or.inr (Or.inl ⟨by decide +kernel, rfl, by decide⟩)⟩
theorem M_init_31 : KA M_init 31 .int 33 := ⟨by decide +kernel, rfl, w_67⟩
theorem M_init_33 : Kp M_init 33 4 6 true (.array .int) true 36 := ⟨⟨19, by decide +kernel, rfl, fw_M_19⟩, ko_M_4_6, fun _ => rfl⟩
theorem M_init_36 : Ka M_init 36 0 37 := Or.inr ⟨0, by decide +kernel, rfl, rfl⟩
theorem M_init_37 : Kc M_init 37 6 39 := ⟨by decide, Or.inr (Or.inl ⟨by decide +kernel, rfl, by decide⟩)⟩
theorem M_init_39 : KA M_init 39 .int 41 := ⟨by decide +kernel, rfl, w_67⟩
theorem M_init_41 : Kp M_init 41 4 7 true (.array .int) true 44 := ⟨⟨22, by decide +kernel, rfl, fw_M_22⟩, ko_M_4_7, fun _ => rfl⟩
theorem M_init_44 : Ka M_init 44 0 45 := Or.inr ⟨0, by decide +kernel, rfl, rfl⟩
theorem M_init_45 : Kc M_init 45 1206 48 := ⟨by decide, Or.inr (Or.inr (Or.inl ⟨by decide +kernel, rfl, by decide⟩))⟩
theorem M_init_48 : KA M_init 48 .int 50 := ⟨by decide +kernel, rfl, w_67⟩
theorem M_init_50 : Kp M_init 50 4 11 true (.array .int) true 53 := ⟨⟨25, by decide +kernel, rfl, fw_M_25⟩, ko_M_4_11, fun _ => rfl⟩
theorem M_init_53 : Ka M_init 53 0 54 := Or.inr ⟨0, by decide +kernel, rfl, rfl⟩
theorem M_init_54 : Kc M_init 54 201 57 := ⟨by decide, Or.inr (Or.inr (Or.inl ⟨by decide +kernel, rfl, by decide⟩))⟩
theorem M_init_57 : KA M_init 57 .int 59 := ⟨by decide +kernel, rfl, w_67⟩
theorem M_init_59 : Kp M_init 59 4 12 true (.array .int) true 62 := ⟨⟨28, by decide +kernel, rfl, fw_M_28⟩, ko_M_4_12, fun _ => rfl⟩
theorem M_init_62 : Ka M_init 62 0 63 := Or.inr ⟨0, by decide +kernel, rfl, rfl⟩
theorem M_init_63 : Kc M_init 63 201 66 := ⟨by decide, Or.inr (Or.inr (Or.inl ⟨by decide +kernel, rfl, by decide⟩))⟩
theorem M_init_66 : KA M_init 66 .int 68 := ⟨by decide +kernel, rfl, w_67⟩
theorem M_init_68 : Kp M_init 68 4 13 true (.array .int) true 71 := ⟨⟨31, by decide +kernel, rfl, fw_M_31⟩, ko_M_4_13, fun _ => rfl⟩
theorem M_init_71 : Ka M_init 71 0 72 := Or.inr ⟨0, by decide +kernel, rfl, rfl⟩
theorem M_init_72 : Kc M_init 72 201 75 := ⟨by decide, Or.inr (Or.inr (Or.inl ⟨by decide +kernel, rfl, by decide⟩))⟩
theorem M_init_75 : KA M_init 75 .boolean 77 := ⟨by decide +kernel, rfl, w_115⟩
theorem M_init_77 : Kp M_init 77 4 14 true (.array .boolean) true 80 := ⟨⟨34, by decide +kernel, rfl, fw_M_34⟩, ko_M_4_14, fun _ => rfl⟩
theorem M_init_80 : Ka M_init 80 0 81 := Or.inr ⟨0, by decide +kernel, rfl, rfl⟩
theorem M_init_81 : Kc M_init 81 294 84 := ⟨by decide, Or.inr (Or.inr (Or.inl ⟨by decide +kernel, rfl, by decide⟩))⟩
theorem M_init_84 : KA M_init 84 .int 86 := ⟨by decide +kernel, rfl, w_67⟩
theorem M_init_86 : Kp M_init 86 4 17 true (.array .int) true 89 := ⟨⟨38, by decide +kernel, rfl, fw_M_38⟩, ko_M_4_17, fun _ => rfl⟩
theorem M_init_89 : Ka M_init 89 0 90 := Or.inr ⟨0, by decide +kernel, rfl, rfl⟩
theorem M_init_90 : Kc M_init 90 49 92 := ⟨by decide, Or.inr (Or.inl ⟨by decide +kernel, rfl, by decide⟩)⟩
theorem M_init_92 : KA M_init 92 .int 94 := ⟨by decide +kernel, rfl, w_67⟩
theorem M_init_94 : Kp M_init 94 4 18 true (.array .int) true 97 := ⟨⟨41, by decide +kernel, rfl, fw_M_41⟩, ko_M_4_18, fun _ => rfl⟩
theorem M_init_97 : Ka M_init 97 0 98 := Or.inr ⟨0, by decide +kernel, rfl, rfl⟩
theorem M_init_98 : Kc M_init 98 49 100 := ⟨by decide, Or.inr (Or.inl ⟨by decide +kernel, rfl, by decide⟩)⟩
theorem M_init_100 : KA M_init 100 .int 102 := ⟨by decide +kernel, rfl, w_67⟩
theorem M_init_102 : Kp M_init 102 4 19 true (.array .int) true 105 := ⟨⟨44, by decide +kernel, rfl, fw_M_44⟩, ko_M_4_19, fun _ => rfl⟩
theorem M_init_105 : Ka M_init 105 0 106 := Or.inr ⟨0, by decide +kernel, rfl, rfl⟩
theorem M_init_106 : Kc M_init 106 49 108 := ⟨by decide, Or.inr (Or.inl ⟨by decide +kernel, rfl, by decide⟩)⟩
theorem M_init_108 : KA M_init 108 .boolean 110 := ⟨by decide +kernel, rfl, w_115⟩
theorem M_init_110 : Kp M_init 110 4 20 true (.array .boolean) true 113 := ⟨⟨47, by decide +kernel, rfl, fw_M_47⟩, ko_M_4_20, fun _ => rfl⟩
theorem M_init_113 : Ka M_init 113 0 114 := Or.inr ⟨0, by decide +kernel, rfl, rfl⟩
theorem M_init_114 : Ki M_init 114 1 115 := Or.inr ⟨1, by decide +kernel, rfl, rfl⟩
theorem M_init_115 : Kc M_init 115 1 116 := ⟨by decide, Or.inl ⟨by decide +kernel, rfl⟩⟩
theorem M_init_116 : Kj M_init 116 (.if_icmp .ge) 123 119 := ⟨7, by decide +kernel, by decide, rfl⟩
theorem M_init_119 : Kc M_init 119 1 120 := ⟨by decide, Or.inl ⟨by decide +kernel, rfl⟩⟩
theorem M_init_120 : Kj M_init 120 .goto 135 123 := ⟨15, by decide +kernel, by decide, rfl⟩
theorem M_init_123 : Ki M_init 123 1 124 := Or.inr ⟨1, by decide +kernel, rfl, rfl⟩
theorem M_init_124 : Kc M_init 124 6 126 := ⟨by decide, Or.inr (Or.inl ⟨by decide +kernel, rfl, by decide⟩)⟩
theorem M_init_126 : Kj M_init 126 (.if_icmp .le) 134 129 := ⟨8, by decide +kernel, by decide, rfl⟩
theorem M_init_129 : Kc M_init 129 6 131 := ⟨by decide, Or.inr (Or.inl ⟨by decide +kernel, rfl, by decide⟩)⟩
theorem M_init_131 : Kj M_init 131 .goto 135 134 := ⟨4, by decide +kernel, by decide, rfl⟩
theorem M_init_134 : Ki M_init 134 1 135 := Or.inr ⟨1, by decide +kernel, rfl, rfl⟩
theorem M_init_135 : Kp M_init 135 4 1 false .int true 138 := ⟨⟨50, by decide +kernel, rfl, fw_M_50⟩, ko_M_4_1, fun _ => rfl⟩
theorem M_init_138 : Ka M_init 138 0 139 := Or.inr ⟨0, by decide +kernel, rfl, rfl⟩
theorem M_init_139 : Ki M_init 139 2 140 := Or.inr ⟨2, by decide +kernel, rfl, rfl⟩
theorem M_init_140 : Kc M_init 140 1 141 := ⟨by decide, Or.inl ⟨by decide +kernel, rfl⟩⟩
theorem M_init_141 : Kj M_init 141 (.if_icmp .ge) 148 144 := ⟨7, by decide +kernel, by decide, rfl⟩
theorem M_init_144 : Kc M_init 144 1 145 := ⟨by decide, Or.inl ⟨by decide +kernel, rfl⟩⟩
theorem M_init_145 : Kj M_init 145 .goto 160 148 := ⟨15, by decide +kernel, by decide, rfl⟩
theorem M_init_148 : Ki M_init 148 2 149 := Or.inr ⟨2, by decide +kernel, rfl, rfl⟩
theorem M_init_149 : Kc M_init 149 8 151 := ⟨by decide, Or.inr (Or.inl ⟨by decide +kernel, rfl, by decide⟩)⟩
theorem M_init_151 : Kj M_init 151 (.if_icmp .le) 159 154 := ⟨8, by decide +kernel, by decide, rfl⟩
theorem M_init_154 : Kc M_init 154 8 156 := ⟨by decide, Or.inr (Or.inl ⟨by decide +kernel, rfl, by decide⟩)⟩
theorem M_init_156 : Kj M_init 156 .goto 160 159 := ⟨4, by decide +kernel, by decide, rfl⟩
theorem M_init_159 : Ki M_init 159 2 160 := Or.inr ⟨2, by decide +kernel, rfl, rfl⟩
theorem M_init_160 : Kp M_init 160 4 2 false .int true 163 := ⟨⟨54, by decide +kernel, rfl, fw_M_54⟩, ko_M_4_2, fun _ => rfl⟩
theorem M_init_163 : K1 M_init 163 .return_ 164 := ⟨by decide +kernel, rfl⟩
theorem M_thrown_0 : Ka M_thrown 0 0 1 := Or.inr ⟨0, by decide +kernel, rfl, rfl⟩
theorem M_thrown_1 : Kg M_thrown 1 4 0 false 4 := ⟨57, by decide +kernel, rfl, fw_M_57⟩
theorem M_thrown_4 : K1 M_thrown 4 .ireturn 5 := ⟨by decide +kernel, rfl⟩
theorem M_arc_0 : Ki M_arc 0 3 1 := Or.inr ⟨3, by decide +kernel, rfl, rfl⟩
theorem M_arc_1 : Kj M_arc 1 (.ifCond .lt) 26 4 := ⟨25, by decide +kernel, by decide, rfl⟩
theorem M_arc_4 : Ki M_arc 4 3 5 := Or.inr ⟨3, by decide +kernel, rfl, rfl⟩
theorem M_arc_5 : Kc M_arc 5 9 7 := ⟨by decide, Or.inr (Or.inl ⟨by decide +kernel, rfl, by decide⟩)⟩
theorem M_arc_7 : Kj M_arc 7 (.if_icmp .gt) 26 10 := ⟨19, by decide +kernel, by decide, rfl⟩
theorem M_arc_10 : Ki M_arc 10 4 12 := Or.inl ⟨by decide +kernel, rfl⟩
theorem M_arc_12 : Kj M_arc 12 (.ifCond .lt) 26 15 := ⟨14, by decide +kernel, by decide, rfl⟩
theorem M_arc_15 : Ki M_arc 15 4 17 := Or.inl ⟨by decide +kernel, rfl⟩
theorem M_arc_17 : Kc M_arc 17 9 19 := ⟨by decide, Or.inr (Or.inl ⟨by decide +kernel, rfl, by decide⟩)⟩
theorem M_arc_19 : Kj M_arc 19 (.if_icmp .gt) 26 22 := ⟨7, by decide +kernel, by decide, rfl⟩
theorem M_arc_22 : Kc M_arc 22 1 23 := ⟨by decide, Or.inl ⟨by decide +kernel, rfl⟩⟩
theorem M_arc_23 : Kj M_arc 23 .goto 27 26 := ⟨4, by decide +kernel, by decide, rfl⟩
theorem M_arc_26 : Kc M_arc 26 0 27 := ⟨by decide, Or.inl ⟨by decide +kernel, rfl⟩⟩
theorem M_arc_27 : Ks M_arc 27 5 29 := ⟨by decide, Or.inl ⟨by decide +kernel, rfl⟩⟩
theorem M_arc_29 : Ka M_arc 29 0 30 := Or.inr ⟨0, by decide +kernel, rfl, rfl⟩
theorem M_arc_30 : Ka M_arc 30 0 31 := Or.inr ⟨0, by decide +kernel, rfl, rfl⟩
theorem M_arc_31 : Ki M_arc 31 1 32 := Or.inr ⟨1, by decide +kernel, rfl, rfl⟩
theorem M_arc_32 : KV M_arc 32 M_isTransition 4 1 35 := ⟨M_isTransition_q, by decide, w_691, ws_21, rfl, by decide +kernel, ⟨(RX4, TX4, 21), rfl, rfl⟩, 67, by decide +kernel, w_689⟩
theorem M_arc_35 : Kj M_arc 35 (.ifCond .eq) 46 38 := ⟨11, by decide +kernel, by decide, rfl⟩
theorem M_arc_38 : Ka M_arc 38 0 39 := Or.inr ⟨0, by decide +kernel, rfl, rfl⟩
theorem M_arc_39 : Ki M_arc 39 2 40 := Or.inr ⟨2, by decide +kernel, rfl, rfl⟩
theorem M_arc_40 : KV M_arc 40 M_isPlace 4 1 43 := ⟨M_isPlace_q, by decide, w_695, ws_22, rfl, by decide +kernel, ⟨(RX4, TX4, 21), rfl, rfl⟩, 71, by decide +kernel, w_693⟩
theorem M_arc_43 : Kj M_arc 43 (.ifCond .ne) 50 46 := ⟨7, by decide +kernel, by decide, rfl⟩
theorem M_arc_46 : Kc M_arc 46 1 47 := ⟨by decide, Or.inl ⟨by decide +kernel, rfl⟩⟩
theorem M_arc_47 : Kj M_arc 47 .goto 60 50 := ⟨13, by decide +kernel, by decide, rfl⟩
theorem M_arc_50 : Ki M_arc 50 5 52 := Or.inl ⟨by decide +kernel, rfl⟩
theorem M_arc_52 : Kj M_arc 52 (.ifCond .eq) 59 55 := ⟨7, by decide +kernel, by decide, rfl⟩
theorem M_arc_55 : Kc M_arc 55 0 56 := ⟨by decide, Or.inl ⟨by decide +kernel, rfl⟩⟩
theorem M_arc_56 : Kj M_arc 56 .goto 60 59 := ⟨4, by decide +kernel, by decide, rfl⟩
theorem M_arc_59 : Kc M_arc 59 2 60 := ⟨by decide, Or.inl ⟨by decide +kernel, rfl⟩⟩
theorem M_arc_60 : Kp M_arc 60 4 0 false .int false 63 := ⟨⟨57, by decide +kernel, rfl, fw_M_57⟩, ko_M_4_0, fun h => by cases h⟩
theorem M_arc_63 : Ka M_arc 63 0 64 := Or.inr ⟨0, by decide +kernel, rfl, rfl⟩
theorem M_arc_64 : Kg M_arc 64 4 0 false 67 := ⟨57, by decide +kernel, rfl, fw_M_57⟩
theorem M_arc_67 : Kj M_arc 67 (.ifCond .le) 72 70 := ⟨5, by decide +kernel, by decide, rfl⟩
theorem M_arc_70 : Kc M_arc 70 0 71 := ⟨by decide, Or.inl ⟨by decide +kernel, rfl⟩⟩
theorem M_arc_71 : K1 M_arc 71 .ireturn 72 := ⟨by decide +kernel, rfl⟩
theorem M_arc_72 : Ka M_arc 72 0 73 := Or.inr ⟨0, by decide +kernel, rfl, rfl⟩
theorem M_arc_73 : Kg M_arc 73 4 3 true 76 := ⟨7, by decide +kernel, rfl, fw_M_7⟩
theorem M_arc_76 : Kc M_arc 76 6 78 := ⟨by decide, Or.inr (Or.inl ⟨by decide +kernel, rfl, by decide⟩)⟩
theorem M_arc_78 : Ki M_arc 78 1 79 := Or.inr ⟨1, by decide +kernel, rfl, rfl⟩
theorem M_arc_79 : K1 M_arc 79 .imul 80 := ⟨by decide +kernel, rfl⟩
theorem M_arc_80 : Ki M_arc 80 2 81 := Or.inr ⟨2, by decide +kernel, rfl, rfl⟩
theorem M_arc_81 : K1 M_arc 81 .iadd 82 := ⟨by decide +kernel, rfl⟩
theorem M_arc_82 : Ki M_arc 82 3 83 := Or.inr ⟨3, by decide +kernel, rfl, rfl⟩
theorem M_arc_83 : K1 M_arc 83 .iastore 84 := ⟨by decide +kernel, rfl⟩
theorem M_arc_84 : Ka M_arc 84 0 85 := Or.inr ⟨0, by decide +kernel, rfl, rfl⟩
theorem M_arc_85 : Kg M_arc 85 4 4 true 88 := ⟨13, by decide +kernel, rfl, fw_M_13⟩
theorem M_arc_88 : Kc M_arc 88 6 90 := ⟨by decide, Or.inr (Or.inl ⟨by decide +kernel, rfl, by decide⟩)⟩
theorem M_arc_90 : Ki M_arc 90 1 91 := Or.inr ⟨1, by decide +kernel, rfl, rfl⟩
theorem M_arc_91 : K1 M_arc 91 .imul 92 := ⟨by decide +kernel, rfl⟩
theorem M_arc_92 : Ki M_arc 92 2 93 := Or.inr ⟨2, by decide +kernel, rfl, rfl⟩
theorem M_arc_93 : K1 M_arc 93 .iadd 94 := ⟨by decide +kernel, rfl⟩
theorem M_arc_94 : Ki M_arc 94 4 96 := Or.inl ⟨by decide +kernel, rfl⟩
theorem M_arc_96 : K1 M_arc 96 .iastore 97 := ⟨by decide +kernel, rfl⟩
theorem M_arc_97 : Ka M_arc 97 0 98 := Or.inr ⟨0, by decide +kernel, rfl, rfl⟩
theorem M_arc_98 : KV M_arc 98 M_changed 4 0 101 := ⟨M_changed_q, by decide, w_699, ws_23, rfl, by decide +kernel, ⟨(RX4, TX4, 21), rfl, rfl⟩, 74, by decide +kernel, w_697⟩
theorem M_arc_101 : Ki M_arc 101 4 103 := Or.inl ⟨by decide +kernel, rfl⟩
theorem M_arc_103 : Ki M_arc 103 3 104 := Or.inr ⟨3, by decide +kernel, rfl, rfl⟩
theorem M_arc_104 : K1 M_arc 104 .isub 105 := ⟨by decide +kernel, rfl⟩
theorem M_arc_105 : K1 M_arc 105 .ireturn 106 := ⟨by decide +kernel, rfl⟩
theorem M_isTransition_0 : Ki M_isTransition 0 1 1 := Or.inr ⟨1, by decide +kernel, rfl, rfl⟩
theorem M_isTransition_1 : Kj M_isTransition 1 (.ifCond .lt) 16 4 := ⟨15, by decide +kernel, by decide, rfl⟩
theorem M_isTransition_4 : Ki M_isTransition 4 1 5 := Or.inr ⟨1, by decide +kernel, rfl, rfl⟩
theorem M_isTransition_5 : Ka M_isTransition 5 0 6 := Or.inr ⟨0, by decide +kernel, rfl, rfl⟩
theorem M_isTransition_6 : Kg M_isTransition 6 4 2 false 9 := ⟨54, by decide +kernel, rfl, fw_M_54⟩
theorem M_isTransition_9 : Kj M_isTransition 9 (.if_icmp .ge) 16 12 := ⟨7, by decide +kernel, by decide, rfl⟩
theorem M_isTransition_12 : Kc M_isTransition 12 1 13 := ⟨by decide, Or.inl ⟨by decide +kernel, rfl⟩⟩
theorem M_isTransition_13 : Kj M_isTransition 13 .goto 17 16 := ⟨4, by decide +kernel, by decide, rfl⟩
theorem M_isTransition_16 : Kc M_isTransition 16 0 17 := ⟨by decide, Or.inl ⟨by decide +kernel, rfl⟩⟩
theorem M_isTransition_17 : K1 M_isTransition 17 .ireturn 18 := ⟨by decide +kernel, rfl⟩
theorem M_isPlace_0 : Ki M_isPlace 0 1 1 := Or.inr ⟨1, by decide +kernel, rfl, rfl⟩
theorem M_isPlace_1 : Kj M_isPlace 1 (.ifCond .lt) 16 4 := ⟨15, by decide +kernel, by decide, rfl⟩
theorem M_isPlace_4 : Ki M_isPlace 4 1 5 := Or.inr ⟨1, by decide +kernel, rfl, rfl⟩
theorem M_isPlace_5 : Ka M_isPlace 5 0 6 := Or.inr ⟨0, by decide +kernel, rfl, rfl⟩
theorem M_isPlace_6 : Kg M_isPlace 6 4 1 false 9 := ⟨50, by decide +kernel, rfl, fw_M_50⟩
theorem M_isPlace_9 : Kj M_isPlace 9 (.if_icmp .ge) 16 12 := ⟨7, by decide +kernel, by decide, rfl⟩
theorem M_isPlace_12 : Kc M_isPlace 12 1 13 := ⟨by decide, Or.inl ⟨by decide +kernel, rfl⟩⟩
theorem M_isPlace_13 : Kj M_isPlace 13 .goto 17 16 := ⟨4, by decide +kernel, by decide, rfl⟩
theorem M_isPlace_16 : Kc M_isPlace 16 0 17 := ⟨by decide, Or.inl ⟨by decide +kernel, rfl⟩⟩
theorem M_isPlace_17 : K1 M_isPlace 17 .ireturn 18 := ⟨by decide +kernel, rfl⟩
theorem M_changed_0 : Ka M_changed 0 0 1 := Or.inr ⟨0, by decide +kernel, rfl, rfl⟩
theorem M_changed_1 : Kc M_changed 1 0 2 := ⟨by decide, Or.inl ⟨by decide +kernel, rfl⟩⟩
theorem M_changed_2 : Kp M_changed 2 4 9 false .boolean false 5 := ⟨⟨60, by decide +kernel, rfl, fw_M_60⟩, ko_M_4_9, fun h => by cases h⟩
theorem M_changed_5 : Ka M_changed 5 0 6 := Or.inr ⟨0, by decide +kernel, rfl, rfl⟩
theorem M_changed_6 : Kc M_changed 6 0 7 := ⟨by decide, Or.inl ⟨by decide +kernel, rfl⟩⟩
theorem M_changed_7 : Kp M_changed 7 4 15 false .boolean false 10 := ⟨⟨64, by decide +kernel, rfl, fw_M_64⟩, ko_M_4_15, fun h => by cases h⟩
theorem M_changed_10 : K1 M_changed 10 .return_ 11 := ⟨by decide +kernel, rfl⟩
theorem M_start_0 : Ka M_start 0 0 1 := Or.inr ⟨0, by decide +kernel, rfl, rfl⟩
theorem M_start_1 : Ka M_start 1 0 2 := Or.inr ⟨0, by decide +kernel, rfl, rfl⟩
theorem M_start_2 : Ki M_start 2 1 3 := Or.inr ⟨1, by decide +kernel, rfl, rfl⟩
theorem M_start_3 : KV M_start 3 M_isPlace 4 1 6 := ⟨M_isPlace_q, by decide, w_695, ws_22, rfl, by decide +kernel, ⟨(RX4, TX4, 21), rfl, rfl⟩, 71, by decide +kernel, w_693⟩
theorem M_start_6 : Kj M_start 6 (.ifCond .ne) 13 9 := ⟨7, by decide +kernel, by decide, rfl⟩
theorem M_start_9 : Kc M_start 9 1 10 := ⟨by decide, Or.inl ⟨by decide +kernel, rfl⟩⟩
theorem M_start_10 : Kj M_start 10 .goto 28 13 := ⟨18, by decide +kernel, by decide, rfl⟩
theorem M_start_13 : Ki M_start 13 2 14 := Or.inr ⟨2, by decide +kernel, rfl, rfl⟩
theorem M_start_14 : Kj M_start 14 (.ifCond .lt) 23 17 := ⟨9, by decide +kernel, by decide, rfl⟩
theorem M_start_17 : Ki M_start 17 2 18 := Or.inr ⟨2, by decide +kernel, rfl, rfl⟩
theorem M_start_18 : Kc M_start 18 100 20 := ⟨by decide, Or.inr (Or.inl ⟨by decide +kernel, rfl, by decide⟩)⟩
theorem M_start_20 : Kj M_start 20 (.if_icmp .le) 27 23 := ⟨7, by decide +kernel, by decide, rfl⟩
theorem M_start_23 : Kc M_start 23 2 24 := ⟨by decide, Or.inl ⟨by decide +kernel, rfl⟩⟩
theorem M_start_24 : Kj M_start 24 .goto 28 27 := ⟨4, by decide +kernel, by decide, rfl⟩
theorem M_start_27 : Kc M_start 27 0 28 := ⟨by decide, Or.inl ⟨by decide +kernel, rfl⟩⟩
theorem M_start_28 : Kp M_start 28 4 0 false .int false 31 := ⟨⟨57, by decide +kernel, rfl, fw_M_57⟩, ko_M_4_0, fun h => by cases h⟩
theorem M_start_31 : Ka M_start 31 0 32 := Or.inr ⟨0, by decide +kernel, rfl, rfl⟩
theorem M_start_32 : Kg M_start 32 4 0 false 35 := ⟨57, by decide +kernel, rfl, fw_M_57⟩
theorem M_start_35 : Kj M_start 35 (.ifCond .le) 40 38 := ⟨5, by decide +kernel, by decide, rfl⟩
theorem M_start_38 : Kc M_start 38 0 39 := ⟨by decide, Or.inl ⟨by decide +kernel, rfl⟩⟩
theorem M_start_39 : K1 M_start 39 .ireturn 40 := ⟨by decide +kernel, rfl⟩
theorem M_start_40 : Ka M_start 40 0 41 := Or.inr ⟨0, by decide +kernel, rfl, rfl⟩
theorem M_start_41 : Kg M_start 41 4 5 true 44 := ⟨16, by decide +kernel, rfl, fw_M_16⟩
theorem M_start_44 : Ki M_start 44 1 45 := Or.inr ⟨1, by decide +kernel, rfl, rfl⟩
theorem M_start_45 : K1 M_start 45 .iaload 46 := ⟨by decide +kernel, rfl⟩
theorem M_start_46 : Ks M_start 46 3 47 := ⟨by decide, Or.inr ⟨3, by decide +kernel, rfl, rfl⟩⟩
theorem M_start_47 : Ka M_start 47 0 48 := Or.inr ⟨0, by decide +kernel, rfl, rfl⟩
theorem M_start_48 : Kg M_start 48 4 5 true 51 := ⟨16, by decide +kernel, rfl, fw_M_16⟩
theorem M_start_51 : Ki M_start 51 1 52 := Or.inr ⟨1, by decide +kernel, rfl, rfl⟩
theorem M_start_52 : Ki M_start 52 2 53 := Or.inr ⟨2, by decide +kernel, rfl, rfl⟩
theorem M_start_53 : K1 M_start 53 .iastore 54 := ⟨by decide +kernel, rfl⟩
theorem M_start_54 : Ka M_start 54 0 55 := Or.inr ⟨0, by decide +kernel, rfl, rfl⟩
theorem M_start_55 : KV M_start 55 M_begin 4 0 58 := ⟨M_begin_q, by decide, w_707, ws_24, rfl, by decide +kernel, ⟨(RX4, TX4, 21), rfl, rfl⟩, 80, by decide +kernel, w_705⟩
theorem M_start_58 : Ka M_start 58 0 59 := Or.inr ⟨0, by decide +kernel, rfl, rfl⟩
theorem M_start_59 : KV M_start 59 M_changed 4 0 62 := ⟨M_changed_q, by decide, w_699, ws_23, rfl, by decide +kernel, ⟨(RX4, TX4, 21), rfl, rfl⟩, 74, by decide +kernel, w_697⟩
theorem M_start_62 : Ki M_start 62 3 63 := Or.inr ⟨3, by decide +kernel, rfl, rfl⟩
theorem M_start_63 : K1 M_start 63 .ireturn 64 := ⟨by decide +kernel, rfl⟩
theorem M_begin_0 : Kc M_begin 0 0 1 := ⟨by decide, Or.inl ⟨by decide +kernel, rfl⟩⟩
theorem M_begin_1 : Ks M_begin 1 1 2 := ⟨by decide, Or.inr ⟨1, by decide +kernel, rfl, rfl⟩⟩
theorem M_begin_2 : Ki M_begin 2 1 3 := Or.inr ⟨1, by decide +kernel, rfl, rfl⟩
theorem M_begin_3 : Kc M_begin 3 6 5 := ⟨by decide, Or.inr (Or.inl ⟨by decide +kernel, rfl, by decide⟩)⟩
theorem M_begin_5 : Kj M_begin 5 (.if_icmp .ge) 26 8 := ⟨21, by decide +kernel, by decide, rfl⟩
theorem M_begin_8 : Ka M_begin 8 0 9 := Or.inr ⟨0, by decide +kernel, rfl, rfl⟩
theorem M_begin_9 : Kg M_begin 9 4 7 true 12 := ⟨22, by decide +kernel, rfl, fw_M_22⟩
theorem M_begin_12 : Ki M_begin 12 1 13 := Or.inr ⟨1, by decide +kernel, rfl, rfl⟩
theorem M_begin_13 : Ka M_begin 13 0 14 := Or.inr ⟨0, by decide +kernel, rfl, rfl⟩
theorem M_begin_14 : Kg M_begin 14 4 5 true 17 := ⟨16, by decide +kernel, rfl, fw_M_16⟩
theorem M_begin_17 : Ki M_begin 17 1 18 := Or.inr ⟨1, by decide +kernel, rfl, rfl⟩
theorem M_begin_18 : K1 M_begin 18 .iaload 19 := ⟨by decide +kernel, rfl⟩
theorem M_begin_19 : K1 M_begin 19 .iastore 20 := ⟨by decide +kernel, rfl⟩
theorem M_begin_20 : Kn M_begin 20 1 1 23 := ⟨by decide, by decide +kernel, rfl⟩
theorem M_begin_23 : Kj M_begin 23 .goto 2 26 := ⟨(-21), by decide +kernel, by decide, rfl⟩
theorem M_begin_26 : Ka M_begin 26 0 27 := Or.inr ⟨0, by decide +kernel, rfl, rfl⟩
theorem M_begin_27 : Kc M_begin 27 0 28 := ⟨by decide, Or.inl ⟨by decide +kernel, rfl⟩⟩
theorem M_begin_28 : Kp M_begin 28 4 8 false .int false 31 := ⟨⟨77, by decide +kernel, rfl, fw_M_77⟩, ko_M_4_8, fun h => by cases h⟩
theorem M_begin_31 : K1 M_begin 31 .return_ 32 := ⟨by decide +kernel, rfl⟩
theorem M_want_0 : Ka M_want 0 0 1 := Or.inr ⟨0, by decide +kernel, rfl, rfl⟩
theorem M_want_1 : Ka M_want 1 0 2 := Or.inr ⟨0, by decide +kernel, rfl, rfl⟩
theorem M_want_2 : Ki M_want 2 1 3 := Or.inr ⟨1, by decide +kernel, rfl, rfl⟩
theorem M_want_3 : KV M_want 3 M_isPlace 4 1 6 := ⟨M_isPlace_q, by decide, w_695, ws_22, rfl, by decide +kernel, ⟨(RX4, TX4, 21), rfl, rfl⟩, 71, by decide +kernel, w_693⟩
theorem M_want_6 : Kj M_want 6 (.ifCond .ne) 13 9 := ⟨7, by decide +kernel, by decide, rfl⟩
theorem M_want_9 : Kc M_want 9 1 10 := ⟨by decide, Or.inl ⟨by decide +kernel, rfl⟩⟩
theorem M_want_10 : Kj M_want 10 .goto 28 13 := ⟨18, by decide +kernel, by decide, rfl⟩
theorem M_want_13 : Ki M_want 13 2 14 := Or.inr ⟨2, by decide +kernel, rfl, rfl⟩
theorem M_want_14 : Kj M_want 14 (.ifCond .lt) 23 17 := ⟨9, by decide +kernel, by decide, rfl⟩
theorem M_want_17 : Ki M_want 17 2 18 := Or.inr ⟨2, by decide +kernel, rfl, rfl⟩
theorem M_want_18 : Kc M_want 18 100 20 := ⟨by decide, Or.inr (Or.inl ⟨by decide +kernel, rfl, by decide⟩)⟩
theorem M_want_20 : Kj M_want 20 (.if_icmp .le) 27 23 := ⟨7, by decide +kernel, by decide, rfl⟩
theorem M_want_23 : Kc M_want 23 2 24 := ⟨by decide, Or.inl ⟨by decide +kernel, rfl⟩⟩
theorem M_want_24 : Kj M_want 24 .goto 28 27 := ⟨4, by decide +kernel, by decide, rfl⟩
theorem M_want_27 : Kc M_want 27 0 28 := ⟨by decide, Or.inl ⟨by decide +kernel, rfl⟩⟩
theorem M_want_28 : Kp M_want 28 4 0 false .int false 31 := ⟨⟨57, by decide +kernel, rfl, fw_M_57⟩, ko_M_4_0, fun h => by cases h⟩
theorem M_want_31 : Ka M_want 31 0 32 := Or.inr ⟨0, by decide +kernel, rfl, rfl⟩
theorem M_want_32 : Kg M_want 32 4 0 false 35 := ⟨57, by decide +kernel, rfl, fw_M_57⟩
theorem M_want_35 : Kj M_want 35 (.ifCond .le) 40 38 := ⟨5, by decide +kernel, by decide, rfl⟩
theorem M_want_38 : Kc M_want 38 0 39 := ⟨by decide, Or.inl ⟨by decide +kernel, rfl⟩⟩
theorem M_want_39 : K1 M_want 39 .ireturn 40 := ⟨by decide +kernel, rfl⟩
theorem M_want_40 : Ka M_want 40 0 41 := Or.inr ⟨0, by decide +kernel, rfl, rfl⟩
theorem M_want_41 : Kg M_want 41 4 6 true 44 := ⟨19, by decide +kernel, rfl, fw_M_19⟩
theorem M_want_44 : Ki M_want 44 1 45 := Or.inr ⟨1, by decide +kernel, rfl, rfl⟩
theorem M_want_45 : K1 M_want 45 .iaload 46 := ⟨by decide +kernel, rfl⟩
theorem M_want_46 : Ks M_want 46 3 47 := ⟨by decide, Or.inr ⟨3, by decide +kernel, rfl, rfl⟩⟩
theorem M_want_47 : Ka M_want 47 0 48 := Or.inr ⟨0, by decide +kernel, rfl, rfl⟩
theorem M_want_48 : Kg M_want 48 4 6 true 51 := ⟨19, by decide +kernel, rfl, fw_M_19⟩
theorem M_want_51 : Ki M_want 51 1 52 := Or.inr ⟨1, by decide +kernel, rfl, rfl⟩
theorem M_want_52 : Ki M_want 52 2 53 := Or.inr ⟨2, by decide +kernel, rfl, rfl⟩
theorem M_want_53 : K1 M_want 53 .iastore 54 := ⟨by decide +kernel, rfl⟩
theorem M_want_54 : Ka M_want 54 0 55 := Or.inr ⟨0, by decide +kernel, rfl, rfl⟩
theorem M_want_55 : Kc M_want 55 0 56 := ⟨by decide, Or.inl ⟨by decide +kernel, rfl⟩⟩
theorem M_want_56 : Kp M_want 56 4 15 false .boolean false 59 := ⟨⟨64, by decide +kernel, rfl, fw_M_64⟩, ko_M_4_15, fun h => by cases h⟩
theorem M_want_59 : Ki M_want 59 3 60 := Or.inr ⟨3, by decide +kernel, rfl, rfl⟩
theorem M_want_60 : K1 M_want 60 .ireturn 61 := ⟨by decide +kernel, rfl⟩
theorem M_fire_0 : Ka M_fire 0 0 1 := Or.inr ⟨0, by decide +kernel, rfl, rfl⟩
theorem M_fire_1 : Ka M_fire 1 0 2 := Or.inr ⟨0, by decide +kernel, rfl, rfl⟩
theorem M_fire_2 : Ki M_fire 2 1 3 := Or.inr ⟨1, by decide +kernel, rfl, rfl⟩
theorem M_fire_3 : KV M_fire 3 M_isTransition 4 1 6 := ⟨M_isTransition_q, by decide, w_691, ws_21, rfl, by decide +kernel, ⟨(RX4, TX4, 21), rfl, rfl⟩, 67, by decide +kernel, w_689⟩
theorem M_fire_6 : Kj M_fire 6 (.ifCond .eq) 13 9 := ⟨7, by decide +kernel, by decide, rfl⟩
theorem M_fire_9 : Kc M_fire 9 0 10 := ⟨by decide, Or.inl ⟨by decide +kernel, rfl⟩⟩
theorem M_fire_10 : Kj M_fire 10 .goto 14 13 := ⟨4, by decide +kernel, by decide, rfl⟩
theorem M_fire_13 : Kc M_fire 13 1 14 := ⟨by decide, Or.inl ⟨by decide +kernel, rfl⟩⟩
theorem M_fire_14 : Kp M_fire 14 4 0 false .int false 17 := ⟨⟨57, by decide +kernel, rfl, fw_M_57⟩, ko_M_4_0, fun h => by cases h⟩
theorem M_fire_17 : Ka M_fire 17 0 18 := Or.inr ⟨0, by decide +kernel, rfl, rfl⟩
theorem M_fire_18 : Kg M_fire 18 4 0 false 21 := ⟨57, by decide +kernel, rfl, fw_M_57⟩
theorem M_fire_21 : Kj M_fire 21 (.ifCond .ne) 28 24 := ⟨7, by decide +kernel, by decide, rfl⟩
theorem M_fire_24 : Kc M_fire 24 1 25 := ⟨by decide, Or.inl ⟨by decide +kernel, rfl⟩⟩
theorem M_fire_25 : Kj M_fire 25 .goto 29 28 := ⟨4, by decide +kernel, by decide, rfl⟩
theorem M_fire_28 : Kc M_fire 28 0 29 := ⟨by decide, Or.inl ⟨by decide +kernel, rfl⟩⟩
theorem M_fire_29 : Ks M_fire 29 2 30 := ⟨by decide, Or.inr ⟨2, by decide +kernel, rfl, rfl⟩⟩
theorem M_fire_30 : Kc M_fire 30 0 31 := ⟨by decide, Or.inl ⟨by decide +kernel, rfl⟩⟩
theorem M_fire_31 : Ks M_fire 31 3 32 := ⟨by decide, Or.inr ⟨3, by decide +kernel, rfl, rfl⟩⟩
theorem M_fire_32 : Ki M_fire 32 3 33 := Or.inr ⟨3, by decide +kernel, rfl, rfl⟩
theorem M_fire_33 : Ka M_fire 33 0 34 := Or.inr ⟨0, by decide +kernel, rfl, rfl⟩
theorem M_fire_34 : Kg M_fire 34 4 1 false 37 := ⟨50, by decide +kernel, rfl, fw_M_50⟩
theorem M_fire_37 : Kj M_fire 37 (.if_icmp .ge) 76 40 := ⟨39, by decide +kernel, by decide, rfl⟩
theorem M_fire_40 : Ki M_fire 40 2 41 := Or.inr ⟨2, by decide +kernel, rfl, rfl⟩
theorem M_fire_41 : Kj M_fire 41 (.ifCond .eq) 76 44 := ⟨35, by decide +kernel, by decide, rfl⟩
theorem M_fire_44 : Ka M_fire 44 0 45 := Or.inr ⟨0, by decide +kernel, rfl, rfl⟩
theorem M_fire_45 : Kg M_fire 45 4 7 true 48 := ⟨22, by decide +kernel, rfl, fw_M_22⟩
theorem M_fire_48 : Ki M_fire 48 3 49 := Or.inr ⟨3, by decide +kernel, rfl, rfl⟩
theorem M_fire_49 : K1 M_fire 49 .iaload 50 := ⟨by decide +kernel, rfl⟩
theorem M_fire_50 : Ka M_fire 50 0 51 := Or.inr ⟨0, by decide +kernel, rfl, rfl⟩
theorem M_fire_51 : Kg M_fire 51 4 3 true 54 := ⟨7, by decide +kernel, rfl, fw_M_7⟩
theorem M_fire_54 : Kc M_fire 54 6 56 := ⟨by decide, Or.inr (Or.inl ⟨by decide +kernel, rfl, by decide⟩)⟩
theorem M_fire_56 : Ki M_fire 56 1 57 := Or.inr ⟨1, by decide +kernel, rfl, rfl⟩
theorem M_fire_57 : K1 M_fire 57 .imul 58 := ⟨by decide +kernel, rfl⟩
theorem M_fire_58 : Ki M_fire 58 3 59 := Or.inr ⟨3, by decide +kernel, rfl, rfl⟩
theorem M_fire_59 : K1 M_fire 59 .iadd 60 := ⟨by decide +kernel, rfl⟩
theorem M_fire_60 : K1 M_fire 60 .iaload 61 := ⟨by decide +kernel, rfl⟩
theorem M_fire_61 : Kj M_fire 61 (.if_icmp .lt) 68 64 := ⟨7, by decide +kernel, by decide, rfl⟩
theorem M_fire_64 : Kc M_fire 64 1 65 := ⟨by decide, Or.inl ⟨by decide +kernel, rfl⟩⟩
theorem M_fire_65 : Kj M_fire 65 .goto 69 68 := ⟨4, by decide +kernel, by decide, rfl⟩
theorem M_fire_68 : Kc M_fire 68 0 69 := ⟨by decide, Or.inl ⟨by decide +kernel, rfl⟩⟩
theorem M_fire_69 : Ks M_fire 69 2 70 := ⟨by decide, Or.inr ⟨2, by decide +kernel, rfl, rfl⟩⟩
theorem M_fire_70 : Kn M_fire 70 3 1 73 := ⟨by decide, by decide +kernel, rfl⟩
theorem M_fire_73 : Kj M_fire 73 .goto 32 76 := ⟨(-41), by decide +kernel, by decide, rfl⟩
theorem M_fire_76 : Kc M_fire 76 0 77 := ⟨by decide, Or.inl ⟨by decide +kernel, rfl⟩⟩
theorem M_fire_77 : Ks M_fire 77 3 78 := ⟨by decide, Or.inr ⟨3, by decide +kernel, rfl, rfl⟩⟩
theorem M_fire_78 : Ki M_fire 78 3 79 := Or.inr ⟨3, by decide +kernel, rfl, rfl⟩
theorem M_fire_79 : Ka M_fire 79 0 80 := Or.inr ⟨0, by decide +kernel, rfl, rfl⟩
theorem M_fire_80 : Kg M_fire 80 4 1 false 83 := ⟨50, by decide +kernel, rfl, fw_M_50⟩
theorem M_fire_83 : Kj M_fire 83 (.if_icmp .ge) 132 86 := ⟨49, by decide +kernel, by decide, rfl⟩
theorem M_fire_86 : Ki M_fire 86 2 87 := Or.inr ⟨2, by decide +kernel, rfl, rfl⟩
theorem M_fire_87 : Kj M_fire 87 (.ifCond .eq) 132 90 := ⟨45, by decide +kernel, by decide, rfl⟩
theorem M_fire_90 : Ka M_fire 90 0 91 := Or.inr ⟨0, by decide +kernel, rfl, rfl⟩
theorem M_fire_91 : Kg M_fire 91 4 7 true 94 := ⟨22, by decide +kernel, rfl, fw_M_22⟩
theorem M_fire_94 : Ki M_fire 94 3 95 := Or.inr ⟨3, by decide +kernel, rfl, rfl⟩
theorem M_fire_95 : Ka M_fire 95 0 96 := Or.inr ⟨0, by decide +kernel, rfl, rfl⟩
theorem M_fire_96 : Kg M_fire 96 4 7 true 99 := ⟨22, by decide +kernel, rfl, fw_M_22⟩
theorem M_fire_99 : Ki M_fire 99 3 100 := Or.inr ⟨3, by decide +kernel, rfl, rfl⟩
theorem M_fire_100 : K1 M_fire 100 .iaload 101 := ⟨by decide +kernel, rfl⟩
theorem M_fire_101 : Ka M_fire 101 0 102 := Or.inr ⟨0, by decide +kernel, rfl, rfl⟩
theorem M_fire_102 : Kg M_fire 102 4 3 true 105 := ⟨7, by decide +kernel, rfl, fw_M_7⟩
theorem M_fire_105 : Kc M_fire 105 6 107 := ⟨by decide, Or.inr (Or.inl ⟨by decide +kernel, rfl, by decide⟩)⟩
theorem M_fire_107 : Ki M_fire 107 1 108 := Or.inr ⟨1, by decide +kernel, rfl, rfl⟩
theorem M_fire_108 : K1 M_fire 108 .imul 109 := ⟨by decide +kernel, rfl⟩
theorem M_fire_109 : Ki M_fire 109 3 110 := Or.inr ⟨3, by decide +kernel, rfl, rfl⟩
theorem M_fire_110 : K1 M_fire 110 .iadd 111 := ⟨by decide +kernel, rfl⟩
theorem M_fire_111 : K1 M_fire 111 .iaload 112 := ⟨by decide +kernel, rfl⟩
theorem M_fire_112 : K1 M_fire 112 .isub 113 := ⟨by decide +kernel, rfl⟩
theorem M_fire_113 : Ka M_fire 113 0 114 := Or.inr ⟨0, by decide +kernel, rfl, rfl⟩
theorem M_fire_114 : Kg M_fire 114 4 4 true 117 := ⟨13, by decide +kernel, rfl, fw_M_13⟩
theorem M_fire_117 : Kc M_fire 117 6 119 := ⟨by decide, Or.inr (Or.inl ⟨by decide +kernel, rfl, by decide⟩)⟩
theorem M_fire_119 : Ki M_fire 119 1 120 := Or.inr ⟨1, by decide +kernel, rfl, rfl⟩
theorem M_fire_120 : K1 M_fire 120 .imul 121 := ⟨by decide +kernel, rfl⟩
theorem M_fire_121 : Ki M_fire 121 3 122 := Or.inr ⟨3, by decide +kernel, rfl, rfl⟩
theorem M_fire_122 : K1 M_fire 122 .iadd 123 := ⟨by decide +kernel, rfl⟩
theorem M_fire_123 : K1 M_fire 123 .iaload 124 := ⟨by decide +kernel, rfl⟩
theorem M_fire_124 : K1 M_fire 124 .iadd 125 := ⟨by decide +kernel, rfl⟩
theorem M_fire_125 : K1 M_fire 125 .iastore 126 := ⟨by decide +kernel, rfl⟩
theorem M_fire_126 : Kn M_fire 126 3 1 129 := ⟨by decide, by decide +kernel, rfl⟩
theorem M_fire_129 : Kj M_fire 129 .goto 78 132 := ⟨(-51), by decide +kernel, by decide, rfl⟩
theorem M_fire_132 : Ka M_fire 132 0 133 := Or.inr ⟨0, by decide +kernel, rfl, rfl⟩
theorem M_fire_133 : Ki M_fire 133 2 134 := Or.inr ⟨2, by decide +kernel, rfl, rfl⟩
theorem M_fire_134 : Kj M_fire 134 (.ifCond .eq) 146 137 := ⟨12, by decide +kernel, by decide, rfl⟩
theorem M_fire_137 : Ka M_fire 137 0 138 := Or.inr ⟨0, by decide +kernel, rfl, rfl⟩
theorem M_fire_138 : Kg M_fire 138 4 8 false 141 := ⟨77, by decide +kernel, rfl, fw_M_77⟩
theorem M_fire_141 : Kc M_fire 141 1 142 := ⟨by decide, Or.inl ⟨by decide +kernel, rfl⟩⟩
theorem M_fire_142 : K1 M_fire 142 .iadd 143 := ⟨by decide +kernel, rfl⟩
theorem M_fire_143 : Kj M_fire 143 .goto 150 146 := ⟨7, by decide +kernel, by decide, rfl⟩
theorem M_fire_146 : Ka M_fire 146 0 147 := Or.inr ⟨0, by decide +kernel, rfl, rfl⟩
theorem M_fire_147 : Kg M_fire 147 4 8 false 150 := ⟨77, by decide +kernel, rfl, fw_M_77⟩
theorem M_fire_150 : Kp M_fire 150 4 8 false .int false 153 := ⟨⟨77, by decide +kernel, rfl, fw_M_77⟩, ko_M_4_8, fun h => by cases h⟩
theorem M_fire_153 : Ki M_fire 153 2 154 := Or.inr ⟨2, by decide +kernel, rfl, rfl⟩
theorem M_fire_154 : K1 M_fire 154 .ireturn 155 := ⟨by decide +kernel, rfl⟩
theorem M_at_0 : Ka M_at 0 0 1 := Or.inr ⟨0, by decide +kernel, rfl, rfl⟩
theorem M_at_1 : Ka M_at 1 0 2 := Or.inr ⟨0, by decide +kernel, rfl, rfl⟩
theorem M_at_2 : Ki M_at 2 1 3 := Or.inr ⟨1, by decide +kernel, rfl, rfl⟩
theorem M_at_3 : KV M_at 3 M_isPlace 4 1 6 := ⟨M_isPlace_q, by decide, w_695, ws_22, rfl, by decide +kernel, ⟨(RX4, TX4, 21), rfl, rfl⟩, 71, by decide +kernel, w_693⟩
theorem M_at_6 : Kj M_at 6 (.ifCond .eq) 13 9 := ⟨7, by decide +kernel, by decide, rfl⟩
theorem M_at_9 : Kc M_at 9 0 10 := ⟨by decide, Or.inl ⟨by decide +kernel, rfl⟩⟩
theorem M_at_10 : Kj M_at 10 .goto 14 13 := ⟨4, by decide +kernel, by decide, rfl⟩
theorem M_at_13 : Kc M_at 13 1 14 := ⟨by decide, Or.inl ⟨by decide +kernel, rfl⟩⟩
theorem M_at_14 : Kp M_at 14 4 0 false .int false 17 := ⟨⟨57, by decide +kernel, rfl, fw_M_57⟩, ko_M_4_0, fun h => by cases h⟩
theorem M_at_17 : Ka M_at 17 0 18 := Or.inr ⟨0, by decide +kernel, rfl, rfl⟩
theorem M_at_18 : Kg M_at 18 4 0 false 21 := ⟨57, by decide +kernel, rfl, fw_M_57⟩
theorem M_at_21 : Kj M_at 21 (.ifCond .ne) 33 24 := ⟨12, by decide +kernel, by decide, rfl⟩
theorem M_at_24 : Ka M_at 24 0 25 := Or.inr ⟨0, by decide +kernel, rfl, rfl⟩
theorem M_at_25 : Kg M_at 25 4 7 true 28 := ⟨22, by decide +kernel, rfl, fw_M_22⟩
theorem M_at_28 : Ki M_at 28 1 29 := Or.inr ⟨1, by decide +kernel, rfl, rfl⟩
theorem M_at_29 : K1 M_at 29 .iaload 30 := ⟨by decide +kernel, rfl⟩
theorem M_at_30 : Kj M_at 30 .goto 34 33 := ⟨4, by decide +kernel, by decide, rfl⟩
theorem M_at_33 : Kc M_at 33 0 34 := ⟨by decide, Or.inl ⟨by decide +kernel, rfl⟩⟩
theorem M_at_34 : K1 M_at 34 .ireturn 35 := ⟨by decide +kernel, rfl⟩
theorem M_reset_0 : Ka M_reset 0 0 1 := Or.inr ⟨0, by decide +kernel, rfl, rfl⟩
theorem M_reset_1 : Kc M_reset 1 0 2 := ⟨by decide, Or.inl ⟨by decide +kernel, rfl⟩⟩
theorem M_reset_2 : Kp M_reset 2 4 0 false .int false 5 := ⟨⟨57, by decide +kernel, rfl, fw_M_57⟩, ko_M_4_0, fun h => by cases h⟩
theorem M_reset_5 : Ka M_reset 5 0 6 := Or.inr ⟨0, by decide +kernel, rfl, rfl⟩
theorem M_reset_6 : Kg M_reset 6 4 8 false 9 := ⟨77, by decide +kernel, rfl, fw_M_77⟩
theorem M_reset_9 : Ks M_reset 9 1 10 := ⟨by decide, Or.inr ⟨1, by decide +kernel, rfl, rfl⟩⟩
theorem M_reset_10 : Ka M_reset 10 0 11 := Or.inr ⟨0, by decide +kernel, rfl, rfl⟩
theorem M_reset_11 : KV M_reset 11 M_begin 4 0 14 := ⟨M_begin_q, by decide, w_707, ws_24, rfl, by decide +kernel, ⟨(RX4, TX4, 21), rfl, rfl⟩, 80, by decide +kernel, w_705⟩
theorem M_reset_14 : Ki M_reset 14 1 15 := Or.inr ⟨1, by decide +kernel, rfl, rfl⟩
theorem M_reset_15 : K1 M_reset 15 .ireturn 16 := ⟨by decide +kernel, rfl⟩
theorem M_explore_0 : Ka M_explore 0 0 1 := Or.inr ⟨0, by decide +kernel, rfl, rfl⟩
theorem M_explore_1 : Kc M_explore 1 1 2 := ⟨by decide, Or.inl ⟨by decide +kernel, rfl⟩⟩
theorem M_explore_2 : Kp M_explore 2 4 10 false .int false 5 := ⟨⟨91, by decide +kernel, rfl, fw_M_91⟩, ko_M_4_10, fun h => by cases h⟩
theorem M_explore_5 : Ka M_explore 5 0 6 := Or.inr ⟨0, by decide +kernel, rfl, rfl⟩
theorem M_explore_6 : Kg M_explore 6 4 12 true 9 := ⟨28, by decide +kernel, rfl, fw_M_28⟩
theorem M_explore_9 : Kc M_explore 9 0 10 := ⟨by decide, Or.inl ⟨by decide +kernel, rfl⟩⟩
theorem M_explore_10 : Kc M_explore 10 (-2) 12 := ⟨by decide, Or.inr (Or.inl ⟨by decide +kernel, rfl, by decide⟩)⟩
theorem M_explore_12 : K1 M_explore 12 .iastore 13 := ⟨by decide +kernel, rfl⟩
theorem M_explore_13 : Ka M_explore 13 0 14 := Or.inr ⟨0, by decide +kernel, rfl, rfl⟩
theorem M_explore_14 : Kg M_explore 14 4 13 true 17 := ⟨31, by decide +kernel, rfl, fw_M_31⟩
theorem M_explore_17 : Kc M_explore 17 0 18 := ⟨by decide, Or.inl ⟨by decide +kernel, rfl⟩⟩
theorem M_explore_18 : Kc M_explore 18 (-2) 20 := ⟨by decide, Or.inr (Or.inl ⟨by decide +kernel, rfl, by decide⟩)⟩
theorem M_explore_20 : K1 M_explore 20 .iastore 21 := ⟨by decide +kernel, rfl⟩
theorem M_explore_21 : Ka M_explore 21 0 22 := Or.inr ⟨0, by decide +kernel, rfl, rfl⟩
theorem M_explore_22 : Kg M_explore 22 4 14 true 25 := ⟨34, by decide +kernel, rfl, fw_M_34⟩
theorem M_explore_25 : Kc M_explore 25 0 26 := ⟨by decide, Or.inl ⟨by decide +kernel, rfl⟩⟩
theorem M_explore_26 : Kc M_explore 26 0 27 := ⟨by decide, Or.inl ⟨by decide +kernel, rfl⟩⟩
theorem M_explore_27 : K1 M_explore 27 .bastore 28 := ⟨by decide +kernel, rfl⟩
theorem M_explore_28 : Kc M_explore 28 0 29 := ⟨by decide, Or.inl ⟨by decide +kernel, rfl⟩⟩
theorem M_explore_29 : Ks M_explore 29 1 30 := ⟨by decide, Or.inr ⟨1, by decide +kernel, rfl, rfl⟩⟩
theorem M_explore_30 : Ki M_explore 30 1 31 := Or.inr ⟨1, by decide +kernel, rfl, rfl⟩
theorem M_explore_31 : Ka M_explore 31 0 32 := Or.inr ⟨0, by decide +kernel, rfl, rfl⟩
theorem M_explore_32 : Kg M_explore 32 4 1 false 35 := ⟨50, by decide +kernel, rfl, fw_M_50⟩
theorem M_explore_35 : Kj M_explore 35 (.if_icmp .ge) 56 38 := ⟨21, by decide +kernel, by decide, rfl⟩
theorem M_explore_38 : Ka M_explore 38 0 39 := Or.inr ⟨0, by decide +kernel, rfl, rfl⟩
theorem M_explore_39 : Kg M_explore 39 4 11 true 42 := ⟨25, by decide +kernel, rfl, fw_M_25⟩
theorem M_explore_42 : Ki M_explore 42 1 43 := Or.inr ⟨1, by decide +kernel, rfl, rfl⟩
theorem M_explore_43 : Ka M_explore 43 0 44 := Or.inr ⟨0, by decide +kernel, rfl, rfl⟩
theorem M_explore_44 : Kg M_explore 44 4 5 true 47 := ⟨16, by decide +kernel, rfl, fw_M_16⟩
theorem M_explore_47 : Ki M_explore 47 1 48 := Or.inr ⟨1, by decide +kernel, rfl, rfl⟩
theorem M_explore_48 : K1 M_explore 48 .iaload 49 := ⟨by decide +kernel, rfl⟩
theorem M_explore_49 : K1 M_explore 49 .iastore 50 := ⟨by decide +kernel, rfl⟩
theorem M_explore_50 : Kn M_explore 50 1 1 53 := ⟨by decide, by decide +kernel, rfl⟩
theorem M_explore_53 : Kj M_explore 53 .goto 30 56 := ⟨(-23), by decide +kernel, by decide, rfl⟩
theorem M_explore_56 : Kc M_explore 56 0 57 := ⟨by decide, Or.inl ⟨by decide +kernel, rfl⟩⟩
theorem M_explore_57 : Ks M_explore 57 1 58 := ⟨by decide, Or.inr ⟨1, by decide +kernel, rfl, rfl⟩⟩
theorem M_explore_58 : Ki M_explore 58 1 59 := Or.inr ⟨1, by decide +kernel, rfl, rfl⟩
theorem M_explore_59 : Ka M_explore 59 0 60 := Or.inr ⟨0, by decide +kernel, rfl, rfl⟩
theorem M_explore_60 : Kg M_explore 60 4 10 false 63 := ⟨91, by decide +kernel, rfl, fw_M_91⟩
theorem M_explore_63 : Kj M_explore 63 (.if_icmp .ge) 143 66 := ⟨80, by decide +kernel, by decide, rfl⟩
theorem M_explore_66 : Ka M_explore 66 0 67 := Or.inr ⟨0, by decide +kernel, rfl, rfl⟩
theorem M_explore_67 : Kg M_explore 67 4 10 false 70 := ⟨91, by decide +kernel, rfl, fw_M_91⟩
theorem M_explore_70 : Kc M_explore 70 200 73 := ⟨by decide, Or.inr (Or.inr (Or.inl ⟨by decide +kernel, rfl, by decide⟩))⟩
theorem M_explore_73 : Kj M_explore 73 (.if_icmp .gt) 143 76 := ⟨70, by decide +kernel, by decide, rfl⟩
theorem M_explore_76 : Ka M_explore 76 0 77 := Or.inr ⟨0, by decide +kernel, rfl, rfl⟩
theorem M_explore_77 : Kg M_explore 77 4 14 true 80 := ⟨34, by decide +kernel, rfl, fw_M_34⟩
theorem M_explore_80 : Ki M_explore 80 1 81 := Or.inr ⟨1, by decide +kernel, rfl, rfl⟩
theorem M_explore_81 : Ka M_explore 81 0 82 := Or.inr ⟨0, by decide +kernel, rfl, rfl⟩
theorem M_explore_82 : Ki M_explore 82 1 83 := Or.inr ⟨1, by decide +kernel, rfl, rfl⟩
theorem M_explore_83 : KV M_explore 83 M_isLeaf 4 1 86 := ⟨M_isLeaf_q, by decide, w_731, ws_25, rfl, by decide +kernel, ⟨(RX4, TX4, 21), rfl, rfl⟩, 97, by decide +kernel, w_729⟩
theorem M_explore_86 : K1 M_explore 86 .bastore 87 := ⟨by decide +kernel, rfl⟩
theorem M_explore_87 : Kc M_explore 87 0 88 := ⟨by decide, Or.inl ⟨by decide +kernel, rfl⟩⟩
theorem M_explore_88 : Ks M_explore 88 2 89 := ⟨by decide, Or.inr ⟨2, by decide +kernel, rfl, rfl⟩⟩
theorem M_explore_89 : Ki M_explore 89 2 90 := Or.inr ⟨2, by decide +kernel, rfl, rfl⟩
theorem M_explore_90 : Ka M_explore 90 0 91 := Or.inr ⟨0, by decide +kernel, rfl, rfl⟩
theorem M_explore_91 : Kg M_explore 91 4 2 false 94 := ⟨54, by decide +kernel, rfl, fw_M_54⟩
theorem M_explore_94 : Kj M_explore 94 (.if_icmp .ge) 137 97 := ⟨43, by decide +kernel, by decide, rfl⟩
theorem M_explore_97 : Ka M_explore 97 0 98 := Or.inr ⟨0, by decide +kernel, rfl, rfl⟩
theorem M_explore_98 : Kg M_explore 98 4 14 true 101 := ⟨34, by decide +kernel, rfl, fw_M_34⟩
theorem M_explore_101 : Ki M_explore 101 1 102 := Or.inr ⟨1, by decide +kernel, rfl, rfl⟩
theorem M_explore_102 : K1 M_explore 102 .baload 103 := ⟨by decide +kernel, rfl⟩
theorem M_explore_103 : Kj M_explore 103 (.ifCond .ne) 137 106 := ⟨34, by decide +kernel, by decide, rfl⟩
theorem M_explore_106 : Ka M_explore 106 0 107 := Or.inr ⟨0, by decide +kernel, rfl, rfl⟩
theorem M_explore_107 : Kg M_explore 107 4 10 false 110 := ⟨91, by decide +kernel, rfl, fw_M_91⟩
theorem M_explore_110 : Kc M_explore 110 200 113 := ⟨by decide, Or.inr (Or.inr (Or.inl ⟨by decide +kernel, rfl, by decide⟩))⟩
theorem M_explore_113 : Kj M_explore 113 (.if_icmp .gt) 137 116 := ⟨24, by decide +kernel, by decide, rfl⟩
theorem M_explore_116 : Ka M_explore 116 0 117 := Or.inr ⟨0, by decide +kernel, rfl, rfl⟩
theorem M_explore_117 : Ki M_explore 117 1 118 := Or.inr ⟨1, by decide +kernel, rfl, rfl⟩
theorem M_explore_118 : Ki M_explore 118 2 119 := Or.inr ⟨2, by decide +kernel, rfl, rfl⟩
theorem M_explore_119 : KV M_explore 119 M_isEnabled 4 2 122 := ⟨M_isEnabled_q, by decide, w_743, ws_28, rfl, by decide +kernel, ⟨(RX4, TX4, 21), rfl, rfl⟩, 100, by decide +kernel, w_741⟩
theorem M_explore_122 : Kj M_explore 122 (.ifCond .eq) 131 125 := ⟨9, by decide +kernel, by decide, rfl⟩
theorem M_explore_125 : Ka M_explore 125 0 126 := Or.inr ⟨0, by decide +kernel, rfl, rfl⟩
theorem M_explore_126 : Ki M_explore 126 1 127 := Or.inr ⟨1, by decide +kernel, rfl, rfl⟩
theorem M_explore_127 : Ki M_explore 127 2 128 := Or.inr ⟨2, by decide +kernel, rfl, rfl⟩
theorem M_explore_128 : KV M_explore 128 M_grow 4 2 131 := ⟨M_grow_q, by decide, w_747, ws_29, rfl, by decide +kernel, ⟨(RX4, TX4, 21), rfl, rfl⟩, 103, by decide +kernel, w_745⟩
theorem M_explore_131 : Kn M_explore 131 2 1 134 := ⟨by decide, by decide +kernel, rfl⟩
theorem M_explore_134 : Kj M_explore 134 .goto 89 137 := ⟨(-45), by decide +kernel, by decide, rfl⟩
theorem M_explore_137 : Kn M_explore 137 1 1 140 := ⟨by decide, by decide +kernel, rfl⟩
theorem M_explore_140 : Kj M_explore 140 .goto 58 143 := ⟨(-82), by decide +kernel, by decide, rfl⟩
theorem M_explore_143 : Ka M_explore 143 0 144 := Or.inr ⟨0, by decide +kernel, rfl, rfl⟩
theorem M_explore_144 : Ka M_explore 144 0 145 := Or.inr ⟨0, by decide +kernel, rfl, rfl⟩
theorem M_explore_145 : Kg M_explore 145 4 10 false 148 := ⟨91, by decide +kernel, rfl, fw_M_91⟩
theorem M_explore_148 : Kc M_explore 148 200 151 := ⟨by decide, Or.inr (Or.inr (Or.inl ⟨by decide +kernel, rfl, by decide⟩))⟩
theorem M_explore_151 : Kj M_explore 151 (.if_icmp .gt) 158 154 := ⟨7, by decide +kernel, by decide, rfl⟩
theorem M_explore_154 : Kc M_explore 154 1 155 := ⟨by decide, Or.inl ⟨by decide +kernel, rfl⟩⟩
theorem M_explore_155 : Kj M_explore 155 .goto 159 158 := ⟨4, by decide +kernel, by decide, rfl⟩
theorem M_explore_158 : Kc M_explore 158 0 159 := ⟨by decide, Or.inl ⟨by decide +kernel, rfl⟩⟩
theorem M_explore_159 : Kp M_explore 159 4 9 false .boolean false 162 := ⟨⟨60, by decide +kernel, rfl, fw_M_60⟩, ko_M_4_9, fun h => by cases h⟩
theorem M_explore_162 : Ka M_explore 162 0 163 := Or.inr ⟨0, by decide +kernel, rfl, rfl⟩
theorem M_explore_163 : Ka M_explore 163 0 164 := Or.inr ⟨0, by decide +kernel, rfl, rfl⟩
theorem M_explore_164 : Kg M_explore 164 4 9 false 167 := ⟨60, by decide +kernel, rfl, fw_M_60⟩
theorem M_explore_167 : Kj M_explore 167 (.ifCond .eq) 174 170 := ⟨7, by decide +kernel, by decide, rfl⟩
theorem M_explore_170 : Kc M_explore 170 0 171 := ⟨by decide, Or.inl ⟨by decide +kernel, rfl⟩⟩
theorem M_explore_171 : Kj M_explore 171 .goto 175 174 := ⟨4, by decide +kernel, by decide, rfl⟩
theorem M_explore_174 : Kc M_explore 174 1 175 := ⟨by decide, Or.inl ⟨by decide +kernel, rfl⟩⟩
theorem M_explore_175 : Kp M_explore 175 4 0 false .int false 178 := ⟨⟨57, by decide +kernel, rfl, fw_M_57⟩, ko_M_4_0, fun h => by cases h⟩
theorem M_explore_178 : Ka M_explore 178 0 179 := Or.inr ⟨0, by decide +kernel, rfl, rfl⟩
theorem M_explore_179 : Kg M_explore 179 4 9 false 182 := ⟨60, by decide +kernel, rfl, fw_M_60⟩
theorem M_explore_182 : Kj M_explore 182 (.ifCond .eq) 192 185 := ⟨10, by decide +kernel, by decide, rfl⟩
theorem M_explore_185 : Ka M_explore 185 0 186 := Or.inr ⟨0, by decide +kernel, rfl, rfl⟩
theorem M_explore_186 : Kg M_explore 186 4 10 false 189 := ⟨91, by decide +kernel, rfl, fw_M_91⟩
theorem M_explore_189 : Kj M_explore 189 .goto 193 192 := ⟨4, by decide +kernel, by decide, rfl⟩
theorem M_explore_192 : Kc M_explore 192 0 193 := ⟨by decide, Or.inl ⟨by decide +kernel, rfl⟩⟩
theorem M_explore_193 : K1 M_explore 193 .ireturn 194 := ⟨by decide +kernel, rfl⟩
theorem M_isLeaf_0 : Kc M_isLeaf 0 0 1 := ⟨by decide, Or.inl ⟨by decide +kernel, rfl⟩⟩
theorem M_isLeaf_1 : Ks M_isLeaf 1 2 2 := ⟨by decide, Or.inr ⟨2, by decide +kernel, rfl, rfl⟩⟩
theorem M_isLeaf_2 : Ka M_isLeaf 2 0 3 := Or.inr ⟨0, by decide +kernel, rfl, rfl⟩
theorem M_isLeaf_3 : Kg M_isLeaf 3 4 12 true 6 := ⟨28, by decide +kernel, rfl, fw_M_28⟩
theorem M_isLeaf_6 : Ki M_isLeaf 6 1 7 := Or.inr ⟨1, by decide +kernel, rfl, rfl⟩
theorem M_isLeaf_7 : K1 M_isLeaf 7 .iaload 8 := ⟨by decide +kernel, rfl⟩
theorem M_isLeaf_8 : Ks M_isLeaf 8 3 9 := ⟨by decide, Or.inr ⟨3, by decide +kernel, rfl, rfl⟩⟩
theorem M_isLeaf_9 : Ki M_isLeaf 9 3 10 := Or.inr ⟨3, by decide +kernel, rfl, rfl⟩
theorem M_isLeaf_10 : Kj M_isLeaf 10 (.ifCond .lt) 34 13 := ⟨24, by decide +kernel, by decide, rfl⟩
theorem M_isLeaf_13 : Ki M_isLeaf 13 2 14 := Or.inr ⟨2, by decide +kernel, rfl, rfl⟩
theorem M_isLeaf_14 : Kj M_isLeaf 14 (.ifCond .ne) 34 17 := ⟨20, by decide +kernel, by decide, rfl⟩
theorem M_isLeaf_17 : Ka M_isLeaf 17 0 18 := Or.inr ⟨0, by decide +kernel, rfl, rfl⟩
theorem M_isLeaf_18 : Ki M_isLeaf 18 3 19 := Or.inr ⟨3, by decide +kernel, rfl, rfl⟩
theorem M_isLeaf_19 : Ki M_isLeaf 19 1 20 := Or.inr ⟨1, by decide +kernel, rfl, rfl⟩
theorem M_isLeaf_20 : KV M_isLeaf 20 M_isSame 4 2 23 := ⟨M_isSame_q, by decide, w_735, ws_26, rfl, by decide +kernel, ⟨(RX4, TX4, 21), rfl, rfl⟩, 87, by decide +kernel, w_733⟩
theorem M_isLeaf_23 : Ks M_isLeaf 23 2 24 := ⟨by decide, Or.inr ⟨2, by decide +kernel, rfl, rfl⟩⟩
theorem M_isLeaf_24 : Ka M_isLeaf 24 0 25 := Or.inr ⟨0, by decide +kernel, rfl, rfl⟩
theorem M_isLeaf_25 : Kg M_isLeaf 25 4 12 true 28 := ⟨28, by decide +kernel, rfl, fw_M_28⟩
theorem M_isLeaf_28 : Ki M_isLeaf 28 3 29 := Or.inr ⟨3, by decide +kernel, rfl, rfl⟩
theorem M_isLeaf_29 : K1 M_isLeaf 29 .iaload 30 := ⟨by decide +kernel, rfl⟩
theorem M_isLeaf_30 : Ks M_isLeaf 30 3 31 := ⟨by decide, Or.inr ⟨3, by decide +kernel, rfl, rfl⟩⟩
theorem M_isLeaf_31 : Kj M_isLeaf 31 .goto 9 34 := ⟨(-22), by decide +kernel, by decide, rfl⟩
theorem M_isLeaf_34 : Ki M_isLeaf 34 2 35 := Or.inr ⟨2, by decide +kernel, rfl, rfl⟩
theorem M_isLeaf_35 : K1 M_isLeaf 35 .ireturn 36 := ⟨by decide +kernel, rfl⟩
theorem M_isSame_0 : Ka M_isSame 0 0 1 := Or.inr ⟨0, by decide +kernel, rfl, rfl⟩
theorem M_isSame_1 : Ki M_isSame 1 1 2 := Or.inr ⟨1, by decide +kernel, rfl, rfl⟩
theorem M_isSame_2 : Ki M_isSame 2 2 3 := Or.inr ⟨2, by decide +kernel, rfl, rfl⟩
theorem M_isSame_3 : KV M_isSame 3 M_isBelow 4 2 6 := ⟨M_isBelow_q, by decide, w_739, ws_27, rfl, by decide +kernel, ⟨(RX4, TX4, 21), rfl, rfl⟩, 83, by decide +kernel, w_737⟩
theorem M_isSame_6 : Kj M_isSame 6 (.ifCond .eq) 22 9 := ⟨16, by decide +kernel, by decide, rfl⟩
theorem M_isSame_9 : Ka M_isSame 9 0 10 := Or.inr ⟨0, by decide +kernel, rfl, rfl⟩
theorem M_isSame_10 : Ki M_isSame 10 2 11 := Or.inr ⟨2, by decide +kernel, rfl, rfl⟩
theorem M_isSame_11 : Ki M_isSame 11 1 12 := Or.inr ⟨1, by decide +kernel, rfl, rfl⟩
theorem M_isSame_12 : KV M_isSame 12 M_isBelow 4 2 15 := ⟨M_isBelow_q, by decide, w_739, ws_27, rfl, by decide +kernel, ⟨(RX4, TX4, 21), rfl, rfl⟩, 83, by decide +kernel, w_737⟩
theorem M_isSame_15 : Kj M_isSame 15 (.ifCond .eq) 22 18 := ⟨7, by decide +kernel, by decide, rfl⟩
theorem M_isSame_18 : Kc M_isSame 18 1 19 := ⟨by decide, Or.inl ⟨by decide +kernel, rfl⟩⟩
theorem M_isSame_19 : Kj M_isSame 19 .goto 23 22 := ⟨4, by decide +kernel, by decide, rfl⟩
theorem M_isSame_22 : Kc M_isSame 22 0 23 := ⟨by decide, Or.inl ⟨by decide +kernel, rfl⟩⟩
theorem M_isSame_23 : K1 M_isSame 23 .ireturn 24 := ⟨by decide +kernel, rfl⟩
theorem M_isBelow_0 : Kc M_isBelow 0 1 1 := ⟨by decide, Or.inl ⟨by decide +kernel, rfl⟩⟩
theorem M_isBelow_1 : Ks M_isBelow 1 3 2 := ⟨by decide, Or.inr ⟨3, by decide +kernel, rfl, rfl⟩⟩
theorem M_isBelow_2 : Kc M_isBelow 2 0 3 := ⟨by decide, Or.inl ⟨by decide +kernel, rfl⟩⟩
theorem M_isBelow_3 : Ks M_isBelow 3 4 5 := ⟨by decide, Or.inl ⟨by decide +kernel, rfl⟩⟩
theorem M_isBelow_5 : Ki M_isBelow 5 4 7 := Or.inl ⟨by decide +kernel, rfl⟩
theorem M_isBelow_7 : Ka M_isBelow 7 0 8 := Or.inr ⟨0, by decide +kernel, rfl, rfl⟩
theorem M_isBelow_8 : Kg M_isBelow 8 4 1 false 11 := ⟨50, by decide +kernel, rfl, fw_M_50⟩
theorem M_isBelow_11 : Kj M_isBelow 11 (.if_icmp .ge) 57 14 := ⟨46, by decide +kernel, by decide, rfl⟩
theorem M_isBelow_14 : Ki M_isBelow 14 3 15 := Or.inr ⟨3, by decide +kernel, rfl, rfl⟩
theorem M_isBelow_15 : Kj M_isBelow 15 (.ifCond .eq) 49 18 := ⟨34, by decide +kernel, by decide, rfl⟩
theorem M_isBelow_18 : Ka M_isBelow 18 0 19 := Or.inr ⟨0, by decide +kernel, rfl, rfl⟩
theorem M_isBelow_19 : Kg M_isBelow 19 4 11 true 22 := ⟨25, by decide +kernel, rfl, fw_M_25⟩
theorem M_isBelow_22 : Kc M_isBelow 22 6 24 := ⟨by decide, Or.inr (Or.inl ⟨by decide +kernel, rfl, by decide⟩)⟩
theorem M_isBelow_24 : Ki M_isBelow 24 1 25 := Or.inr ⟨1, by decide +kernel, rfl, rfl⟩
theorem M_isBelow_25 : K1 M_isBelow 25 .imul 26 := ⟨by decide +kernel, rfl⟩
theorem M_isBelow_26 : Ki M_isBelow 26 4 28 := Or.inl ⟨by decide +kernel, rfl⟩
theorem M_isBelow_28 : K1 M_isBelow 28 .iadd 29 := ⟨by decide +kernel, rfl⟩
theorem M_isBelow_29 : K1 M_isBelow 29 .iaload 30 := ⟨by decide +kernel, rfl⟩
theorem M_isBelow_30 : Ka M_isBelow 30 0 31 := Or.inr ⟨0, by decide +kernel, rfl, rfl⟩
theorem M_isBelow_31 : Kg M_isBelow 31 4 11 true 34 := ⟨25, by decide +kernel, rfl, fw_M_25⟩
theorem M_isBelow_34 : Kc M_isBelow 34 6 36 := ⟨by decide, Or.inr (Or.inl ⟨by decide +kernel, rfl, by decide⟩)⟩
theorem M_isBelow_36 : Ki M_isBelow 36 2 37 := Or.inr ⟨2, by decide +kernel, rfl, rfl⟩
theorem M_isBelow_37 : K1 M_isBelow 37 .imul 38 := ⟨by decide +kernel, rfl⟩
theorem M_isBelow_38 : Ki M_isBelow 38 4 40 := Or.inl ⟨by decide +kernel, rfl⟩
theorem M_isBelow_40 : K1 M_isBelow 40 .iadd 41 := ⟨by decide +kernel, rfl⟩
theorem M_isBelow_41 : K1 M_isBelow 41 .iaload 42 := ⟨by decide +kernel, rfl⟩
theorem M_isBelow_42 : Kj M_isBelow 42 (.if_icmp .gt) 49 45 := ⟨7, by decide +kernel, by decide, rfl⟩
theorem M_isBelow_45 : Kc M_isBelow 45 1 46 := ⟨by decide, Or.inl ⟨by decide +kernel, rfl⟩⟩
theorem M_isBelow_46 : Kj M_isBelow 46 .goto 50 49 := ⟨4, by decide +kernel, by decide, rfl⟩
theorem M_isBelow_49 : Kc M_isBelow 49 0 50 := ⟨by decide, Or.inl ⟨by decide +kernel, rfl⟩⟩
theorem M_isBelow_50 : Ks M_isBelow 50 3 51 := ⟨by decide, Or.inr ⟨3, by decide +kernel, rfl, rfl⟩⟩
theorem M_isBelow_51 : Kn M_isBelow 51 4 1 54 := ⟨by decide, by decide +kernel, rfl⟩
theorem M_isBelow_54 : Kj M_isBelow 54 .goto 5 57 := ⟨(-49), by decide +kernel, by decide, rfl⟩
theorem M_isBelow_57 : Ki M_isBelow 57 3 58 := Or.inr ⟨3, by decide +kernel, rfl, rfl⟩
theorem M_isBelow_58 : K1 M_isBelow 58 .ireturn 59 := ⟨by decide +kernel, rfl⟩
theorem M_isEnabled_0 : Kc M_isEnabled 0 1 1 := ⟨by decide, Or.inl ⟨by decide +kernel, rfl⟩⟩
theorem M_isEnabled_1 : Ks M_isEnabled 1 3 2 := ⟨by decide, Or.inr ⟨3, by decide +kernel, rfl, rfl⟩⟩
theorem M_isEnabled_2 : Kc M_isEnabled 2 0 3 := ⟨by decide, Or.inl ⟨by decide +kernel, rfl⟩⟩
theorem M_isEnabled_3 : Ks M_isEnabled 3 4 5 := ⟨by decide, Or.inl ⟨by decide +kernel, rfl⟩⟩
theorem M_isEnabled_5 : Ki M_isEnabled 5 4 7 := Or.inl ⟨by decide +kernel, rfl⟩
theorem M_isEnabled_7 : Ka M_isEnabled 7 0 8 := Or.inr ⟨0, by decide +kernel, rfl, rfl⟩
theorem M_isEnabled_8 : Kg M_isEnabled 8 4 1 false 11 := ⟨50, by decide +kernel, rfl, fw_M_50⟩
theorem M_isEnabled_11 : Kj M_isEnabled 11 (.if_icmp .ge) 57 14 := ⟨46, by decide +kernel, by decide, rfl⟩
theorem M_isEnabled_14 : Ki M_isEnabled 14 3 15 := Or.inr ⟨3, by decide +kernel, rfl, rfl⟩
theorem M_isEnabled_15 : Kj M_isEnabled 15 (.ifCond .eq) 49 18 := ⟨34, by decide +kernel, by decide, rfl⟩
theorem M_isEnabled_18 : Ka M_isEnabled 18 0 19 := Or.inr ⟨0, by decide +kernel, rfl, rfl⟩
theorem M_isEnabled_19 : Kg M_isEnabled 19 4 11 true 22 := ⟨25, by decide +kernel, rfl, fw_M_25⟩
theorem M_isEnabled_22 : Kc M_isEnabled 22 6 24 := ⟨by decide, Or.inr (Or.inl ⟨by decide +kernel, rfl, by decide⟩)⟩
theorem M_isEnabled_24 : Ki M_isEnabled 24 1 25 := Or.inr ⟨1, by decide +kernel, rfl, rfl⟩
theorem M_isEnabled_25 : K1 M_isEnabled 25 .imul 26 := ⟨by decide +kernel, rfl⟩
theorem M_isEnabled_26 : Ki M_isEnabled 26 4 28 := Or.inl ⟨by decide +kernel, rfl⟩
theorem M_isEnabled_28 : K1 M_isEnabled 28 .iadd 29 := ⟨by decide +kernel, rfl⟩
theorem M_isEnabled_29 : K1 M_isEnabled 29 .iaload 30 := ⟨by decide +kernel, rfl⟩
theorem M_isEnabled_30 : Ka M_isEnabled 30 0 31 := Or.inr ⟨0, by decide +kernel, rfl, rfl⟩
theorem M_isEnabled_31 : Kg M_isEnabled 31 4 3 true 34 := ⟨7, by decide +kernel, rfl, fw_M_7⟩
theorem M_isEnabled_34 : Kc M_isEnabled 34 6 36 := ⟨by decide, Or.inr (Or.inl ⟨by decide +kernel, rfl, by decide⟩)⟩
theorem M_isEnabled_36 : Ki M_isEnabled 36 2 37 := Or.inr ⟨2, by decide +kernel, rfl, rfl⟩
theorem M_isEnabled_37 : K1 M_isEnabled 37 .imul 38 := ⟨by decide +kernel, rfl⟩
theorem M_isEnabled_38 : Ki M_isEnabled 38 4 40 := Or.inl ⟨by decide +kernel, rfl⟩
theorem M_isEnabled_40 : K1 M_isEnabled 40 .iadd 41 := ⟨by decide +kernel, rfl⟩
theorem M_isEnabled_41 : K1 M_isEnabled 41 .iaload 42 := ⟨by decide +kernel, rfl⟩
theorem M_isEnabled_42 : Kj M_isEnabled 42 (.if_icmp .lt) 49 45 := ⟨7, by decide +kernel, by decide, rfl⟩
theorem M_isEnabled_45 : Kc M_isEnabled 45 1 46 := ⟨by decide, Or.inl ⟨by decide +kernel, rfl⟩⟩
theorem M_isEnabled_46 : Kj M_isEnabled 46 .goto 50 49 := ⟨4, by decide +kernel, by decide, rfl⟩
theorem M_isEnabled_49 : Kc M_isEnabled 49 0 50 := ⟨by decide, Or.inl ⟨by decide +kernel, rfl⟩⟩
theorem M_isEnabled_50 : Ks M_isEnabled 50 3 51 := ⟨by decide, Or.inr ⟨3, by decide +kernel, rfl, rfl⟩⟩
theorem M_isEnabled_51 : Kn M_isEnabled 51 4 1 54 := ⟨by decide, by decide +kernel, rfl⟩
theorem M_isEnabled_54 : Kj M_isEnabled 54 .goto 5 57 := ⟨(-49), by decide +kernel, by decide, rfl⟩
theorem M_isEnabled_57 : Ki M_isEnabled 57 3 58 := Or.inr ⟨3, by decide +kernel, rfl, rfl⟩
theorem M_isEnabled_58 : K1 M_isEnabled 58 .ireturn 59 := ⟨by decide +kernel, rfl⟩
theorem M_grow_0 : Ka M_grow 0 0 1 := Or.inr ⟨0, by decide +kernel, rfl, rfl⟩
theorem M_grow_1 : Kg M_grow 1 4 10 false 4 := ⟨91, by decide +kernel, rfl, fw_M_91⟩
theorem M_grow_4 : Ks M_grow 4 3 5 := ⟨by decide, Or.inr ⟨3, by decide +kernel, rfl, rfl⟩⟩
theorem M_grow_5 : Kc M_grow 5 0 6 := ⟨by decide, Or.inl ⟨by decide +kernel, rfl⟩⟩
theorem M_grow_6 : Ks M_grow 6 4 8 := ⟨by decide, Or.inl ⟨by decide +kernel, rfl⟩⟩
theorem M_grow_8 : Ki M_grow 8 4 10 := Or.inl ⟨by decide +kernel, rfl⟩
theorem M_grow_10 : Ka M_grow 10 0 11 := Or.inr ⟨0, by decide +kernel, rfl, rfl⟩
theorem M_grow_11 : Kg M_grow 11 4 1 false 14 := ⟨50, by decide +kernel, rfl, fw_M_50⟩
theorem M_grow_14 : Kj M_grow 14 (.if_icmp .ge) 89 17 := ⟨75, by decide +kernel, by decide, rfl⟩
theorem M_grow_17 : Ka M_grow 17 0 18 := Or.inr ⟨0, by decide +kernel, rfl, rfl⟩
theorem M_grow_18 : Kg M_grow 18 4 11 true 21 := ⟨25, by decide +kernel, rfl, fw_M_25⟩
theorem M_grow_21 : Kc M_grow 21 6 23 := ⟨by decide, Or.inr (Or.inl ⟨by decide +kernel, rfl, by decide⟩)⟩
theorem M_grow_23 : Ki M_grow 23 1 24 := Or.inr ⟨1, by decide +kernel, rfl, rfl⟩
theorem M_grow_24 : K1 M_grow 24 .imul 25 := ⟨by decide +kernel, rfl⟩
theorem M_grow_25 : Ki M_grow 25 4 27 := Or.inl ⟨by decide +kernel, rfl⟩
theorem M_grow_27 : K1 M_grow 27 .iadd 28 := ⟨by decide +kernel, rfl⟩
theorem M_grow_28 : K1 M_grow 28 .iaload 29 := ⟨by decide +kernel, rfl⟩
theorem M_grow_29 : Ks M_grow 29 5 31 := ⟨by decide, Or.inl ⟨by decide +kernel, rfl⟩⟩
theorem M_grow_31 : Ka M_grow 31 0 32 := Or.inr ⟨0, by decide +kernel, rfl, rfl⟩
theorem M_grow_32 : Kg M_grow 32 4 11 true 35 := ⟨25, by decide +kernel, rfl, fw_M_25⟩
theorem M_grow_35 : Kc M_grow 35 6 37 := ⟨by decide, Or.inr (Or.inl ⟨by decide +kernel, rfl, by decide⟩)⟩
theorem M_grow_37 : Ki M_grow 37 3 38 := Or.inr ⟨3, by decide +kernel, rfl, rfl⟩
theorem M_grow_38 : K1 M_grow 38 .imul 39 := ⟨by decide +kernel, rfl⟩
theorem M_grow_39 : Ki M_grow 39 4 41 := Or.inl ⟨by decide +kernel, rfl⟩
theorem M_grow_41 : K1 M_grow 41 .iadd 42 := ⟨by decide +kernel, rfl⟩
theorem M_grow_42 : Ki M_grow 42 5 44 := Or.inl ⟨by decide +kernel, rfl⟩
theorem M_grow_44 : Kc M_grow 44 1000000000 46 := ⟨by decide, Or.inr (Or.inr (Or.inr ⟨90, by decide +kernel, rfl, w_749, rfl⟩))⟩
theorem M_grow_46 : Kj M_grow 46 (.if_icmp .ne) 54 49 := ⟨8, by decide +kernel, by decide, rfl⟩
theorem M_grow_49 : Ki M_grow 49 5 51 := Or.inl ⟨by decide +kernel, rfl⟩
theorem M_grow_51 : Kj M_grow 51 .goto 82 54 := ⟨31, by decide +kernel, by decide, rfl⟩
theorem M_grow_54 : Ki M_grow 54 5 56 := Or.inl ⟨by decide +kernel, rfl⟩
theorem M_grow_56 : Ka M_grow 56 0 57 := Or.inr ⟨0, by decide +kernel, rfl, rfl⟩
theorem M_grow_57 : Kg M_grow 57 4 3 true 60 := ⟨7, by decide +kernel, rfl, fw_M_7⟩
theorem M_grow_60 : Kc M_grow 60 6 62 := ⟨by decide, Or.inr (Or.inl ⟨by decide +kernel, rfl, by decide⟩)⟩
theorem M_grow_62 : Ki M_grow 62 2 63 := Or.inr ⟨2, by decide +kernel, rfl, rfl⟩
theorem M_grow_63 : K1 M_grow 63 .imul 64 := ⟨by decide +kernel, rfl⟩
theorem M_grow_64 : Ki M_grow 64 4 66 := Or.inl ⟨by decide +kernel, rfl⟩
theorem M_grow_66 : K1 M_grow 66 .iadd 67 := ⟨by decide +kernel, rfl⟩
theorem M_grow_67 : K1 M_grow 67 .iaload 68 := ⟨by decide +kernel, rfl⟩
theorem M_grow_68 : K1 M_grow 68 .isub 69 := ⟨by decide +kernel, rfl⟩
theorem M_grow_69 : Ka M_grow 69 0 70 := Or.inr ⟨0, by decide +kernel, rfl, rfl⟩
theorem M_grow_70 : Kg M_grow 70 4 4 true 73 := ⟨13, by decide +kernel, rfl, fw_M_13⟩
theorem M_grow_73 : Kc M_grow 73 6 75 := ⟨by decide, Or.inr (Or.inl ⟨by decide +kernel, rfl, by decide⟩)⟩
theorem M_grow_75 : Ki M_grow 75 2 76 := Or.inr ⟨2, by decide +kernel, rfl, rfl⟩
theorem M_grow_76 : K1 M_grow 76 .imul 77 := ⟨by decide +kernel, rfl⟩
theorem M_grow_77 : Ki M_grow 77 4 79 := Or.inl ⟨by decide +kernel, rfl⟩
theorem M_grow_79 : K1 M_grow 79 .iadd 80 := ⟨by decide +kernel, rfl⟩
theorem M_grow_80 : K1 M_grow 80 .iaload 81 := ⟨by decide +kernel, rfl⟩
theorem M_grow_81 : K1 M_grow 81 .iadd 82 := ⟨by decide +kernel, rfl⟩
theorem M_grow_82 : K1 M_grow 82 .iastore 83 := ⟨by decide +kernel, rfl⟩
theorem M_grow_83 : Kn M_grow 83 4 1 86 := ⟨by decide, by decide +kernel, rfl⟩
theorem M_grow_86 : Kj M_grow 86 .goto 8 89 := ⟨(-78), by decide +kernel, by decide, rfl⟩
theorem M_grow_89 : Ka M_grow 89 0 90 := Or.inr ⟨0, by decide +kernel, rfl, rfl⟩
theorem M_grow_90 : Kg M_grow 90 4 12 true 93 := ⟨28, by decide +kernel, rfl, fw_M_28⟩
theorem M_grow_93 : Ki M_grow 93 3 94 := Or.inr ⟨3, by decide +kernel, rfl, rfl⟩
theorem M_grow_94 : Ki M_grow 94 1 95 := Or.inr ⟨1, by decide +kernel, rfl, rfl⟩
theorem M_grow_95 : K1 M_grow 95 .iastore 96 := ⟨by decide +kernel, rfl⟩
theorem M_grow_96 : Ka M_grow 96 0 97 := Or.inr ⟨0, by decide +kernel, rfl, rfl⟩
theorem M_grow_97 : Kg M_grow 97 4 13 true 100 := ⟨31, by decide +kernel, rfl, fw_M_31⟩
theorem M_grow_100 : Ki M_grow 100 3 101 := Or.inr ⟨3, by decide +kernel, rfl, rfl⟩
theorem M_grow_101 : Ki M_grow 101 2 102 := Or.inr ⟨2, by decide +kernel, rfl, rfl⟩
theorem M_grow_102 : K1 M_grow 102 .iastore 103 := ⟨by decide +kernel, rfl⟩
theorem M_grow_103 : Ka M_grow 103 0 104 := Or.inr ⟨0, by decide +kernel, rfl, rfl⟩
theorem M_grow_104 : Kg M_grow 104 4 14 true 107 := ⟨34, by decide +kernel, rfl, fw_M_34⟩
theorem M_grow_107 : Ki M_grow 107 3 108 := Or.inr ⟨3, by decide +kernel, rfl, rfl⟩
theorem M_grow_108 : Kc M_grow 108 0 109 := ⟨by decide, Or.inl ⟨by decide +kernel, rfl⟩⟩
theorem M_grow_109 : K1 M_grow 109 .bastore 110 := ⟨by decide +kernel, rfl⟩
theorem M_grow_110 : Kc M_grow 110 1 111 := ⟨by decide, Or.inl ⟨by decide +kernel, rfl⟩⟩
theorem M_grow_111 : Ks M_grow 111 4 113 := ⟨by decide, Or.inl ⟨by decide +kernel, rfl⟩⟩
theorem M_grow_113 : Ki M_grow 113 4 115 := Or.inl ⟨by decide +kernel, rfl⟩
theorem M_grow_115 : Kj M_grow 115 (.ifCond .eq) 128 118 := ⟨13, by decide +kernel, by decide, rfl⟩
theorem M_grow_118 : Ka M_grow 118 0 119 := Or.inr ⟨0, by decide +kernel, rfl, rfl⟩
theorem M_grow_119 : Ki M_grow 119 3 120 := Or.inr ⟨3, by decide +kernel, rfl, rfl⟩
theorem M_grow_120 : KV M_grow 120 M_raise 4 1 123 := ⟨M_raise_q, by decide, w_752, ws_30, rfl, by decide +kernel, ⟨(RX4, TX4, 21), rfl, rfl⟩, 94, by decide +kernel, w_750⟩
theorem M_grow_123 : Ks M_grow 123 4 125 := ⟨by decide, Or.inl ⟨by decide +kernel, rfl⟩⟩
theorem M_grow_125 : Kj M_grow 125 .goto 113 128 := ⟨(-12), by decide +kernel, by decide, rfl⟩
theorem M_grow_128 : Ka M_grow 128 0 129 := Or.inr ⟨0, by decide +kernel, rfl, rfl⟩
theorem M_grow_129 : K1 M_grow 129 .dup 130 := ⟨by decide +kernel, rfl⟩
theorem M_grow_130 : Kg M_grow 130 4 10 false 133 := ⟨91, by decide +kernel, rfl, fw_M_91⟩
theorem M_grow_133 : Kc M_grow 133 1 134 := ⟨by decide, Or.inl ⟨by decide +kernel, rfl⟩⟩
theorem M_grow_134 : K1 M_grow 134 .iadd 135 := ⟨by decide +kernel, rfl⟩
theorem M_grow_135 : Kp M_grow 135 4 10 false .int false 138 := ⟨⟨91, by decide +kernel, rfl, fw_M_91⟩, ko_M_4_10, fun h => by cases h⟩
theorem M_grow_138 : K1 M_grow 138 .return_ 139 := ⟨by decide +kernel, rfl⟩
theorem M_raise_0 : Kc M_raise 0 0 1 := ⟨by decide, Or.inl ⟨by decide +kernel, rfl⟩⟩
theorem M_raise_1 : Ks M_raise 1 2 2 := ⟨by decide, Or.inr ⟨2, by decide +kernel, rfl, rfl⟩⟩
theorem M_raise_2 : Ka M_raise 2 0 3 := Or.inr ⟨0, by decide +kernel, rfl, rfl⟩
theorem M_raise_3 : Kg M_raise 3 4 12 true 6 := ⟨28, by decide +kernel, rfl, fw_M_28⟩
theorem M_raise_6 : Ki M_raise 6 1 7 := Or.inr ⟨1, by decide +kernel, rfl, rfl⟩
theorem M_raise_7 : K1 M_raise 7 .iaload 8 := ⟨by decide +kernel, rfl⟩
theorem M_raise_8 : Ks M_raise 8 3 9 := ⟨by decide, Or.inr ⟨3, by decide +kernel, rfl, rfl⟩⟩
theorem M_raise_9 : Ki M_raise 9 3 10 := Or.inr ⟨3, by decide +kernel, rfl, rfl⟩
theorem M_raise_10 : Kj M_raise 10 (.ifCond .lt) 114 13 := ⟨104, by decide +kernel, by decide, rfl⟩
theorem M_raise_13 : Ka M_raise 13 0 14 := Or.inr ⟨0, by decide +kernel, rfl, rfl⟩
theorem M_raise_14 : Ki M_raise 14 3 15 := Or.inr ⟨3, by decide +kernel, rfl, rfl⟩
theorem M_raise_15 : Ki M_raise 15 1 16 := Or.inr ⟨1, by decide +kernel, rfl, rfl⟩
theorem M_raise_16 : KV M_raise 16 M_isBelow 4 2 19 := ⟨M_isBelow_q, by decide, w_739, ws_27, rfl, by decide +kernel, ⟨(RX4, TX4, 21), rfl, rfl⟩, 83, by decide +kernel, w_737⟩
theorem M_raise_19 : Ks M_raise 19 4 21 := ⟨by decide, Or.inl ⟨by decide +kernel, rfl⟩⟩
theorem M_raise_21 : Kc M_raise 21 0 22 := ⟨by decide, Or.inl ⟨by decide +kernel, rfl⟩⟩
theorem M_raise_22 : Ks M_raise 22 5 24 := ⟨by decide, Or.inl ⟨by decide +kernel, rfl⟩⟩
theorem M_raise_24 : Ki M_raise 24 5 26 := Or.inl ⟨by decide +kernel, rfl⟩
theorem M_raise_26 : Ka M_raise 26 0 27 := Or.inr ⟨0, by decide +kernel, rfl, rfl⟩
theorem M_raise_27 : Kg M_raise 27 4 1 false 30 := ⟨50, by decide +kernel, rfl, fw_M_50⟩
theorem M_raise_30 : Kj M_raise 30 (.if_icmp .ge) 104 33 := ⟨74, by decide +kernel, by decide, rfl⟩
theorem M_raise_33 : Ki M_raise 33 4 35 := Or.inl ⟨by decide +kernel, rfl⟩
theorem M_raise_35 : Kj M_raise 35 (.ifCond .eq) 104 38 := ⟨69, by decide +kernel, by decide, rfl⟩
theorem M_raise_38 : Ka M_raise 38 0 39 := Or.inr ⟨0, by decide +kernel, rfl, rfl⟩
theorem M_raise_39 : Kg M_raise 39 4 11 true 42 := ⟨25, by decide +kernel, rfl, fw_M_25⟩
theorem M_raise_42 : Kc M_raise 42 6 44 := ⟨by decide, Or.inr (Or.inl ⟨by decide +kernel, rfl, by decide⟩)⟩
theorem M_raise_44 : Ki M_raise 44 1 45 := Or.inr ⟨1, by decide +kernel, rfl, rfl⟩
theorem M_raise_45 : K1 M_raise 45 .imul 46 := ⟨by decide +kernel, rfl⟩
theorem M_raise_46 : Ki M_raise 46 5 48 := Or.inl ⟨by decide +kernel, rfl⟩
theorem M_raise_48 : K1 M_raise 48 .iadd 49 := ⟨by decide +kernel, rfl⟩
theorem M_raise_49 : K1 M_raise 49 .iaload 50 := ⟨by decide +kernel, rfl⟩
theorem M_raise_50 : Kc M_raise 50 1000000000 52 := ⟨by decide, Or.inr (Or.inr (Or.inr ⟨90, by decide +kernel, rfl, w_749, rfl⟩))⟩
theorem M_raise_52 : Kj M_raise 52 (.if_icmp .ge) 98 55 := ⟨46, by decide +kernel, by decide, rfl⟩
theorem M_raise_55 : Ka M_raise 55 0 56 := Or.inr ⟨0, by decide +kernel, rfl, rfl⟩
theorem M_raise_56 : Kg M_raise 56 4 11 true 59 := ⟨25, by decide +kernel, rfl, fw_M_25⟩
theorem M_raise_59 : Kc M_raise 59 6 61 := ⟨by decide, Or.inr (Or.inl ⟨by decide +kernel, rfl, by decide⟩)⟩
theorem M_raise_61 : Ki M_raise 61 3 62 := Or.inr ⟨3, by decide +kernel, rfl, rfl⟩
theorem M_raise_62 : K1 M_raise 62 .imul 63 := ⟨by decide +kernel, rfl⟩
theorem M_raise_63 : Ki M_raise 63 5 65 := Or.inl ⟨by decide +kernel, rfl⟩
theorem M_raise_65 : K1 M_raise 65 .iadd 66 := ⟨by decide +kernel, rfl⟩
theorem M_raise_66 : K1 M_raise 66 .iaload 67 := ⟨by decide +kernel, rfl⟩
theorem M_raise_67 : Ka M_raise 67 0 68 := Or.inr ⟨0, by decide +kernel, rfl, rfl⟩
theorem M_raise_68 : Kg M_raise 68 4 11 true 71 := ⟨25, by decide +kernel, rfl, fw_M_25⟩
theorem M_raise_71 : Kc M_raise 71 6 73 := ⟨by decide, Or.inr (Or.inl ⟨by decide +kernel, rfl, by decide⟩)⟩
theorem M_raise_73 : Ki M_raise 73 1 74 := Or.inr ⟨1, by decide +kernel, rfl, rfl⟩
theorem M_raise_74 : K1 M_raise 74 .imul 75 := ⟨by decide +kernel, rfl⟩
theorem M_raise_75 : Ki M_raise 75 5 77 := Or.inl ⟨by decide +kernel, rfl⟩
theorem M_raise_77 : K1 M_raise 77 .iadd 78 := ⟨by decide +kernel, rfl⟩
theorem M_raise_78 : K1 M_raise 78 .iaload 79 := ⟨by decide +kernel, rfl⟩
theorem M_raise_79 : Kj M_raise 79 (.if_icmp .ge) 98 82 := ⟨19, by decide +kernel, by decide, rfl⟩
theorem M_raise_82 : Ka M_raise 82 0 83 := Or.inr ⟨0, by decide +kernel, rfl, rfl⟩
theorem M_raise_83 : Kg M_raise 83 4 11 true 86 := ⟨25, by decide +kernel, rfl, fw_M_25⟩
theorem M_raise_86 : Kc M_raise 86 6 88 := ⟨by decide, Or.inr (Or.inl ⟨by decide +kernel, rfl, by decide⟩)⟩
theorem M_raise_88 : Ki M_raise 88 1 89 := Or.inr ⟨1, by decide +kernel, rfl, rfl⟩
theorem M_raise_89 : K1 M_raise 89 .imul 90 := ⟨by decide +kernel, rfl⟩
theorem M_raise_90 : Ki M_raise 90 5 92 := Or.inl ⟨by decide +kernel, rfl⟩
theorem M_raise_92 : K1 M_raise 92 .iadd 93 := ⟨by decide +kernel, rfl⟩
theorem M_raise_93 : Kc M_raise 93 1000000000 95 := ⟨by decide, Or.inr (Or.inr (Or.inr ⟨90, by decide +kernel, rfl, w_749, rfl⟩))⟩
theorem M_raise_95 : K1 M_raise 95 .iastore 96 := ⟨by decide +kernel, rfl⟩
theorem M_raise_96 : Kc M_raise 96 1 97 := ⟨by decide, Or.inl ⟨by decide +kernel, rfl⟩⟩
theorem M_raise_97 : Ks M_raise 97 2 98 := ⟨by decide, Or.inr ⟨2, by decide +kernel, rfl, rfl⟩⟩
theorem M_raise_98 : Kn M_raise 98 5 1 101 := ⟨by decide, by decide +kernel, rfl⟩
theorem M_raise_101 : Kj M_raise 101 .goto 24 104 := ⟨(-77), by decide +kernel, by decide, rfl⟩
theorem M_raise_104 : Ka M_raise 104 0 105 := Or.inr ⟨0, by decide +kernel, rfl, rfl⟩
theorem M_raise_105 : Kg M_raise 105 4 12 true 108 := ⟨28, by decide +kernel, rfl, fw_M_28⟩
theorem M_raise_108 : Ki M_raise 108 3 109 := Or.inr ⟨3, by decide +kernel, rfl, rfl⟩
theorem M_raise_109 : K1 M_raise 109 .iaload 110 := ⟨by decide +kernel, rfl⟩
theorem M_raise_110 : Ks M_raise 110 3 111 := ⟨by decide, Or.inr ⟨3, by decide +kernel, rfl, rfl⟩⟩
theorem M_raise_111 : Kj M_raise 111 .goto 9 114 := ⟨(-102), by decide +kernel, by decide, rfl⟩
theorem M_raise_114 : Ki M_raise 114 2 115 := Or.inr ⟨2, by decide +kernel, rfl, rfl⟩
theorem M_raise_115 : K1 M_raise 115 .ireturn 116 := ⟨by decide +kernel, rfl⟩
theorem M_count_0 : Ka M_count 0 0 1 := Or.inr ⟨0, by decide +kernel, rfl, rfl⟩
theorem M_count_1 : Ka M_count 1 0 2 := Or.inr ⟨0, by decide +kernel, rfl, rfl⟩
theorem M_count_2 : Kg M_count 2 4 9 false 5 := ⟨60, by decide +kernel, rfl, fw_M_60⟩
theorem M_count_5 : Kj M_count 5 (.ifCond .ne) 12 8 := ⟨7, by decide +kernel, by decide, rfl⟩
theorem M_count_8 : Kc M_count 8 1 9 := ⟨by decide, Or.inl ⟨by decide +kernel, rfl⟩⟩
theorem M_count_9 : Kj M_count 9 .goto 33 12 := ⟨24, by decide +kernel, by decide, rfl⟩
theorem M_count_12 : Ka M_count 12 0 13 := Or.inr ⟨0, by decide +kernel, rfl, rfl⟩
theorem M_count_13 : Ki M_count 13 1 14 := Or.inr ⟨1, by decide +kernel, rfl, rfl⟩
theorem M_count_14 : KV M_count 14 M_isNode 4 1 17 := ⟨M_isNode_q, by decide, w_760, ws_31, rfl, by decide +kernel, ⟨(RX4, TX4, 21), rfl, rfl⟩, 107, by decide +kernel, w_758⟩
theorem M_count_17 : Kj M_count 17 (.ifCond .eq) 28 20 := ⟨11, by decide +kernel, by decide, rfl⟩
theorem M_count_20 : Ka M_count 20 0 21 := Or.inr ⟨0, by decide +kernel, rfl, rfl⟩
theorem M_count_21 : Ki M_count 21 2 22 := Or.inr ⟨2, by decide +kernel, rfl, rfl⟩
theorem M_count_22 : KV M_count 22 M_isPlace 4 1 25 := ⟨M_isPlace_q, by decide, w_695, ws_22, rfl, by decide +kernel, ⟨(RX4, TX4, 21), rfl, rfl⟩, 71, by decide +kernel, w_693⟩
theorem M_count_25 : Kj M_count 25 (.ifCond .ne) 32 28 := ⟨7, by decide +kernel, by decide, rfl⟩
theorem M_count_28 : Kc M_count 28 2 29 := ⟨by decide, Or.inl ⟨by decide +kernel, rfl⟩⟩
theorem M_count_29 : Kj M_count 29 .goto 33 32 := ⟨4, by decide +kernel, by decide, rfl⟩
theorem M_count_32 : Kc M_count 32 0 33 := ⟨by decide, Or.inl ⟨by decide +kernel, rfl⟩⟩
theorem M_count_33 : Kp M_count 33 4 0 false .int false 36 := ⟨⟨57, by decide +kernel, rfl, fw_M_57⟩, ko_M_4_0, fun h => by cases h⟩
theorem M_count_36 : Ka M_count 36 0 37 := Or.inr ⟨0, by decide +kernel, rfl, rfl⟩
theorem M_count_37 : Kg M_count 37 4 0 false 40 := ⟨57, by decide +kernel, rfl, fw_M_57⟩
theorem M_count_40 : Kj M_count 40 (.ifCond .ne) 60 43 := ⟨20, by decide +kernel, by decide, rfl⟩
theorem M_count_43 : Ka M_count 43 0 44 := Or.inr ⟨0, by decide +kernel, rfl, rfl⟩
theorem M_count_44 : Kg M_count 44 4 11 true 47 := ⟨25, by decide +kernel, rfl, fw_M_25⟩
theorem M_count_47 : Kc M_count 47 6 49 := ⟨by decide, Or.inr (Or.inl ⟨by decide +kernel, rfl, by decide⟩)⟩
theorem M_count_49 : Ki M_count 49 1 50 := Or.inr ⟨1, by decide +kernel, rfl, rfl⟩
theorem M_count_50 : K1 M_count 50 .imul 51 := ⟨by decide +kernel, rfl⟩
theorem M_count_51 : Ki M_count 51 2 52 := Or.inr ⟨2, by decide +kernel, rfl, rfl⟩
theorem M_count_52 : K1 M_count 52 .iadd 53 := ⟨by decide +kernel, rfl⟩
theorem M_count_53 : K1 M_count 53 .iaload 54 := ⟨by decide +kernel, rfl⟩
theorem M_count_54 : KS M_count 54 M_told 1 57 := ⟨M_told_q, by decide, w_763, rfl, by decide +kernel, 110, by decide +kernel, Or.inl w_762⟩
theorem M_count_57 : Kj M_count 57 .goto 61 60 := ⟨4, by decide +kernel, by decide, rfl⟩
theorem M_count_60 : Kc M_count 60 0 61 := ⟨by decide, Or.inl ⟨by decide +kernel, rfl⟩⟩
theorem M_count_61 : K1 M_count 61 .ireturn 62 := ⟨by decide +kernel, rfl⟩
theorem M_isNode_0 : Ki M_isNode 0 1 1 := Or.inr ⟨1, by decide +kernel, rfl, rfl⟩
theorem M_isNode_1 : Kj M_isNode 1 (.ifCond .lt) 16 4 := ⟨15, by decide +kernel, by decide, rfl⟩
theorem M_isNode_4 : Ki M_isNode 4 1 5 := Or.inr ⟨1, by decide +kernel, rfl, rfl⟩
theorem M_isNode_5 : Ka M_isNode 5 0 6 := Or.inr ⟨0, by decide +kernel, rfl, rfl⟩
theorem M_isNode_6 : Kg M_isNode 6 4 10 false 9 := ⟨91, by decide +kernel, rfl, fw_M_91⟩
theorem M_isNode_9 : Kj M_isNode 9 (.if_icmp .ge) 16 12 := ⟨7, by decide +kernel, by decide, rfl⟩
theorem M_isNode_12 : Kc M_isNode 12 1 13 := ⟨by decide, Or.inl ⟨by decide +kernel, rfl⟩⟩
theorem M_isNode_13 : Kj M_isNode 13 .goto 17 16 := ⟨4, by decide +kernel, by decide, rfl⟩
theorem M_isNode_16 : Kc M_isNode 16 0 17 := ⟨by decide, Or.inl ⟨by decide +kernel, rfl⟩⟩
theorem M_isNode_17 : K1 M_isNode 17 .ireturn 18 := ⟨by decide +kernel, rfl⟩
theorem M_told_0 : Ki M_told 0 0 1 := Or.inr ⟨0, by decide +kernel, rfl, rfl⟩
theorem M_told_1 : Kc M_told 1 1000000000 3 := ⟨by decide, Or.inr (Or.inr (Or.inr ⟨90, by decide +kernel, rfl, w_749, rfl⟩))⟩
theorem M_told_3 : Kj M_told 3 (.if_icmp .ne) 10 6 := ⟨7, by decide +kernel, by decide, rfl⟩
theorem M_told_6 : Kc M_told 6 (-1) 7 := ⟨by decide, Or.inl ⟨by decide +kernel, rfl⟩⟩
theorem M_told_7 : Kj M_told 7 .goto 11 10 := ⟨4, by decide +kernel, by decide, rfl⟩
theorem M_told_10 : Ki M_told 10 0 11 := Or.inr ⟨0, by decide +kernel, rfl, rfl⟩
theorem M_told_11 : K1 M_told 11 .ireturn 12 := ⟨by decide +kernel, rfl⟩
theorem M_node_0 : Ka M_node 0 0 1 := Or.inr ⟨0, by decide +kernel, rfl, rfl⟩
theorem M_node_1 : Ka M_node 1 0 2 := Or.inr ⟨0, by decide +kernel, rfl, rfl⟩
theorem M_node_2 : Kg M_node 2 4 9 false 5 := ⟨60, by decide +kernel, rfl, fw_M_60⟩
theorem M_node_5 : Kj M_node 5 (.ifCond .ne) 12 8 := ⟨7, by decide +kernel, by decide, rfl⟩
theorem M_node_8 : Kc M_node 8 1 9 := ⟨by decide, Or.inl ⟨by decide +kernel, rfl⟩⟩
theorem M_node_9 : Kj M_node 9 .goto 38 12 := ⟨29, by decide +kernel, by decide, rfl⟩
theorem M_node_12 : Ka M_node 12 0 13 := Or.inr ⟨0, by decide +kernel, rfl, rfl⟩
theorem M_node_13 : Ki M_node 13 1 14 := Or.inr ⟨1, by decide +kernel, rfl, rfl⟩
theorem M_node_14 : KV M_node 14 M_isNode 4 1 17 := ⟨M_isNode_q, by decide, w_760, ws_31, rfl, by decide +kernel, ⟨(RX4, TX4, 21), rfl, rfl⟩, 107, by decide +kernel, w_758⟩
theorem M_node_17 : Kj M_node 17 (.ifCond .ne) 24 20 := ⟨7, by decide +kernel, by decide, rfl⟩
theorem M_node_20 : Kc M_node 20 2 21 := ⟨by decide, Or.inl ⟨by decide +kernel, rfl⟩⟩
theorem M_node_21 : Kj M_node 21 .goto 38 24 := ⟨17, by decide +kernel, by decide, rfl⟩
theorem M_node_24 : Ki M_node 24 2 25 := Or.inr ⟨2, by decide +kernel, rfl, rfl⟩
theorem M_node_25 : Kj M_node 25 (.ifCond .lt) 33 28 := ⟨8, by decide +kernel, by decide, rfl⟩
theorem M_node_28 : Ki M_node 28 2 29 := Or.inr ⟨2, by decide +kernel, rfl, rfl⟩
theorem M_node_29 : Kc M_node 29 2 30 := ⟨by decide, Or.inl ⟨by decide +kernel, rfl⟩⟩
theorem M_node_30 : Kj M_node 30 (.if_icmp .le) 37 33 := ⟨7, by decide +kernel, by decide, rfl⟩
theorem M_node_33 : Kc M_node 33 3 34 := ⟨by decide, Or.inl ⟨by decide +kernel, rfl⟩⟩
theorem M_node_34 : Kj M_node 34 .goto 38 37 := ⟨4, by decide +kernel, by decide, rfl⟩
theorem M_node_37 : Kc M_node 37 0 38 := ⟨by decide, Or.inl ⟨by decide +kernel, rfl⟩⟩
theorem M_node_38 : Kp M_node 38 4 0 false .int false 41 := ⟨⟨57, by decide +kernel, rfl, fw_M_57⟩, ko_M_4_0, fun h => by cases h⟩
theorem M_node_41 : Ka M_node 41 0 42 := Or.inr ⟨0, by decide +kernel, rfl, rfl⟩
theorem M_node_42 : Kg M_node 42 4 0 false 45 := ⟨57, by decide +kernel, rfl, fw_M_57⟩
theorem M_node_45 : Kj M_node 45 (.ifCond .le) 50 48 := ⟨5, by decide +kernel, by decide, rfl⟩
theorem M_node_48 : Kc M_node 48 0 49 := ⟨by decide, Or.inl ⟨by decide +kernel, rfl⟩⟩
theorem M_node_49 : K1 M_node 49 .ireturn 50 := ⟨by decide +kernel, rfl⟩
theorem M_node_50 : Ki M_node 50 2 51 := Or.inr ⟨2, by decide +kernel, rfl, rfl⟩
theorem M_node_51 : Kj M_node 51 (.ifCond .ne) 63 54 := ⟨12, by decide +kernel, by decide, rfl⟩
theorem M_node_54 : Ka M_node 54 0 55 := Or.inr ⟨0, by decide +kernel, rfl, rfl⟩
theorem M_node_55 : Kg M_node 55 4 12 true 58 := ⟨28, by decide +kernel, rfl, fw_M_28⟩
theorem M_node_58 : Ki M_node 58 1 59 := Or.inr ⟨1, by decide +kernel, rfl, rfl⟩
theorem M_node_59 : K1 M_node 59 .iaload 60 := ⟨by decide +kernel, rfl⟩
theorem M_node_60 : Kj M_node 60 .goto 91 63 := ⟨31, by decide +kernel, by decide, rfl⟩
theorem M_node_63 : Ki M_node 63 2 64 := Or.inr ⟨2, by decide +kernel, rfl, rfl⟩
theorem M_node_64 : Kc M_node 64 1 65 := ⟨by decide, Or.inl ⟨by decide +kernel, rfl⟩⟩
theorem M_node_65 : Kj M_node 65 (.if_icmp .ne) 77 68 := ⟨12, by decide +kernel, by decide, rfl⟩
theorem M_node_68 : Ka M_node 68 0 69 := Or.inr ⟨0, by decide +kernel, rfl, rfl⟩
theorem M_node_69 : Kg M_node 69 4 13 true 72 := ⟨31, by decide +kernel, rfl, fw_M_31⟩
theorem M_node_72 : Ki M_node 72 1 73 := Or.inr ⟨1, by decide +kernel, rfl, rfl⟩
theorem M_node_73 : K1 M_node 73 .iaload 74 := ⟨by decide +kernel, rfl⟩
theorem M_node_74 : Kj M_node 74 .goto 91 77 := ⟨17, by decide +kernel, by decide, rfl⟩
theorem M_node_77 : Ka M_node 77 0 78 := Or.inr ⟨0, by decide +kernel, rfl, rfl⟩
theorem M_node_78 : Kg M_node 78 4 14 true 81 := ⟨34, by decide +kernel, rfl, fw_M_34⟩
theorem M_node_81 : Ki M_node 81 1 82 := Or.inr ⟨1, by decide +kernel, rfl, rfl⟩
theorem M_node_82 : K1 M_node 82 .baload 83 := ⟨by decide +kernel, rfl⟩
theorem M_node_83 : Kj M_node 83 (.ifCond .eq) 90 86 := ⟨7, by decide +kernel, by decide, rfl⟩
theorem M_node_86 : Kc M_node 86 1 87 := ⟨by decide, Or.inl ⟨by decide +kernel, rfl⟩⟩
theorem M_node_87 : Kj M_node 87 .goto 91 90 := ⟨4, by decide +kernel, by decide, rfl⟩
theorem M_node_90 : Kc M_node 90 0 91 := ⟨by decide, Or.inl ⟨by decide +kernel, rfl⟩⟩
theorem M_node_91 : K1 M_node 91 .ireturn 92 := ⟨by decide +kernel, rfl⟩
theorem M_path_0 : Ka M_path 0 0 1 := Or.inr ⟨0, by decide +kernel, rfl, rfl⟩
theorem M_path_1 : Ka M_path 1 0 2 := Or.inr ⟨0, by decide +kernel, rfl, rfl⟩
theorem M_path_2 : Kg M_path 2 4 9 false 5 := ⟨60, by decide +kernel, rfl, fw_M_60⟩
theorem M_path_5 : Kj M_path 5 (.ifCond .ne) 12 8 := ⟨7, by decide +kernel, by decide, rfl⟩
theorem M_path_8 : Kc M_path 8 1 9 := ⟨by decide, Or.inl ⟨by decide +kernel, rfl⟩⟩
theorem M_path_9 : Kj M_path 9 .goto 25 12 := ⟨16, by decide +kernel, by decide, rfl⟩
theorem M_path_12 : Ka M_path 12 0 13 := Or.inr ⟨0, by decide +kernel, rfl, rfl⟩
theorem M_path_13 : Ki M_path 13 1 14 := Or.inr ⟨1, by decide +kernel, rfl, rfl⟩
theorem M_path_14 : KV M_path 14 M_isNode 4 1 17 := ⟨M_isNode_q, by decide, w_760, ws_31, rfl, by decide +kernel, ⟨(RX4, TX4, 21), rfl, rfl⟩, 107, by decide +kernel, w_758⟩
theorem M_path_17 : Kj M_path 17 (.ifCond .ne) 24 20 := ⟨7, by decide +kernel, by decide, rfl⟩
theorem M_path_20 : Kc M_path 20 2 21 := ⟨by decide, Or.inl ⟨by decide +kernel, rfl⟩⟩
theorem M_path_21 : Kj M_path 21 .goto 25 24 := ⟨4, by decide +kernel, by decide, rfl⟩
theorem M_path_24 : Kc M_path 24 0 25 := ⟨by decide, Or.inl ⟨by decide +kernel, rfl⟩⟩
theorem M_path_25 : Kp M_path 25 4 0 false .int false 28 := ⟨⟨57, by decide +kernel, rfl, fw_M_57⟩, ko_M_4_0, fun h => by cases h⟩
theorem M_path_28 : Ka M_path 28 0 29 := Or.inr ⟨0, by decide +kernel, rfl, rfl⟩
theorem M_path_29 : Kg M_path 29 4 0 false 32 := ⟨57, by decide +kernel, rfl, fw_M_57⟩
theorem M_path_32 : Kj M_path 32 (.ifCond .le) 37 35 := ⟨5, by decide +kernel, by decide, rfl⟩
theorem M_path_35 : Kc M_path 35 0 36 := ⟨by decide, Or.inl ⟨by decide +kernel, rfl⟩⟩
theorem M_path_36 : K1 M_path 36 .ireturn 37 := ⟨by decide +kernel, rfl⟩
theorem M_path_37 : Ka M_path 37 0 38 := Or.inr ⟨0, by decide +kernel, rfl, rfl⟩
theorem M_path_38 : Ki M_path 38 1 39 := Or.inr ⟨1, by decide +kernel, rfl, rfl⟩
theorem M_path_39 : KV M_path 39 M_depth 4 1 42 := ⟨M_depth_q, by decide, w_775, ws_32, rfl, by decide +kernel, ⟨(RX4, TX4, 21), rfl, rfl⟩, 114, by decide +kernel, w_773⟩
theorem M_path_42 : Ks M_path 42 3 43 := ⟨by decide, Or.inr ⟨3, by decide +kernel, rfl, rfl⟩⟩
theorem M_path_43 : Ka M_path 43 0 44 := Or.inr ⟨0, by decide +kernel, rfl, rfl⟩
theorem M_path_44 : Ki M_path 44 2 45 := Or.inr ⟨2, by decide +kernel, rfl, rfl⟩
theorem M_path_45 : Kj M_path 45 (.ifCond .lt) 53 48 := ⟨8, by decide +kernel, by decide, rfl⟩
theorem M_path_48 : Ki M_path 48 2 49 := Or.inr ⟨2, by decide +kernel, rfl, rfl⟩
theorem M_path_49 : Ki M_path 49 3 50 := Or.inr ⟨3, by decide +kernel, rfl, rfl⟩
theorem M_path_50 : Kj M_path 50 (.if_icmp .lt) 57 53 := ⟨7, by decide +kernel, by decide, rfl⟩
theorem M_path_53 : Kc M_path 53 2 54 := ⟨by decide, Or.inl ⟨by decide +kernel, rfl⟩⟩
theorem M_path_54 : Kj M_path 54 .goto 58 57 := ⟨4, by decide +kernel, by decide, rfl⟩
theorem M_path_57 : Kc M_path 57 0 58 := ⟨by decide, Or.inl ⟨by decide +kernel, rfl⟩⟩
theorem M_path_58 : Kp M_path 58 4 0 false .int false 61 := ⟨⟨57, by decide +kernel, rfl, fw_M_57⟩, ko_M_4_0, fun h => by cases h⟩
theorem M_path_61 : Ka M_path 61 0 62 := Or.inr ⟨0, by decide +kernel, rfl, rfl⟩
theorem M_path_62 : Kg M_path 62 4 0 false 65 := ⟨57, by decide +kernel, rfl, fw_M_57⟩
theorem M_path_65 : Kj M_path 65 (.ifCond .le) 70 68 := ⟨5, by decide +kernel, by decide, rfl⟩
theorem M_path_68 : Kc M_path 68 0 69 := ⟨by decide, Or.inl ⟨by decide +kernel, rfl⟩⟩
theorem M_path_69 : K1 M_path 69 .ireturn 70 := ⟨by decide +kernel, rfl⟩
theorem M_path_70 : Ki M_path 70 1 71 := Or.inr ⟨1, by decide +kernel, rfl, rfl⟩
theorem M_path_71 : Ks M_path 71 4 73 := ⟨by decide, Or.inl ⟨by decide +kernel, rfl⟩⟩
theorem M_path_73 : Ki M_path 73 3 74 := Or.inr ⟨3, by decide +kernel, rfl, rfl⟩
theorem M_path_74 : Kc M_path 74 1 75 := ⟨by decide, Or.inl ⟨by decide +kernel, rfl⟩⟩
theorem M_path_75 : K1 M_path 75 .isub 76 := ⟨by decide +kernel, rfl⟩
theorem M_path_76 : Ks M_path 76 5 78 := ⟨by decide, Or.inl ⟨by decide +kernel, rfl⟩⟩
theorem M_path_78 : Ki M_path 78 5 80 := Or.inl ⟨by decide +kernel, rfl⟩
theorem M_path_80 : Ki M_path 80 2 81 := Or.inr ⟨2, by decide +kernel, rfl, rfl⟩
theorem M_path_81 : Kj M_path 81 (.if_icmp .le) 99 84 := ⟨18, by decide +kernel, by decide, rfl⟩
theorem M_path_84 : Ka M_path 84 0 85 := Or.inr ⟨0, by decide +kernel, rfl, rfl⟩
theorem M_path_85 : Kg M_path 85 4 12 true 88 := ⟨28, by decide +kernel, rfl, fw_M_28⟩
theorem M_path_88 : Ki M_path 88 4 90 := Or.inl ⟨by decide +kernel, rfl⟩
theorem M_path_90 : K1 M_path 90 .iaload 91 := ⟨by decide +kernel, rfl⟩
theorem M_path_91 : Ks M_path 91 4 93 := ⟨by decide, Or.inl ⟨by decide +kernel, rfl⟩⟩
theorem M_path_93 : Kn M_path 93 5 (-1) 96 := ⟨by decide, by decide +kernel, rfl⟩
theorem M_path_96 : Kj M_path 96 .goto 78 99 := ⟨(-18), by decide +kernel, by decide, rfl⟩
theorem M_path_99 : Ka M_path 99 0 100 := Or.inr ⟨0, by decide +kernel, rfl, rfl⟩
theorem M_path_100 : Kg M_path 100 4 13 true 103 := ⟨31, by decide +kernel, rfl, fw_M_31⟩
theorem M_path_103 : Ki M_path 103 4 105 := Or.inl ⟨by decide +kernel, rfl⟩
theorem M_path_105 : K1 M_path 105 .iaload 106 := ⟨by decide +kernel, rfl⟩
theorem M_path_106 : K1 M_path 106 .ireturn 107 := ⟨by decide +kernel, rfl⟩
theorem M_depth_0 : Kc M_depth 0 0 1 := ⟨by decide, Or.inl ⟨by decide +kernel, rfl⟩⟩
theorem M_depth_1 : Ks M_depth 1 2 2 := ⟨by decide, Or.inr ⟨2, by decide +kernel, rfl, rfl⟩⟩
theorem M_depth_2 : Ki M_depth 2 1 3 := Or.inr ⟨1, by decide +kernel, rfl, rfl⟩
theorem M_depth_3 : Ks M_depth 3 3 4 := ⟨by decide, Or.inr ⟨3, by decide +kernel, rfl, rfl⟩⟩
theorem M_depth_4 : Ki M_depth 4 3 5 := Or.inr ⟨3, by decide +kernel, rfl, rfl⟩
theorem M_depth_5 : Kj M_depth 5 (.ifCond .le) 21 8 := ⟨16, by decide +kernel, by decide, rfl⟩
theorem M_depth_8 : Kn M_depth 8 2 1 11 := ⟨by decide, by decide +kernel, rfl⟩
theorem M_depth_11 : Ka M_depth 11 0 12 := Or.inr ⟨0, by decide +kernel, rfl, rfl⟩
theorem M_depth_12 : Kg M_depth 12 4 12 true 15 := ⟨28, by decide +kernel, rfl, fw_M_28⟩
theorem M_depth_15 : Ki M_depth 15 3 16 := Or.inr ⟨3, by decide +kernel, rfl, rfl⟩
theorem M_depth_16 : K1 M_depth 16 .iaload 17 := ⟨by decide +kernel, rfl⟩
theorem M_depth_17 : Ks M_depth 17 3 18 := ⟨by decide, Or.inr ⟨3, by decide +kernel, rfl, rfl⟩⟩
theorem M_depth_18 : Kj M_depth 18 .goto 4 21 := ⟨(-14), by decide +kernel, by decide, rfl⟩
theorem M_depth_21 : Ki M_depth 21 2 22 := Or.inr ⟨2, by decide +kernel, rfl, rfl⟩
theorem M_depth_22 : K1 M_depth 22 .ireturn 23 := ⟨by decide +kernel, rfl⟩
theorem M_bound_0 : Ka M_bound 0 0 1 := Or.inr ⟨0, by decide +kernel, rfl, rfl⟩
theorem M_bound_1 : Ka M_bound 1 0 2 := Or.inr ⟨0, by decide +kernel, rfl, rfl⟩
theorem M_bound_2 : Kg M_bound 2 4 9 false 5 := ⟨60, by decide +kernel, rfl, fw_M_60⟩
theorem M_bound_5 : Kj M_bound 5 (.ifCond .ne) 12 8 := ⟨7, by decide +kernel, by decide, rfl⟩
theorem M_bound_8 : Kc M_bound 8 1 9 := ⟨by decide, Or.inl ⟨by decide +kernel, rfl⟩⟩
theorem M_bound_9 : Kj M_bound 9 .goto 25 12 := ⟨16, by decide +kernel, by decide, rfl⟩
theorem M_bound_12 : Ka M_bound 12 0 13 := Or.inr ⟨0, by decide +kernel, rfl, rfl⟩
theorem M_bound_13 : Ki M_bound 13 1 14 := Or.inr ⟨1, by decide +kernel, rfl, rfl⟩
theorem M_bound_14 : KV M_bound 14 M_isPlace 4 1 17 := ⟨M_isPlace_q, by decide, w_695, ws_22, rfl, by decide +kernel, ⟨(RX4, TX4, 21), rfl, rfl⟩, 71, by decide +kernel, w_693⟩
theorem M_bound_17 : Kj M_bound 17 (.ifCond .ne) 24 20 := ⟨7, by decide +kernel, by decide, rfl⟩
theorem M_bound_20 : Kc M_bound 20 2 21 := ⟨by decide, Or.inl ⟨by decide +kernel, rfl⟩⟩
theorem M_bound_21 : Kj M_bound 21 .goto 25 24 := ⟨4, by decide +kernel, by decide, rfl⟩
theorem M_bound_24 : Kc M_bound 24 0 25 := ⟨by decide, Or.inl ⟨by decide +kernel, rfl⟩⟩
theorem M_bound_25 : Kp M_bound 25 4 0 false .int false 28 := ⟨⟨57, by decide +kernel, rfl, fw_M_57⟩, ko_M_4_0, fun h => by cases h⟩
theorem M_bound_28 : Kc M_bound 28 0 29 := ⟨by decide, Or.inl ⟨by decide +kernel, rfl⟩⟩
theorem M_bound_29 : Ks M_bound 29 2 30 := ⟨by decide, Or.inr ⟨2, by decide +kernel, rfl, rfl⟩⟩
theorem M_bound_30 : Kc M_bound 30 0 31 := ⟨by decide, Or.inl ⟨by decide +kernel, rfl⟩⟩
theorem M_bound_31 : Ks M_bound 31 3 32 := ⟨by decide, Or.inr ⟨3, by decide +kernel, rfl, rfl⟩⟩
theorem M_bound_32 : Ki M_bound 32 3 33 := Or.inr ⟨3, by decide +kernel, rfl, rfl⟩
theorem M_bound_33 : Ka M_bound 33 0 34 := Or.inr ⟨0, by decide +kernel, rfl, rfl⟩
theorem M_bound_34 : Kg M_bound 34 4 10 false 37 := ⟨91, by decide +kernel, rfl, fw_M_91⟩
theorem M_bound_37 : Kj M_bound 37 (.if_icmp .ge) 84 40 := ⟨47, by decide +kernel, by decide, rfl⟩
theorem M_bound_40 : Ka M_bound 40 0 41 := Or.inr ⟨0, by decide +kernel, rfl, rfl⟩
theorem M_bound_41 : Kg M_bound 41 4 0 false 44 := ⟨57, by decide +kernel, rfl, fw_M_57⟩
theorem M_bound_44 : Kj M_bound 44 (.ifCond .ne) 84 47 := ⟨40, by decide +kernel, by decide, rfl⟩
theorem M_bound_47 : Ka M_bound 47 0 48 := Or.inr ⟨0, by decide +kernel, rfl, rfl⟩
theorem M_bound_48 : Kg M_bound 48 4 11 true 51 := ⟨25, by decide +kernel, rfl, fw_M_25⟩
theorem M_bound_51 : Kc M_bound 51 6 53 := ⟨by decide, Or.inr (Or.inl ⟨by decide +kernel, rfl, by decide⟩)⟩
theorem M_bound_53 : Ki M_bound 53 3 54 := Or.inr ⟨3, by decide +kernel, rfl, rfl⟩
theorem M_bound_54 : K1 M_bound 54 .imul 55 := ⟨by decide +kernel, rfl⟩
theorem M_bound_55 : Ki M_bound 55 1 56 := Or.inr ⟨1, by decide +kernel, rfl, rfl⟩
theorem M_bound_56 : K1 M_bound 56 .iadd 57 := ⟨by decide +kernel, rfl⟩
theorem M_bound_57 : K1 M_bound 57 .iaload 58 := ⟨by decide +kernel, rfl⟩
theorem M_bound_58 : Ki M_bound 58 2 59 := Or.inr ⟨2, by decide +kernel, rfl, rfl⟩
theorem M_bound_59 : Kj M_bound 59 (.if_icmp .le) 76 62 := ⟨17, by decide +kernel, by decide, rfl⟩
theorem M_bound_62 : Ka M_bound 62 0 63 := Or.inr ⟨0, by decide +kernel, rfl, rfl⟩
theorem M_bound_63 : Kg M_bound 63 4 11 true 66 := ⟨25, by decide +kernel, rfl, fw_M_25⟩
theorem M_bound_66 : Kc M_bound 66 6 68 := ⟨by decide, Or.inr (Or.inl ⟨by decide +kernel, rfl, by decide⟩)⟩
theorem M_bound_68 : Ki M_bound 68 3 69 := Or.inr ⟨3, by decide +kernel, rfl, rfl⟩
theorem M_bound_69 : K1 M_bound 69 .imul 70 := ⟨by decide +kernel, rfl⟩
theorem M_bound_70 : Ki M_bound 70 1 71 := Or.inr ⟨1, by decide +kernel, rfl, rfl⟩
theorem M_bound_71 : K1 M_bound 71 .iadd 72 := ⟨by decide +kernel, rfl⟩
theorem M_bound_72 : K1 M_bound 72 .iaload 73 := ⟨by decide +kernel, rfl⟩
theorem M_bound_73 : Kj M_bound 73 .goto 77 76 := ⟨4, by decide +kernel, by decide, rfl⟩
theorem M_bound_76 : Ki M_bound 76 2 77 := Or.inr ⟨2, by decide +kernel, rfl, rfl⟩
theorem M_bound_77 : Ks M_bound 77 2 78 := ⟨by decide, Or.inr ⟨2, by decide +kernel, rfl, rfl⟩⟩
theorem M_bound_78 : Kn M_bound 78 3 1 81 := ⟨by decide, by decide +kernel, rfl⟩
theorem M_bound_81 : Kj M_bound 81 .goto 32 84 := ⟨(-49), by decide +kernel, by decide, rfl⟩
theorem M_bound_84 : Ki M_bound 84 2 85 := Or.inr ⟨2, by decide +kernel, rfl, rfl⟩
theorem M_bound_85 : KS M_bound 85 M_told 1 88 := ⟨M_told_q, by decide, w_763, rfl, by decide +kernel, 110, by decide +kernel, Or.inl w_762⟩
theorem M_bound_88 : K1 M_bound 88 .ireturn 89 := ⟨by decide +kernel, rfl⟩
theorem M_tops_0 : Ka M_tops 0 0 1 := Or.inr ⟨0, by decide +kernel, rfl, rfl⟩
theorem M_tops_1 : Ka M_tops 1 0 2 := Or.inr ⟨0, by decide +kernel, rfl, rfl⟩
theorem M_tops_2 : Kg M_tops 2 4 9 false 5 := ⟨60, by decide +kernel, rfl, fw_M_60⟩
theorem M_tops_5 : Kj M_tops 5 (.ifCond .eq) 12 8 := ⟨7, by decide +kernel, by decide, rfl⟩
theorem M_tops_8 : Kc M_tops 8 0 9 := ⟨by decide, Or.inl ⟨by decide +kernel, rfl⟩⟩
theorem M_tops_9 : Kj M_tops 9 .goto 13 12 := ⟨4, by decide +kernel, by decide, rfl⟩
theorem M_tops_12 : Kc M_tops 12 1 13 := ⟨by decide, Or.inl ⟨by decide +kernel, rfl⟩⟩
theorem M_tops_13 : Kp M_tops 13 4 0 false .int false 16 := ⟨⟨57, by decide +kernel, rfl, fw_M_57⟩, ko_M_4_0, fun h => by cases h⟩
theorem M_tops_16 : Kc M_tops 16 0 17 := ⟨by decide, Or.inl ⟨by decide +kernel, rfl⟩⟩
theorem M_tops_17 : Ks M_tops 17 1 18 := ⟨by decide, Or.inr ⟨1, by decide +kernel, rfl, rfl⟩⟩
theorem M_tops_18 : Kc M_tops 18 0 19 := ⟨by decide, Or.inl ⟨by decide +kernel, rfl⟩⟩
theorem M_tops_19 : Ks M_tops 19 2 20 := ⟨by decide, Or.inr ⟨2, by decide +kernel, rfl, rfl⟩⟩
theorem M_tops_20 : Ki M_tops 20 2 21 := Or.inr ⟨2, by decide +kernel, rfl, rfl⟩
theorem M_tops_21 : Ka M_tops 21 0 22 := Or.inr ⟨0, by decide +kernel, rfl, rfl⟩
theorem M_tops_22 : Kg M_tops 22 4 10 false 25 := ⟨91, by decide +kernel, rfl, fw_M_91⟩
theorem M_tops_25 : Kj M_tops 25 (.if_icmp .ge) 57 28 := ⟨32, by decide +kernel, by decide, rfl⟩
theorem M_tops_28 : Ka M_tops 28 0 29 := Or.inr ⟨0, by decide +kernel, rfl, rfl⟩
theorem M_tops_29 : Kg M_tops 29 4 0 false 32 := ⟨57, by decide +kernel, rfl, fw_M_57⟩
theorem M_tops_32 : Kj M_tops 32 (.ifCond .ne) 57 35 := ⟨25, by decide +kernel, by decide, rfl⟩
theorem M_tops_35 : Ka M_tops 35 0 36 := Or.inr ⟨0, by decide +kernel, rfl, rfl⟩
theorem M_tops_36 : Ki M_tops 36 2 37 := Or.inr ⟨2, by decide +kernel, rfl, rfl⟩
theorem M_tops_37 : KV M_tops 37 M_isTop 4 1 40 := ⟨M_isTop_q, by decide, w_787, ws_33, rfl, by decide +kernel, ⟨(RX4, TX4, 21), rfl, rfl⟩, 117, by decide +kernel, w_785⟩
theorem M_tops_40 : Kj M_tops 40 (.ifCond .eq) 49 43 := ⟨9, by decide +kernel, by decide, rfl⟩
theorem M_tops_43 : Ki M_tops 43 1 44 := Or.inr ⟨1, by decide +kernel, rfl, rfl⟩
theorem M_tops_44 : Kc M_tops 44 1 45 := ⟨by decide, Or.inl ⟨by decide +kernel, rfl⟩⟩
theorem M_tops_45 : K1 M_tops 45 .iadd 46 := ⟨by decide +kernel, rfl⟩
theorem M_tops_46 : Kj M_tops 46 .goto 50 49 := ⟨4, by decide +kernel, by decide, rfl⟩
theorem M_tops_49 : Ki M_tops 49 1 50 := Or.inr ⟨1, by decide +kernel, rfl, rfl⟩
theorem M_tops_50 : Ks M_tops 50 1 51 := ⟨by decide, Or.inr ⟨1, by decide +kernel, rfl, rfl⟩⟩
theorem M_tops_51 : Kn M_tops 51 2 1 54 := ⟨by decide, by decide +kernel, rfl⟩
theorem M_tops_54 : Kj M_tops 54 .goto 20 57 := ⟨(-34), by decide +kernel, by decide, rfl⟩
theorem M_tops_57 : Ki M_tops 57 1 58 := Or.inr ⟨1, by decide +kernel, rfl, rfl⟩
theorem M_tops_58 : K1 M_tops 58 .ireturn 59 := ⟨by decide +kernel, rfl⟩
theorem M_isTop_0 : Kc M_isTop 0 1 1 := ⟨by decide, Or.inl ⟨by decide +kernel, rfl⟩⟩
theorem M_isTop_1 : Ks M_isTop 1 2 2 := ⟨by decide, Or.inr ⟨2, by decide +kernel, rfl, rfl⟩⟩
theorem M_isTop_2 : Kc M_isTop 2 0 3 := ⟨by decide, Or.inl ⟨by decide +kernel, rfl⟩⟩
theorem M_isTop_3 : Ks M_isTop 3 3 4 := ⟨by decide, Or.inr ⟨3, by decide +kernel, rfl, rfl⟩⟩
theorem M_isTop_4 : Ki M_isTop 4 3 5 := Or.inr ⟨3, by decide +kernel, rfl, rfl⟩
theorem M_isTop_5 : Ka M_isTop 5 0 6 := Or.inr ⟨0, by decide +kernel, rfl, rfl⟩
theorem M_isTop_6 : Kg M_isTop 6 4 10 false 9 := ⟨91, by decide +kernel, rfl, fw_M_91⟩
theorem M_isTop_9 : Kj M_isTop 9 (.if_icmp .ge) 68 12 := ⟨59, by decide +kernel, by decide, rfl⟩
theorem M_isTop_12 : Ki M_isTop 12 2 13 := Or.inr ⟨2, by decide +kernel, rfl, rfl⟩
theorem M_isTop_13 : Kj M_isTop 13 (.ifCond .eq) 68 16 := ⟨55, by decide +kernel, by decide, rfl⟩
theorem M_isTop_16 : Ki M_isTop 16 3 17 := Or.inr ⟨3, by decide +kernel, rfl, rfl⟩
theorem M_isTop_17 : Ki M_isTop 17 1 18 := Or.inr ⟨1, by decide +kernel, rfl, rfl⟩
theorem M_isTop_18 : Kj M_isTop 18 (.if_icmp .eq) 34 21 := ⟨16, by decide +kernel, by decide, rfl⟩
theorem M_isTop_21 : Ka M_isTop 21 0 22 := Or.inr ⟨0, by decide +kernel, rfl, rfl⟩
theorem M_isTop_22 : Ki M_isTop 22 1 23 := Or.inr ⟨1, by decide +kernel, rfl, rfl⟩
theorem M_isTop_23 : Ki M_isTop 23 3 24 := Or.inr ⟨3, by decide +kernel, rfl, rfl⟩
theorem M_isTop_24 : KV M_isTop 24 M_isBelow 4 2 27 := ⟨M_isBelow_q, by decide, w_739, ws_27, rfl, by decide +kernel, ⟨(RX4, TX4, 21), rfl, rfl⟩, 83, by decide +kernel, w_737⟩
theorem M_isTop_27 : Kj M_isTop 27 (.ifCond .eq) 34 30 := ⟨7, by decide +kernel, by decide, rfl⟩
theorem M_isTop_30 : Kc M_isTop 30 1 31 := ⟨by decide, Or.inl ⟨by decide +kernel, rfl⟩⟩
theorem M_isTop_31 : Kj M_isTop 31 .goto 35 34 := ⟨4, by decide +kernel, by decide, rfl⟩
theorem M_isTop_34 : Kc M_isTop 34 0 35 := ⟨by decide, Or.inl ⟨by decide +kernel, rfl⟩⟩
theorem M_isTop_35 : Ks M_isTop 35 4 37 := ⟨by decide, Or.inl ⟨by decide +kernel, rfl⟩⟩
theorem M_isTop_37 : Ki M_isTop 37 4 39 := Or.inl ⟨by decide +kernel, rfl⟩
theorem M_isTop_39 : Kj M_isTop 39 (.ifCond .eq) 56 42 := ⟨17, by decide +kernel, by decide, rfl⟩
theorem M_isTop_42 : Ki M_isTop 42 3 43 := Or.inr ⟨3, by decide +kernel, rfl, rfl⟩
theorem M_isTop_43 : Ki M_isTop 43 1 44 := Or.inr ⟨1, by decide +kernel, rfl, rfl⟩
theorem M_isTop_44 : Kj M_isTop 44 (.if_icmp .le) 60 47 := ⟨16, by decide +kernel, by decide, rfl⟩
theorem M_isTop_47 : Ka M_isTop 47 0 48 := Or.inr ⟨0, by decide +kernel, rfl, rfl⟩
theorem M_isTop_48 : Ki M_isTop 48 3 49 := Or.inr ⟨3, by decide +kernel, rfl, rfl⟩
theorem M_isTop_49 : Ki M_isTop 49 1 50 := Or.inr ⟨1, by decide +kernel, rfl, rfl⟩
theorem M_isTop_50 : KV M_isTop 50 M_isBelow 4 2 53 := ⟨M_isBelow_q, by decide, w_739, ws_27, rfl, by decide +kernel, ⟨(RX4, TX4, 21), rfl, rfl⟩, 83, by decide +kernel, w_737⟩
theorem M_isTop_53 : Kj M_isTop 53 (.ifCond .eq) 60 56 := ⟨7, by decide +kernel, by decide, rfl⟩
theorem M_isTop_56 : Kc M_isTop 56 1 57 := ⟨by decide, Or.inl ⟨by decide +kernel, rfl⟩⟩
theorem M_isTop_57 : Kj M_isTop 57 .goto 61 60 := ⟨4, by decide +kernel, by decide, rfl⟩
theorem M_isTop_60 : Kc M_isTop 60 0 61 := ⟨by decide, Or.inl ⟨by decide +kernel, rfl⟩⟩
theorem M_isTop_61 : Ks M_isTop 61 2 62 := ⟨by decide, Or.inr ⟨2, by decide +kernel, rfl, rfl⟩⟩
theorem M_isTop_62 : Kn M_isTop 62 3 1 65 := ⟨by decide, by decide +kernel, rfl⟩
theorem M_isTop_65 : Kj M_isTop 65 .goto 4 68 := ⟨(-61), by decide +kernel, by decide, rfl⟩
theorem M_isTop_68 : Ki M_isTop 68 2 69 := Or.inr ⟨2, by decide +kernel, rfl, rfl⟩
theorem M_isTop_69 : K1 M_isTop 69 .ireturn 70 := ⟨by decide +kernel, rfl⟩
theorem M_top_0 : Ka M_top 0 0 1 := Or.inr ⟨0, by decide +kernel, rfl, rfl⟩
theorem M_top_1 : Kg M_top 1 4 9 false 4 := ⟨60, by decide +kernel, rfl, fw_M_60⟩
theorem M_top_4 : Kj M_top 4 (.ifCond .eq) 19 7 := ⟨15, by decide +kernel, by decide, rfl⟩
theorem M_top_7 : Ki M_top 7 1 8 := Or.inr ⟨1, by decide +kernel, rfl, rfl⟩
theorem M_top_8 : Kj M_top 8 (.ifCond .lt) 19 11 := ⟨11, by decide +kernel, by decide, rfl⟩
theorem M_top_11 : Ka M_top 11 0 12 := Or.inr ⟨0, by decide +kernel, rfl, rfl⟩
theorem M_top_12 : Ki M_top 12 1 13 := Or.inr ⟨1, by decide +kernel, rfl, rfl⟩
theorem M_top_13 : KV M_top 13 M_topAt 4 1 16 := ⟨M_topAt_q, by decide, w_795, ws_34, rfl, by decide +kernel, ⟨(RX4, TX4, 21), rfl, rfl⟩, 120, by decide +kernel, w_793⟩
theorem M_top_16 : Kj M_top 16 .goto 20 19 := ⟨4, by decide +kernel, by decide, rfl⟩
theorem M_top_19 : Kc M_top 19 (-1) 20 := ⟨by decide, Or.inl ⟨by decide +kernel, rfl⟩⟩
theorem M_top_20 : Ks M_top 20 2 21 := ⟨by decide, Or.inr ⟨2, by decide +kernel, rfl, rfl⟩⟩
theorem M_top_21 : Ka M_top 21 0 22 := Or.inr ⟨0, by decide +kernel, rfl, rfl⟩
theorem M_top_22 : Ka M_top 22 0 23 := Or.inr ⟨0, by decide +kernel, rfl, rfl⟩
theorem M_top_23 : Kg M_top 23 4 9 false 26 := ⟨60, by decide +kernel, rfl, fw_M_60⟩
theorem M_top_26 : Kj M_top 26 (.ifCond .ne) 33 29 := ⟨7, by decide +kernel, by decide, rfl⟩
theorem M_top_29 : Kc M_top 29 1 30 := ⟨by decide, Or.inl ⟨by decide +kernel, rfl⟩⟩
theorem M_top_30 : Kj M_top 30 .goto 42 33 := ⟨12, by decide +kernel, by decide, rfl⟩
theorem M_top_33 : Ki M_top 33 2 34 := Or.inr ⟨2, by decide +kernel, rfl, rfl⟩
theorem M_top_34 : Kj M_top 34 (.ifCond .ge) 41 37 := ⟨7, by decide +kernel, by decide, rfl⟩
theorem M_top_37 : Kc M_top 37 2 38 := ⟨by decide, Or.inl ⟨by decide +kernel, rfl⟩⟩
theorem M_top_38 : Kj M_top 38 .goto 42 41 := ⟨4, by decide +kernel, by decide, rfl⟩
theorem M_top_41 : Kc M_top 41 0 42 := ⟨by decide, Or.inl ⟨by decide +kernel, rfl⟩⟩
theorem M_top_42 : Kp M_top 42 4 0 false .int false 45 := ⟨⟨57, by decide +kernel, rfl, fw_M_57⟩, ko_M_4_0, fun h => by cases h⟩
theorem M_top_45 : Ka M_top 45 0 46 := Or.inr ⟨0, by decide +kernel, rfl, rfl⟩
theorem M_top_46 : Kg M_top 46 4 0 false 49 := ⟨57, by decide +kernel, rfl, fw_M_57⟩
theorem M_top_49 : Kj M_top 49 (.ifCond .ne) 56 52 := ⟨7, by decide +kernel, by decide, rfl⟩
theorem M_top_52 : Ki M_top 52 2 53 := Or.inr ⟨2, by decide +kernel, rfl, rfl⟩
theorem M_top_53 : Kj M_top 53 .goto 57 56 := ⟨4, by decide +kernel, by decide, rfl⟩
theorem M_top_56 : Kc M_top 56 0 57 := ⟨by decide, Or.inl ⟨by decide +kernel, rfl⟩⟩
theorem M_top_57 : K1 M_top 57 .ireturn 58 := ⟨by decide +kernel, rfl⟩
theorem M_topAt_0 : Kc M_topAt 0 0 1 := ⟨by decide, Or.inl ⟨by decide +kernel, rfl⟩⟩
theorem M_topAt_1 : Ks M_topAt 1 2 2 := ⟨by decide, Or.inr ⟨2, by decide +kernel, rfl, rfl⟩⟩
theorem M_topAt_2 : Kc M_topAt 2 0 3 := ⟨by decide, Or.inl ⟨by decide +kernel, rfl⟩⟩
theorem M_topAt_3 : Ks M_topAt 3 3 4 := ⟨by decide, Or.inr ⟨3, by decide +kernel, rfl, rfl⟩⟩
theorem M_topAt_4 : Ki M_topAt 4 3 5 := Or.inr ⟨3, by decide +kernel, rfl, rfl⟩
theorem M_topAt_5 : Ka M_topAt 5 0 6 := Or.inr ⟨0, by decide +kernel, rfl, rfl⟩
theorem M_topAt_6 : Kg M_topAt 6 4 10 false 9 := ⟨91, by decide +kernel, rfl, fw_M_91⟩
theorem M_topAt_9 : Kj M_topAt 9 (.if_icmp .ge) 36 12 := ⟨27, by decide +kernel, by decide, rfl⟩
theorem M_topAt_12 : Ka M_topAt 12 0 13 := Or.inr ⟨0, by decide +kernel, rfl, rfl⟩
theorem M_topAt_13 : Ki M_topAt 13 3 14 := Or.inr ⟨3, by decide +kernel, rfl, rfl⟩
theorem M_topAt_14 : KV M_topAt 14 M_isTop 4 1 17 := ⟨M_isTop_q, by decide, w_787, ws_33, rfl, by decide +kernel, ⟨(RX4, TX4, 21), rfl, rfl⟩, 117, by decide +kernel, w_785⟩
theorem M_topAt_17 : Kj M_topAt 17 (.ifCond .eq) 30 20 := ⟨13, by decide +kernel, by decide, rfl⟩
theorem M_topAt_20 : Ki M_topAt 20 2 21 := Or.inr ⟨2, by decide +kernel, rfl, rfl⟩
theorem M_topAt_21 : Ki M_topAt 21 1 22 := Or.inr ⟨1, by decide +kernel, rfl, rfl⟩
theorem M_topAt_22 : Kj M_topAt 22 (.if_icmp .ne) 27 25 := ⟨5, by decide +kernel, by decide, rfl⟩
theorem M_topAt_25 : Ki M_topAt 25 3 26 := Or.inr ⟨3, by decide +kernel, rfl, rfl⟩
theorem M_topAt_26 : K1 M_topAt 26 .ireturn 27 := ⟨by decide +kernel, rfl⟩
theorem M_topAt_27 : Kn M_topAt 27 2 1 30 := ⟨by decide, by decide +kernel, rfl⟩
theorem M_topAt_30 : Kn M_topAt 30 3 1 33 := ⟨by decide, by decide +kernel, rfl⟩
theorem M_topAt_33 : Kj M_topAt 33 .goto 4 36 := ⟨(-29), by decide +kernel, by decide, rfl⟩
theorem M_topAt_36 : Kc M_topAt 36 (-1) 37 := ⟨by decide, Or.inl ⟨by decide +kernel, rfl⟩⟩
theorem M_topAt_37 : K1 M_topAt 37 .ireturn 38 := ⟨by decide +kernel, rfl⟩
theorem M_covered_0 : Ka M_covered 0 0 1 := Or.inr ⟨0, by decide +kernel, rfl, rfl⟩
theorem M_covered_1 : Ka M_covered 1 0 2 := Or.inr ⟨0, by decide +kernel, rfl, rfl⟩
theorem M_covered_2 : Kg M_covered 2 4 9 false 5 := ⟨60, by decide +kernel, rfl, fw_M_60⟩
theorem M_covered_5 : Kj M_covered 5 (.ifCond .eq) 12 8 := ⟨7, by decide +kernel, by decide, rfl⟩
theorem M_covered_8 : Kc M_covered 8 0 9 := ⟨by decide, Or.inl ⟨by decide +kernel, rfl⟩⟩
theorem M_covered_9 : Kj M_covered 9 .goto 13 12 := ⟨4, by decide +kernel, by decide, rfl⟩
theorem M_covered_12 : Kc M_covered 12 1 13 := ⟨by decide, Or.inl ⟨by decide +kernel, rfl⟩⟩
theorem M_covered_13 : Kp M_covered 13 4 0 false .int false 16 := ⟨⟨57, by decide +kernel, rfl, fw_M_57⟩, ko_M_4_0, fun h => by cases h⟩
theorem M_covered_16 : Kc M_covered 16 0 17 := ⟨by decide, Or.inl ⟨by decide +kernel, rfl⟩⟩
theorem M_covered_17 : Ks M_covered 17 1 18 := ⟨by decide, Or.inr ⟨1, by decide +kernel, rfl, rfl⟩⟩
theorem M_covered_18 : Kc M_covered 18 0 19 := ⟨by decide, Or.inl ⟨by decide +kernel, rfl⟩⟩
theorem M_covered_19 : Ks M_covered 19 2 20 := ⟨by decide, Or.inr ⟨2, by decide +kernel, rfl, rfl⟩⟩
theorem M_covered_20 : Ki M_covered 20 2 21 := Or.inr ⟨2, by decide +kernel, rfl, rfl⟩
theorem M_covered_21 : Ka M_covered 21 0 22 := Or.inr ⟨0, by decide +kernel, rfl, rfl⟩
theorem M_covered_22 : Kg M_covered 22 4 10 false 25 := ⟨91, by decide +kernel, rfl, fw_M_91⟩
theorem M_covered_25 : Kj M_covered 25 (.if_icmp .ge) 99 28 := ⟨74, by decide +kernel, by decide, rfl⟩
theorem M_covered_28 : Ka M_covered 28 0 29 := Or.inr ⟨0, by decide +kernel, rfl, rfl⟩
theorem M_covered_29 : Kg M_covered 29 4 0 false 32 := ⟨57, by decide +kernel, rfl, fw_M_57⟩
theorem M_covered_32 : Kj M_covered 32 (.ifCond .ne) 99 35 := ⟨67, by decide +kernel, by decide, rfl⟩
theorem M_covered_35 : Ki M_covered 35 1 36 := Or.inr ⟨1, by decide +kernel, rfl, rfl⟩
theorem M_covered_36 : Kj M_covered 36 (.ifCond .ne) 99 39 := ⟨63, by decide +kernel, by decide, rfl⟩
theorem M_covered_39 : Kc M_covered 39 1 40 := ⟨by decide, Or.inl ⟨by decide +kernel, rfl⟩⟩
theorem M_covered_40 : Ks M_covered 40 3 41 := ⟨by decide, Or.inr ⟨3, by decide +kernel, rfl, rfl⟩⟩
theorem M_covered_41 : Kc M_covered 41 0 42 := ⟨by decide, Or.inl ⟨by decide +kernel, rfl⟩⟩
theorem M_covered_42 : Ks M_covered 42 4 44 := ⟨by decide, Or.inl ⟨by decide +kernel, rfl⟩⟩
theorem M_covered_44 : Ki M_covered 44 4 46 := Or.inl ⟨by decide +kernel, rfl⟩
theorem M_covered_46 : Ka M_covered 46 0 47 := Or.inr ⟨0, by decide +kernel, rfl, rfl⟩
theorem M_covered_47 : Kg M_covered 47 4 1 false 50 := ⟨50, by decide +kernel, rfl, fw_M_50⟩
theorem M_covered_50 : Kj M_covered 50 (.if_icmp .ge) 91 53 := ⟨41, by decide +kernel, by decide, rfl⟩
theorem M_covered_53 : Ki M_covered 53 3 54 := Or.inr ⟨3, by decide +kernel, rfl, rfl⟩
theorem M_covered_54 : Kj M_covered 54 (.ifCond .eq) 83 57 := ⟨29, by decide +kernel, by decide, rfl⟩
theorem M_covered_57 : Ka M_covered 57 0 58 := Or.inr ⟨0, by decide +kernel, rfl, rfl⟩
theorem M_covered_58 : Kg M_covered 58 4 6 true 61 := ⟨19, by decide +kernel, rfl, fw_M_19⟩
theorem M_covered_61 : Ki M_covered 61 4 63 := Or.inl ⟨by decide +kernel, rfl⟩
theorem M_covered_63 : K1 M_covered 63 .iaload 64 := ⟨by decide +kernel, rfl⟩
theorem M_covered_64 : Ka M_covered 64 0 65 := Or.inr ⟨0, by decide +kernel, rfl, rfl⟩
theorem M_covered_65 : Kg M_covered 65 4 11 true 68 := ⟨25, by decide +kernel, rfl, fw_M_25⟩
theorem M_covered_68 : Kc M_covered 68 6 70 := ⟨by decide, Or.inr (Or.inl ⟨by decide +kernel, rfl, by decide⟩)⟩
theorem M_covered_70 : Ki M_covered 70 2 71 := Or.inr ⟨2, by decide +kernel, rfl, rfl⟩
theorem M_covered_71 : K1 M_covered 71 .imul 72 := ⟨by decide +kernel, rfl⟩
theorem M_covered_72 : Ki M_covered 72 4 74 := Or.inl ⟨by decide +kernel, rfl⟩
theorem M_covered_74 : K1 M_covered 74 .iadd 75 := ⟨by decide +kernel, rfl⟩
theorem M_covered_75 : K1 M_covered 75 .iaload 76 := ⟨by decide +kernel, rfl⟩
theorem M_covered_76 : Kj M_covered 76 (.if_icmp .gt) 83 79 := ⟨7, by decide +kernel, by decide, rfl⟩
theorem M_covered_79 : Kc M_covered 79 1 80 := ⟨by decide, Or.inl ⟨by decide +kernel, rfl⟩⟩
theorem M_covered_80 : Kj M_covered 80 .goto 84 83 := ⟨4, by decide +kernel, by decide, rfl⟩
theorem M_covered_83 : Kc M_covered 83 0 84 := ⟨by decide, Or.inl ⟨by decide +kernel, rfl⟩⟩
theorem M_covered_84 : Ks M_covered 84 3 85 := ⟨by decide, Or.inr ⟨3, by decide +kernel, rfl, rfl⟩⟩
theorem M_covered_85 : Kn M_covered 85 4 1 88 := ⟨by decide, by decide +kernel, rfl⟩
theorem M_covered_88 : Kj M_covered 88 .goto 44 91 := ⟨(-44), by decide +kernel, by decide, rfl⟩
theorem M_covered_91 : Ki M_covered 91 3 92 := Or.inr ⟨3, by decide +kernel, rfl, rfl⟩
theorem M_covered_92 : Ks M_covered 92 1 93 := ⟨by decide, Or.inr ⟨1, by decide +kernel, rfl, rfl⟩⟩
theorem M_covered_93 : Kn M_covered 93 2 1 96 := ⟨by decide, by decide +kernel, rfl⟩
theorem M_covered_96 : Kj M_covered 96 .goto 20 99 := ⟨(-76), by decide +kernel, by decide, rfl⟩
theorem M_covered_99 : Ki M_covered 99 1 100 := Or.inr ⟨1, by decide +kernel, rfl, rfl⟩
theorem M_covered_100 : K1 M_covered 100 .ireturn 101 := ⟨by decide +kernel, rfl⟩
theorem M_lives_0 : Ka M_lives 0 0 1 := Or.inr ⟨0, by decide +kernel, rfl, rfl⟩
theorem M_lives_1 : Ka M_lives 1 0 2 := Or.inr ⟨0, by decide +kernel, rfl, rfl⟩
theorem M_lives_2 : Kg M_lives 2 4 9 false 5 := ⟨60, by decide +kernel, rfl, fw_M_60⟩
theorem M_lives_5 : Kj M_lives 5 (.ifCond .ne) 12 8 := ⟨7, by decide +kernel, by decide, rfl⟩
theorem M_lives_8 : Kc M_lives 8 1 9 := ⟨by decide, Or.inl ⟨by decide +kernel, rfl⟩⟩
theorem M_lives_9 : Kj M_lives 9 .goto 25 12 := ⟨16, by decide +kernel, by decide, rfl⟩
theorem M_lives_12 : Ka M_lives 12 0 13 := Or.inr ⟨0, by decide +kernel, rfl, rfl⟩
theorem M_lives_13 : Ki M_lives 13 1 14 := Or.inr ⟨1, by decide +kernel, rfl, rfl⟩
theorem M_lives_14 : KV M_lives 14 M_isTransition 4 1 17 := ⟨M_isTransition_q, by decide, w_691, ws_21, rfl, by decide +kernel, ⟨(RX4, TX4, 21), rfl, rfl⟩, 67, by decide +kernel, w_689⟩
theorem M_lives_17 : Kj M_lives 17 (.ifCond .ne) 24 20 := ⟨7, by decide +kernel, by decide, rfl⟩
theorem M_lives_20 : Kc M_lives 20 2 21 := ⟨by decide, Or.inl ⟨by decide +kernel, rfl⟩⟩
theorem M_lives_21 : Kj M_lives 21 .goto 25 24 := ⟨4, by decide +kernel, by decide, rfl⟩
theorem M_lives_24 : Kc M_lives 24 0 25 := ⟨by decide, Or.inl ⟨by decide +kernel, rfl⟩⟩
theorem M_lives_25 : Kp M_lives 25 4 0 false .int false 28 := ⟨⟨57, by decide +kernel, rfl, fw_M_57⟩, ko_M_4_0, fun h => by cases h⟩
theorem M_lives_28 : Kc M_lives 28 0 29 := ⟨by decide, Or.inl ⟨by decide +kernel, rfl⟩⟩
theorem M_lives_29 : Ks M_lives 29 2 30 := ⟨by decide, Or.inr ⟨2, by decide +kernel, rfl, rfl⟩⟩
theorem M_lives_30 : Kc M_lives 30 0 31 := ⟨by decide, Or.inl ⟨by decide +kernel, rfl⟩⟩
theorem M_lives_31 : Ks M_lives 31 3 32 := ⟨by decide, Or.inr ⟨3, by decide +kernel, rfl, rfl⟩⟩
theorem M_lives_32 : Ki M_lives 32 3 33 := Or.inr ⟨3, by decide +kernel, rfl, rfl⟩
theorem M_lives_33 : Ka M_lives 33 0 34 := Or.inr ⟨0, by decide +kernel, rfl, rfl⟩
theorem M_lives_34 : Kg M_lives 34 4 10 false 37 := ⟨91, by decide +kernel, rfl, fw_M_91⟩
theorem M_lives_37 : Kj M_lives 37 (.if_icmp .ge) 64 40 := ⟨27, by decide +kernel, by decide, rfl⟩
theorem M_lives_40 : Ka M_lives 40 0 41 := Or.inr ⟨0, by decide +kernel, rfl, rfl⟩
theorem M_lives_41 : Kg M_lives 41 4 0 false 44 := ⟨57, by decide +kernel, rfl, fw_M_57⟩
theorem M_lives_44 : Kj M_lives 44 (.ifCond .ne) 64 47 := ⟨20, by decide +kernel, by decide, rfl⟩
theorem M_lives_47 : Ki M_lives 47 2 48 := Or.inr ⟨2, by decide +kernel, rfl, rfl⟩
theorem M_lives_48 : Kj M_lives 48 (.ifCond .ne) 64 51 := ⟨16, by decide +kernel, by decide, rfl⟩
theorem M_lives_51 : Ka M_lives 51 0 52 := Or.inr ⟨0, by decide +kernel, rfl, rfl⟩
theorem M_lives_52 : Ki M_lives 52 3 53 := Or.inr ⟨3, by decide +kernel, rfl, rfl⟩
theorem M_lives_53 : Ki M_lives 53 1 54 := Or.inr ⟨1, by decide +kernel, rfl, rfl⟩
theorem M_lives_54 : KV M_lives 54 M_isEnabled 4 2 57 := ⟨M_isEnabled_q, by decide, w_743, ws_28, rfl, by decide +kernel, ⟨(RX4, TX4, 21), rfl, rfl⟩, 100, by decide +kernel, w_741⟩
theorem M_lives_57 : Ks M_lives 57 2 58 := ⟨by decide, Or.inr ⟨2, by decide +kernel, rfl, rfl⟩⟩
theorem M_lives_58 : Kn M_lives 58 3 1 61 := ⟨by decide, by decide +kernel, rfl⟩
theorem M_lives_61 : Kj M_lives 61 .goto 32 64 := ⟨(-29), by decide +kernel, by decide, rfl⟩
theorem M_lives_64 : Ki M_lives 64 2 65 := Or.inr ⟨2, by decide +kernel, rfl, rfl⟩
theorem M_lives_65 : K1 M_lives 65 .ireturn 66 := ⟨by decide +kernel, rfl⟩
theorem M_dead_0 : Ka M_dead 0 0 1 := Or.inr ⟨0, by decide +kernel, rfl, rfl⟩
theorem M_dead_1 : Ka M_dead 1 0 2 := Or.inr ⟨0, by decide +kernel, rfl, rfl⟩
theorem M_dead_2 : Kg M_dead 2 4 9 false 5 := ⟨60, by decide +kernel, rfl, fw_M_60⟩
theorem M_dead_5 : Kj M_dead 5 (.ifCond .eq) 12 8 := ⟨7, by decide +kernel, by decide, rfl⟩
theorem M_dead_8 : Kc M_dead 8 0 9 := ⟨by decide, Or.inl ⟨by decide +kernel, rfl⟩⟩
theorem M_dead_9 : Kj M_dead 9 .goto 13 12 := ⟨4, by decide +kernel, by decide, rfl⟩
theorem M_dead_12 : Kc M_dead 12 1 13 := ⟨by decide, Or.inl ⟨by decide +kernel, rfl⟩⟩
theorem M_dead_13 : Kp M_dead 13 4 0 false .int false 16 := ⟨⟨57, by decide +kernel, rfl, fw_M_57⟩, ko_M_4_0, fun h => by cases h⟩
theorem M_dead_16 : Kc M_dead 16 0 17 := ⟨by decide, Or.inl ⟨by decide +kernel, rfl⟩⟩
theorem M_dead_17 : Ks M_dead 17 1 18 := ⟨by decide, Or.inr ⟨1, by decide +kernel, rfl, rfl⟩⟩
theorem M_dead_18 : Ki M_dead 18 1 19 := Or.inr ⟨1, by decide +kernel, rfl, rfl⟩
theorem M_dead_19 : Ka M_dead 19 0 20 := Or.inr ⟨0, by decide +kernel, rfl, rfl⟩
theorem M_dead_20 : Kg M_dead 20 4 10 false 23 := ⟨91, by decide +kernel, rfl, fw_M_91⟩
theorem M_dead_23 : Kj M_dead 23 (.if_icmp .ge) 82 26 := ⟨59, by decide +kernel, by decide, rfl⟩
theorem M_dead_26 : Ka M_dead 26 0 27 := Or.inr ⟨0, by decide +kernel, rfl, rfl⟩
theorem M_dead_27 : Kg M_dead 27 4 0 false 30 := ⟨57, by decide +kernel, rfl, fw_M_57⟩
theorem M_dead_30 : Kj M_dead 30 (.ifCond .ne) 82 33 := ⟨52, by decide +kernel, by decide, rfl⟩
theorem M_dead_33 : Kc M_dead 33 0 34 := ⟨by decide, Or.inl ⟨by decide +kernel, rfl⟩⟩
theorem M_dead_34 : Ks M_dead 34 2 35 := ⟨by decide, Or.inr ⟨2, by decide +kernel, rfl, rfl⟩⟩
theorem M_dead_35 : Kc M_dead 35 0 36 := ⟨by decide, Or.inl ⟨by decide +kernel, rfl⟩⟩
theorem M_dead_36 : Ks M_dead 36 3 37 := ⟨by decide, Or.inr ⟨3, by decide +kernel, rfl, rfl⟩⟩
theorem M_dead_37 : Ki M_dead 37 3 38 := Or.inr ⟨3, by decide +kernel, rfl, rfl⟩
theorem M_dead_38 : Ka M_dead 38 0 39 := Or.inr ⟨0, by decide +kernel, rfl, rfl⟩
theorem M_dead_39 : Kg M_dead 39 4 2 false 42 := ⟨54, by decide +kernel, rfl, fw_M_54⟩
theorem M_dead_42 : Kj M_dead 42 (.if_icmp .ge) 70 45 := ⟨28, by decide +kernel, by decide, rfl⟩
theorem M_dead_45 : Ki M_dead 45 2 46 := Or.inr ⟨2, by decide +kernel, rfl, rfl⟩
theorem M_dead_46 : Kj M_dead 46 (.ifCond .ne) 58 49 := ⟨12, by decide +kernel, by decide, rfl⟩
theorem M_dead_49 : Ka M_dead 49 0 50 := Or.inr ⟨0, by decide +kernel, rfl, rfl⟩
theorem M_dead_50 : Ki M_dead 50 1 51 := Or.inr ⟨1, by decide +kernel, rfl, rfl⟩
theorem M_dead_51 : Ki M_dead 51 3 52 := Or.inr ⟨3, by decide +kernel, rfl, rfl⟩
theorem M_dead_52 : KV M_dead 52 M_isEnabled 4 2 55 := ⟨M_isEnabled_q, by decide, w_743, ws_28, rfl, by decide +kernel, ⟨(RX4, TX4, 21), rfl, rfl⟩, 100, by decide +kernel, w_741⟩
theorem M_dead_55 : Kj M_dead 55 (.ifCond .eq) 62 58 := ⟨7, by decide +kernel, by decide, rfl⟩
theorem M_dead_58 : Kc M_dead 58 1 59 := ⟨by decide, Or.inl ⟨by decide +kernel, rfl⟩⟩
theorem M_dead_59 : Kj M_dead 59 .goto 63 62 := ⟨4, by decide +kernel, by decide, rfl⟩
theorem M_dead_62 : Kc M_dead 62 0 63 := ⟨by decide, Or.inl ⟨by decide +kernel, rfl⟩⟩
theorem M_dead_63 : Ks M_dead 63 2 64 := ⟨by decide, Or.inr ⟨2, by decide +kernel, rfl, rfl⟩⟩
theorem M_dead_64 : Kn M_dead 64 3 1 67 := ⟨by decide, by decide +kernel, rfl⟩
theorem M_dead_67 : Kj M_dead 67 .goto 37 70 := ⟨(-30), by decide +kernel, by decide, rfl⟩
theorem M_dead_70 : Ki M_dead 70 2 71 := Or.inr ⟨2, by decide +kernel, rfl, rfl⟩
theorem M_dead_71 : Kj M_dead 71 (.ifCond .ne) 76 74 := ⟨5, by decide +kernel, by decide, rfl⟩
theorem M_dead_74 : Ki M_dead 74 1 75 := Or.inr ⟨1, by decide +kernel, rfl, rfl⟩
theorem M_dead_75 : K1 M_dead 75 .ireturn 76 := ⟨by decide +kernel, rfl⟩
theorem M_dead_76 : Kn M_dead 76 1 1 79 := ⟨by decide, by decide +kernel, rfl⟩
theorem M_dead_79 : Kj M_dead 79 .goto 18 82 := ⟨(-61), by decide +kernel, by decide, rfl⟩
theorem M_dead_82 : Ka M_dead 82 0 83 := Or.inr ⟨0, by decide +kernel, rfl, rfl⟩
theorem M_dead_83 : Kg M_dead 83 4 0 false 86 := ⟨57, by decide +kernel, rfl, fw_M_57⟩
theorem M_dead_86 : Kj M_dead 86 (.ifCond .ne) 94 89 := ⟨8, by decide +kernel, by decide, rfl⟩
theorem M_dead_89 : Kc M_dead 89 (-2) 91 := ⟨by decide, Or.inr (Or.inl ⟨by decide +kernel, rfl, by decide⟩)⟩
theorem M_dead_91 : Kj M_dead 91 .goto 95 94 := ⟨4, by decide +kernel, by decide, rfl⟩
theorem M_dead_94 : Kc M_dead 94 0 95 := ⟨by decide, Or.inl ⟨by decide +kernel, rfl⟩⟩
theorem M_dead_95 : K1 M_dead 95 .ireturn 96 := ⟨by decide +kernel, rfl⟩
theorem M_back_0 : Ka M_back 0 0 1 := Or.inr ⟨0, by decide +kernel, rfl, rfl⟩
theorem M_back_1 : Kc M_back 1 1 2 := ⟨by decide, Or.inl ⟨by decide +kernel, rfl⟩⟩
theorem M_back_2 : Kp M_back 2 4 16 false .int false 5 := ⟨⟨123, by decide +kernel, rfl, fw_M_123⟩, ko_M_4_16, fun h => by cases h⟩
theorem M_back_5 : Ka M_back 5 0 6 := Or.inr ⟨0, by decide +kernel, rfl, rfl⟩
theorem M_back_6 : Kg M_back 6 4 20 true 9 := ⟨47, by decide +kernel, rfl, fw_M_47⟩
theorem M_back_9 : Kc M_back 9 0 10 := ⟨by decide, Or.inl ⟨by decide +kernel, rfl⟩⟩
theorem M_back_10 : Kc M_back 10 0 11 := ⟨by decide, Or.inl ⟨by decide +kernel, rfl⟩⟩
theorem M_back_11 : K1 M_back 11 .bastore 12 := ⟨by decide +kernel, rfl⟩
theorem M_back_12 : Ka M_back 12 0 13 := Or.inr ⟨0, by decide +kernel, rfl, rfl⟩
theorem M_back_13 : Kg M_back 13 4 18 true 16 := ⟨41, by decide +kernel, rfl, fw_M_41⟩
theorem M_back_16 : Kc M_back 16 0 17 := ⟨by decide, Or.inl ⟨by decide +kernel, rfl⟩⟩
theorem M_back_17 : Kc M_back 17 (-2) 19 := ⟨by decide, Or.inr (Or.inl ⟨by decide +kernel, rfl, by decide⟩)⟩
theorem M_back_19 : K1 M_back 19 .iastore 20 := ⟨by decide +kernel, rfl⟩
theorem M_back_20 : Kc M_back 20 0 21 := ⟨by decide, Or.inl ⟨by decide +kernel, rfl⟩⟩
theorem M_back_21 : Ks M_back 21 1 22 := ⟨by decide, Or.inr ⟨1, by decide +kernel, rfl, rfl⟩⟩
theorem M_back_22 : Ki M_back 22 1 23 := Or.inr ⟨1, by decide +kernel, rfl, rfl⟩
theorem M_back_23 : Ka M_back 23 0 24 := Or.inr ⟨0, by decide +kernel, rfl, rfl⟩
theorem M_back_24 : Kg M_back 24 4 1 false 27 := ⟨50, by decide +kernel, rfl, fw_M_50⟩
theorem M_back_27 : Kj M_back 27 (.if_icmp .ge) 48 30 := ⟨21, by decide +kernel, by decide, rfl⟩
theorem M_back_30 : Ka M_back 30 0 31 := Or.inr ⟨0, by decide +kernel, rfl, rfl⟩
theorem M_back_31 : Kg M_back 31 4 17 true 34 := ⟨38, by decide +kernel, rfl, fw_M_38⟩
theorem M_back_34 : Ki M_back 34 1 35 := Or.inr ⟨1, by decide +kernel, rfl, rfl⟩
theorem M_back_35 : Ka M_back 35 0 36 := Or.inr ⟨0, by decide +kernel, rfl, rfl⟩
theorem M_back_36 : Kg M_back 36 4 6 true 39 := ⟨19, by decide +kernel, rfl, fw_M_19⟩
theorem M_back_39 : Ki M_back 39 1 40 := Or.inr ⟨1, by decide +kernel, rfl, rfl⟩
theorem M_back_40 : K1 M_back 40 .iaload 41 := ⟨by decide +kernel, rfl⟩
theorem M_back_41 : K1 M_back 41 .iastore 42 := ⟨by decide +kernel, rfl⟩
theorem M_back_42 : Kn M_back 42 1 1 45 := ⟨by decide, by decide +kernel, rfl⟩
theorem M_back_45 : Kj M_back 45 .goto 22 48 := ⟨(-23), by decide +kernel, by decide, rfl⟩
theorem M_back_48 : Kc M_back 48 0 49 := ⟨by decide, Or.inl ⟨by decide +kernel, rfl⟩⟩
theorem M_back_49 : Ks M_back 49 1 50 := ⟨by decide, Or.inr ⟨1, by decide +kernel, rfl, rfl⟩⟩
theorem M_back_50 : Ki M_back 50 1 51 := Or.inr ⟨1, by decide +kernel, rfl, rfl⟩
theorem M_back_51 : Ka M_back 51 0 52 := Or.inr ⟨0, by decide +kernel, rfl, rfl⟩
theorem M_back_52 : Kg M_back 52 4 16 false 55 := ⟨123, by decide +kernel, rfl, fw_M_123⟩
theorem M_back_55 : Kj M_back 55 (.if_icmp .ge) 125 58 := ⟨70, by decide +kernel, by decide, rfl⟩
theorem M_back_58 : Ka M_back 58 0 59 := Or.inr ⟨0, by decide +kernel, rfl, rfl⟩
theorem M_back_59 : Kg M_back 59 4 16 false 62 := ⟨123, by decide +kernel, rfl, fw_M_123⟩
theorem M_back_62 : Kc M_back 62 48 64 := ⟨by decide, Or.inr (Or.inl ⟨by decide +kernel, rfl, by decide⟩)⟩
theorem M_back_64 : Kj M_back 64 (.if_icmp .gt) 125 67 := ⟨61, by decide +kernel, by decide, rfl⟩
theorem M_back_67 : Ka M_back 67 0 68 := Or.inr ⟨0, by decide +kernel, rfl, rfl⟩
theorem M_back_68 : Kg M_back 68 4 20 true 71 := ⟨47, by decide +kernel, rfl, fw_M_47⟩
theorem M_back_71 : Ki M_back 71 1 72 := Or.inr ⟨1, by decide +kernel, rfl, rfl⟩
theorem M_back_72 : K1 M_back 72 .baload 73 := ⟨by decide +kernel, rfl⟩
theorem M_back_73 : Kj M_back 73 (.ifCond .ne) 80 76 := ⟨7, by decide +kernel, by decide, rfl⟩
theorem M_back_76 : Kc M_back 76 1 77 := ⟨by decide, Or.inl ⟨by decide +kernel, rfl⟩⟩
theorem M_back_77 : Kj M_back 77 .goto 81 80 := ⟨4, by decide +kernel, by decide, rfl⟩
theorem M_back_80 : Kc M_back 80 0 81 := ⟨by decide, Or.inl ⟨by decide +kernel, rfl⟩⟩
theorem M_back_81 : Ks M_back 81 2 82 := ⟨by decide, Or.inr ⟨2, by decide +kernel, rfl, rfl⟩⟩
theorem M_back_82 : Kc M_back 82 0 83 := ⟨by decide, Or.inl ⟨by decide +kernel, rfl⟩⟩
theorem M_back_83 : Ks M_back 83 3 84 := ⟨by decide, Or.inr ⟨3, by decide +kernel, rfl, rfl⟩⟩
theorem M_back_84 : Ki M_back 84 3 85 := Or.inr ⟨3, by decide +kernel, rfl, rfl⟩
theorem M_back_85 : Ka M_back 85 0 86 := Or.inr ⟨0, by decide +kernel, rfl, rfl⟩
theorem M_back_86 : Kg M_back 86 4 2 false 89 := ⟨54, by decide +kernel, rfl, fw_M_54⟩
theorem M_back_89 : Kj M_back 89 (.if_icmp .ge) 119 92 := ⟨30, by decide +kernel, by decide, rfl⟩
theorem M_back_92 : Ki M_back 92 2 93 := Or.inr ⟨2, by decide +kernel, rfl, rfl⟩
theorem M_back_93 : Kj M_back 93 (.ifCond .eq) 119 96 := ⟨26, by decide +kernel, by decide, rfl⟩
theorem M_back_96 : Ka M_back 96 0 97 := Or.inr ⟨0, by decide +kernel, rfl, rfl⟩
theorem M_back_97 : Kg M_back 97 4 16 false 100 := ⟨123, by decide +kernel, rfl, fw_M_123⟩
theorem M_back_100 : Kc M_back 100 48 102 := ⟨by decide, Or.inr (Or.inl ⟨by decide +kernel, rfl, by decide⟩)⟩
theorem M_back_102 : Kj M_back 102 (.if_icmp .gt) 119 105 := ⟨17, by decide +kernel, by decide, rfl⟩
theorem M_back_105 : Ka M_back 105 0 106 := Or.inr ⟨0, by decide +kernel, rfl, rfl⟩
theorem M_back_106 : Ki M_back 106 1 107 := Or.inr ⟨1, by decide +kernel, rfl, rfl⟩
theorem M_back_107 : Ki M_back 107 3 108 := Or.inr ⟨3, by decide +kernel, rfl, rfl⟩
theorem M_back_108 : KV M_back 108 M_makeGoal 4 2 111 := ⟨M_makeGoal_q, by decide, w_815, ws_35, rfl, by decide +kernel, ⟨(RX4, TX4, 21), rfl, rfl⟩, 129, by decide +kernel, w_813⟩
theorem M_back_111 : Ks M_back 111 4 113 := ⟨by decide, Or.inl ⟨by decide +kernel, rfl⟩⟩
theorem M_back_113 : Kn M_back 113 3 1 116 := ⟨by decide, by decide +kernel, rfl⟩
theorem M_back_116 : Kj M_back 116 .goto 84 119 := ⟨(-32), by decide +kernel, by decide, rfl⟩
theorem M_back_119 : Kn M_back 119 1 1 122 := ⟨by decide, by decide +kernel, rfl⟩
theorem M_back_122 : Kj M_back 122 .goto 50 125 := ⟨(-72), by decide +kernel, by decide, rfl⟩
theorem M_back_125 : Ka M_back 125 0 126 := Or.inr ⟨0, by decide +kernel, rfl, rfl⟩
theorem M_back_126 : Ka M_back 126 0 127 := Or.inr ⟨0, by decide +kernel, rfl, rfl⟩
theorem M_back_127 : Kg M_back 127 4 16 false 130 := ⟨123, by decide +kernel, rfl, fw_M_123⟩
theorem M_back_130 : Kc M_back 130 48 132 := ⟨by decide, Or.inr (Or.inl ⟨by decide +kernel, rfl, by decide⟩)⟩
theorem M_back_132 : Kj M_back 132 (.if_icmp .gt) 139 135 := ⟨7, by decide +kernel, by decide, rfl⟩
theorem M_back_135 : Kc M_back 135 1 136 := ⟨by decide, Or.inl ⟨by decide +kernel, rfl⟩⟩
theorem M_back_136 : Kj M_back 136 .goto 140 139 := ⟨4, by decide +kernel, by decide, rfl⟩
theorem M_back_139 : Kc M_back 139 0 140 := ⟨by decide, Or.inl ⟨by decide +kernel, rfl⟩⟩
theorem M_back_140 : Kp M_back 140 4 15 false .boolean false 143 := ⟨⟨64, by decide +kernel, rfl, fw_M_64⟩, ko_M_4_15, fun h => by cases h⟩
theorem M_back_143 : Ka M_back 143 0 144 := Or.inr ⟨0, by decide +kernel, rfl, rfl⟩
theorem M_back_144 : Ka M_back 144 0 145 := Or.inr ⟨0, by decide +kernel, rfl, rfl⟩
theorem M_back_145 : Kg M_back 145 4 15 false 148 := ⟨64, by decide +kernel, rfl, fw_M_64⟩
theorem M_back_148 : Kj M_back 148 (.ifCond .eq) 155 151 := ⟨7, by decide +kernel, by decide, rfl⟩
theorem M_back_151 : Kc M_back 151 0 152 := ⟨by decide, Or.inl ⟨by decide +kernel, rfl⟩⟩
theorem M_back_152 : Kj M_back 152 .goto 156 155 := ⟨4, by decide +kernel, by decide, rfl⟩
theorem M_back_155 : Kc M_back 155 1 156 := ⟨by decide, Or.inl ⟨by decide +kernel, rfl⟩⟩
theorem M_back_156 : Kp M_back 156 4 0 false .int false 159 := ⟨⟨57, by decide +kernel, rfl, fw_M_57⟩, ko_M_4_0, fun h => by cases h⟩
theorem M_back_159 : Kc M_back 159 0 160 := ⟨by decide, Or.inl ⟨by decide +kernel, rfl⟩⟩
theorem M_back_160 : Ks M_back 160 1 161 := ⟨by decide, Or.inr ⟨1, by decide +kernel, rfl, rfl⟩⟩
theorem M_back_161 : Kc M_back 161 0 162 := ⟨by decide, Or.inl ⟨by decide +kernel, rfl⟩⟩
theorem M_back_162 : Ks M_back 162 2 163 := ⟨by decide, Or.inr ⟨2, by decide +kernel, rfl, rfl⟩⟩
theorem M_back_163 : Ki M_back 163 2 164 := Or.inr ⟨2, by decide +kernel, rfl, rfl⟩
theorem M_back_164 : Ka M_back 164 0 165 := Or.inr ⟨0, by decide +kernel, rfl, rfl⟩
theorem M_back_165 : Kg M_back 165 4 16 false 168 := ⟨123, by decide +kernel, rfl, fw_M_123⟩
theorem M_back_168 : Kj M_back 168 (.if_icmp .ge) 201 171 := ⟨33, by decide +kernel, by decide, rfl⟩
theorem M_back_171 : Ka M_back 171 0 172 := Or.inr ⟨0, by decide +kernel, rfl, rfl⟩
theorem M_back_172 : Kg M_back 172 4 15 false 175 := ⟨64, by decide +kernel, rfl, fw_M_64⟩
theorem M_back_175 : Kj M_back 175 (.ifCond .eq) 201 178 := ⟨26, by decide +kernel, by decide, rfl⟩
theorem M_back_178 : Ka M_back 178 0 179 := Or.inr ⟨0, by decide +kernel, rfl, rfl⟩
theorem M_back_179 : Kg M_back 179 4 20 true 182 := ⟨47, by decide +kernel, rfl, fw_M_47⟩
theorem M_back_182 : Ki M_back 182 2 183 := Or.inr ⟨2, by decide +kernel, rfl, rfl⟩
theorem M_back_183 : K1 M_back 183 .baload 184 := ⟨by decide +kernel, rfl⟩
theorem M_back_184 : Kj M_back 184 (.ifCond .eq) 191 187 := ⟨7, by decide +kernel, by decide, rfl⟩
theorem M_back_187 : Ki M_back 187 1 188 := Or.inr ⟨1, by decide +kernel, rfl, rfl⟩
theorem M_back_188 : Kj M_back 188 .goto 194 191 := ⟨6, by decide +kernel, by decide, rfl⟩
theorem M_back_191 : Ki M_back 191 1 192 := Or.inr ⟨1, by decide +kernel, rfl, rfl⟩
theorem M_back_192 : Kc M_back 192 1 193 := ⟨by decide, Or.inl ⟨by decide +kernel, rfl⟩⟩
theorem M_back_193 : K1 M_back 193 .iadd 194 := ⟨by decide +kernel, rfl⟩
theorem M_back_194 : Ks M_back 194 1 195 := ⟨by decide, Or.inr ⟨1, by decide +kernel, rfl, rfl⟩⟩
theorem M_back_195 : Kn M_back 195 2 1 198 := ⟨by decide, by decide +kernel, rfl⟩
theorem M_back_198 : Kj M_back 198 .goto 163 201 := ⟨(-35), by decide +kernel, by decide, rfl⟩
theorem M_back_201 : Ki M_back 201 1 202 := Or.inr ⟨1, by decide +kernel, rfl, rfl⟩
theorem M_back_202 : K1 M_back 202 .ireturn 203 := ⟨by decide +kernel, rfl⟩
theorem M_makeGoal_0 : Kc M_makeGoal 0 0 1 := ⟨by decide, Or.inl ⟨by decide +kernel, rfl⟩⟩
theorem M_makeGoal_1 : Ks M_makeGoal 1 3 2 := ⟨by decide, Or.inr ⟨3, by decide +kernel, rfl, rfl⟩⟩
theorem M_makeGoal_2 : Ki M_makeGoal 2 3 3 := Or.inr ⟨3, by decide +kernel, rfl, rfl⟩
theorem M_makeGoal_3 : Ka M_makeGoal 3 0 4 := Or.inr ⟨0, by decide +kernel, rfl, rfl⟩
theorem M_makeGoal_4 : Kg M_makeGoal 4 4 1 false 7 := ⟨50, by decide +kernel, rfl, fw_M_50⟩
theorem M_makeGoal_7 : Kj M_makeGoal 7 (.if_icmp .ge) 83 10 := ⟨76, by decide +kernel, by decide, rfl⟩
theorem M_makeGoal_10 : Ka M_makeGoal 10 0 11 := Or.inr ⟨0, by decide +kernel, rfl, rfl⟩
theorem M_makeGoal_11 : Kg M_makeGoal 11 4 3 true 14 := ⟨7, by decide +kernel, rfl, fw_M_7⟩
theorem M_makeGoal_14 : Kc M_makeGoal 14 6 16 := ⟨by decide, Or.inr (Or.inl ⟨by decide +kernel, rfl, by decide⟩)⟩
theorem M_makeGoal_16 : Ki M_makeGoal 16 2 17 := Or.inr ⟨2, by decide +kernel, rfl, rfl⟩
theorem M_makeGoal_17 : K1 M_makeGoal 17 .imul 18 := ⟨by decide +kernel, rfl⟩
theorem M_makeGoal_18 : Ki M_makeGoal 18 3 19 := Or.inr ⟨3, by decide +kernel, rfl, rfl⟩
theorem M_makeGoal_19 : K1 M_makeGoal 19 .iadd 20 := ⟨by decide +kernel, rfl⟩
theorem M_makeGoal_20 : K1 M_makeGoal 20 .iaload 21 := ⟨by decide +kernel, rfl⟩
theorem M_makeGoal_21 : Ks M_makeGoal 21 4 23 := ⟨by decide, Or.inl ⟨by decide +kernel, rfl⟩⟩
theorem M_makeGoal_23 : Ka M_makeGoal 23 0 24 := Or.inr ⟨0, by decide +kernel, rfl, rfl⟩
theorem M_makeGoal_24 : Kg M_makeGoal 24 4 17 true 27 := ⟨38, by decide +kernel, rfl, fw_M_38⟩
theorem M_makeGoal_27 : Kc M_makeGoal 27 6 29 := ⟨by decide, Or.inr (Or.inl ⟨by decide +kernel, rfl, by decide⟩)⟩
theorem M_makeGoal_29 : Ki M_makeGoal 29 1 30 := Or.inr ⟨1, by decide +kernel, rfl, rfl⟩
theorem M_makeGoal_30 : K1 M_makeGoal 30 .imul 31 := ⟨by decide +kernel, rfl⟩
theorem M_makeGoal_31 : Ki M_makeGoal 31 3 32 := Or.inr ⟨3, by decide +kernel, rfl, rfl⟩
theorem M_makeGoal_32 : K1 M_makeGoal 32 .iadd 33 := ⟨by decide +kernel, rfl⟩
theorem M_makeGoal_33 : K1 M_makeGoal 33 .iaload 34 := ⟨by decide +kernel, rfl⟩
theorem M_makeGoal_34 : Ka M_makeGoal 34 0 35 := Or.inr ⟨0, by decide +kernel, rfl, rfl⟩
theorem M_makeGoal_35 : Kg M_makeGoal 35 4 4 true 38 := ⟨13, by decide +kernel, rfl, fw_M_13⟩
theorem M_makeGoal_38 : Kc M_makeGoal 38 6 40 := ⟨by decide, Or.inr (Or.inl ⟨by decide +kernel, rfl, by decide⟩)⟩
theorem M_makeGoal_40 : Ki M_makeGoal 40 2 41 := Or.inr ⟨2, by decide +kernel, rfl, rfl⟩
theorem M_makeGoal_41 : K1 M_makeGoal 41 .imul 42 := ⟨by decide +kernel, rfl⟩
theorem M_makeGoal_42 : Ki M_makeGoal 42 3 43 := Or.inr ⟨3, by decide +kernel, rfl, rfl⟩
theorem M_makeGoal_43 : K1 M_makeGoal 43 .iadd 44 := ⟨by decide +kernel, rfl⟩
theorem M_makeGoal_44 : K1 M_makeGoal 44 .iaload 45 := ⟨by decide +kernel, rfl⟩
theorem M_makeGoal_45 : K1 M_makeGoal 45 .isub 46 := ⟨by decide +kernel, rfl⟩
theorem M_makeGoal_46 : Ks M_makeGoal 46 5 48 := ⟨by decide, Or.inl ⟨by decide +kernel, rfl⟩⟩
theorem M_makeGoal_48 : Ka M_makeGoal 48 0 49 := Or.inr ⟨0, by decide +kernel, rfl, rfl⟩
theorem M_makeGoal_49 : Kg M_makeGoal 49 4 17 true 52 := ⟨38, by decide +kernel, rfl, fw_M_38⟩
theorem M_makeGoal_52 : Kc M_makeGoal 52 6 54 := ⟨by decide, Or.inr (Or.inl ⟨by decide +kernel, rfl, by decide⟩)⟩
theorem M_makeGoal_54 : Ka M_makeGoal 54 0 55 := Or.inr ⟨0, by decide +kernel, rfl, rfl⟩
theorem M_makeGoal_55 : Kg M_makeGoal 55 4 16 false 58 := ⟨123, by decide +kernel, rfl, fw_M_123⟩
theorem M_makeGoal_58 : K1 M_makeGoal 58 .imul 59 := ⟨by decide +kernel, rfl⟩
theorem M_makeGoal_59 : Ki M_makeGoal 59 3 60 := Or.inr ⟨3, by decide +kernel, rfl, rfl⟩
theorem M_makeGoal_60 : K1 M_makeGoal 60 .iadd 61 := ⟨by decide +kernel, rfl⟩
theorem M_makeGoal_61 : Ki M_makeGoal 61 5 63 := Or.inl ⟨by decide +kernel, rfl⟩
theorem M_makeGoal_63 : Kj M_makeGoal 63 (.ifCond .le) 74 66 := ⟨11, by decide +kernel, by decide, rfl⟩
theorem M_makeGoal_66 : Ki M_makeGoal 66 5 68 := Or.inl ⟨by decide +kernel, rfl⟩
theorem M_makeGoal_68 : Ki M_makeGoal 68 4 70 := Or.inl ⟨by decide +kernel, rfl⟩
theorem M_makeGoal_70 : K1 M_makeGoal 70 .iadd 71 := ⟨by decide +kernel, rfl⟩
theorem M_makeGoal_71 : Kj M_makeGoal 71 .goto 76 74 := ⟨5, by decide +kernel, by decide, rfl⟩
theorem M_makeGoal_74 : Ki M_makeGoal 74 4 76 := Or.inl ⟨by decide +kernel, rfl⟩
theorem M_makeGoal_76 : K1 M_makeGoal 76 .iastore 77 := ⟨by decide +kernel, rfl⟩
theorem M_makeGoal_77 : Kn M_makeGoal 77 3 1 80 := ⟨by decide, by decide +kernel, rfl⟩
theorem M_makeGoal_80 : Kj M_makeGoal 80 .goto 2 83 := ⟨(-78), by decide +kernel, by decide, rfl⟩
theorem M_makeGoal_83 : Kc M_makeGoal 83 0 84 := ⟨by decide, Or.inl ⟨by decide +kernel, rfl⟩⟩
theorem M_makeGoal_84 : Ks M_makeGoal 84 3 85 := ⟨by decide, Or.inr ⟨3, by decide +kernel, rfl, rfl⟩⟩
theorem M_makeGoal_85 : Ki M_makeGoal 85 3 86 := Or.inr ⟨3, by decide +kernel, rfl, rfl⟩
theorem M_makeGoal_86 : Ka M_makeGoal 86 0 87 := Or.inr ⟨0, by decide +kernel, rfl, rfl⟩
theorem M_makeGoal_87 : Kg M_makeGoal 87 4 16 false 90 := ⟨123, by decide +kernel, rfl, fw_M_123⟩
theorem M_makeGoal_90 : Kj M_makeGoal 90 (.if_icmp .ge) 122 93 := ⟨32, by decide +kernel, by decide, rfl⟩
theorem M_makeGoal_93 : Ka M_makeGoal 93 0 94 := Or.inr ⟨0, by decide +kernel, rfl, rfl⟩
theorem M_makeGoal_94 : Kg M_makeGoal 94 4 20 true 97 := ⟨47, by decide +kernel, rfl, fw_M_47⟩
theorem M_makeGoal_97 : Ki M_makeGoal 97 3 98 := Or.inr ⟨3, by decide +kernel, rfl, rfl⟩
theorem M_makeGoal_98 : K1 M_makeGoal 98 .baload 99 := ⟨by decide +kernel, rfl⟩
theorem M_makeGoal_99 : Kj M_makeGoal 99 (.ifCond .ne) 116 102 := ⟨17, by decide +kernel, by decide, rfl⟩
theorem M_makeGoal_102 : Ka M_makeGoal 102 0 103 := Or.inr ⟨0, by decide +kernel, rfl, rfl⟩
theorem M_makeGoal_103 : Ki M_makeGoal 103 3 104 := Or.inr ⟨3, by decide +kernel, rfl, rfl⟩
theorem M_makeGoal_104 : Ka M_makeGoal 104 0 105 := Or.inr ⟨0, by decide +kernel, rfl, rfl⟩
theorem M_makeGoal_105 : Kg M_makeGoal 105 4 16 false 108 := ⟨123, by decide +kernel, rfl, fw_M_123⟩
theorem M_makeGoal_108 : KV M_makeGoal 108 M_isGoalBelow 4 2 111 := ⟨M_isGoalBelow_q, by decide, w_819, ws_36, rfl, by decide +kernel, ⟨(RX4, TX4, 21), rfl, rfl⟩, 126, by decide +kernel, w_817⟩
theorem M_makeGoal_111 : Kj M_makeGoal 111 (.ifCond .eq) 116 114 := ⟨5, by decide +kernel, by decide, rfl⟩
theorem M_makeGoal_114 : Kc M_makeGoal 114 0 115 := ⟨by decide, Or.inl ⟨by decide +kernel, rfl⟩⟩
theorem M_makeGoal_115 : K1 M_makeGoal 115 .ireturn 116 := ⟨by decide +kernel, rfl⟩
theorem M_makeGoal_116 : Kn M_makeGoal 116 3 1 119 := ⟨by decide, by decide +kernel, rfl⟩
theorem M_makeGoal_119 : Kj M_makeGoal 119 .goto 85 122 := ⟨(-34), by decide +kernel, by decide, rfl⟩
theorem M_makeGoal_122 : Kc M_makeGoal 122 0 123 := ⟨by decide, Or.inl ⟨by decide +kernel, rfl⟩⟩
theorem M_makeGoal_123 : Ks M_makeGoal 123 3 124 := ⟨by decide, Or.inr ⟨3, by decide +kernel, rfl, rfl⟩⟩
theorem M_makeGoal_124 : Ki M_makeGoal 124 3 125 := Or.inr ⟨3, by decide +kernel, rfl, rfl⟩
theorem M_makeGoal_125 : Ka M_makeGoal 125 0 126 := Or.inr ⟨0, by decide +kernel, rfl, rfl⟩
theorem M_makeGoal_126 : Kg M_makeGoal 126 4 16 false 129 := ⟨123, by decide +kernel, rfl, fw_M_123⟩
theorem M_makeGoal_129 : Kj M_makeGoal 129 (.if_icmp .ge) 170 132 := ⟨41, by decide +kernel, by decide, rfl⟩
theorem M_makeGoal_132 : Ka M_makeGoal 132 0 133 := Or.inr ⟨0, by decide +kernel, rfl, rfl⟩
theorem M_makeGoal_133 : Kg M_makeGoal 133 4 20 true 136 := ⟨47, by decide +kernel, rfl, fw_M_47⟩
theorem M_makeGoal_136 : Ki M_makeGoal 136 3 137 := Or.inr ⟨3, by decide +kernel, rfl, rfl⟩
theorem M_makeGoal_137 : Ka M_makeGoal 137 0 138 := Or.inr ⟨0, by decide +kernel, rfl, rfl⟩
theorem M_makeGoal_138 : Kg M_makeGoal 138 4 20 true 141 := ⟨47, by decide +kernel, rfl, fw_M_47⟩
theorem M_makeGoal_141 : Ki M_makeGoal 141 3 142 := Or.inr ⟨3, by decide +kernel, rfl, rfl⟩
theorem M_makeGoal_142 : K1 M_makeGoal 142 .baload 143 := ⟨by decide +kernel, rfl⟩
theorem M_makeGoal_143 : Kj M_makeGoal 143 (.ifCond .ne) 158 146 := ⟨15, by decide +kernel, by decide, rfl⟩
theorem M_makeGoal_146 : Ka M_makeGoal 146 0 147 := Or.inr ⟨0, by decide +kernel, rfl, rfl⟩
theorem M_makeGoal_147 : Ka M_makeGoal 147 0 148 := Or.inr ⟨0, by decide +kernel, rfl, rfl⟩
theorem M_makeGoal_148 : Kg M_makeGoal 148 4 16 false 151 := ⟨123, by decide +kernel, rfl, fw_M_123⟩
theorem M_makeGoal_151 : Ki M_makeGoal 151 3 152 := Or.inr ⟨3, by decide +kernel, rfl, rfl⟩
theorem M_makeGoal_152 : KV M_makeGoal 152 M_isGoalBelow 4 2 155 := ⟨M_isGoalBelow_q, by decide, w_819, ws_36, rfl, by decide +kernel, ⟨(RX4, TX4, 21), rfl, rfl⟩, 126, by decide +kernel, w_817⟩
theorem M_makeGoal_155 : Kj M_makeGoal 155 (.ifCond .eq) 162 158 := ⟨7, by decide +kernel, by decide, rfl⟩
theorem M_makeGoal_158 : Kc M_makeGoal 158 1 159 := ⟨by decide, Or.inl ⟨by decide +kernel, rfl⟩⟩
theorem M_makeGoal_159 : Kj M_makeGoal 159 .goto 163 162 := ⟨4, by decide +kernel, by decide, rfl⟩
theorem M_makeGoal_162 : Kc M_makeGoal 162 0 163 := ⟨by decide, Or.inl ⟨by decide +kernel, rfl⟩⟩
theorem M_makeGoal_163 : K1 M_makeGoal 163 .bastore 164 := ⟨by decide +kernel, rfl⟩
theorem M_makeGoal_164 : Kn M_makeGoal 164 3 1 167 := ⟨by decide, by decide +kernel, rfl⟩
theorem M_makeGoal_167 : Kj M_makeGoal 167 .goto 124 170 := ⟨(-43), by decide +kernel, by decide, rfl⟩
theorem M_makeGoal_170 : Ka M_makeGoal 170 0 171 := Or.inr ⟨0, by decide +kernel, rfl, rfl⟩
theorem M_makeGoal_171 : Kg M_makeGoal 171 4 18 true 174 := ⟨41, by decide +kernel, rfl, fw_M_41⟩
theorem M_makeGoal_174 : Ka M_makeGoal 174 0 175 := Or.inr ⟨0, by decide +kernel, rfl, rfl⟩
theorem M_makeGoal_175 : Kg M_makeGoal 175 4 16 false 178 := ⟨123, by decide +kernel, rfl, fw_M_123⟩
theorem M_makeGoal_178 : Ki M_makeGoal 178 1 179 := Or.inr ⟨1, by decide +kernel, rfl, rfl⟩
theorem M_makeGoal_179 : K1 M_makeGoal 179 .iastore 180 := ⟨by decide +kernel, rfl⟩
theorem M_makeGoal_180 : Ka M_makeGoal 180 0 181 := Or.inr ⟨0, by decide +kernel, rfl, rfl⟩
theorem M_makeGoal_181 : Kg M_makeGoal 181 4 19 true 184 := ⟨44, by decide +kernel, rfl, fw_M_44⟩
theorem M_makeGoal_184 : Ka M_makeGoal 184 0 185 := Or.inr ⟨0, by decide +kernel, rfl, rfl⟩
theorem M_makeGoal_185 : Kg M_makeGoal 185 4 16 false 188 := ⟨123, by decide +kernel, rfl, fw_M_123⟩
theorem M_makeGoal_188 : Ki M_makeGoal 188 2 189 := Or.inr ⟨2, by decide +kernel, rfl, rfl⟩
theorem M_makeGoal_189 : K1 M_makeGoal 189 .iastore 190 := ⟨by decide +kernel, rfl⟩
theorem M_makeGoal_190 : Ka M_makeGoal 190 0 191 := Or.inr ⟨0, by decide +kernel, rfl, rfl⟩
theorem M_makeGoal_191 : Kg M_makeGoal 191 4 20 true 194 := ⟨47, by decide +kernel, rfl, fw_M_47⟩
theorem M_makeGoal_194 : Ka M_makeGoal 194 0 195 := Or.inr ⟨0, by decide +kernel, rfl, rfl⟩
theorem M_makeGoal_195 : Kg M_makeGoal 195 4 16 false 198 := ⟨123, by decide +kernel, rfl, fw_M_123⟩
theorem M_makeGoal_198 : Kc M_makeGoal 198 0 199 := ⟨by decide, Or.inl ⟨by decide +kernel, rfl⟩⟩
theorem M_makeGoal_199 : K1 M_makeGoal 199 .bastore 200 := ⟨by decide +kernel, rfl⟩
theorem M_makeGoal_200 : Ka M_makeGoal 200 0 201 := Or.inr ⟨0, by decide +kernel, rfl, rfl⟩
theorem M_makeGoal_201 : K1 M_makeGoal 201 .dup 202 := ⟨by decide +kernel, rfl⟩
theorem M_makeGoal_202 : Kg M_makeGoal 202 4 16 false 205 := ⟨123, by decide +kernel, rfl, fw_M_123⟩
theorem M_makeGoal_205 : Kc M_makeGoal 205 1 206 := ⟨by decide, Or.inl ⟨by decide +kernel, rfl⟩⟩
theorem M_makeGoal_206 : K1 M_makeGoal 206 .iadd 207 := ⟨by decide +kernel, rfl⟩
theorem M_makeGoal_207 : Kp M_makeGoal 207 4 16 false .int false 210 := ⟨⟨123, by decide +kernel, rfl, fw_M_123⟩, ko_M_4_16, fun h => by cases h⟩
theorem M_makeGoal_210 : Kc M_makeGoal 210 1 211 := ⟨by decide, Or.inl ⟨by decide +kernel, rfl⟩⟩
theorem M_makeGoal_211 : K1 M_makeGoal 211 .ireturn 212 := ⟨by decide +kernel, rfl⟩
theorem M_isGoalBelow_0 : Kc M_isGoalBelow 0 1 1 := ⟨by decide, Or.inl ⟨by decide +kernel, rfl⟩⟩
theorem M_isGoalBelow_1 : Ks M_isGoalBelow 1 3 2 := ⟨by decide, Or.inr ⟨3, by decide +kernel, rfl, rfl⟩⟩
theorem M_isGoalBelow_2 : Kc M_isGoalBelow 2 0 3 := ⟨by decide, Or.inl ⟨by decide +kernel, rfl⟩⟩
theorem M_isGoalBelow_3 : Ks M_isGoalBelow 3 4 5 := ⟨by decide, Or.inl ⟨by decide +kernel, rfl⟩⟩
theorem M_isGoalBelow_5 : Ki M_isGoalBelow 5 4 7 := Or.inl ⟨by decide +kernel, rfl⟩
theorem M_isGoalBelow_7 : Ka M_isGoalBelow 7 0 8 := Or.inr ⟨0, by decide +kernel, rfl, rfl⟩
theorem M_isGoalBelow_8 : Kg M_isGoalBelow 8 4 1 false 11 := ⟨50, by decide +kernel, rfl, fw_M_50⟩
theorem M_isGoalBelow_11 : Kj M_isGoalBelow 11 (.if_icmp .ge) 57 14 := ⟨46, by decide +kernel, by decide, rfl⟩
theorem M_isGoalBelow_14 : Ki M_isGoalBelow 14 3 15 := Or.inr ⟨3, by decide +kernel, rfl, rfl⟩
theorem M_isGoalBelow_15 : Kj M_isGoalBelow 15 (.ifCond .eq) 49 18 := ⟨34, by decide +kernel, by decide, rfl⟩
theorem M_isGoalBelow_18 : Ka M_isGoalBelow 18 0 19 := Or.inr ⟨0, by decide +kernel, rfl, rfl⟩
theorem M_isGoalBelow_19 : Kg M_isGoalBelow 19 4 17 true 22 := ⟨38, by decide +kernel, rfl, fw_M_38⟩
theorem M_isGoalBelow_22 : Kc M_isGoalBelow 22 6 24 := ⟨by decide, Or.inr (Or.inl ⟨by decide +kernel, rfl, by decide⟩)⟩
theorem M_isGoalBelow_24 : Ki M_isGoalBelow 24 1 25 := Or.inr ⟨1, by decide +kernel, rfl, rfl⟩
theorem M_isGoalBelow_25 : K1 M_isGoalBelow 25 .imul 26 := ⟨by decide +kernel, rfl⟩
theorem M_isGoalBelow_26 : Ki M_isGoalBelow 26 4 28 := Or.inl ⟨by decide +kernel, rfl⟩
theorem M_isGoalBelow_28 : K1 M_isGoalBelow 28 .iadd 29 := ⟨by decide +kernel, rfl⟩
theorem M_isGoalBelow_29 : K1 M_isGoalBelow 29 .iaload 30 := ⟨by decide +kernel, rfl⟩
theorem M_isGoalBelow_30 : Ka M_isGoalBelow 30 0 31 := Or.inr ⟨0, by decide +kernel, rfl, rfl⟩
theorem M_isGoalBelow_31 : Kg M_isGoalBelow 31 4 17 true 34 := ⟨38, by decide +kernel, rfl, fw_M_38⟩
theorem M_isGoalBelow_34 : Kc M_isGoalBelow 34 6 36 := ⟨by decide, Or.inr (Or.inl ⟨by decide +kernel, rfl, by decide⟩)⟩
theorem M_isGoalBelow_36 : Ki M_isGoalBelow 36 2 37 := Or.inr ⟨2, by decide +kernel, rfl, rfl⟩
theorem M_isGoalBelow_37 : K1 M_isGoalBelow 37 .imul 38 := ⟨by decide +kernel, rfl⟩
theorem M_isGoalBelow_38 : Ki M_isGoalBelow 38 4 40 := Or.inl ⟨by decide +kernel, rfl⟩
theorem M_isGoalBelow_40 : K1 M_isGoalBelow 40 .iadd 41 := ⟨by decide +kernel, rfl⟩
theorem M_isGoalBelow_41 : K1 M_isGoalBelow 41 .iaload 42 := ⟨by decide +kernel, rfl⟩
theorem M_isGoalBelow_42 : Kj M_isGoalBelow 42 (.if_icmp .gt) 49 45 := ⟨7, by decide +kernel, by decide, rfl⟩
theorem M_isGoalBelow_45 : Kc M_isGoalBelow 45 1 46 := ⟨by decide, Or.inl ⟨by decide +kernel, rfl⟩⟩
theorem M_isGoalBelow_46 : Kj M_isGoalBelow 46 .goto 50 49 := ⟨4, by decide +kernel, by decide, rfl⟩
theorem M_isGoalBelow_49 : Kc M_isGoalBelow 49 0 50 := ⟨by decide, Or.inl ⟨by decide +kernel, rfl⟩⟩
theorem M_isGoalBelow_50 : Ks M_isGoalBelow 50 3 51 := ⟨by decide, Or.inr ⟨3, by decide +kernel, rfl, rfl⟩⟩
theorem M_isGoalBelow_51 : Kn M_isGoalBelow 51 4 1 54 := ⟨by decide, by decide +kernel, rfl⟩
theorem M_isGoalBelow_54 : Kj M_isGoalBelow 54 .goto 5 57 := ⟨(-49), by decide +kernel, by decide, rfl⟩
theorem M_isGoalBelow_57 : Ki M_isGoalBelow 57 3 58 := Or.inr ⟨3, by decide +kernel, rfl, rfl⟩
theorem M_isGoalBelow_58 : K1 M_isGoalBelow 58 .ireturn 59 := ⟨by decide +kernel, rfl⟩
theorem M_goal_0 : Kc M_goal 0 (-1) 1 := ⟨by decide, Or.inl ⟨by decide +kernel, rfl⟩⟩
theorem M_goal_1 : Ks M_goal 1 3 2 := ⟨by decide, Or.inr ⟨3, by decide +kernel, rfl, rfl⟩⟩
theorem M_goal_2 : Kc M_goal 2 0 3 := ⟨by decide, Or.inl ⟨by decide +kernel, rfl⟩⟩
theorem M_goal_3 : Ks M_goal 3 4 5 := ⟨by decide, Or.inl ⟨by decide +kernel, rfl⟩⟩
theorem M_goal_5 : Kc M_goal 5 0 6 := ⟨by decide, Or.inl ⟨by decide +kernel, rfl⟩⟩
theorem M_goal_6 : Ks M_goal 6 5 8 := ⟨by decide, Or.inl ⟨by decide +kernel, rfl⟩⟩
theorem M_goal_8 : Ki M_goal 8 5 10 := Or.inl ⟨by decide +kernel, rfl⟩
theorem M_goal_10 : Ka M_goal 10 0 11 := Or.inr ⟨0, by decide +kernel, rfl, rfl⟩
theorem M_goal_11 : Kg M_goal 11 4 16 false 14 := ⟨123, by decide +kernel, rfl, fw_M_123⟩
theorem M_goal_14 : Kj M_goal 14 (.if_icmp .ge) 74 17 := ⟨60, by decide +kernel, by decide, rfl⟩
theorem M_goal_17 : Ka M_goal 17 0 18 := Or.inr ⟨0, by decide +kernel, rfl, rfl⟩
theorem M_goal_18 : Kg M_goal 18 4 15 false 21 := ⟨64, by decide +kernel, rfl, fw_M_64⟩
theorem M_goal_21 : Kj M_goal 21 (.ifCond .eq) 74 24 := ⟨53, by decide +kernel, by decide, rfl⟩
theorem M_goal_24 : Ka M_goal 24 0 25 := Or.inr ⟨0, by decide +kernel, rfl, rfl⟩
theorem M_goal_25 : Kg M_goal 25 4 20 true 28 := ⟨47, by decide +kernel, rfl, fw_M_47⟩
theorem M_goal_28 : Ki M_goal 28 5 30 := Or.inl ⟨by decide +kernel, rfl⟩
theorem M_goal_30 : K1 M_goal 30 .baload 31 := ⟨by decide +kernel, rfl⟩
theorem M_goal_31 : Kj M_goal 31 (.ifCond .ne) 45 34 := ⟨14, by decide +kernel, by decide, rfl⟩
theorem M_goal_34 : Ki M_goal 34 4 36 := Or.inl ⟨by decide +kernel, rfl⟩
theorem M_goal_36 : Ki M_goal 36 1 37 := Or.inr ⟨1, by decide +kernel, rfl, rfl⟩
theorem M_goal_37 : Kj M_goal 37 (.if_icmp .ne) 45 40 := ⟨8, by decide +kernel, by decide, rfl⟩
theorem M_goal_40 : Ki M_goal 40 5 42 := Or.inl ⟨by decide +kernel, rfl⟩
theorem M_goal_42 : Kj M_goal 42 .goto 46 45 := ⟨4, by decide +kernel, by decide, rfl⟩
theorem M_goal_45 : Ki M_goal 45 3 46 := Or.inr ⟨3, by decide +kernel, rfl, rfl⟩
theorem M_goal_46 : Ks M_goal 46 3 47 := ⟨by decide, Or.inr ⟨3, by decide +kernel, rfl, rfl⟩⟩
theorem M_goal_47 : Ka M_goal 47 0 48 := Or.inr ⟨0, by decide +kernel, rfl, rfl⟩
theorem M_goal_48 : Kg M_goal 48 4 20 true 51 := ⟨47, by decide +kernel, rfl, fw_M_47⟩
theorem M_goal_51 : Ki M_goal 51 5 53 := Or.inl ⟨by decide +kernel, rfl⟩
theorem M_goal_53 : K1 M_goal 53 .baload 54 := ⟨by decide +kernel, rfl⟩
theorem M_goal_54 : Kj M_goal 54 (.ifCond .eq) 62 57 := ⟨8, by decide +kernel, by decide, rfl⟩
theorem M_goal_57 : Ki M_goal 57 4 59 := Or.inl ⟨by decide +kernel, rfl⟩
theorem M_goal_59 : Kj M_goal 59 .goto 66 62 := ⟨7, by decide +kernel, by decide, rfl⟩
theorem M_goal_62 : Ki M_goal 62 4 64 := Or.inl ⟨by decide +kernel, rfl⟩
theorem M_goal_64 : Kc M_goal 64 1 65 := ⟨by decide, Or.inl ⟨by decide +kernel, rfl⟩⟩
theorem M_goal_65 : K1 M_goal 65 .iadd 66 := ⟨by decide +kernel, rfl⟩
theorem M_goal_66 : Ks M_goal 66 4 68 := ⟨by decide, Or.inl ⟨by decide +kernel, rfl⟩⟩
theorem M_goal_68 : Kn M_goal 68 5 1 71 := ⟨by decide, by decide +kernel, rfl⟩
theorem M_goal_71 : Kj M_goal 71 .goto 8 74 := ⟨(-63), by decide +kernel, by decide, rfl⟩
theorem M_goal_74 : Ka M_goal 74 0 75 := Or.inr ⟨0, by decide +kernel, rfl, rfl⟩
theorem M_goal_75 : Ka M_goal 75 0 76 := Or.inr ⟨0, by decide +kernel, rfl, rfl⟩
theorem M_goal_76 : Kg M_goal 76 4 15 false 79 := ⟨64, by decide +kernel, rfl, fw_M_64⟩
theorem M_goal_79 : Kj M_goal 79 (.ifCond .ne) 86 82 := ⟨7, by decide +kernel, by decide, rfl⟩
theorem M_goal_82 : Kc M_goal 82 1 83 := ⟨by decide, Or.inl ⟨by decide +kernel, rfl⟩⟩
theorem M_goal_83 : Kj M_goal 83 .goto 103 86 := ⟨20, by decide +kernel, by decide, rfl⟩
theorem M_goal_86 : Ki M_goal 86 3 87 := Or.inr ⟨3, by decide +kernel, rfl, rfl⟩
theorem M_goal_87 : Kj M_goal 87 (.ifCond .lt) 98 90 := ⟨11, by decide +kernel, by decide, rfl⟩
theorem M_goal_90 : Ka M_goal 90 0 91 := Or.inr ⟨0, by decide +kernel, rfl, rfl⟩
theorem M_goal_91 : Ki M_goal 91 2 92 := Or.inr ⟨2, by decide +kernel, rfl, rfl⟩
theorem M_goal_92 : KV M_goal 92 M_isPlace 4 1 95 := ⟨M_isPlace_q, by decide, w_695, ws_22, rfl, by decide +kernel, ⟨(RX4, TX4, 21), rfl, rfl⟩, 71, by decide +kernel, w_693⟩
theorem M_goal_95 : Kj M_goal 95 (.ifCond .ne) 102 98 := ⟨7, by decide +kernel, by decide, rfl⟩
theorem M_goal_98 : Kc M_goal 98 2 99 := ⟨by decide, Or.inl ⟨by decide +kernel, rfl⟩⟩
theorem M_goal_99 : Kj M_goal 99 .goto 103 102 := ⟨4, by decide +kernel, by decide, rfl⟩
theorem M_goal_102 : Kc M_goal 102 0 103 := ⟨by decide, Or.inl ⟨by decide +kernel, rfl⟩⟩
theorem M_goal_103 : Kp M_goal 103 4 0 false .int false 106 := ⟨⟨57, by decide +kernel, rfl, fw_M_57⟩, ko_M_4_0, fun h => by cases h⟩
theorem M_goal_106 : Ka M_goal 106 0 107 := Or.inr ⟨0, by decide +kernel, rfl, rfl⟩
theorem M_goal_107 : Kg M_goal 107 4 0 false 110 := ⟨57, by decide +kernel, rfl, fw_M_57⟩
theorem M_goal_110 : Kj M_goal 110 (.ifCond .ne) 127 113 := ⟨17, by decide +kernel, by decide, rfl⟩
theorem M_goal_113 : Ka M_goal 113 0 114 := Or.inr ⟨0, by decide +kernel, rfl, rfl⟩
theorem M_goal_114 : Kg M_goal 114 4 17 true 117 := ⟨38, by decide +kernel, rfl, fw_M_38⟩
theorem M_goal_117 : Kc M_goal 117 6 119 := ⟨by decide, Or.inr (Or.inl ⟨by decide +kernel, rfl, by decide⟩)⟩
theorem M_goal_119 : Ki M_goal 119 3 120 := Or.inr ⟨3, by decide +kernel, rfl, rfl⟩
theorem M_goal_120 : K1 M_goal 120 .imul 121 := ⟨by decide +kernel, rfl⟩
theorem M_goal_121 : Ki M_goal 121 2 122 := Or.inr ⟨2, by decide +kernel, rfl, rfl⟩
theorem M_goal_122 : K1 M_goal 122 .iadd 123 := ⟨by decide +kernel, rfl⟩
theorem M_goal_123 : K1 M_goal 123 .iaload 124 := ⟨by decide +kernel, rfl⟩
theorem M_goal_124 : Kj M_goal 124 .goto 128 127 := ⟨4, by decide +kernel, by decide, rfl⟩
theorem M_goal_127 : Kc M_goal 127 0 128 := ⟨by decide, Or.inl ⟨by decide +kernel, rfl⟩⟩
theorem M_goal_128 : K1 M_goal 128 .ireturn 129 := ⟨by decide +kernel, rfl⟩
theorem M_length_0 : Ka M_length 0 0 1 := Or.inr ⟨0, by decide +kernel, rfl, rfl⟩
theorem M_length_1 : Kg M_length 1 4 15 false 4 := ⟨64, by decide +kernel, rfl, fw_M_64⟩
theorem M_length_4 : Kj M_length 4 (.ifCond .eq) 14 7 := ⟨10, by decide +kernel, by decide, rfl⟩
theorem M_length_7 : Ka M_length 7 0 8 := Or.inr ⟨0, by decide +kernel, rfl, rfl⟩
theorem M_length_8 : KV M_length 8 M_firstGoal 4 0 11 := ⟨M_firstGoal_q, by decide, w_831, ws_37, rfl, by decide +kernel, ⟨(RX4, TX4, 21), rfl, rfl⟩, 132, by decide +kernel, w_829⟩
theorem M_length_11 : Kj M_length 11 .goto 15 14 := ⟨4, by decide +kernel, by decide, rfl⟩
theorem M_length_14 : Kc M_length 14 (-1) 15 := ⟨by decide, Or.inl ⟨by decide +kernel, rfl⟩⟩
theorem M_length_15 : Ks M_length 15 1 16 := ⟨by decide, Or.inr ⟨1, by decide +kernel, rfl, rfl⟩⟩
theorem M_length_16 : Ka M_length 16 0 17 := Or.inr ⟨0, by decide +kernel, rfl, rfl⟩
theorem M_length_17 : Ka M_length 17 0 18 := Or.inr ⟨0, by decide +kernel, rfl, rfl⟩
theorem M_length_18 : Kg M_length 18 4 15 false 21 := ⟨64, by decide +kernel, rfl, fw_M_64⟩
theorem M_length_21 : Kj M_length 21 (.ifCond .ne) 28 24 := ⟨7, by decide +kernel, by decide, rfl⟩
theorem M_length_24 : Kc M_length 24 1 25 := ⟨by decide, Or.inl ⟨by decide +kernel, rfl⟩⟩
theorem M_length_25 : Kj M_length 25 .goto 37 28 := ⟨12, by decide +kernel, by decide, rfl⟩
theorem M_length_28 : Ki M_length 28 1 29 := Or.inr ⟨1, by decide +kernel, rfl, rfl⟩
theorem M_length_29 : Kj M_length 29 (.ifCond .ge) 36 32 := ⟨7, by decide +kernel, by decide, rfl⟩
theorem M_length_32 : Kc M_length 32 2 33 := ⟨by decide, Or.inl ⟨by decide +kernel, rfl⟩⟩
theorem M_length_33 : Kj M_length 33 .goto 37 36 := ⟨4, by decide +kernel, by decide, rfl⟩
theorem M_length_36 : Kc M_length 36 0 37 := ⟨by decide, Or.inl ⟨by decide +kernel, rfl⟩⟩
theorem M_length_37 : Kp M_length 37 4 0 false .int false 40 := ⟨⟨57, by decide +kernel, rfl, fw_M_57⟩, ko_M_4_0, fun h => by cases h⟩
theorem M_length_40 : Kc M_length 40 0 41 := ⟨by decide, Or.inl ⟨by decide +kernel, rfl⟩⟩
theorem M_length_41 : Ks M_length 41 2 42 := ⟨by decide, Or.inr ⟨2, by decide +kernel, rfl, rfl⟩⟩
theorem M_length_42 : Ki M_length 42 1 43 := Or.inr ⟨1, by decide +kernel, rfl, rfl⟩
theorem M_length_43 : Ks M_length 43 3 44 := ⟨by decide, Or.inr ⟨3, by decide +kernel, rfl, rfl⟩⟩
theorem M_length_44 : Ki M_length 44 3 45 := Or.inr ⟨3, by decide +kernel, rfl, rfl⟩
theorem M_length_45 : Kj M_length 45 (.ifCond .le) 61 48 := ⟨16, by decide +kernel, by decide, rfl⟩
theorem M_length_48 : Kn M_length 48 2 1 51 := ⟨by decide, by decide +kernel, rfl⟩
theorem M_length_51 : Ka M_length 51 0 52 := Or.inr ⟨0, by decide +kernel, rfl, rfl⟩
theorem M_length_52 : Kg M_length 52 4 18 true 55 := ⟨41, by decide +kernel, rfl, fw_M_41⟩
theorem M_length_55 : Ki M_length 55 3 56 := Or.inr ⟨3, by decide +kernel, rfl, rfl⟩
theorem M_length_56 : K1 M_length 56 .iaload 57 := ⟨by decide +kernel, rfl⟩
theorem M_length_57 : Ks M_length 57 3 58 := ⟨by decide, Or.inr ⟨3, by decide +kernel, rfl, rfl⟩⟩
theorem M_length_58 : Kj M_length 58 .goto 44 61 := ⟨(-14), by decide +kernel, by decide, rfl⟩
theorem M_length_61 : Ki M_length 61 2 62 := Or.inr ⟨2, by decide +kernel, rfl, rfl⟩
theorem M_length_62 : K1 M_length 62 .ireturn 63 := ⟨by decide +kernel, rfl⟩
theorem M_firstGoal_0 : Kc M_firstGoal 0 0 1 := ⟨by decide, Or.inl ⟨by decide +kernel, rfl⟩⟩
theorem M_firstGoal_1 : Ks M_firstGoal 1 1 2 := ⟨by decide, Or.inr ⟨1, by decide +kernel, rfl, rfl⟩⟩
theorem M_firstGoal_2 : Ki M_firstGoal 2 1 3 := Or.inr ⟨1, by decide +kernel, rfl, rfl⟩
theorem M_firstGoal_3 : Ka M_firstGoal 3 0 4 := Or.inr ⟨0, by decide +kernel, rfl, rfl⟩
theorem M_firstGoal_4 : Kg M_firstGoal 4 4 16 false 7 := ⟨123, by decide +kernel, rfl, fw_M_123⟩
theorem M_firstGoal_7 : Kj M_firstGoal 7 (.if_icmp .ge) 70 10 := ⟨63, by decide +kernel, by decide, rfl⟩
theorem M_firstGoal_10 : Kc M_firstGoal 10 1 11 := ⟨by decide, Or.inl ⟨by decide +kernel, rfl⟩⟩
theorem M_firstGoal_11 : Ks M_firstGoal 11 2 12 := ⟨by decide, Or.inr ⟨2, by decide +kernel, rfl, rfl⟩⟩
theorem M_firstGoal_12 : Kc M_firstGoal 12 0 13 := ⟨by decide, Or.inl ⟨by decide +kernel, rfl⟩⟩
theorem M_firstGoal_13 : Ks M_firstGoal 13 3 14 := ⟨by decide, Or.inr ⟨3, by decide +kernel, rfl, rfl⟩⟩
theorem M_firstGoal_14 : Ki M_firstGoal 14 3 15 := Or.inr ⟨3, by decide +kernel, rfl, rfl⟩
theorem M_firstGoal_15 : Ka M_firstGoal 15 0 16 := Or.inr ⟨0, by decide +kernel, rfl, rfl⟩
theorem M_firstGoal_16 : Kg M_firstGoal 16 4 1 false 19 := ⟨50, by decide +kernel, rfl, fw_M_50⟩
theorem M_firstGoal_19 : Kj M_firstGoal 19 (.if_icmp .ge) 58 22 := ⟨39, by decide +kernel, by decide, rfl⟩
theorem M_firstGoal_22 : Ki M_firstGoal 22 2 23 := Or.inr ⟨2, by decide +kernel, rfl, rfl⟩
theorem M_firstGoal_23 : Kj M_firstGoal 23 (.ifCond .eq) 50 26 := ⟨27, by decide +kernel, by decide, rfl⟩
theorem M_firstGoal_26 : Ka M_firstGoal 26 0 27 := Or.inr ⟨0, by decide +kernel, rfl, rfl⟩
theorem M_firstGoal_27 : Kg M_firstGoal 27 4 17 true 30 := ⟨38, by decide +kernel, rfl, fw_M_38⟩
theorem M_firstGoal_30 : Kc M_firstGoal 30 6 32 := ⟨by decide, Or.inr (Or.inl ⟨by decide +kernel, rfl, by decide⟩)⟩
theorem M_firstGoal_32 : Ki M_firstGoal 32 1 33 := Or.inr ⟨1, by decide +kernel, rfl, rfl⟩
theorem M_firstGoal_33 : K1 M_firstGoal 33 .imul 34 := ⟨by decide +kernel, rfl⟩
theorem M_firstGoal_34 : Ki M_firstGoal 34 3 35 := Or.inr ⟨3, by decide +kernel, rfl, rfl⟩
theorem M_firstGoal_35 : K1 M_firstGoal 35 .iadd 36 := ⟨by decide +kernel, rfl⟩
theorem M_firstGoal_36 : K1 M_firstGoal 36 .iaload 37 := ⟨by decide +kernel, rfl⟩
theorem M_firstGoal_37 : Ka M_firstGoal 37 0 38 := Or.inr ⟨0, by decide +kernel, rfl, rfl⟩
theorem M_firstGoal_38 : Kg M_firstGoal 38 4 5 true 41 := ⟨16, by decide +kernel, rfl, fw_M_16⟩
theorem M_firstGoal_41 : Ki M_firstGoal 41 3 42 := Or.inr ⟨3, by decide +kernel, rfl, rfl⟩
theorem M_firstGoal_42 : K1 M_firstGoal 42 .iaload 43 := ⟨by decide +kernel, rfl⟩
theorem M_firstGoal_43 : Kj M_firstGoal 43 (.if_icmp .gt) 50 46 := ⟨7, by decide +kernel, by decide, rfl⟩
theorem M_firstGoal_46 : Kc M_firstGoal 46 1 47 := ⟨by decide, Or.inl ⟨by decide +kernel, rfl⟩⟩
theorem M_firstGoal_47 : Kj M_firstGoal 47 .goto 51 50 := ⟨4, by decide +kernel, by decide, rfl⟩
theorem M_firstGoal_50 : Kc M_firstGoal 50 0 51 := ⟨by decide, Or.inl ⟨by decide +kernel, rfl⟩⟩
theorem M_firstGoal_51 : Ks M_firstGoal 51 2 52 := ⟨by decide, Or.inr ⟨2, by decide +kernel, rfl, rfl⟩⟩
theorem M_firstGoal_52 : Kn M_firstGoal 52 3 1 55 := ⟨by decide, by decide +kernel, rfl⟩
theorem M_firstGoal_55 : Kj M_firstGoal 55 .goto 14 58 := ⟨(-41), by decide +kernel, by decide, rfl⟩
theorem M_firstGoal_58 : Ki M_firstGoal 58 2 59 := Or.inr ⟨2, by decide +kernel, rfl, rfl⟩
theorem M_firstGoal_59 : Kj M_firstGoal 59 (.ifCond .eq) 64 62 := ⟨5, by decide +kernel, by decide, rfl⟩
theorem M_firstGoal_62 : Ki M_firstGoal 62 1 63 := Or.inr ⟨1, by decide +kernel, rfl, rfl⟩
theorem M_firstGoal_63 : K1 M_firstGoal 63 .ireturn 64 := ⟨by decide +kernel, rfl⟩
theorem M_firstGoal_64 : Kn M_firstGoal 64 1 1 67 := ⟨by decide, by decide +kernel, rfl⟩
theorem M_firstGoal_67 : Kj M_firstGoal 67 .goto 2 70 := ⟨(-65), by decide +kernel, by decide, rfl⟩
theorem M_firstGoal_70 : Kc M_firstGoal 70 (-1) 71 := ⟨by decide, Or.inl ⟨by decide +kernel, rfl⟩⟩
theorem M_firstGoal_71 : K1 M_firstGoal 71 .ireturn 72 := ⟨by decide +kernel, rfl⟩
theorem M_way_0 : Ka M_way 0 0 1 := Or.inr ⟨0, by decide +kernel, rfl, rfl⟩
theorem M_way_1 : Kg M_way 1 4 15 false 4 := ⟨64, by decide +kernel, rfl, fw_M_64⟩
theorem M_way_4 : Kj M_way 4 (.ifCond .eq) 14 7 := ⟨10, by decide +kernel, by decide, rfl⟩
theorem M_way_7 : Ka M_way 7 0 8 := Or.inr ⟨0, by decide +kernel, rfl, rfl⟩
theorem M_way_8 : KV M_way 8 M_firstGoal 4 0 11 := ⟨M_firstGoal_q, by decide, w_831, ws_37, rfl, by decide +kernel, ⟨(RX4, TX4, 21), rfl, rfl⟩, 132, by decide +kernel, w_829⟩
theorem M_way_11 : Kj M_way 11 .goto 15 14 := ⟨4, by decide +kernel, by decide, rfl⟩
theorem M_way_14 : Kc M_way 14 (-1) 15 := ⟨by decide, Or.inl ⟨by decide +kernel, rfl⟩⟩
theorem M_way_15 : Ks M_way 15 2 16 := ⟨by decide, Or.inr ⟨2, by decide +kernel, rfl, rfl⟩⟩
theorem M_way_16 : Ka M_way 16 0 17 := Or.inr ⟨0, by decide +kernel, rfl, rfl⟩
theorem M_way_17 : Ka M_way 17 0 18 := Or.inr ⟨0, by decide +kernel, rfl, rfl⟩
theorem M_way_18 : Kg M_way 18 4 15 false 21 := ⟨64, by decide +kernel, rfl, fw_M_64⟩
theorem M_way_21 : Kj M_way 21 (.ifCond .ne) 28 24 := ⟨7, by decide +kernel, by decide, rfl⟩
theorem M_way_24 : Kc M_way 24 1 25 := ⟨by decide, Or.inl ⟨by decide +kernel, rfl⟩⟩
theorem M_way_25 : Kj M_way 25 .goto 37 28 := ⟨12, by decide +kernel, by decide, rfl⟩
theorem M_way_28 : Ki M_way 28 2 29 := Or.inr ⟨2, by decide +kernel, rfl, rfl⟩
theorem M_way_29 : Kj M_way 29 (.ifCond .ge) 36 32 := ⟨7, by decide +kernel, by decide, rfl⟩
theorem M_way_32 : Kc M_way 32 2 33 := ⟨by decide, Or.inl ⟨by decide +kernel, rfl⟩⟩
theorem M_way_33 : Kj M_way 33 .goto 37 36 := ⟨4, by decide +kernel, by decide, rfl⟩
theorem M_way_36 : Kc M_way 36 0 37 := ⟨by decide, Or.inl ⟨by decide +kernel, rfl⟩⟩
theorem M_way_37 : Kp M_way 37 4 0 false .int false 40 := ⟨⟨57, by decide +kernel, rfl, fw_M_57⟩, ko_M_4_0, fun h => by cases h⟩
theorem M_way_40 : Kc M_way 40 0 41 := ⟨by decide, Or.inl ⟨by decide +kernel, rfl⟩⟩
theorem M_way_41 : Ks M_way 41 3 42 := ⟨by decide, Or.inr ⟨3, by decide +kernel, rfl, rfl⟩⟩
theorem M_way_42 : Ki M_way 42 2 43 := Or.inr ⟨2, by decide +kernel, rfl, rfl⟩
theorem M_way_43 : Ks M_way 43 4 45 := ⟨by decide, Or.inl ⟨by decide +kernel, rfl⟩⟩
theorem M_way_45 : Ki M_way 45 4 47 := Or.inl ⟨by decide +kernel, rfl⟩
theorem M_way_47 : Kj M_way 47 (.ifCond .le) 78 50 := ⟨31, by decide +kernel, by decide, rfl⟩
theorem M_way_50 : Ki M_way 50 3 51 := Or.inr ⟨3, by decide +kernel, rfl, rfl⟩
theorem M_way_51 : Ki M_way 51 1 52 := Or.inr ⟨1, by decide +kernel, rfl, rfl⟩
theorem M_way_52 : Kj M_way 52 (.if_icmp .ne) 63 55 := ⟨11, by decide +kernel, by decide, rfl⟩
theorem M_way_55 : Ka M_way 55 0 56 := Or.inr ⟨0, by decide +kernel, rfl, rfl⟩
theorem M_way_56 : Kg M_way 56 4 19 true 59 := ⟨44, by decide +kernel, rfl, fw_M_44⟩
theorem M_way_59 : Ki M_way 59 4 61 := Or.inl ⟨by decide +kernel, rfl⟩
theorem M_way_61 : K1 M_way 61 .iaload 62 := ⟨by decide +kernel, rfl⟩
theorem M_way_62 : K1 M_way 62 .ireturn 63 := ⟨by decide +kernel, rfl⟩
theorem M_way_63 : Kn M_way 63 3 1 66 := ⟨by decide, by decide +kernel, rfl⟩
theorem M_way_66 : Ka M_way 66 0 67 := Or.inr ⟨0, by decide +kernel, rfl, rfl⟩
theorem M_way_67 : Kg M_way 67 4 18 true 70 := ⟨41, by decide +kernel, rfl, fw_M_41⟩
theorem M_way_70 : Ki M_way 70 4 72 := Or.inl ⟨by decide +kernel, rfl⟩
theorem M_way_72 : K1 M_way 72 .iaload 73 := ⟨by decide +kernel, rfl⟩
theorem M_way_73 : Ks M_way 73 4 75 := ⟨by decide, Or.inl ⟨by decide +kernel, rfl⟩⟩
theorem M_way_75 : Kj M_way 75 .goto 45 78 := ⟨(-30), by decide +kernel, by decide, rfl⟩
theorem M_way_78 : Ka M_way 78 0 79 := Or.inr ⟨0, by decide +kernel, rfl, rfl⟩
theorem M_way_79 : Ka M_way 79 0 80 := Or.inr ⟨0, by decide +kernel, rfl, rfl⟩
theorem M_way_80 : Kg M_way 80 4 0 false 83 := ⟨57, by decide +kernel, rfl, fw_M_57⟩
theorem M_way_83 : Kj M_way 83 (.ifCond .ne) 90 86 := ⟨7, by decide +kernel, by decide, rfl⟩
theorem M_way_86 : Kc M_way 86 3 87 := ⟨by decide, Or.inl ⟨by decide +kernel, rfl⟩⟩
theorem M_way_87 : Kj M_way 87 .goto 94 90 := ⟨7, by decide +kernel, by decide, rfl⟩
theorem M_way_90 : Ka M_way 90 0 91 := Or.inr ⟨0, by decide +kernel, rfl, rfl⟩
theorem M_way_91 : Kg M_way 91 4 0 false 94 := ⟨57, by decide +kernel, rfl, fw_M_57⟩
theorem M_way_94 : Kp M_way 94 4 0 false .int false 97 := ⟨⟨57, by decide +kernel, rfl, fw_M_57⟩, ko_M_4_0, fun h => by cases h⟩
theorem M_way_97 : Kc M_way 97 0 98 := ⟨by decide, Or.inl ⟨by decide +kernel, rfl⟩⟩
theorem M_way_98 : K1 M_way 98 .ireturn 99 := ⟨by decide +kernel, rfl⟩
end
section
theorem L_cell_0 : Ki L_cell 0 1 1 := Or.inr ⟨1, by decide +kernel, rfl, rfl⟩
theorem L_cell_1 : Ka L_cell 1 0 2 := Or.inr ⟨0, by decide +kernel, rfl, rfl⟩
theorem L_cell_2 : K1 L_cell 2 .arraylength 3 := ⟨by decide +kernel, rfl⟩
theorem L_cell_3 : Kj L_cell 3 (.if_icmp .ge) 12 6 := ⟨9, by decide +kernel, by decide, rfl⟩
theorem L_cell_6 : Ka L_cell 6 0 7 := Or.inr ⟨0, by decide +kernel, rfl, rfl⟩
theorem L_cell_7 : Ki L_cell 7 1 8 := Or.inr ⟨1, by decide +kernel, rfl, rfl⟩
theorem L_cell_8 : K1 L_cell 8 .iaload 9 := ⟨by decide +kernel, rfl⟩
theorem L_cell_9 : Kj L_cell 9 .goto 13 12 := ⟨4, by decide +kernel, by decide, rfl⟩
theorem L_cell_12 : Kc L_cell 12 0 13 := ⟨by decide, Or.inl ⟨by decide +kernel, rfl⟩⟩
theorem L_cell_13 : K1 L_cell 13 .ireturn 14 := ⟨by decide +kernel, rfl⟩
theorem L_arc_0 : Ka L_arc 0 5 2 := Or.inl ⟨by decide +kernel, rfl⟩
theorem L_arc_2 : Kc L_arc 2 0 3 := ⟨by decide, Or.inl ⟨by decide +kernel, rfl⟩⟩
theorem L_arc_3 : Ka L_arc 3 0 4 := Or.inr ⟨0, by decide +kernel, rfl, rfl⟩
theorem L_arc_4 : Ki L_arc 4 1 5 := Or.inr ⟨1, by decide +kernel, rfl, rfl⟩
theorem L_arc_5 : Ki L_arc 5 2 6 := Or.inr ⟨2, by decide +kernel, rfl, rfl⟩
theorem L_arc_6 : Ki L_arc 6 3 7 := Or.inr ⟨3, by decide +kernel, rfl, rfl⟩
theorem L_arc_7 : Ki L_arc 7 4 9 := Or.inl ⟨by decide +kernel, rfl⟩
theorem L_arc_9 : KV L_arc 9 O_arc 3 4 12 := ⟨O_arc_q, by decide, w_193, w_194, rfl, by decide +kernel, ⟨(RX3, TX3, 6), rfl, rfl⟩, 7, by decide +kernel, w_192⟩
theorem L_arc_12 : K1 L_arc 12 .i2l 13 := ⟨by decide +kernel, rfl⟩
theorem L_arc_13 : K1 L_arc 13 .lastore 14 := ⟨by decide +kernel, rfl⟩
theorem L_arc_14 : Kj L_arc 14 .goto 25 17 := ⟨11, by decide +kernel, by decide, rfl⟩
theorem L_arc_17 : Kt L_arc 17 6 19 := ⟨by decide, Or.inl ⟨by decide +kernel, rfl⟩⟩
theorem L_arc_19 : Kc L_arc 19 1 20 := ⟨by decide, Or.inl ⟨by decide +kernel, rfl⟩⟩
theorem L_arc_20 : K1 L_arc 20 .ireturn 21 := ⟨by decide +kernel, rfl⟩
theorem L_arc_21 : Kt L_arc 21 6 23 := ⟨by decide, Or.inl ⟨by decide +kernel, rfl⟩⟩
theorem L_arc_23 : Kc L_arc 23 2 24 := ⟨by decide, Or.inl ⟨by decide +kernel, rfl⟩⟩
theorem L_arc_24 : K1 L_arc 24 .ireturn 25 := ⟨by decide +kernel, rfl⟩
theorem L_arc_25 : Kc L_arc 25 0 26 := ⟨by decide, Or.inl ⟨by decide +kernel, rfl⟩⟩
theorem L_arc_26 : K1 L_arc 26 .ireturn 27 := ⟨by decide +kernel, rfl⟩
theorem L_arc_h0 : Kh L_arc 9 "java/lang/IndexOutOfBoundsException" 6 19 := ⟨[], [(0, 14, 21, 15)], (0, 14, 17, 13), rfl, (fun z hz => nomatch hz), by decide, by decide, by decide, w_190, w_205, ⟨by decide, Or.inl ⟨by decide +kernel, rfl⟩⟩⟩
theorem L_arc_h1 : Kh L_arc 9 "java/lang/IllegalArgumentException" 6 23 := ⟨[(0, 14, 17, 13)], [], (0, 14, 21, 15), rfl, (List.forall_mem_cons.mpr ⟨⟨by decide, "java/lang/IndexOutOfBoundsException", w_190, by decide +kernel⟩, fun z hz => nomatch hz⟩), by decide, by decide, by decide, w_191, w_281, ⟨by decide, Or.inl ⟨by decide +kernel, rfl⟩⟩⟩
theorem L_start_0 : Ka L_start 0 3 1 := Or.inr ⟨3, by decide +kernel, rfl, rfl⟩
theorem L_start_1 : Kc L_start 1 0 2 := ⟨by decide, Or.inl ⟨by decide +kernel, rfl⟩⟩
theorem L_start_2 : Ka L_start 2 0 3 := Or.inr ⟨0, by decide +kernel, rfl, rfl⟩
theorem L_start_3 : Ki L_start 3 1 4 := Or.inr ⟨1, by decide +kernel, rfl, rfl⟩
theorem L_start_4 : Ki L_start 4 2 5 := Or.inr ⟨2, by decide +kernel, rfl, rfl⟩
theorem L_start_5 : KV L_start 5 O_start 3 2 8 := ⟨O_start_q, by decide, w_303, w_304, rfl, by decide +kernel, ⟨(RX3, TX3, 6), rfl, rfl⟩, 17, by decide +kernel, w_302⟩
theorem L_start_8 : K1 L_start 8 .i2l 9 := ⟨by decide +kernel, rfl⟩
theorem L_start_9 : K1 L_start 9 .lastore 10 := ⟨by decide +kernel, rfl⟩
theorem L_start_10 : Kj L_start 10 .goto 21 13 := ⟨11, by decide +kernel, by decide, rfl⟩
theorem L_start_13 : Kt L_start 13 4 15 := ⟨by decide, Or.inl ⟨by decide +kernel, rfl⟩⟩
theorem L_start_15 : Kc L_start 15 1 16 := ⟨by decide, Or.inl ⟨by decide +kernel, rfl⟩⟩
theorem L_start_16 : K1 L_start 16 .ireturn 17 := ⟨by decide +kernel, rfl⟩
theorem L_start_17 : Kt L_start 17 4 19 := ⟨by decide, Or.inl ⟨by decide +kernel, rfl⟩⟩
theorem L_start_19 : Kc L_start 19 2 20 := ⟨by decide, Or.inl ⟨by decide +kernel, rfl⟩⟩
theorem L_start_20 : K1 L_start 20 .ireturn 21 := ⟨by decide +kernel, rfl⟩
theorem L_start_21 : Kc L_start 21 0 22 := ⟨by decide, Or.inl ⟨by decide +kernel, rfl⟩⟩
theorem L_start_22 : K1 L_start 22 .ireturn 23 := ⟨by decide +kernel, rfl⟩
theorem L_start_h0 : Kh L_start 5 "java/lang/IndexOutOfBoundsException" 4 15 := ⟨[], [(0, 10, 17, 15)], (0, 10, 13, 13), rfl, (fun z hz => nomatch hz), by decide, by decide, by decide, w_190, w_205, ⟨by decide, Or.inl ⟨by decide +kernel, rfl⟩⟩⟩
theorem L_start_h1 : Kh L_start 5 "java/lang/IllegalArgumentException" 4 19 := ⟨[(0, 10, 13, 13)], [], (0, 10, 17, 15), rfl, (List.forall_mem_cons.mpr ⟨⟨by decide, "java/lang/IndexOutOfBoundsException", w_190, by decide +kernel⟩, fun z hz => nomatch hz⟩), by decide, by decide, by decide, w_191, w_281, ⟨by decide, Or.inl ⟨by decide +kernel, rfl⟩⟩⟩
theorem L_want_0 : Ka L_want 0 3 1 := Or.inr ⟨3, by decide +kernel, rfl, rfl⟩
theorem L_want_1 : Kc L_want 1 0 2 := ⟨by decide, Or.inl ⟨by decide +kernel, rfl⟩⟩
theorem L_want_2 : Ka L_want 2 0 3 := Or.inr ⟨0, by decide +kernel, rfl, rfl⟩
theorem L_want_3 : Ki L_want 3 1 4 := Or.inr ⟨1, by decide +kernel, rfl, rfl⟩
theorem L_want_4 : Ki L_want 4 2 5 := Or.inr ⟨2, by decide +kernel, rfl, rfl⟩
theorem L_want_5 : KV L_want 5 O_want 3 2 8 := ⟨O_want_q, by decide, w_310, w_311, rfl, by decide +kernel, ⟨(RX3, TX3, 6), rfl, rfl⟩, 21, by decide +kernel, w_309⟩
theorem L_want_8 : K1 L_want 8 .i2l 9 := ⟨by decide +kernel, rfl⟩
theorem L_want_9 : K1 L_want 9 .lastore 10 := ⟨by decide +kernel, rfl⟩
theorem L_want_10 : Kj L_want 10 .goto 21 13 := ⟨11, by decide +kernel, by decide, rfl⟩
theorem L_want_13 : Kt L_want 13 4 15 := ⟨by decide, Or.inl ⟨by decide +kernel, rfl⟩⟩
theorem L_want_15 : Kc L_want 15 1 16 := ⟨by decide, Or.inl ⟨by decide +kernel, rfl⟩⟩
theorem L_want_16 : K1 L_want 16 .ireturn 17 := ⟨by decide +kernel, rfl⟩
theorem L_want_17 : Kt L_want 17 4 19 := ⟨by decide, Or.inl ⟨by decide +kernel, rfl⟩⟩
theorem L_want_19 : Kc L_want 19 2 20 := ⟨by decide, Or.inl ⟨by decide +kernel, rfl⟩⟩
theorem L_want_20 : K1 L_want 20 .ireturn 21 := ⟨by decide +kernel, rfl⟩
theorem L_want_21 : Kc L_want 21 0 22 := ⟨by decide, Or.inl ⟨by decide +kernel, rfl⟩⟩
theorem L_want_22 : K1 L_want 22 .ireturn 23 := ⟨by decide +kernel, rfl⟩
theorem L_want_h0 : Kh L_want 5 "java/lang/IndexOutOfBoundsException" 4 15 := ⟨[], [(0, 10, 17, 15)], (0, 10, 13, 13), rfl, (fun z hz => nomatch hz), by decide, by decide, by decide, w_190, w_205, ⟨by decide, Or.inl ⟨by decide +kernel, rfl⟩⟩⟩
theorem L_want_h1 : Kh L_want 5 "java/lang/IllegalArgumentException" 4 19 := ⟨[(0, 10, 13, 13)], [], (0, 10, 17, 15), rfl, (List.forall_mem_cons.mpr ⟨⟨by decide, "java/lang/IndexOutOfBoundsException", w_190, by decide +kernel⟩, fun z hz => nomatch hz⟩), by decide, by decide, by decide, w_191, w_281, ⟨by decide, Or.inl ⟨by decide +kernel, rfl⟩⟩⟩
theorem L_fire_0 : Ka L_fire 0 2 1 := Or.inr ⟨2, by decide +kernel, rfl, rfl⟩
theorem L_fire_1 : Kc L_fire 1 0 2 := ⟨by decide, Or.inl ⟨by decide +kernel, rfl⟩⟩
theorem L_fire_2 : Ka L_fire 2 0 3 := Or.inr ⟨0, by decide +kernel, rfl, rfl⟩
theorem L_fire_3 : Ki L_fire 3 1 4 := Or.inr ⟨1, by decide +kernel, rfl, rfl⟩
theorem L_fire_4 : KV L_fire 4 O_fire 3 1 7 := ⟨O_fire_q, by decide, w_317, w_318, rfl, by decide +kernel, ⟨(RX3, TX3, 6), rfl, rfl⟩, 24, by decide +kernel, w_316⟩
theorem L_fire_7 : Kj L_fire 7 (.ifCond .eq) 14 10 := ⟨7, by decide +kernel, by decide, rfl⟩
theorem L_fire_10 : ∃ f : Fin 2, K1 L_fire 10 (.lconst f) 11 ∧ (f : Nat) = 1 := ⟨1, ⟨by decide +kernel, rfl⟩, rfl⟩
theorem L_fire_11 : Kj L_fire 11 .goto 15 14 := ⟨4, by decide +kernel, by decide, rfl⟩
theorem L_fire_14 : ∃ f : Fin 2, K1 L_fire 14 (.lconst f) 15 ∧ (f : Nat) = 0 := ⟨0, ⟨by decide +kernel, rfl⟩, rfl⟩
theorem L_fire_15 : K1 L_fire 15 .lastore 16 := ⟨by decide +kernel, rfl⟩
theorem L_fire_16 : Kj L_fire 16 .goto 22 19 := ⟨6, by decide +kernel, by decide, rfl⟩
theorem L_fire_19 : Kt L_fire 19 3 20 := ⟨by decide, Or.inr ⟨3, by decide +kernel, rfl, rfl⟩⟩
theorem L_fire_20 : Kc L_fire 20 1 21 := ⟨by decide, Or.inl ⟨by decide +kernel, rfl⟩⟩
theorem L_fire_21 : K1 L_fire 21 .ireturn 22 := ⟨by decide +kernel, rfl⟩
theorem L_fire_22 : Kc L_fire 22 0 23 := ⟨by decide, Or.inl ⟨by decide +kernel, rfl⟩⟩
theorem L_fire_23 : K1 L_fire 23 .ireturn 24 := ⟨by decide +kernel, rfl⟩
theorem L_fire_h0 : Kh L_fire 4 "java/lang/IndexOutOfBoundsException" 3 20 := ⟨[], [], (0, 16, 19, 13), rfl, (fun z hz => nomatch hz), by decide, by decide, by decide, w_190, w_205, ⟨by decide, Or.inr ⟨3, by decide +kernel, rfl, rfl⟩⟩⟩
theorem L_at_0 : Ka L_at 0 2 1 := Or.inr ⟨2, by decide +kernel, rfl, rfl⟩
theorem L_at_1 : Kc L_at 1 0 2 := ⟨by decide, Or.inl ⟨by decide +kernel, rfl⟩⟩
theorem L_at_2 : Ka L_at 2 0 3 := Or.inr ⟨0, by decide +kernel, rfl, rfl⟩
theorem L_at_3 : Ki L_at 3 1 4 := Or.inr ⟨1, by decide +kernel, rfl, rfl⟩
theorem L_at_4 : KV L_at 4 O_at 3 1 7 := ⟨O_at_q, by decide, w_336, w_337, rfl, by decide +kernel, ⟨(RX3, TX3, 6), rfl, rfl⟩, 28, by decide +kernel, w_335⟩
theorem L_at_7 : K1 L_at 7 .i2l 8 := ⟨by decide +kernel, rfl⟩
theorem L_at_8 : K1 L_at 8 .lastore 9 := ⟨by decide +kernel, rfl⟩
theorem L_at_9 : Kj L_at 9 .goto 15 12 := ⟨6, by decide +kernel, by decide, rfl⟩
theorem L_at_12 : Kt L_at 12 3 13 := ⟨by decide, Or.inr ⟨3, by decide +kernel, rfl, rfl⟩⟩
theorem L_at_13 : Kc L_at 13 1 14 := ⟨by decide, Or.inl ⟨by decide +kernel, rfl⟩⟩
theorem L_at_14 : K1 L_at 14 .ireturn 15 := ⟨by decide +kernel, rfl⟩
theorem L_at_15 : Kc L_at 15 0 16 := ⟨by decide, Or.inl ⟨by decide +kernel, rfl⟩⟩
theorem L_at_16 : K1 L_at 16 .ireturn 17 := ⟨by decide +kernel, rfl⟩
theorem L_at_h0 : Kh L_at 4 "java/lang/IndexOutOfBoundsException" 3 13 := ⟨[], [], (0, 9, 12, 13), rfl, (fun z hz => nomatch hz), by decide, by decide, by decide, w_190, w_205, ⟨by decide, Or.inr ⟨3, by decide +kernel, rfl, rfl⟩⟩⟩
theorem L_explore_0 : Ka L_explore 0 1 1 := Or.inr ⟨1, by decide +kernel, rfl, rfl⟩
theorem L_explore_1 : Kc L_explore 1 0 2 := ⟨by decide, Or.inl ⟨by decide +kernel, rfl⟩⟩
theorem L_explore_2 : Ka L_explore 2 0 3 := Or.inr ⟨0, by decide +kernel, rfl, rfl⟩
theorem L_explore_3 : KV L_explore 3 O_explore 3 0 6 := ⟨O_explore_q, by decide, w_344, w_345, rfl, by decide +kernel, ⟨(RX3, TX3, 6), rfl, rfl⟩, 32, by decide +kernel, w_343⟩
theorem L_explore_6 : K1 L_explore 6 .i2l 7 := ⟨by decide +kernel, rfl⟩
theorem L_explore_7 : K1 L_explore 7 .lastore 8 := ⟨by decide +kernel, rfl⟩
theorem L_explore_8 : Kj L_explore 8 .goto 14 11 := ⟨6, by decide +kernel, by decide, rfl⟩
theorem L_explore_11 : Kt L_explore 11 2 12 := ⟨by decide, Or.inr ⟨2, by decide +kernel, rfl, rfl⟩⟩
theorem L_explore_12 : Kc L_explore 12 1 13 := ⟨by decide, Or.inl ⟨by decide +kernel, rfl⟩⟩
theorem L_explore_13 : K1 L_explore 13 .ireturn 14 := ⟨by decide +kernel, rfl⟩
theorem L_explore_14 : Kc L_explore 14 0 15 := ⟨by decide, Or.inl ⟨by decide +kernel, rfl⟩⟩
theorem L_explore_15 : K1 L_explore 15 .ireturn 16 := ⟨by decide +kernel, rfl⟩
theorem L_explore_h0 : Kh L_explore 3 "java/lang/IllegalStateException" 2 12 := ⟨[], [], (0, 8, 11, 36), rfl, (fun z hz => nomatch hz), by decide, by decide, by decide, w_342, w_394, ⟨by decide, Or.inr ⟨2, by decide +kernel, rfl, rfl⟩⟩⟩
theorem L_count_0 : Ka L_count 0 3 1 := Or.inr ⟨3, by decide +kernel, rfl, rfl⟩
theorem L_count_1 : Kc L_count 1 0 2 := ⟨by decide, Or.inl ⟨by decide +kernel, rfl⟩⟩
theorem L_count_2 : Ka L_count 2 0 3 := Or.inr ⟨0, by decide +kernel, rfl, rfl⟩
theorem L_count_3 : Ki L_count 3 1 4 := Or.inr ⟨1, by decide +kernel, rfl, rfl⟩
theorem L_count_4 : Ki L_count 4 2 5 := Or.inr ⟨2, by decide +kernel, rfl, rfl⟩
theorem L_count_5 : KV L_count 5 O_count 3 2 8 := ⟨O_count_q, by decide, w_412, w_413, rfl, by decide +kernel, ⟨(RX3, TX3, 6), rfl, rfl⟩, 38, by decide +kernel, w_411⟩
theorem L_count_8 : K1 L_count 8 .i2l 9 := ⟨by decide +kernel, rfl⟩
theorem L_count_9 : K1 L_count 9 .lastore 10 := ⟨by decide +kernel, rfl⟩
theorem L_count_10 : Kj L_count 10 .goto 21 13 := ⟨11, by decide +kernel, by decide, rfl⟩
theorem L_count_13 : Kt L_count 13 4 15 := ⟨by decide, Or.inl ⟨by decide +kernel, rfl⟩⟩
theorem L_count_15 : Kc L_count 15 1 16 := ⟨by decide, Or.inl ⟨by decide +kernel, rfl⟩⟩
theorem L_count_16 : K1 L_count 16 .ireturn 17 := ⟨by decide +kernel, rfl⟩
theorem L_count_17 : Kt L_count 17 4 19 := ⟨by decide, Or.inl ⟨by decide +kernel, rfl⟩⟩
theorem L_count_19 : Kc L_count 19 2 20 := ⟨by decide, Or.inl ⟨by decide +kernel, rfl⟩⟩
theorem L_count_20 : K1 L_count 20 .ireturn 21 := ⟨by decide +kernel, rfl⟩
theorem L_count_21 : Kc L_count 21 0 22 := ⟨by decide, Or.inl ⟨by decide +kernel, rfl⟩⟩
theorem L_count_22 : K1 L_count 22 .ireturn 23 := ⟨by decide +kernel, rfl⟩
theorem L_count_h0 : Kh L_count 5 "java/lang/IllegalStateException" 4 15 := ⟨[], [(0, 10, 17, 13)], (0, 10, 13, 36), rfl, (fun z hz => nomatch hz), by decide, by decide, by decide, w_342, w_394, ⟨by decide, Or.inl ⟨by decide +kernel, rfl⟩⟩⟩
theorem L_count_h1 : Kh L_count 5 "java/lang/IndexOutOfBoundsException" 4 19 := ⟨[(0, 10, 13, 36)], [], (0, 10, 17, 13), rfl, (List.forall_mem_cons.mpr ⟨⟨by decide, "java/lang/IllegalStateException", w_342, by decide +kernel⟩, fun z hz => nomatch hz⟩), by decide, by decide, by decide, w_190, w_205, ⟨by decide, Or.inl ⟨by decide +kernel, rfl⟩⟩⟩
theorem L_node_0 : Ka L_node 0 3 1 := Or.inr ⟨3, by decide +kernel, rfl, rfl⟩
theorem L_node_1 : Kc L_node 1 0 2 := ⟨by decide, Or.inl ⟨by decide +kernel, rfl⟩⟩
theorem L_node_2 : Ka L_node 2 0 3 := Or.inr ⟨0, by decide +kernel, rfl, rfl⟩
theorem L_node_3 : Ki L_node 3 1 4 := Or.inr ⟨1, by decide +kernel, rfl, rfl⟩
theorem L_node_4 : Ki L_node 4 2 5 := Or.inr ⟨2, by decide +kernel, rfl, rfl⟩
theorem L_node_5 : KV L_node 5 O_node 3 2 8 := ⟨O_node_q, by decide, w_432, w_433, rfl, by decide +kernel, ⟨(RX3, TX3, 6), rfl, rfl⟩, 41, by decide +kernel, w_431⟩
theorem L_node_8 : K1 L_node 8 .i2l 9 := ⟨by decide +kernel, rfl⟩
theorem L_node_9 : K1 L_node 9 .lastore 10 := ⟨by decide +kernel, rfl⟩
theorem L_node_10 : Kj L_node 10 .goto 25 13 := ⟨15, by decide +kernel, by decide, rfl⟩
theorem L_node_13 : Kt L_node 13 4 15 := ⟨by decide, Or.inl ⟨by decide +kernel, rfl⟩⟩
theorem L_node_15 : Kc L_node 15 1 16 := ⟨by decide, Or.inl ⟨by decide +kernel, rfl⟩⟩
theorem L_node_16 : K1 L_node 16 .ireturn 17 := ⟨by decide +kernel, rfl⟩
theorem L_node_17 : Kt L_node 17 4 19 := ⟨by decide, Or.inl ⟨by decide +kernel, rfl⟩⟩
theorem L_node_19 : Kc L_node 19 2 20 := ⟨by decide, Or.inl ⟨by decide +kernel, rfl⟩⟩
theorem L_node_20 : K1 L_node 20 .ireturn 21 := ⟨by decide +kernel, rfl⟩
theorem L_node_21 : Kt L_node 21 4 23 := ⟨by decide, Or.inl ⟨by decide +kernel, rfl⟩⟩
theorem L_node_23 : Kc L_node 23 3 24 := ⟨by decide, Or.inl ⟨by decide +kernel, rfl⟩⟩
theorem L_node_24 : K1 L_node 24 .ireturn 25 := ⟨by decide +kernel, rfl⟩
theorem L_node_25 : Kc L_node 25 0 26 := ⟨by decide, Or.inl ⟨by decide +kernel, rfl⟩⟩
theorem L_node_26 : K1 L_node 26 .ireturn 27 := ⟨by decide +kernel, rfl⟩
theorem L_node_h0 : Kh L_node 5 "java/lang/IllegalStateException" 4 15 := ⟨[], [(0, 10, 17, 13), (0, 10, 21, 15)], (0, 10, 13, 36), rfl, (fun z hz => nomatch hz), by decide, by decide, by decide, w_342, w_394, ⟨by decide, Or.inl ⟨by decide +kernel, rfl⟩⟩⟩
theorem L_node_h1 : Kh L_node 5 "java/lang/IndexOutOfBoundsException" 4 19 := ⟨[(0, 10, 13, 36)], [(0, 10, 21, 15)], (0, 10, 17, 13), rfl, (List.forall_mem_cons.mpr ⟨⟨by decide, "java/lang/IllegalStateException", w_342, by decide +kernel⟩, fun z hz => nomatch hz⟩), by decide, by decide, by decide, w_190, w_205, ⟨by decide, Or.inl ⟨by decide +kernel, rfl⟩⟩⟩
theorem L_node_h2 : Kh L_node 5 "java/lang/IllegalArgumentException" 4 23 := ⟨[(0, 10, 13, 36), (0, 10, 17, 13)], [], (0, 10, 21, 15), rfl, (List.forall_mem_cons.mpr ⟨⟨by decide, "java/lang/IllegalStateException", w_342, by decide +kernel⟩, List.forall_mem_cons.mpr ⟨⟨by decide, "java/lang/IndexOutOfBoundsException", w_190, by decide +kernel⟩, fun z hz => nomatch hz⟩⟩), by decide, by decide, by decide, w_191, w_281, ⟨by decide, Or.inl ⟨by decide +kernel, rfl⟩⟩⟩
theorem L_path_0 : Ka L_path 0 3 1 := Or.inr ⟨3, by decide +kernel, rfl, rfl⟩
theorem L_path_1 : Kc L_path 1 0 2 := ⟨by decide, Or.inl ⟨by decide +kernel, rfl⟩⟩
theorem L_path_2 : Ka L_path 2 0 3 := Or.inr ⟨0, by decide +kernel, rfl, rfl⟩
theorem L_path_3 : Ki L_path 3 1 4 := Or.inr ⟨1, by decide +kernel, rfl, rfl⟩
theorem L_path_4 : Ki L_path 4 2 5 := Or.inr ⟨2, by decide +kernel, rfl, rfl⟩
theorem L_path_5 : KV L_path 5 O_path 3 2 8 := ⟨O_path_q, by decide, w_440, w_441, rfl, by decide +kernel, ⟨(RX3, TX3, 6), rfl, rfl⟩, 44, by decide +kernel, w_439⟩
theorem L_path_8 : K1 L_path 8 .i2l 9 := ⟨by decide +kernel, rfl⟩
theorem L_path_9 : K1 L_path 9 .lastore 10 := ⟨by decide +kernel, rfl⟩
theorem L_path_10 : Kj L_path 10 .goto 21 13 := ⟨11, by decide +kernel, by decide, rfl⟩
theorem L_path_13 : Kt L_path 13 4 15 := ⟨by decide, Or.inl ⟨by decide +kernel, rfl⟩⟩
theorem L_path_15 : Kc L_path 15 1 16 := ⟨by decide, Or.inl ⟨by decide +kernel, rfl⟩⟩
theorem L_path_16 : K1 L_path 16 .ireturn 17 := ⟨by decide +kernel, rfl⟩
theorem L_path_17 : Kt L_path 17 4 19 := ⟨by decide, Or.inl ⟨by decide +kernel, rfl⟩⟩
theorem L_path_19 : Kc L_path 19 2 20 := ⟨by decide, Or.inl ⟨by decide +kernel, rfl⟩⟩
theorem L_path_20 : K1 L_path 20 .ireturn 21 := ⟨by decide +kernel, rfl⟩
theorem L_path_21 : Kc L_path 21 0 22 := ⟨by decide, Or.inl ⟨by decide +kernel, rfl⟩⟩
theorem L_path_22 : K1 L_path 22 .ireturn 23 := ⟨by decide +kernel, rfl⟩
theorem L_path_h0 : Kh L_path 5 "java/lang/IllegalStateException" 4 15 := ⟨[], [(0, 10, 17, 13)], (0, 10, 13, 36), rfl, (fun z hz => nomatch hz), by decide, by decide, by decide, w_342, w_394, ⟨by decide, Or.inl ⟨by decide +kernel, rfl⟩⟩⟩
theorem L_path_h1 : Kh L_path 5 "java/lang/IndexOutOfBoundsException" 4 19 := ⟨[(0, 10, 13, 36)], [], (0, 10, 17, 13), rfl, (List.forall_mem_cons.mpr ⟨⟨by decide, "java/lang/IllegalStateException", w_342, by decide +kernel⟩, fun z hz => nomatch hz⟩), by decide, by decide, by decide, w_190, w_205, ⟨by decide, Or.inl ⟨by decide +kernel, rfl⟩⟩⟩
theorem L_bound_0 : Ka L_bound 0 2 1 := Or.inr ⟨2, by decide +kernel, rfl, rfl⟩
theorem L_bound_1 : Kc L_bound 1 0 2 := ⟨by decide, Or.inl ⟨by decide +kernel, rfl⟩⟩
theorem L_bound_2 : Ka L_bound 2 0 3 := Or.inr ⟨0, by decide +kernel, rfl, rfl⟩
theorem L_bound_3 : Ki L_bound 3 1 4 := Or.inr ⟨1, by decide +kernel, rfl, rfl⟩
theorem L_bound_4 : KV L_bound 4 O_bound 3 1 7 := ⟨O_bound_q, by decide, w_451, w_452, rfl, by decide +kernel, ⟨(RX3, TX3, 6), rfl, rfl⟩, 47, by decide +kernel, w_450⟩
theorem L_bound_7 : K1 L_bound 7 .i2l 8 := ⟨by decide +kernel, rfl⟩
theorem L_bound_8 : K1 L_bound 8 .lastore 9 := ⟨by decide +kernel, rfl⟩
theorem L_bound_9 : Kj L_bound 9 .goto 18 12 := ⟨9, by decide +kernel, by decide, rfl⟩
theorem L_bound_12 : Kt L_bound 12 3 13 := ⟨by decide, Or.inr ⟨3, by decide +kernel, rfl, rfl⟩⟩
theorem L_bound_13 : Kc L_bound 13 1 14 := ⟨by decide, Or.inl ⟨by decide +kernel, rfl⟩⟩
theorem L_bound_14 : K1 L_bound 14 .ireturn 15 := ⟨by decide +kernel, rfl⟩
theorem L_bound_15 : Kt L_bound 15 3 16 := ⟨by decide, Or.inr ⟨3, by decide +kernel, rfl, rfl⟩⟩
theorem L_bound_16 : Kc L_bound 16 2 17 := ⟨by decide, Or.inl ⟨by decide +kernel, rfl⟩⟩
theorem L_bound_17 : K1 L_bound 17 .ireturn 18 := ⟨by decide +kernel, rfl⟩
theorem L_bound_18 : Kc L_bound 18 0 19 := ⟨by decide, Or.inl ⟨by decide +kernel, rfl⟩⟩
theorem L_bound_19 : K1 L_bound 19 .ireturn 20 := ⟨by decide +kernel, rfl⟩
theorem L_bound_h0 : Kh L_bound 4 "java/lang/IllegalStateException" 3 13 := ⟨[], [(0, 9, 15, 13)], (0, 9, 12, 36), rfl, (fun z hz => nomatch hz), by decide, by decide, by decide, w_342, w_394, ⟨by decide, Or.inr ⟨3, by decide +kernel, rfl, rfl⟩⟩⟩
theorem L_bound_h1 : Kh L_bound 4 "java/lang/IndexOutOfBoundsException" 3 16 := ⟨[(0, 9, 12, 36)], [], (0, 9, 15, 13), rfl, (List.forall_mem_cons.mpr ⟨⟨by decide, "java/lang/IllegalStateException", w_342, by decide +kernel⟩, fun z hz => nomatch hz⟩), by decide, by decide, by decide, w_190, w_205, ⟨by decide, Or.inr ⟨3, by decide +kernel, rfl, rfl⟩⟩⟩
theorem L_tops_0 : Ka L_tops 0 1 1 := Or.inr ⟨1, by decide +kernel, rfl, rfl⟩
theorem L_tops_1 : Kc L_tops 1 0 2 := ⟨by decide, Or.inl ⟨by decide +kernel, rfl⟩⟩
theorem L_tops_2 : Ka L_tops 2 0 3 := Or.inr ⟨0, by decide +kernel, rfl, rfl⟩
theorem L_tops_3 : KV L_tops 3 O_tops 3 0 6 := ⟨O_tops_q, by decide, w_463, w_464, rfl, by decide +kernel, ⟨(RX3, TX3, 6), rfl, rfl⟩, 50, by decide +kernel, w_462⟩
theorem L_tops_6 : K1 L_tops 6 .i2l 7 := ⟨by decide +kernel, rfl⟩
theorem L_tops_7 : K1 L_tops 7 .lastore 8 := ⟨by decide +kernel, rfl⟩
theorem L_tops_8 : Kj L_tops 8 .goto 14 11 := ⟨6, by decide +kernel, by decide, rfl⟩
theorem L_tops_11 : Kt L_tops 11 2 12 := ⟨by decide, Or.inr ⟨2, by decide +kernel, rfl, rfl⟩⟩
theorem L_tops_12 : Kc L_tops 12 1 13 := ⟨by decide, Or.inl ⟨by decide +kernel, rfl⟩⟩
theorem L_tops_13 : K1 L_tops 13 .ireturn 14 := ⟨by decide +kernel, rfl⟩
theorem L_tops_14 : Kc L_tops 14 0 15 := ⟨by decide, Or.inl ⟨by decide +kernel, rfl⟩⟩
theorem L_tops_15 : K1 L_tops 15 .ireturn 16 := ⟨by decide +kernel, rfl⟩
theorem L_tops_h0 : Kh L_tops 3 "java/lang/IllegalStateException" 2 12 := ⟨[], [], (0, 8, 11, 36), rfl, (fun z hz => nomatch hz), by decide, by decide, by decide, w_342, w_394, ⟨by decide, Or.inr ⟨2, by decide +kernel, rfl, rfl⟩⟩⟩
theorem L_top_0 : Ka L_top 0 2 1 := Or.inr ⟨2, by decide +kernel, rfl, rfl⟩
theorem L_top_1 : Kc L_top 1 0 2 := ⟨by decide, Or.inl ⟨by decide +kernel, rfl⟩⟩
theorem L_top_2 : Ka L_top 2 0 3 := Or.inr ⟨0, by decide +kernel, rfl, rfl⟩
theorem L_top_3 : Ki L_top 3 1 4 := Or.inr ⟨1, by decide +kernel, rfl, rfl⟩
theorem L_top_4 : KV L_top 4 O_top 3 1 7 := ⟨O_top_q, by decide, w_470, w_471, rfl, by decide +kernel, ⟨(RX3, TX3, 6), rfl, rfl⟩, 53, by decide +kernel, w_469⟩
theorem L_top_7 : K1 L_top 7 .i2l 8 := ⟨by decide +kernel, rfl⟩
theorem L_top_8 : K1 L_top 8 .lastore 9 := ⟨by decide +kernel, rfl⟩
theorem L_top_9 : Kj L_top 9 .goto 18 12 := ⟨9, by decide +kernel, by decide, rfl⟩
theorem L_top_12 : Kt L_top 12 3 13 := ⟨by decide, Or.inr ⟨3, by decide +kernel, rfl, rfl⟩⟩
theorem L_top_13 : Kc L_top 13 1 14 := ⟨by decide, Or.inl ⟨by decide +kernel, rfl⟩⟩
theorem L_top_14 : K1 L_top 14 .ireturn 15 := ⟨by decide +kernel, rfl⟩
theorem L_top_15 : Kt L_top 15 3 16 := ⟨by decide, Or.inr ⟨3, by decide +kernel, rfl, rfl⟩⟩
theorem L_top_16 : Kc L_top 16 2 17 := ⟨by decide, Or.inl ⟨by decide +kernel, rfl⟩⟩
theorem L_top_17 : K1 L_top 17 .ireturn 18 := ⟨by decide +kernel, rfl⟩
theorem L_top_18 : Kc L_top 18 0 19 := ⟨by decide, Or.inl ⟨by decide +kernel, rfl⟩⟩
theorem L_top_19 : K1 L_top 19 .ireturn 20 := ⟨by decide +kernel, rfl⟩
theorem L_top_h0 : Kh L_top 4 "java/lang/IllegalStateException" 3 13 := ⟨[], [(0, 9, 15, 13)], (0, 9, 12, 36), rfl, (fun z hz => nomatch hz), by decide, by decide, by decide, w_342, w_394, ⟨by decide, Or.inr ⟨3, by decide +kernel, rfl, rfl⟩⟩⟩
theorem L_top_h1 : Kh L_top 4 "java/lang/IndexOutOfBoundsException" 3 16 := ⟨[(0, 9, 12, 36)], [], (0, 9, 15, 13), rfl, (List.forall_mem_cons.mpr ⟨⟨by decide, "java/lang/IllegalStateException", w_342, by decide +kernel⟩, fun z hz => nomatch hz⟩), by decide, by decide, by decide, w_190, w_205, ⟨by decide, Or.inr ⟨3, by decide +kernel, rfl, rfl⟩⟩⟩
theorem L_covered_0 : Ka L_covered 0 1 1 := Or.inr ⟨1, by decide +kernel, rfl, rfl⟩
theorem L_covered_1 : Kc L_covered 1 0 2 := ⟨by decide, Or.inl ⟨by decide +kernel, rfl⟩⟩
theorem L_covered_2 : Ka L_covered 2 0 3 := Or.inr ⟨0, by decide +kernel, rfl, rfl⟩
theorem L_covered_3 : KV L_covered 3 O_covered 3 0 6 := ⟨O_covered_q, by decide, w_477, w_478, rfl, by decide +kernel, ⟨(RX3, TX3, 6), rfl, rfl⟩, 56, by decide +kernel, w_476⟩
theorem L_covered_6 : Kj L_covered 6 (.ifCond .eq) 13 9 := ⟨7, by decide +kernel, by decide, rfl⟩
theorem L_covered_9 : ∃ f : Fin 2, K1 L_covered 9 (.lconst f) 10 ∧ (f : Nat) = 1 := ⟨1, ⟨by decide +kernel, rfl⟩, rfl⟩
theorem L_covered_10 : Kj L_covered 10 .goto 14 13 := ⟨4, by decide +kernel, by decide, rfl⟩
theorem L_covered_13 : ∃ f : Fin 2, K1 L_covered 13 (.lconst f) 14 ∧ (f : Nat) = 0 := ⟨0, ⟨by decide +kernel, rfl⟩, rfl⟩
theorem L_covered_14 : K1 L_covered 14 .lastore 15 := ⟨by decide +kernel, rfl⟩
theorem L_covered_15 : Kj L_covered 15 .goto 21 18 := ⟨6, by decide +kernel, by decide, rfl⟩
theorem L_covered_18 : Kt L_covered 18 2 19 := ⟨by decide, Or.inr ⟨2, by decide +kernel, rfl, rfl⟩⟩
theorem L_covered_19 : Kc L_covered 19 1 20 := ⟨by decide, Or.inl ⟨by decide +kernel, rfl⟩⟩
theorem L_covered_20 : K1 L_covered 20 .ireturn 21 := ⟨by decide +kernel, rfl⟩
theorem L_covered_21 : Kc L_covered 21 0 22 := ⟨by decide, Or.inl ⟨by decide +kernel, rfl⟩⟩
theorem L_covered_22 : K1 L_covered 22 .ireturn 23 := ⟨by decide +kernel, rfl⟩
theorem L_covered_h0 : Kh L_covered 3 "java/lang/IllegalStateException" 2 19 := ⟨[], [], (0, 15, 18, 36), rfl, (fun z hz => nomatch hz), by decide, by decide, by decide, w_342, w_394, ⟨by decide, Or.inr ⟨2, by decide +kernel, rfl, rfl⟩⟩⟩
theorem L_lives_0 : Ka L_lives 0 2 1 := Or.inr ⟨2, by decide +kernel, rfl, rfl⟩
theorem L_lives_1 : Kc L_lives 1 0 2 := ⟨by decide, Or.inl ⟨by decide +kernel, rfl⟩⟩
theorem L_lives_2 : Ka L_lives 2 0 3 := Or.inr ⟨0, by decide +kernel, rfl, rfl⟩
theorem L_lives_3 : Ki L_lives 3 1 4 := Or.inr ⟨1, by decide +kernel, rfl, rfl⟩
theorem L_lives_4 : KV L_lives 4 O_lives 3 1 7 := ⟨O_lives_q, by decide, w_488, w_489, rfl, by decide +kernel, ⟨(RX3, TX3, 6), rfl, rfl⟩, 60, by decide +kernel, w_487⟩
theorem L_lives_7 : Kj L_lives 7 (.ifCond .eq) 14 10 := ⟨7, by decide +kernel, by decide, rfl⟩
theorem L_lives_10 : ∃ f : Fin 2, K1 L_lives 10 (.lconst f) 11 ∧ (f : Nat) = 1 := ⟨1, ⟨by decide +kernel, rfl⟩, rfl⟩
theorem L_lives_11 : Kj L_lives 11 .goto 15 14 := ⟨4, by decide +kernel, by decide, rfl⟩
theorem L_lives_14 : ∃ f : Fin 2, K1 L_lives 14 (.lconst f) 15 ∧ (f : Nat) = 0 := ⟨0, ⟨by decide +kernel, rfl⟩, rfl⟩
theorem L_lives_15 : K1 L_lives 15 .lastore 16 := ⟨by decide +kernel, rfl⟩
theorem L_lives_16 : Kj L_lives 16 .goto 25 19 := ⟨9, by decide +kernel, by decide, rfl⟩
theorem L_lives_19 : Kt L_lives 19 3 20 := ⟨by decide, Or.inr ⟨3, by decide +kernel, rfl, rfl⟩⟩
theorem L_lives_20 : Kc L_lives 20 1 21 := ⟨by decide, Or.inl ⟨by decide +kernel, rfl⟩⟩
theorem L_lives_21 : K1 L_lives 21 .ireturn 22 := ⟨by decide +kernel, rfl⟩
theorem L_lives_22 : Kt L_lives 22 3 23 := ⟨by decide, Or.inr ⟨3, by decide +kernel, rfl, rfl⟩⟩
theorem L_lives_23 : Kc L_lives 23 2 24 := ⟨by decide, Or.inl ⟨by decide +kernel, rfl⟩⟩
theorem L_lives_24 : K1 L_lives 24 .ireturn 25 := ⟨by decide +kernel, rfl⟩
theorem L_lives_25 : Kc L_lives 25 0 26 := ⟨by decide, Or.inl ⟨by decide +kernel, rfl⟩⟩
theorem L_lives_26 : K1 L_lives 26 .ireturn 27 := ⟨by decide +kernel, rfl⟩
theorem L_lives_h0 : Kh L_lives 4 "java/lang/IllegalStateException" 3 20 := ⟨[], [(0, 16, 22, 13)], (0, 16, 19, 36), rfl, (fun z hz => nomatch hz), by decide, by decide, by decide, w_342, w_394, ⟨by decide, Or.inr ⟨3, by decide +kernel, rfl, rfl⟩⟩⟩
theorem L_lives_h1 : Kh L_lives 4 "java/lang/IndexOutOfBoundsException" 3 23 := ⟨[(0, 16, 19, 36)], [], (0, 16, 22, 13), rfl, (List.forall_mem_cons.mpr ⟨⟨by decide, "java/lang/IllegalStateException", w_342, by decide +kernel⟩, fun z hz => nomatch hz⟩), by decide, by decide, by decide, w_190, w_205, ⟨by decide, Or.inr ⟨3, by decide +kernel, rfl, rfl⟩⟩⟩
theorem L_dead_0 : Ka L_dead 0 1 1 := Or.inr ⟨1, by decide +kernel, rfl, rfl⟩
theorem L_dead_1 : Kc L_dead 1 0 2 := ⟨by decide, Or.inl ⟨by decide +kernel, rfl⟩⟩
theorem L_dead_2 : Ka L_dead 2 0 3 := Or.inr ⟨0, by decide +kernel, rfl, rfl⟩
theorem L_dead_3 : KV L_dead 3 O_dead 3 0 6 := ⟨O_dead_q, by decide, w_500, w_501, rfl, by decide +kernel, ⟨(RX3, TX3, 6), rfl, rfl⟩, 63, by decide +kernel, w_499⟩
theorem L_dead_6 : K1 L_dead 6 .i2l 7 := ⟨by decide +kernel, rfl⟩
theorem L_dead_7 : K1 L_dead 7 .lastore 8 := ⟨by decide +kernel, rfl⟩
theorem L_dead_8 : Kj L_dead 8 .goto 14 11 := ⟨6, by decide +kernel, by decide, rfl⟩
theorem L_dead_11 : Kt L_dead 11 2 12 := ⟨by decide, Or.inr ⟨2, by decide +kernel, rfl, rfl⟩⟩
theorem L_dead_12 : Kc L_dead 12 1 13 := ⟨by decide, Or.inl ⟨by decide +kernel, rfl⟩⟩
theorem L_dead_13 : K1 L_dead 13 .ireturn 14 := ⟨by decide +kernel, rfl⟩
theorem L_dead_14 : Kc L_dead 14 0 15 := ⟨by decide, Or.inl ⟨by decide +kernel, rfl⟩⟩
theorem L_dead_15 : K1 L_dead 15 .ireturn 16 := ⟨by decide +kernel, rfl⟩
theorem L_dead_h0 : Kh L_dead 3 "java/lang/IllegalStateException" 2 12 := ⟨[], [], (0, 8, 11, 36), rfl, (fun z hz => nomatch hz), by decide, by decide, by decide, w_342, w_394, ⟨by decide, Or.inr ⟨2, by decide +kernel, rfl, rfl⟩⟩⟩
theorem L_back_0 : Ka L_back 0 1 1 := Or.inr ⟨1, by decide +kernel, rfl, rfl⟩
theorem L_back_1 : Kc L_back 1 0 2 := ⟨by decide, Or.inl ⟨by decide +kernel, rfl⟩⟩
theorem L_back_2 : Ka L_back 2 0 3 := Or.inr ⟨0, by decide +kernel, rfl, rfl⟩
theorem L_back_3 : KV L_back 3 O_back 3 0 6 := ⟨O_back_q, by decide, w_516, w_517, rfl, by decide +kernel, ⟨(RX3, TX3, 6), rfl, rfl⟩, 66, by decide +kernel, w_515⟩
theorem L_back_6 : K1 L_back 6 .i2l 7 := ⟨by decide +kernel, rfl⟩
theorem L_back_7 : K1 L_back 7 .lastore 8 := ⟨by decide +kernel, rfl⟩
theorem L_back_8 : Kj L_back 8 .goto 14 11 := ⟨6, by decide +kernel, by decide, rfl⟩
theorem L_back_11 : Kt L_back 11 2 12 := ⟨by decide, Or.inr ⟨2, by decide +kernel, rfl, rfl⟩⟩
theorem L_back_12 : Kc L_back 12 1 13 := ⟨by decide, Or.inl ⟨by decide +kernel, rfl⟩⟩
theorem L_back_13 : K1 L_back 13 .ireturn 14 := ⟨by decide +kernel, rfl⟩
theorem L_back_14 : Kc L_back 14 0 15 := ⟨by decide, Or.inl ⟨by decide +kernel, rfl⟩⟩
theorem L_back_15 : K1 L_back 15 .ireturn 16 := ⟨by decide +kernel, rfl⟩
theorem L_back_h0 : Kh L_back 3 "java/lang/IllegalStateException" 2 12 := ⟨[], [], (0, 8, 11, 36), rfl, (fun z hz => nomatch hz), by decide, by decide, by decide, w_342, w_394, ⟨by decide, Or.inr ⟨2, by decide +kernel, rfl, rfl⟩⟩⟩
theorem L_goal_0 : Ka L_goal 0 3 1 := Or.inr ⟨3, by decide +kernel, rfl, rfl⟩
theorem L_goal_1 : Kc L_goal 1 0 2 := ⟨by decide, Or.inl ⟨by decide +kernel, rfl⟩⟩
theorem L_goal_2 : Ka L_goal 2 0 3 := Or.inr ⟨0, by decide +kernel, rfl, rfl⟩
theorem L_goal_3 : Ki L_goal 3 1 4 := Or.inr ⟨1, by decide +kernel, rfl, rfl⟩
theorem L_goal_4 : Ki L_goal 4 2 5 := Or.inr ⟨2, by decide +kernel, rfl, rfl⟩
theorem L_goal_5 : KV L_goal 5 O_goal 3 2 8 := ⟨O_goal_q, by decide, w_555, w_556, rfl, by decide +kernel, ⟨(RX3, TX3, 6), rfl, rfl⟩, 69, by decide +kernel, w_554⟩
theorem L_goal_8 : K1 L_goal 8 .i2l 9 := ⟨by decide +kernel, rfl⟩
theorem L_goal_9 : K1 L_goal 9 .lastore 10 := ⟨by decide +kernel, rfl⟩
theorem L_goal_10 : Kj L_goal 10 .goto 21 13 := ⟨11, by decide +kernel, by decide, rfl⟩
theorem L_goal_13 : Kt L_goal 13 4 15 := ⟨by decide, Or.inl ⟨by decide +kernel, rfl⟩⟩
theorem L_goal_15 : Kc L_goal 15 1 16 := ⟨by decide, Or.inl ⟨by decide +kernel, rfl⟩⟩
theorem L_goal_16 : K1 L_goal 16 .ireturn 17 := ⟨by decide +kernel, rfl⟩
theorem L_goal_17 : Kt L_goal 17 4 19 := ⟨by decide, Or.inl ⟨by decide +kernel, rfl⟩⟩
theorem L_goal_19 : Kc L_goal 19 2 20 := ⟨by decide, Or.inl ⟨by decide +kernel, rfl⟩⟩
theorem L_goal_20 : K1 L_goal 20 .ireturn 21 := ⟨by decide +kernel, rfl⟩
theorem L_goal_21 : Kc L_goal 21 0 22 := ⟨by decide, Or.inl ⟨by decide +kernel, rfl⟩⟩
theorem L_goal_22 : K1 L_goal 22 .ireturn 23 := ⟨by decide +kernel, rfl⟩
theorem L_goal_h0 : Kh L_goal 5 "java/lang/IllegalStateException" 4 15 := ⟨[], [(0, 10, 17, 13)], (0, 10, 13, 36), rfl, (fun z hz => nomatch hz), by decide, by decide, by decide, w_342, w_394, ⟨by decide, Or.inl ⟨by decide +kernel, rfl⟩⟩⟩
theorem L_goal_h1 : Kh L_goal 5 "java/lang/IndexOutOfBoundsException" 4 19 := ⟨[(0, 10, 13, 36)], [], (0, 10, 17, 13), rfl, (List.forall_mem_cons.mpr ⟨⟨by decide, "java/lang/IllegalStateException", w_342, by decide +kernel⟩, fun z hz => nomatch hz⟩), by decide, by decide, by decide, w_190, w_205, ⟨by decide, Or.inl ⟨by decide +kernel, rfl⟩⟩⟩
theorem L_length_0 : Ka L_length 0 1 1 := Or.inr ⟨1, by decide +kernel, rfl, rfl⟩
theorem L_length_1 : Kc L_length 1 0 2 := ⟨by decide, Or.inl ⟨by decide +kernel, rfl⟩⟩
theorem L_length_2 : Ka L_length 2 0 3 := Or.inr ⟨0, by decide +kernel, rfl, rfl⟩
theorem L_length_3 : KV L_length 3 O_length 3 0 6 := ⟨O_length_q, by decide, w_573, w_574, rfl, by decide +kernel, ⟨(RX3, TX3, 6), rfl, rfl⟩, 72, by decide +kernel, w_572⟩
theorem L_length_6 : K1 L_length 6 .i2l 7 := ⟨by decide +kernel, rfl⟩
theorem L_length_7 : K1 L_length 7 .lastore 8 := ⟨by decide +kernel, rfl⟩
theorem L_length_8 : Kj L_length 8 .goto 17 11 := ⟨9, by decide +kernel, by decide, rfl⟩
theorem L_length_11 : Kt L_length 11 2 12 := ⟨by decide, Or.inr ⟨2, by decide +kernel, rfl, rfl⟩⟩
theorem L_length_12 : Kc L_length 12 1 13 := ⟨by decide, Or.inl ⟨by decide +kernel, rfl⟩⟩
theorem L_length_13 : K1 L_length 13 .ireturn 14 := ⟨by decide +kernel, rfl⟩
theorem L_length_14 : Kt L_length 14 2 15 := ⟨by decide, Or.inr ⟨2, by decide +kernel, rfl, rfl⟩⟩
theorem L_length_15 : Kc L_length 15 2 16 := ⟨by decide, Or.inl ⟨by decide +kernel, rfl⟩⟩
theorem L_length_16 : K1 L_length 16 .ireturn 17 := ⟨by decide +kernel, rfl⟩
theorem L_length_17 : Kc L_length 17 0 18 := ⟨by decide, Or.inl ⟨by decide +kernel, rfl⟩⟩
theorem L_length_18 : K1 L_length 18 .ireturn 19 := ⟨by decide +kernel, rfl⟩
theorem L_length_h0 : Kh L_length 3 "java/lang/IllegalStateException" 2 12 := ⟨[], [(0, 8, 14, 75)], (0, 8, 11, 36), rfl, (fun z hz => nomatch hz), by decide, by decide, by decide, w_342, w_394, ⟨by decide, Or.inr ⟨2, by decide +kernel, rfl, rfl⟩⟩⟩
theorem L_length_h1 : Kh L_length 3 "java/lang/UnsupportedOperationException" 2 15 := ⟨[(0, 8, 11, 36)], [], (0, 8, 14, 75), rfl, (List.forall_mem_cons.mpr ⟨⟨by decide, "java/lang/IllegalStateException", w_342, by decide +kernel⟩, fun z hz => nomatch hz⟩), by decide, by decide, by decide, w_571, w_586, ⟨by decide, Or.inr ⟨2, by decide +kernel, rfl, rfl⟩⟩⟩
theorem L_way_0 : Ka L_way 0 2 1 := Or.inr ⟨2, by decide +kernel, rfl, rfl⟩
theorem L_way_1 : Kc L_way 1 0 2 := ⟨by decide, Or.inl ⟨by decide +kernel, rfl⟩⟩
theorem L_way_2 : Ka L_way 2 0 3 := Or.inr ⟨0, by decide +kernel, rfl, rfl⟩
theorem L_way_3 : Ki L_way 3 1 4 := Or.inr ⟨1, by decide +kernel, rfl, rfl⟩
theorem L_way_4 : KV L_way 4 O_way 3 1 7 := ⟨O_way_q, by decide, w_604, w_605, rfl, by decide +kernel, ⟨(RX3, TX3, 6), rfl, rfl⟩, 77, by decide +kernel, w_603⟩
theorem L_way_7 : K1 L_way 7 .i2l 8 := ⟨by decide +kernel, rfl⟩
theorem L_way_8 : K1 L_way 8 .lastore 9 := ⟨by decide +kernel, rfl⟩
theorem L_way_9 : Kj L_way 9 .goto 21 12 := ⟨12, by decide +kernel, by decide, rfl⟩
theorem L_way_12 : Kt L_way 12 3 13 := ⟨by decide, Or.inr ⟨3, by decide +kernel, rfl, rfl⟩⟩
theorem L_way_13 : Kc L_way 13 1 14 := ⟨by decide, Or.inl ⟨by decide +kernel, rfl⟩⟩
theorem L_way_14 : K1 L_way 14 .ireturn 15 := ⟨by decide +kernel, rfl⟩
theorem L_way_15 : Kt L_way 15 3 16 := ⟨by decide, Or.inr ⟨3, by decide +kernel, rfl, rfl⟩⟩
theorem L_way_16 : Kc L_way 16 2 17 := ⟨by decide, Or.inl ⟨by decide +kernel, rfl⟩⟩
theorem L_way_17 : K1 L_way 17 .ireturn 18 := ⟨by decide +kernel, rfl⟩
theorem L_way_18 : Kt L_way 18 3 19 := ⟨by decide, Or.inr ⟨3, by decide +kernel, rfl, rfl⟩⟩
theorem L_way_19 : Kc L_way 19 3 20 := ⟨by decide, Or.inl ⟨by decide +kernel, rfl⟩⟩
theorem L_way_20 : K1 L_way 20 .ireturn 21 := ⟨by decide +kernel, rfl⟩
theorem L_way_21 : Kc L_way 21 0 22 := ⟨by decide, Or.inl ⟨by decide +kernel, rfl⟩⟩
theorem L_way_22 : K1 L_way 22 .ireturn 23 := ⟨by decide +kernel, rfl⟩
theorem L_way_h0 : Kh L_way 4 "java/lang/IllegalStateException" 3 13 := ⟨[], [(0, 9, 15, 75), (0, 9, 18, 13)], (0, 9, 12, 36), rfl, (fun z hz => nomatch hz), by decide, by decide, by decide, w_342, w_394, ⟨by decide, Or.inr ⟨3, by decide +kernel, rfl, rfl⟩⟩⟩
theorem L_way_h1 : Kh L_way 4 "java/lang/UnsupportedOperationException" 3 16 := ⟨[(0, 9, 12, 36)], [(0, 9, 18, 13)], (0, 9, 15, 75), rfl, (List.forall_mem_cons.mpr ⟨⟨by decide, "java/lang/IllegalStateException", w_342, by decide +kernel⟩, fun z hz => nomatch hz⟩), by decide, by decide, by decide, w_571, w_586, ⟨by decide, Or.inr ⟨3, by decide +kernel, rfl, rfl⟩⟩⟩
theorem L_way_h2 : Kh L_way 4 "java/lang/IndexOutOfBoundsException" 3 19 := ⟨[(0, 9, 12, 36), (0, 9, 15, 75)], [], (0, 9, 18, 13), rfl, (List.forall_mem_cons.mpr ⟨⟨by decide, "java/lang/IllegalStateException", w_342, by decide +kernel⟩, List.forall_mem_cons.mpr ⟨⟨by decide, "java/lang/UnsupportedOperationException", w_571, by decide +kernel⟩, fun z hz => nomatch hz⟩⟩), by decide, by decide, by decide, w_190, w_205, ⟨by decide, Or.inr ⟨3, by decide +kernel, rfl, rfl⟩⟩⟩
end
section
theorem L_law_0 : KN L_law 0 3 6 3 := ⟨8, (RX3, TX3, 6), tyX3, by decide +kernel, rfl, rfl, rfl, w_15, isX3, w_1, inX3, tyX3_ok, bnX3⟩
theorem L_law_3 : K1 L_law 3 .dup 4 := ⟨by decide +kernel, rfl⟩
theorem L_law_4 : Ka L_law 4 0 5 := Or.inr ⟨0, by decide +kernel, rfl, rfl⟩
theorem L_law_5 : Kc L_law 5 0 6 := ⟨by decide, Or.inl ⟨by decide +kernel, rfl⟩⟩
theorem L_law_6 : KS L_law 6 L_cell 2 9 := ⟨L_cell_q, by decide, w_185, rfl, by decide +kernel, 80, by decide +kernel, Or.inl w_184⟩
theorem L_law_9 : Ka L_law 9 0 10 := Or.inr ⟨0, by decide +kernel, rfl, rfl⟩
theorem L_law_10 : Kc L_law 10 1 11 := ⟨by decide, Or.inl ⟨by decide +kernel, rfl⟩⟩
theorem L_law_11 : KS L_law 11 L_cell 2 14 := ⟨L_cell_q, by decide, w_185, rfl, by decide +kernel, 80, by decide +kernel, Or.inl w_184⟩
theorem L_law_14 : KI L_law 14 O_init 2 17 := ⟨O_init_q, by decide, rfl, rfl, w_19, rfl, w_18, rfl, by decide +kernel, 86, by decide +kernel, w_17⟩
theorem L_law_17 : Kt L_law 17 1 18 := ⟨by decide, Or.inr ⟨1, by decide +kernel, rfl, rfl⟩⟩
theorem L_law_18 : KN L_law 18 4 21 21 := ⟨89, (RX4, TX4, 21), tyX4, by decide +kernel, rfl, rfl, rfl, w_611, isX4, w_6, inX4, tyX4_ok, bnX4⟩
theorem L_law_21 : K1 L_law 21 .dup 22 := ⟨by decide +kernel, rfl⟩
theorem L_law_22 : Ka L_law 22 0 23 := Or.inr ⟨0, by decide +kernel, rfl, rfl⟩
theorem L_law_23 : Kc L_law 23 0 24 := ⟨by decide, Or.inl ⟨by decide +kernel, rfl⟩⟩
theorem L_law_24 : KS L_law 24 L_cell 2 27 := ⟨L_cell_q, by decide, w_185, rfl, by decide +kernel, 80, by decide +kernel, Or.inl w_184⟩
theorem L_law_27 : Ka L_law 27 0 28 := Or.inr ⟨0, by decide +kernel, rfl, rfl⟩
theorem L_law_28 : Kc L_law 28 1 29 := ⟨by decide, Or.inl ⟨by decide +kernel, rfl⟩⟩
theorem L_law_29 : KS L_law 29 L_cell 2 32 := ⟨L_cell_q, by decide, w_185, rfl, by decide +kernel, 80, by decide +kernel, Or.inl w_184⟩
theorem L_law_32 : KI L_law 32 M_init 2 35 := ⟨M_init_q, by decide, rfl, rfl, w_615, rfl, w_614, rfl, by decide +kernel, 91, by decide +kernel, w_613⟩
theorem L_law_35 : Kt L_law 35 2 36 := ⟨by decide, Or.inr ⟨2, by decide +kernel, rfl, rfl⟩⟩
theorem L_law_36 : Kc L_law 36 1 37 := ⟨by decide, Or.inl ⟨by decide +kernel, rfl⟩⟩
theorem L_law_37 : KA L_law 37 .long 39 := ⟨by decide +kernel, rfl, w_837⟩
theorem L_law_39 : Kt L_law 39 3 40 := ⟨by decide, Or.inr ⟨3, by decide +kernel, rfl, rfl⟩⟩
theorem L_law_40 : Kc L_law 40 2 41 := ⟨by decide, Or.inl ⟨by decide +kernel, rfl⟩⟩
theorem L_law_41 : Ks L_law 41 4 43 := ⟨by decide, Or.inl ⟨by decide +kernel, rfl⟩⟩
theorem L_law_43 : Ki L_law 43 4 45 := Or.inl ⟨by decide +kernel, rfl⟩
theorem L_law_45 : Ka L_law 45 0 46 := Or.inr ⟨0, by decide +kernel, rfl, rfl⟩
theorem L_law_46 : K1 L_law 46 .arraylength 47 := ⟨by decide +kernel, rfl⟩
theorem L_law_47 : Kc L_law 47 5 48 := ⟨by decide, Or.inl ⟨by decide +kernel, rfl⟩⟩
theorem L_law_48 : K1 L_law 48 .isub 49 := ⟨by decide +kernel, rfl⟩
theorem L_law_49 : Kj L_law 49 (.if_icmp .gt) 1292 52 := ⟨1243, by decide +kernel, by decide, rfl⟩
theorem L_law_52 : Ka L_law 52 0 53 := Or.inr ⟨0, by decide +kernel, rfl, rfl⟩
theorem L_law_53 : Ki L_law 53 4 55 := Or.inl ⟨by decide +kernel, rfl⟩
theorem L_law_55 : K1 L_law 55 .iaload 56 := ⟨by decide +kernel, rfl⟩
theorem L_law_56 : Kc L_law 56 31 58 := ⟨by decide, Or.inr (Or.inl ⟨by decide +kernel, rfl, by decide⟩)⟩
theorem L_law_58 : K1 L_law 58 .iand 59 := ⟨by decide +kernel, rfl⟩
theorem L_law_59 : Kz L_law 59 0 19 1286 [152, 244, 312, 380, 443, 499, 512, 556, 624, 692, 760, 816, 860, 916, 967, 1030, 1074, 1118, 1186, 1230] := ⟨1227, #[93, 185, 253, 321, 384, 440, 453, 497, 565, 633, 701, 757, 801, 857, 908, 971, 1015, 1059, 1127, 1171], 93, by decide +kernel, by decide, by decide⟩
theorem L_law_152 : Ka L_law 152 1 153 := Or.inr ⟨1, by decide +kernel, rfl, rfl⟩
theorem L_law_153 : Ka L_law 153 0 154 := Or.inr ⟨0, by decide +kernel, rfl, rfl⟩
theorem L_law_154 : Ki L_law 154 4 156 := Or.inl ⟨by decide +kernel, rfl⟩
theorem L_law_156 : Kc L_law 156 1 157 := ⟨by decide, Or.inl ⟨by decide +kernel, rfl⟩⟩
theorem L_law_157 : K1 L_law 157 .iadd 158 := ⟨by decide +kernel, rfl⟩
theorem L_law_158 : K1 L_law 158 .iaload 159 := ⟨by decide +kernel, rfl⟩
theorem L_law_159 : Ka L_law 159 0 160 := Or.inr ⟨0, by decide +kernel, rfl, rfl⟩
theorem L_law_160 : Ki L_law 160 4 162 := Or.inl ⟨by decide +kernel, rfl⟩
theorem L_law_162 : Kc L_law 162 2 163 := ⟨by decide, Or.inl ⟨by decide +kernel, rfl⟩⟩
theorem L_law_163 : K1 L_law 163 .iadd 164 := ⟨by decide +kernel, rfl⟩
theorem L_law_164 : K1 L_law 164 .iaload 165 := ⟨by decide +kernel, rfl⟩
theorem L_law_165 : Ka L_law 165 0 166 := Or.inr ⟨0, by decide +kernel, rfl, rfl⟩
theorem L_law_166 : Ki L_law 166 4 168 := Or.inl ⟨by decide +kernel, rfl⟩
theorem L_law_168 : Kc L_law 168 3 169 := ⟨by decide, Or.inl ⟨by decide +kernel, rfl⟩⟩
theorem L_law_169 : K1 L_law 169 .iadd 170 := ⟨by decide +kernel, rfl⟩
theorem L_law_170 : K1 L_law 170 .iaload 171 := ⟨by decide +kernel, rfl⟩
theorem L_law_171 : Ka L_law 171 0 172 := Or.inr ⟨0, by decide +kernel, rfl, rfl⟩
theorem L_law_172 : Ki L_law 172 4 174 := Or.inl ⟨by decide +kernel, rfl⟩
theorem L_law_174 : Kc L_law 174 4 175 := ⟨by decide, Or.inl ⟨by decide +kernel, rfl⟩⟩
theorem L_law_175 : K1 L_law 175 .iadd 176 := ⟨by decide +kernel, rfl⟩
theorem L_law_176 : K1 L_law 176 .iaload 177 := ⟨by decide +kernel, rfl⟩
theorem L_law_177 : Ka L_law 177 3 178 := Or.inr ⟨3, by decide +kernel, rfl, rfl⟩
theorem L_law_178 : KS L_law 178 L_arc 6 181 := ⟨L_arc_q, by decide, w_188, rfl, by decide +kernel, 92, by decide +kernel, Or.inl w_187⟩
theorem L_law_181 : Ks L_law 181 5 183 := ⟨by decide, Or.inl ⟨by decide +kernel, rfl⟩⟩
theorem L_law_183 : Ka L_law 183 2 184 := Or.inr ⟨2, by decide +kernel, rfl, rfl⟩
theorem L_law_184 : Ka L_law 184 0 185 := Or.inr ⟨0, by decide +kernel, rfl, rfl⟩
theorem L_law_185 : Ki L_law 185 4 187 := Or.inl ⟨by decide +kernel, rfl⟩
theorem L_law_187 : Kc L_law 187 1 188 := ⟨by decide, Or.inl ⟨by decide +kernel, rfl⟩⟩
theorem L_law_188 : K1 L_law 188 .iadd 189 := ⟨by decide +kernel, rfl⟩
theorem L_law_189 : K1 L_law 189 .iaload 190 := ⟨by decide +kernel, rfl⟩
theorem L_law_190 : Ka L_law 190 0 191 := Or.inr ⟨0, by decide +kernel, rfl, rfl⟩
theorem L_law_191 : Ki L_law 191 4 193 := Or.inl ⟨by decide +kernel, rfl⟩
theorem L_law_193 : Kc L_law 193 2 194 := ⟨by decide, Or.inl ⟨by decide +kernel, rfl⟩⟩
theorem L_law_194 : K1 L_law 194 .iadd 195 := ⟨by decide +kernel, rfl⟩
theorem L_law_195 : K1 L_law 195 .iaload 196 := ⟨by decide +kernel, rfl⟩
theorem L_law_196 : Ka L_law 196 0 197 := Or.inr ⟨0, by decide +kernel, rfl, rfl⟩
theorem L_law_197 : Ki L_law 197 4 199 := Or.inl ⟨by decide +kernel, rfl⟩
theorem L_law_199 : Kc L_law 199 3 200 := ⟨by decide, Or.inl ⟨by decide +kernel, rfl⟩⟩
theorem L_law_200 : K1 L_law 200 .iadd 201 := ⟨by decide +kernel, rfl⟩
theorem L_law_201 : K1 L_law 201 .iaload 202 := ⟨by decide +kernel, rfl⟩
theorem L_law_202 : Ka L_law 202 0 203 := Or.inr ⟨0, by decide +kernel, rfl, rfl⟩
theorem L_law_203 : Ki L_law 203 4 205 := Or.inl ⟨by decide +kernel, rfl⟩
theorem L_law_205 : Kc L_law 205 4 206 := ⟨by decide, Or.inl ⟨by decide +kernel, rfl⟩⟩
theorem L_law_206 : K1 L_law 206 .iadd 207 := ⟨by decide +kernel, rfl⟩
theorem L_law_207 : K1 L_law 207 .iaload 208 := ⟨by decide +kernel, rfl⟩
theorem L_law_208 : KV L_law 208 M_arc 4 4 211 := ⟨M_arc_q, by decide, w_686, w_687, rfl, by decide +kernel, ⟨(RX4, TX4, 21), rfl, rfl⟩, 95, by decide +kernel, w_685⟩
theorem L_law_211 : Ks L_law 211 6 213 := ⟨by decide, Or.inl ⟨by decide +kernel, rfl⟩⟩
theorem L_law_213 : Ka L_law 213 2 214 := Or.inr ⟨2, by decide +kernel, rfl, rfl⟩
theorem L_law_214 : KV L_law 214 M_thrown 4 0 217 := ⟨M_thrown_q, by decide, w_682, w_683, rfl, by decide +kernel, ⟨(RX4, TX4, 21), rfl, rfl⟩, 96, by decide +kernel, w_681⟩
theorem L_law_217 : Ki L_law 217 5 219 := Or.inl ⟨by decide +kernel, rfl⟩
theorem L_law_219 : Kj L_law 219 (.if_icmp .eq) 224 222 := ⟨5, by decide +kernel, by decide, rfl⟩
theorem L_law_222 : Kc L_law 222 0 223 := ⟨by decide, Or.inl ⟨by decide +kernel, rfl⟩⟩
theorem L_law_223 : K1 L_law 223 .ireturn 224 := ⟨by decide +kernel, rfl⟩
theorem L_law_224 : Ki L_law 224 5 226 := Or.inl ⟨by decide +kernel, rfl⟩
theorem L_law_226 : Kj L_law 226 (.ifCond .ne) 241 229 := ⟨15, by decide +kernel, by decide, rfl⟩
theorem L_law_229 : Ka L_law 229 3 230 := Or.inr ⟨3, by decide +kernel, rfl, rfl⟩
theorem L_law_230 : Kc L_law 230 0 231 := ⟨by decide, Or.inl ⟨by decide +kernel, rfl⟩⟩
theorem L_law_231 : K1 L_law 231 .laload 232 := ⟨by decide +kernel, rfl⟩
theorem L_law_232 : Ki L_law 232 6 234 := Or.inl ⟨by decide +kernel, rfl⟩
theorem L_law_234 : K1 L_law 234 .i2l 235 := ⟨by decide +kernel, rfl⟩
theorem L_law_235 : K1 L_law 235 .lcmp 236 := ⟨by decide +kernel, rfl⟩
theorem L_law_236 : Kj L_law 236 (.ifCond .eq) 241 239 := ⟨5, by decide +kernel, by decide, rfl⟩
theorem L_law_239 : Kc L_law 239 0 240 := ⟨by decide, Or.inl ⟨by decide +kernel, rfl⟩⟩
theorem L_law_240 : K1 L_law 240 .ireturn 241 := ⟨by decide +kernel, rfl⟩
theorem L_law_241 : Kj L_law 241 .goto 1286 244 := ⟨1045, by decide +kernel, by decide, rfl⟩
theorem L_law_244 : Ka L_law 244 1 245 := Or.inr ⟨1, by decide +kernel, rfl, rfl⟩
theorem L_law_245 : Ka L_law 245 0 246 := Or.inr ⟨0, by decide +kernel, rfl, rfl⟩
theorem L_law_246 : Ki L_law 246 4 248 := Or.inl ⟨by decide +kernel, rfl⟩
theorem L_law_248 : Kc L_law 248 1 249 := ⟨by decide, Or.inl ⟨by decide +kernel, rfl⟩⟩
theorem L_law_249 : K1 L_law 249 .iadd 250 := ⟨by decide +kernel, rfl⟩
theorem L_law_250 : K1 L_law 250 .iaload 251 := ⟨by decide +kernel, rfl⟩
theorem L_law_251 : Ka L_law 251 0 252 := Or.inr ⟨0, by decide +kernel, rfl, rfl⟩
theorem L_law_252 : Ki L_law 252 4 254 := Or.inl ⟨by decide +kernel, rfl⟩
theorem L_law_254 : Kc L_law 254 2 255 := ⟨by decide, Or.inl ⟨by decide +kernel, rfl⟩⟩
theorem L_law_255 : K1 L_law 255 .iadd 256 := ⟨by decide +kernel, rfl⟩
theorem L_law_256 : K1 L_law 256 .iaload 257 := ⟨by decide +kernel, rfl⟩
theorem L_law_257 : Ka L_law 257 3 258 := Or.inr ⟨3, by decide +kernel, rfl, rfl⟩
theorem L_law_258 : KS L_law 258 L_start 4 261 := ⟨L_start_q, by decide, w_300, rfl, by decide +kernel, 99, by decide +kernel, Or.inl w_299⟩
theorem L_law_261 : Ks L_law 261 5 263 := ⟨by decide, Or.inl ⟨by decide +kernel, rfl⟩⟩
theorem L_law_263 : Ka L_law 263 2 264 := Or.inr ⟨2, by decide +kernel, rfl, rfl⟩
theorem L_law_264 : Ka L_law 264 0 265 := Or.inr ⟨0, by decide +kernel, rfl, rfl⟩
theorem L_law_265 : Ki L_law 265 4 267 := Or.inl ⟨by decide +kernel, rfl⟩
theorem L_law_267 : Kc L_law 267 1 268 := ⟨by decide, Or.inl ⟨by decide +kernel, rfl⟩⟩
theorem L_law_268 : K1 L_law 268 .iadd 269 := ⟨by decide +kernel, rfl⟩
theorem L_law_269 : K1 L_law 269 .iaload 270 := ⟨by decide +kernel, rfl⟩
theorem L_law_270 : Ka L_law 270 0 271 := Or.inr ⟨0, by decide +kernel, rfl, rfl⟩
theorem L_law_271 : Ki L_law 271 4 273 := Or.inl ⟨by decide +kernel, rfl⟩
theorem L_law_273 : Kc L_law 273 2 274 := ⟨by decide, Or.inl ⟨by decide +kernel, rfl⟩⟩
theorem L_law_274 : K1 L_law 274 .iadd 275 := ⟨by decide +kernel, rfl⟩
theorem L_law_275 : K1 L_law 275 .iaload 276 := ⟨by decide +kernel, rfl⟩
theorem L_law_276 : KV L_law 276 M_start 4 2 279 := ⟨M_start_q, by decide, w_702, w_703, rfl, by decide +kernel, ⟨(RX4, TX4, 21), rfl, rfl⟩, 102, by decide +kernel, w_701⟩
theorem L_law_279 : Ks L_law 279 6 281 := ⟨by decide, Or.inl ⟨by decide +kernel, rfl⟩⟩
theorem L_law_281 : Ka L_law 281 2 282 := Or.inr ⟨2, by decide +kernel, rfl, rfl⟩
theorem L_law_282 : KV L_law 282 M_thrown 4 0 285 := ⟨M_thrown_q, by decide, w_682, w_683, rfl, by decide +kernel, ⟨(RX4, TX4, 21), rfl, rfl⟩, 96, by decide +kernel, w_681⟩
theorem L_law_285 : Ki L_law 285 5 287 := Or.inl ⟨by decide +kernel, rfl⟩
theorem L_law_287 : Kj L_law 287 (.if_icmp .eq) 292 290 := ⟨5, by decide +kernel, by decide, rfl⟩
theorem L_law_290 : Kc L_law 290 0 291 := ⟨by decide, Or.inl ⟨by decide +kernel, rfl⟩⟩
theorem L_law_291 : K1 L_law 291 .ireturn 292 := ⟨by decide +kernel, rfl⟩
theorem L_law_292 : Ki L_law 292 5 294 := Or.inl ⟨by decide +kernel, rfl⟩
theorem L_law_294 : Kj L_law 294 (.ifCond .ne) 309 297 := ⟨15, by decide +kernel, by decide, rfl⟩
theorem L_law_297 : Ka L_law 297 3 298 := Or.inr ⟨3, by decide +kernel, rfl, rfl⟩
theorem L_law_298 : Kc L_law 298 0 299 := ⟨by decide, Or.inl ⟨by decide +kernel, rfl⟩⟩
theorem L_law_299 : K1 L_law 299 .laload 300 := ⟨by decide +kernel, rfl⟩
theorem L_law_300 : Ki L_law 300 6 302 := Or.inl ⟨by decide +kernel, rfl⟩
theorem L_law_302 : K1 L_law 302 .i2l 303 := ⟨by decide +kernel, rfl⟩
theorem L_law_303 : K1 L_law 303 .lcmp 304 := ⟨by decide +kernel, rfl⟩
theorem L_law_304 : Kj L_law 304 (.ifCond .eq) 309 307 := ⟨5, by decide +kernel, by decide, rfl⟩
theorem L_law_307 : Kc L_law 307 0 308 := ⟨by decide, Or.inl ⟨by decide +kernel, rfl⟩⟩
theorem L_law_308 : K1 L_law 308 .ireturn 309 := ⟨by decide +kernel, rfl⟩
theorem L_law_309 : Kj L_law 309 .goto 1286 312 := ⟨977, by decide +kernel, by decide, rfl⟩
theorem L_law_312 : Ka L_law 312 1 313 := Or.inr ⟨1, by decide +kernel, rfl, rfl⟩
theorem L_law_313 : Ka L_law 313 0 314 := Or.inr ⟨0, by decide +kernel, rfl, rfl⟩
theorem L_law_314 : Ki L_law 314 4 316 := Or.inl ⟨by decide +kernel, rfl⟩
theorem L_law_316 : Kc L_law 316 1 317 := ⟨by decide, Or.inl ⟨by decide +kernel, rfl⟩⟩
theorem L_law_317 : K1 L_law 317 .iadd 318 := ⟨by decide +kernel, rfl⟩
theorem L_law_318 : K1 L_law 318 .iaload 319 := ⟨by decide +kernel, rfl⟩
theorem L_law_319 : Ka L_law 319 0 320 := Or.inr ⟨0, by decide +kernel, rfl, rfl⟩
theorem L_law_320 : Ki L_law 320 4 322 := Or.inl ⟨by decide +kernel, rfl⟩
theorem L_law_322 : Kc L_law 322 2 323 := ⟨by decide, Or.inl ⟨by decide +kernel, rfl⟩⟩
theorem L_law_323 : K1 L_law 323 .iadd 324 := ⟨by decide +kernel, rfl⟩
theorem L_law_324 : K1 L_law 324 .iaload 325 := ⟨by decide +kernel, rfl⟩
theorem L_law_325 : Ka L_law 325 3 326 := Or.inr ⟨3, by decide +kernel, rfl, rfl⟩
theorem L_law_326 : KS L_law 326 L_want 4 329 := ⟨L_want_q, by decide, w_307, rfl, by decide +kernel, 103, by decide +kernel, Or.inl w_306⟩
theorem L_law_329 : Ks L_law 329 5 331 := ⟨by decide, Or.inl ⟨by decide +kernel, rfl⟩⟩
theorem L_law_331 : Ka L_law 331 2 332 := Or.inr ⟨2, by decide +kernel, rfl, rfl⟩
theorem L_law_332 : Ka L_law 332 0 333 := Or.inr ⟨0, by decide +kernel, rfl, rfl⟩
theorem L_law_333 : Ki L_law 333 4 335 := Or.inl ⟨by decide +kernel, rfl⟩
theorem L_law_335 : Kc L_law 335 1 336 := ⟨by decide, Or.inl ⟨by decide +kernel, rfl⟩⟩
theorem L_law_336 : K1 L_law 336 .iadd 337 := ⟨by decide +kernel, rfl⟩
theorem L_law_337 : K1 L_law 337 .iaload 338 := ⟨by decide +kernel, rfl⟩
theorem L_law_338 : Ka L_law 338 0 339 := Or.inr ⟨0, by decide +kernel, rfl, rfl⟩
theorem L_law_339 : Ki L_law 339 4 341 := Or.inl ⟨by decide +kernel, rfl⟩
theorem L_law_341 : Kc L_law 341 2 342 := ⟨by decide, Or.inl ⟨by decide +kernel, rfl⟩⟩
theorem L_law_342 : K1 L_law 342 .iadd 343 := ⟨by decide +kernel, rfl⟩
theorem L_law_343 : K1 L_law 343 .iaload 344 := ⟨by decide +kernel, rfl⟩
theorem L_law_344 : KV L_law 344 M_want 4 2 347 := ⟨M_want_q, by decide, w_710, w_711, rfl, by decide +kernel, ⟨(RX4, TX4, 21), rfl, rfl⟩, 105, by decide +kernel, w_709⟩
theorem L_law_347 : Ks L_law 347 6 349 := ⟨by decide, Or.inl ⟨by decide +kernel, rfl⟩⟩
theorem L_law_349 : Ka L_law 349 2 350 := Or.inr ⟨2, by decide +kernel, rfl, rfl⟩
theorem L_law_350 : KV L_law 350 M_thrown 4 0 353 := ⟨M_thrown_q, by decide, w_682, w_683, rfl, by decide +kernel, ⟨(RX4, TX4, 21), rfl, rfl⟩, 96, by decide +kernel, w_681⟩
theorem L_law_353 : Ki L_law 353 5 355 := Or.inl ⟨by decide +kernel, rfl⟩
theorem L_law_355 : Kj L_law 355 (.if_icmp .eq) 360 358 := ⟨5, by decide +kernel, by decide, rfl⟩
theorem L_law_358 : Kc L_law 358 0 359 := ⟨by decide, Or.inl ⟨by decide +kernel, rfl⟩⟩
theorem L_law_359 : K1 L_law 359 .ireturn 360 := ⟨by decide +kernel, rfl⟩
theorem L_law_360 : Ki L_law 360 5 362 := Or.inl ⟨by decide +kernel, rfl⟩
theorem L_law_362 : Kj L_law 362 (.ifCond .ne) 377 365 := ⟨15, by decide +kernel, by decide, rfl⟩
theorem L_law_365 : Ka L_law 365 3 366 := Or.inr ⟨3, by decide +kernel, rfl, rfl⟩
theorem L_law_366 : Kc L_law 366 0 367 := ⟨by decide, Or.inl ⟨by decide +kernel, rfl⟩⟩
theorem L_law_367 : K1 L_law 367 .laload 368 := ⟨by decide +kernel, rfl⟩
theorem L_law_368 : Ki L_law 368 6 370 := Or.inl ⟨by decide +kernel, rfl⟩
theorem L_law_370 : K1 L_law 370 .i2l 371 := ⟨by decide +kernel, rfl⟩
theorem L_law_371 : K1 L_law 371 .lcmp 372 := ⟨by decide +kernel, rfl⟩
theorem L_law_372 : Kj L_law 372 (.ifCond .eq) 377 375 := ⟨5, by decide +kernel, by decide, rfl⟩
theorem L_law_375 : Kc L_law 375 0 376 := ⟨by decide, Or.inl ⟨by decide +kernel, rfl⟩⟩
theorem L_law_376 : K1 L_law 376 .ireturn 377 := ⟨by decide +kernel, rfl⟩
theorem L_law_377 : Kj L_law 377 .goto 1286 380 := ⟨909, by decide +kernel, by decide, rfl⟩
theorem L_law_380 : Ka L_law 380 1 381 := Or.inr ⟨1, by decide +kernel, rfl, rfl⟩
theorem L_law_381 : Ka L_law 381 0 382 := Or.inr ⟨0, by decide +kernel, rfl, rfl⟩
theorem L_law_382 : Ki L_law 382 4 384 := Or.inl ⟨by decide +kernel, rfl⟩
theorem L_law_384 : Kc L_law 384 1 385 := ⟨by decide, Or.inl ⟨by decide +kernel, rfl⟩⟩
theorem L_law_385 : K1 L_law 385 .iadd 386 := ⟨by decide +kernel, rfl⟩
theorem L_law_386 : K1 L_law 386 .iaload 387 := ⟨by decide +kernel, rfl⟩
theorem L_law_387 : Ka L_law 387 3 388 := Or.inr ⟨3, by decide +kernel, rfl, rfl⟩
theorem L_law_388 : KS L_law 388 L_fire 3 391 := ⟨L_fire_q, by decide, w_314, rfl, by decide +kernel, 106, by decide +kernel, Or.inl w_313⟩
theorem L_law_391 : Ks L_law 391 5 393 := ⟨by decide, Or.inl ⟨by decide +kernel, rfl⟩⟩
theorem L_law_393 : Ka L_law 393 2 394 := Or.inr ⟨2, by decide +kernel, rfl, rfl⟩
theorem L_law_394 : Ka L_law 394 0 395 := Or.inr ⟨0, by decide +kernel, rfl, rfl⟩
theorem L_law_395 : Ki L_law 395 4 397 := Or.inl ⟨by decide +kernel, rfl⟩
theorem L_law_397 : Kc L_law 397 1 398 := ⟨by decide, Or.inl ⟨by decide +kernel, rfl⟩⟩
theorem L_law_398 : K1 L_law 398 .iadd 399 := ⟨by decide +kernel, rfl⟩
theorem L_law_399 : K1 L_law 399 .iaload 400 := ⟨by decide +kernel, rfl⟩
theorem L_law_400 : KV L_law 400 M_fire 4 1 403 := ⟨M_fire_q, by decide, w_714, w_715, rfl, by decide +kernel, ⟨(RX4, TX4, 21), rfl, rfl⟩, 109, by decide +kernel, w_713⟩
theorem L_law_403 : Ks L_law 403 6 405 := ⟨by decide, Or.inl ⟨by decide +kernel, rfl⟩⟩
theorem L_law_405 : Ka L_law 405 2 406 := Or.inr ⟨2, by decide +kernel, rfl, rfl⟩
theorem L_law_406 : KV L_law 406 M_thrown 4 0 409 := ⟨M_thrown_q, by decide, w_682, w_683, rfl, by decide +kernel, ⟨(RX4, TX4, 21), rfl, rfl⟩, 96, by decide +kernel, w_681⟩
theorem L_law_409 : Ki L_law 409 5 411 := Or.inl ⟨by decide +kernel, rfl⟩
theorem L_law_411 : Kj L_law 411 (.if_icmp .eq) 416 414 := ⟨5, by decide +kernel, by decide, rfl⟩
theorem L_law_414 : Kc L_law 414 0 415 := ⟨by decide, Or.inl ⟨by decide +kernel, rfl⟩⟩
theorem L_law_415 : K1 L_law 415 .ireturn 416 := ⟨by decide +kernel, rfl⟩
theorem L_law_416 : Ki L_law 416 5 418 := Or.inl ⟨by decide +kernel, rfl⟩
theorem L_law_418 : Kj L_law 418 (.ifCond .ne) 440 421 := ⟨22, by decide +kernel, by decide, rfl⟩
theorem L_law_421 : Ka L_law 421 3 422 := Or.inr ⟨3, by decide +kernel, rfl, rfl⟩
theorem L_law_422 : Kc L_law 422 0 423 := ⟨by decide, Or.inl ⟨by decide +kernel, rfl⟩⟩
theorem L_law_423 : K1 L_law 423 .laload 424 := ⟨by decide +kernel, rfl⟩
theorem L_law_424 : Ki L_law 424 6 426 := Or.inl ⟨by decide +kernel, rfl⟩
theorem L_law_426 : Kj L_law 426 (.ifCond .eq) 433 429 := ⟨7, by decide +kernel, by decide, rfl⟩
theorem L_law_429 : ∃ f : Fin 2, K1 L_law 429 (.lconst f) 430 ∧ (f : Nat) = 1 := ⟨1, ⟨by decide +kernel, rfl⟩, rfl⟩
theorem L_law_430 : Kj L_law 430 .goto 434 433 := ⟨4, by decide +kernel, by decide, rfl⟩
theorem L_law_433 : ∃ f : Fin 2, K1 L_law 433 (.lconst f) 434 ∧ (f : Nat) = 0 := ⟨0, ⟨by decide +kernel, rfl⟩, rfl⟩
theorem L_law_434 : K1 L_law 434 .lcmp 435 := ⟨by decide +kernel, rfl⟩
theorem L_law_435 : Kj L_law 435 (.ifCond .eq) 440 438 := ⟨5, by decide +kernel, by decide, rfl⟩
theorem L_law_438 : Kc L_law 438 0 439 := ⟨by decide, Or.inl ⟨by decide +kernel, rfl⟩⟩
theorem L_law_439 : K1 L_law 439 .ireturn 440 := ⟨by decide +kernel, rfl⟩
theorem L_law_440 : Kj L_law 440 .goto 1286 443 := ⟨846, by decide +kernel, by decide, rfl⟩
theorem L_law_443 : Ka L_law 443 1 444 := Or.inr ⟨1, by decide +kernel, rfl, rfl⟩
theorem L_law_444 : Ka L_law 444 0 445 := Or.inr ⟨0, by decide +kernel, rfl, rfl⟩
theorem L_law_445 : Ki L_law 445 4 447 := Or.inl ⟨by decide +kernel, rfl⟩
theorem L_law_447 : Kc L_law 447 1 448 := ⟨by decide, Or.inl ⟨by decide +kernel, rfl⟩⟩
theorem L_law_448 : K1 L_law 448 .iadd 449 := ⟨by decide +kernel, rfl⟩
theorem L_law_449 : K1 L_law 449 .iaload 450 := ⟨by decide +kernel, rfl⟩
theorem L_law_450 : Ka L_law 450 3 451 := Or.inr ⟨3, by decide +kernel, rfl, rfl⟩
theorem L_law_451 : KS L_law 451 L_at 3 454 := ⟨L_at_q, by decide, w_333, rfl, by decide +kernel, 110, by decide +kernel, Or.inl w_332⟩
theorem L_law_454 : Ks L_law 454 5 456 := ⟨by decide, Or.inl ⟨by decide +kernel, rfl⟩⟩
theorem L_law_456 : Ka L_law 456 2 457 := Or.inr ⟨2, by decide +kernel, rfl, rfl⟩
theorem L_law_457 : Ka L_law 457 0 458 := Or.inr ⟨0, by decide +kernel, rfl, rfl⟩
theorem L_law_458 : Ki L_law 458 4 460 := Or.inl ⟨by decide +kernel, rfl⟩
theorem L_law_460 : Kc L_law 460 1 461 := ⟨by decide, Or.inl ⟨by decide +kernel, rfl⟩⟩
theorem L_law_461 : K1 L_law 461 .iadd 462 := ⟨by decide +kernel, rfl⟩
theorem L_law_462 : K1 L_law 462 .iaload 463 := ⟨by decide +kernel, rfl⟩
theorem L_law_463 : KV L_law 463 M_at 4 1 466 := ⟨M_at_q, by decide, w_718, w_719, rfl, by decide +kernel, ⟨(RX4, TX4, 21), rfl, rfl⟩, 112, by decide +kernel, w_717⟩
theorem L_law_466 : Ks L_law 466 6 468 := ⟨by decide, Or.inl ⟨by decide +kernel, rfl⟩⟩
theorem L_law_468 : Ka L_law 468 2 469 := Or.inr ⟨2, by decide +kernel, rfl, rfl⟩
theorem L_law_469 : KV L_law 469 M_thrown 4 0 472 := ⟨M_thrown_q, by decide, w_682, w_683, rfl, by decide +kernel, ⟨(RX4, TX4, 21), rfl, rfl⟩, 96, by decide +kernel, w_681⟩
theorem L_law_472 : Ki L_law 472 5 474 := Or.inl ⟨by decide +kernel, rfl⟩
theorem L_law_474 : Kj L_law 474 (.if_icmp .eq) 479 477 := ⟨5, by decide +kernel, by decide, rfl⟩
theorem L_law_477 : Kc L_law 477 0 478 := ⟨by decide, Or.inl ⟨by decide +kernel, rfl⟩⟩
theorem L_law_478 : K1 L_law 478 .ireturn 479 := ⟨by decide +kernel, rfl⟩
theorem L_law_479 : Ki L_law 479 5 481 := Or.inl ⟨by decide +kernel, rfl⟩
theorem L_law_481 : Kj L_law 481 (.ifCond .ne) 496 484 := ⟨15, by decide +kernel, by decide, rfl⟩
theorem L_law_484 : Ka L_law 484 3 485 := Or.inr ⟨3, by decide +kernel, rfl, rfl⟩
theorem L_law_485 : Kc L_law 485 0 486 := ⟨by decide, Or.inl ⟨by decide +kernel, rfl⟩⟩
theorem L_law_486 : K1 L_law 486 .laload 487 := ⟨by decide +kernel, rfl⟩
theorem L_law_487 : Ki L_law 487 6 489 := Or.inl ⟨by decide +kernel, rfl⟩
theorem L_law_489 : K1 L_law 489 .i2l 490 := ⟨by decide +kernel, rfl⟩
theorem L_law_490 : K1 L_law 490 .lcmp 491 := ⟨by decide +kernel, rfl⟩
theorem L_law_491 : Kj L_law 491 (.ifCond .eq) 496 494 := ⟨5, by decide +kernel, by decide, rfl⟩
theorem L_law_494 : Kc L_law 494 0 495 := ⟨by decide, Or.inl ⟨by decide +kernel, rfl⟩⟩
theorem L_law_495 : K1 L_law 495 .ireturn 496 := ⟨by decide +kernel, rfl⟩
theorem L_law_496 : Kj L_law 496 .goto 1286 499 := ⟨790, by decide +kernel, by decide, rfl⟩
theorem L_law_499 : Ka L_law 499 1 500 := Or.inr ⟨1, by decide +kernel, rfl, rfl⟩
theorem L_law_500 : KV L_law 500 O_reset 3 0 503 := ⟨O_reset_q, by decide, w_174, w_175, rfl, by decide +kernel, ⟨(RX3, TX3, 6), rfl, rfl⟩, 113, by decide +kernel, w_173⟩
theorem L_law_503 : Ka L_law 503 2 504 := Or.inr ⟨2, by decide +kernel, rfl, rfl⟩
theorem L_law_504 : KV L_law 504 M_reset 4 0 507 := ⟨M_reset_q, by decide, w_722, w_723, rfl, by decide +kernel, ⟨(RX4, TX4, 21), rfl, rfl⟩, 116, by decide +kernel, w_721⟩
theorem L_law_507 : Kj L_law 507 (.if_icmp .eq) 1286 510 := ⟨779, by decide +kernel, by decide, rfl⟩
theorem L_law_510 : Kc L_law 510 0 511 := ⟨by decide, Or.inl ⟨by decide +kernel, rfl⟩⟩
theorem L_law_511 : K1 L_law 511 .ireturn 512 := ⟨by decide +kernel, rfl⟩
theorem L_law_512 : Ka L_law 512 1 513 := Or.inr ⟨1, by decide +kernel, rfl, rfl⟩
theorem L_law_513 : Ka L_law 513 3 514 := Or.inr ⟨3, by decide +kernel, rfl, rfl⟩
theorem L_law_514 : KS L_law 514 L_explore 2 517 := ⟨L_explore_q, by decide, w_340, rfl, by decide +kernel, 117, by decide +kernel, Or.inl w_339⟩
theorem L_law_517 : Ks L_law 517 5 519 := ⟨by decide, Or.inl ⟨by decide +kernel, rfl⟩⟩
theorem L_law_519 : Ka L_law 519 2 520 := Or.inr ⟨2, by decide +kernel, rfl, rfl⟩
theorem L_law_520 : KV L_law 520 M_explore 4 0 523 := ⟨M_explore_q, by decide, w_726, w_727, rfl, by decide +kernel, ⟨(RX4, TX4, 21), rfl, rfl⟩, 120, by decide +kernel, w_725⟩
theorem L_law_523 : Ks L_law 523 6 525 := ⟨by decide, Or.inl ⟨by decide +kernel, rfl⟩⟩
theorem L_law_525 : Ka L_law 525 2 526 := Or.inr ⟨2, by decide +kernel, rfl, rfl⟩
theorem L_law_526 : KV L_law 526 M_thrown 4 0 529 := ⟨M_thrown_q, by decide, w_682, w_683, rfl, by decide +kernel, ⟨(RX4, TX4, 21), rfl, rfl⟩, 96, by decide +kernel, w_681⟩
theorem L_law_529 : Ki L_law 529 5 531 := Or.inl ⟨by decide +kernel, rfl⟩
theorem L_law_531 : Kj L_law 531 (.if_icmp .eq) 536 534 := ⟨5, by decide +kernel, by decide, rfl⟩
theorem L_law_534 : Kc L_law 534 0 535 := ⟨by decide, Or.inl ⟨by decide +kernel, rfl⟩⟩
theorem L_law_535 : K1 L_law 535 .ireturn 536 := ⟨by decide +kernel, rfl⟩
theorem L_law_536 : Ki L_law 536 5 538 := Or.inl ⟨by decide +kernel, rfl⟩
theorem L_law_538 : Kj L_law 538 (.ifCond .ne) 553 541 := ⟨15, by decide +kernel, by decide, rfl⟩
theorem L_law_541 : Ka L_law 541 3 542 := Or.inr ⟨3, by decide +kernel, rfl, rfl⟩
theorem L_law_542 : Kc L_law 542 0 543 := ⟨by decide, Or.inl ⟨by decide +kernel, rfl⟩⟩
theorem L_law_543 : K1 L_law 543 .laload 544 := ⟨by decide +kernel, rfl⟩
theorem L_law_544 : Ki L_law 544 6 546 := Or.inl ⟨by decide +kernel, rfl⟩
theorem L_law_546 : K1 L_law 546 .i2l 547 := ⟨by decide +kernel, rfl⟩
theorem L_law_547 : K1 L_law 547 .lcmp 548 := ⟨by decide +kernel, rfl⟩
theorem L_law_548 : Kj L_law 548 (.ifCond .eq) 553 551 := ⟨5, by decide +kernel, by decide, rfl⟩
theorem L_law_551 : Kc L_law 551 0 552 := ⟨by decide, Or.inl ⟨by decide +kernel, rfl⟩⟩
theorem L_law_552 : K1 L_law 552 .ireturn 553 := ⟨by decide +kernel, rfl⟩
theorem L_law_553 : Kj L_law 553 .goto 1286 556 := ⟨733, by decide +kernel, by decide, rfl⟩
theorem L_law_556 : Ka L_law 556 1 557 := Or.inr ⟨1, by decide +kernel, rfl, rfl⟩
theorem L_law_557 : Ka L_law 557 0 558 := Or.inr ⟨0, by decide +kernel, rfl, rfl⟩
theorem L_law_558 : Ki L_law 558 4 560 := Or.inl ⟨by decide +kernel, rfl⟩
theorem L_law_560 : Kc L_law 560 1 561 := ⟨by decide, Or.inl ⟨by decide +kernel, rfl⟩⟩
theorem L_law_561 : K1 L_law 561 .iadd 562 := ⟨by decide +kernel, rfl⟩
theorem L_law_562 : K1 L_law 562 .iaload 563 := ⟨by decide +kernel, rfl⟩
theorem L_law_563 : Ka L_law 563 0 564 := Or.inr ⟨0, by decide +kernel, rfl, rfl⟩
theorem L_law_564 : Ki L_law 564 4 566 := Or.inl ⟨by decide +kernel, rfl⟩
theorem L_law_566 : Kc L_law 566 2 567 := ⟨by decide, Or.inl ⟨by decide +kernel, rfl⟩⟩
theorem L_law_567 : K1 L_law 567 .iadd 568 := ⟨by decide +kernel, rfl⟩
theorem L_law_568 : K1 L_law 568 .iaload 569 := ⟨by decide +kernel, rfl⟩
theorem L_law_569 : Ka L_law 569 3 570 := Or.inr ⟨3, by decide +kernel, rfl, rfl⟩
theorem L_law_570 : KS L_law 570 L_count 4 573 := ⟨L_count_q, by decide, w_409, rfl, by decide +kernel, 121, by decide +kernel, Or.inl w_408⟩
theorem L_law_573 : Ks L_law 573 5 575 := ⟨by decide, Or.inl ⟨by decide +kernel, rfl⟩⟩
theorem L_law_575 : Ka L_law 575 2 576 := Or.inr ⟨2, by decide +kernel, rfl, rfl⟩
theorem L_law_576 : Ka L_law 576 0 577 := Or.inr ⟨0, by decide +kernel, rfl, rfl⟩
theorem L_law_577 : Ki L_law 577 4 579 := Or.inl ⟨by decide +kernel, rfl⟩
theorem L_law_579 : Kc L_law 579 1 580 := ⟨by decide, Or.inl ⟨by decide +kernel, rfl⟩⟩
theorem L_law_580 : K1 L_law 580 .iadd 581 := ⟨by decide +kernel, rfl⟩
theorem L_law_581 : K1 L_law 581 .iaload 582 := ⟨by decide +kernel, rfl⟩
theorem L_law_582 : Ka L_law 582 0 583 := Or.inr ⟨0, by decide +kernel, rfl, rfl⟩
theorem L_law_583 : Ki L_law 583 4 585 := Or.inl ⟨by decide +kernel, rfl⟩
theorem L_law_585 : Kc L_law 585 2 586 := ⟨by decide, Or.inl ⟨by decide +kernel, rfl⟩⟩
theorem L_law_586 : K1 L_law 586 .iadd 587 := ⟨by decide +kernel, rfl⟩
theorem L_law_587 : K1 L_law 587 .iaload 588 := ⟨by decide +kernel, rfl⟩
theorem L_law_588 : KV L_law 588 M_count 4 2 591 := ⟨M_count_q, by decide, w_755, w_756, rfl, by decide +kernel, ⟨(RX4, TX4, 21), rfl, rfl⟩, 123, by decide +kernel, w_754⟩
theorem L_law_591 : Ks L_law 591 6 593 := ⟨by decide, Or.inl ⟨by decide +kernel, rfl⟩⟩
theorem L_law_593 : Ka L_law 593 2 594 := Or.inr ⟨2, by decide +kernel, rfl, rfl⟩
theorem L_law_594 : KV L_law 594 M_thrown 4 0 597 := ⟨M_thrown_q, by decide, w_682, w_683, rfl, by decide +kernel, ⟨(RX4, TX4, 21), rfl, rfl⟩, 96, by decide +kernel, w_681⟩
theorem L_law_597 : Ki L_law 597 5 599 := Or.inl ⟨by decide +kernel, rfl⟩
theorem L_law_599 : Kj L_law 599 (.if_icmp .eq) 604 602 := ⟨5, by decide +kernel, by decide, rfl⟩
theorem L_law_602 : Kc L_law 602 0 603 := ⟨by decide, Or.inl ⟨by decide +kernel, rfl⟩⟩
theorem L_law_603 : K1 L_law 603 .ireturn 604 := ⟨by decide +kernel, rfl⟩
theorem L_law_604 : Ki L_law 604 5 606 := Or.inl ⟨by decide +kernel, rfl⟩
theorem L_law_606 : Kj L_law 606 (.ifCond .ne) 621 609 := ⟨15, by decide +kernel, by decide, rfl⟩
theorem L_law_609 : Ka L_law 609 3 610 := Or.inr ⟨3, by decide +kernel, rfl, rfl⟩
theorem L_law_610 : Kc L_law 610 0 611 := ⟨by decide, Or.inl ⟨by decide +kernel, rfl⟩⟩
theorem L_law_611 : K1 L_law 611 .laload 612 := ⟨by decide +kernel, rfl⟩
theorem L_law_612 : Ki L_law 612 6 614 := Or.inl ⟨by decide +kernel, rfl⟩
theorem L_law_614 : K1 L_law 614 .i2l 615 := ⟨by decide +kernel, rfl⟩
theorem L_law_615 : K1 L_law 615 .lcmp 616 := ⟨by decide +kernel, rfl⟩
theorem L_law_616 : Kj L_law 616 (.ifCond .eq) 621 619 := ⟨5, by decide +kernel, by decide, rfl⟩
theorem L_law_619 : Kc L_law 619 0 620 := ⟨by decide, Or.inl ⟨by decide +kernel, rfl⟩⟩
theorem L_law_620 : K1 L_law 620 .ireturn 621 := ⟨by decide +kernel, rfl⟩
theorem L_law_621 : Kj L_law 621 .goto 1286 624 := ⟨665, by decide +kernel, by decide, rfl⟩
theorem L_law_624 : Ka L_law 624 1 625 := Or.inr ⟨1, by decide +kernel, rfl, rfl⟩
theorem L_law_625 : Ka L_law 625 0 626 := Or.inr ⟨0, by decide +kernel, rfl, rfl⟩
theorem L_law_626 : Ki L_law 626 4 628 := Or.inl ⟨by decide +kernel, rfl⟩
theorem L_law_628 : Kc L_law 628 1 629 := ⟨by decide, Or.inl ⟨by decide +kernel, rfl⟩⟩
theorem L_law_629 : K1 L_law 629 .iadd 630 := ⟨by decide +kernel, rfl⟩
theorem L_law_630 : K1 L_law 630 .iaload 631 := ⟨by decide +kernel, rfl⟩
theorem L_law_631 : Ka L_law 631 0 632 := Or.inr ⟨0, by decide +kernel, rfl, rfl⟩
theorem L_law_632 : Ki L_law 632 4 634 := Or.inl ⟨by decide +kernel, rfl⟩
theorem L_law_634 : Kc L_law 634 2 635 := ⟨by decide, Or.inl ⟨by decide +kernel, rfl⟩⟩
theorem L_law_635 : K1 L_law 635 .iadd 636 := ⟨by decide +kernel, rfl⟩
theorem L_law_636 : K1 L_law 636 .iaload 637 := ⟨by decide +kernel, rfl⟩
theorem L_law_637 : Ka L_law 637 3 638 := Or.inr ⟨3, by decide +kernel, rfl, rfl⟩
theorem L_law_638 : KS L_law 638 L_node 4 641 := ⟨L_node_q, by decide, w_429, rfl, by decide +kernel, 124, by decide +kernel, Or.inl w_428⟩
theorem L_law_641 : Ks L_law 641 5 643 := ⟨by decide, Or.inl ⟨by decide +kernel, rfl⟩⟩
theorem L_law_643 : Ka L_law 643 2 644 := Or.inr ⟨2, by decide +kernel, rfl, rfl⟩
theorem L_law_644 : Ka L_law 644 0 645 := Or.inr ⟨0, by decide +kernel, rfl, rfl⟩
theorem L_law_645 : Ki L_law 645 4 647 := Or.inl ⟨by decide +kernel, rfl⟩
theorem L_law_647 : Kc L_law 647 1 648 := ⟨by decide, Or.inl ⟨by decide +kernel, rfl⟩⟩
theorem L_law_648 : K1 L_law 648 .iadd 649 := ⟨by decide +kernel, rfl⟩
theorem L_law_649 : K1 L_law 649 .iaload 650 := ⟨by decide +kernel, rfl⟩
theorem L_law_650 : Ka L_law 650 0 651 := Or.inr ⟨0, by decide +kernel, rfl, rfl⟩
theorem L_law_651 : Ki L_law 651 4 653 := Or.inl ⟨by decide +kernel, rfl⟩
theorem L_law_653 : Kc L_law 653 2 654 := ⟨by decide, Or.inl ⟨by decide +kernel, rfl⟩⟩
theorem L_law_654 : K1 L_law 654 .iadd 655 := ⟨by decide +kernel, rfl⟩
theorem L_law_655 : K1 L_law 655 .iaload 656 := ⟨by decide +kernel, rfl⟩
theorem L_law_656 : KV L_law 656 M_node 4 2 659 := ⟨M_node_q, by decide, w_766, w_767, rfl, by decide +kernel, ⟨(RX4, TX4, 21), rfl, rfl⟩, 126, by decide +kernel, w_765⟩
theorem L_law_659 : Ks L_law 659 6 661 := ⟨by decide, Or.inl ⟨by decide +kernel, rfl⟩⟩
theorem L_law_661 : Ka L_law 661 2 662 := Or.inr ⟨2, by decide +kernel, rfl, rfl⟩
theorem L_law_662 : KV L_law 662 M_thrown 4 0 665 := ⟨M_thrown_q, by decide, w_682, w_683, rfl, by decide +kernel, ⟨(RX4, TX4, 21), rfl, rfl⟩, 96, by decide +kernel, w_681⟩
theorem L_law_665 : Ki L_law 665 5 667 := Or.inl ⟨by decide +kernel, rfl⟩
theorem L_law_667 : Kj L_law 667 (.if_icmp .eq) 672 670 := ⟨5, by decide +kernel, by decide, rfl⟩
theorem L_law_670 : Kc L_law 670 0 671 := ⟨by decide, Or.inl ⟨by decide +kernel, rfl⟩⟩
theorem L_law_671 : K1 L_law 671 .ireturn 672 := ⟨by decide +kernel, rfl⟩
theorem L_law_672 : Ki L_law 672 5 674 := Or.inl ⟨by decide +kernel, rfl⟩
theorem L_law_674 : Kj L_law 674 (.ifCond .ne) 689 677 := ⟨15, by decide +kernel, by decide, rfl⟩
theorem L_law_677 : Ka L_law 677 3 678 := Or.inr ⟨3, by decide +kernel, rfl, rfl⟩
theorem L_law_678 : Kc L_law 678 0 679 := ⟨by decide, Or.inl ⟨by decide +kernel, rfl⟩⟩
theorem L_law_679 : K1 L_law 679 .laload 680 := ⟨by decide +kernel, rfl⟩
theorem L_law_680 : Ki L_law 680 6 682 := Or.inl ⟨by decide +kernel, rfl⟩
theorem L_law_682 : K1 L_law 682 .i2l 683 := ⟨by decide +kernel, rfl⟩
theorem L_law_683 : K1 L_law 683 .lcmp 684 := ⟨by decide +kernel, rfl⟩
theorem L_law_684 : Kj L_law 684 (.ifCond .eq) 689 687 := ⟨5, by decide +kernel, by decide, rfl⟩
theorem L_law_687 : Kc L_law 687 0 688 := ⟨by decide, Or.inl ⟨by decide +kernel, rfl⟩⟩
theorem L_law_688 : K1 L_law 688 .ireturn 689 := ⟨by decide +kernel, rfl⟩
theorem L_law_689 : Kj L_law 689 .goto 1286 692 := ⟨597, by decide +kernel, by decide, rfl⟩
theorem L_law_692 : Ka L_law 692 1 693 := Or.inr ⟨1, by decide +kernel, rfl, rfl⟩
theorem L_law_693 : Ka L_law 693 0 694 := Or.inr ⟨0, by decide +kernel, rfl, rfl⟩
theorem L_law_694 : Ki L_law 694 4 696 := Or.inl ⟨by decide +kernel, rfl⟩
theorem L_law_696 : Kc L_law 696 1 697 := ⟨by decide, Or.inl ⟨by decide +kernel, rfl⟩⟩
theorem L_law_697 : K1 L_law 697 .iadd 698 := ⟨by decide +kernel, rfl⟩
theorem L_law_698 : K1 L_law 698 .iaload 699 := ⟨by decide +kernel, rfl⟩
theorem L_law_699 : Ka L_law 699 0 700 := Or.inr ⟨0, by decide +kernel, rfl, rfl⟩
theorem L_law_700 : Ki L_law 700 4 702 := Or.inl ⟨by decide +kernel, rfl⟩
theorem L_law_702 : Kc L_law 702 2 703 := ⟨by decide, Or.inl ⟨by decide +kernel, rfl⟩⟩
theorem L_law_703 : K1 L_law 703 .iadd 704 := ⟨by decide +kernel, rfl⟩
theorem L_law_704 : K1 L_law 704 .iaload 705 := ⟨by decide +kernel, rfl⟩
theorem L_law_705 : Ka L_law 705 3 706 := Or.inr ⟨3, by decide +kernel, rfl, rfl⟩
theorem L_law_706 : KS L_law 706 L_path 4 709 := ⟨L_path_q, by decide, w_437, rfl, by decide +kernel, 127, by decide +kernel, Or.inl w_436⟩
theorem L_law_709 : Ks L_law 709 5 711 := ⟨by decide, Or.inl ⟨by decide +kernel, rfl⟩⟩
theorem L_law_711 : Ka L_law 711 2 712 := Or.inr ⟨2, by decide +kernel, rfl, rfl⟩
theorem L_law_712 : Ka L_law 712 0 713 := Or.inr ⟨0, by decide +kernel, rfl, rfl⟩
theorem L_law_713 : Ki L_law 713 4 715 := Or.inl ⟨by decide +kernel, rfl⟩
theorem L_law_715 : Kc L_law 715 1 716 := ⟨by decide, Or.inl ⟨by decide +kernel, rfl⟩⟩
theorem L_law_716 : K1 L_law 716 .iadd 717 := ⟨by decide +kernel, rfl⟩
theorem L_law_717 : K1 L_law 717 .iaload 718 := ⟨by decide +kernel, rfl⟩
theorem L_law_718 : Ka L_law 718 0 719 := Or.inr ⟨0, by decide +kernel, rfl, rfl⟩
theorem L_law_719 : Ki L_law 719 4 721 := Or.inl ⟨by decide +kernel, rfl⟩
theorem L_law_721 : Kc L_law 721 2 722 := ⟨by decide, Or.inl ⟨by decide +kernel, rfl⟩⟩
theorem L_law_722 : K1 L_law 722 .iadd 723 := ⟨by decide +kernel, rfl⟩
theorem L_law_723 : K1 L_law 723 .iaload 724 := ⟨by decide +kernel, rfl⟩
theorem L_law_724 : KV L_law 724 M_path 4 2 727 := ⟨M_path_q, by decide, w_770, w_771, rfl, by decide +kernel, ⟨(RX4, TX4, 21), rfl, rfl⟩, 129, by decide +kernel, w_769⟩
theorem L_law_727 : Ks L_law 727 6 729 := ⟨by decide, Or.inl ⟨by decide +kernel, rfl⟩⟩
theorem L_law_729 : Ka L_law 729 2 730 := Or.inr ⟨2, by decide +kernel, rfl, rfl⟩
theorem L_law_730 : KV L_law 730 M_thrown 4 0 733 := ⟨M_thrown_q, by decide, w_682, w_683, rfl, by decide +kernel, ⟨(RX4, TX4, 21), rfl, rfl⟩, 96, by decide +kernel, w_681⟩
theorem L_law_733 : Ki L_law 733 5 735 := Or.inl ⟨by decide +kernel, rfl⟩
theorem L_law_735 : Kj L_law 735 (.if_icmp .eq) 740 738 := ⟨5, by decide +kernel, by decide, rfl⟩
theorem L_law_738 : Kc L_law 738 0 739 := ⟨by decide, Or.inl ⟨by decide +kernel, rfl⟩⟩
theorem L_law_739 : K1 L_law 739 .ireturn 740 := ⟨by decide +kernel, rfl⟩
theorem L_law_740 : Ki L_law 740 5 742 := Or.inl ⟨by decide +kernel, rfl⟩
theorem L_law_742 : Kj L_law 742 (.ifCond .ne) 757 745 := ⟨15, by decide +kernel, by decide, rfl⟩
theorem L_law_745 : Ka L_law 745 3 746 := Or.inr ⟨3, by decide +kernel, rfl, rfl⟩
theorem L_law_746 : Kc L_law 746 0 747 := ⟨by decide, Or.inl ⟨by decide +kernel, rfl⟩⟩
theorem L_law_747 : K1 L_law 747 .laload 748 := ⟨by decide +kernel, rfl⟩
theorem L_law_748 : Ki L_law 748 6 750 := Or.inl ⟨by decide +kernel, rfl⟩
theorem L_law_750 : K1 L_law 750 .i2l 751 := ⟨by decide +kernel, rfl⟩
theorem L_law_751 : K1 L_law 751 .lcmp 752 := ⟨by decide +kernel, rfl⟩
theorem L_law_752 : Kj L_law 752 (.ifCond .eq) 757 755 := ⟨5, by decide +kernel, by decide, rfl⟩
theorem L_law_755 : Kc L_law 755 0 756 := ⟨by decide, Or.inl ⟨by decide +kernel, rfl⟩⟩
theorem L_law_756 : K1 L_law 756 .ireturn 757 := ⟨by decide +kernel, rfl⟩
theorem L_law_757 : Kj L_law 757 .goto 1286 760 := ⟨529, by decide +kernel, by decide, rfl⟩
theorem L_law_760 : Ka L_law 760 1 761 := Or.inr ⟨1, by decide +kernel, rfl, rfl⟩
theorem L_law_761 : Ka L_law 761 0 762 := Or.inr ⟨0, by decide +kernel, rfl, rfl⟩
theorem L_law_762 : Ki L_law 762 4 764 := Or.inl ⟨by decide +kernel, rfl⟩
theorem L_law_764 : Kc L_law 764 1 765 := ⟨by decide, Or.inl ⟨by decide +kernel, rfl⟩⟩
theorem L_law_765 : K1 L_law 765 .iadd 766 := ⟨by decide +kernel, rfl⟩
theorem L_law_766 : K1 L_law 766 .iaload 767 := ⟨by decide +kernel, rfl⟩
theorem L_law_767 : Ka L_law 767 3 768 := Or.inr ⟨3, by decide +kernel, rfl, rfl⟩
theorem L_law_768 : KS L_law 768 L_bound 3 771 := ⟨L_bound_q, by decide, w_448, rfl, by decide +kernel, 130, by decide +kernel, Or.inl w_447⟩
theorem L_law_771 : Ks L_law 771 5 773 := ⟨by decide, Or.inl ⟨by decide +kernel, rfl⟩⟩
theorem L_law_773 : Ka L_law 773 2 774 := Or.inr ⟨2, by decide +kernel, rfl, rfl⟩
theorem L_law_774 : Ka L_law 774 0 775 := Or.inr ⟨0, by decide +kernel, rfl, rfl⟩
theorem L_law_775 : Ki L_law 775 4 777 := Or.inl ⟨by decide +kernel, rfl⟩
theorem L_law_777 : Kc L_law 777 1 778 := ⟨by decide, Or.inl ⟨by decide +kernel, rfl⟩⟩
theorem L_law_778 : K1 L_law 778 .iadd 779 := ⟨by decide +kernel, rfl⟩
theorem L_law_779 : K1 L_law 779 .iaload 780 := ⟨by decide +kernel, rfl⟩
theorem L_law_780 : KV L_law 780 M_bound 4 1 783 := ⟨M_bound_q, by decide, w_778, w_779, rfl, by decide +kernel, ⟨(RX4, TX4, 21), rfl, rfl⟩, 132, by decide +kernel, w_777⟩
theorem L_law_783 : Ks L_law 783 6 785 := ⟨by decide, Or.inl ⟨by decide +kernel, rfl⟩⟩
theorem L_law_785 : Ka L_law 785 2 786 := Or.inr ⟨2, by decide +kernel, rfl, rfl⟩
theorem L_law_786 : KV L_law 786 M_thrown 4 0 789 := ⟨M_thrown_q, by decide, w_682, w_683, rfl, by decide +kernel, ⟨(RX4, TX4, 21), rfl, rfl⟩, 96, by decide +kernel, w_681⟩
theorem L_law_789 : Ki L_law 789 5 791 := Or.inl ⟨by decide +kernel, rfl⟩
theorem L_law_791 : Kj L_law 791 (.if_icmp .eq) 796 794 := ⟨5, by decide +kernel, by decide, rfl⟩
theorem L_law_794 : Kc L_law 794 0 795 := ⟨by decide, Or.inl ⟨by decide +kernel, rfl⟩⟩
theorem L_law_795 : K1 L_law 795 .ireturn 796 := ⟨by decide +kernel, rfl⟩
theorem L_law_796 : Ki L_law 796 5 798 := Or.inl ⟨by decide +kernel, rfl⟩
theorem L_law_798 : Kj L_law 798 (.ifCond .ne) 813 801 := ⟨15, by decide +kernel, by decide, rfl⟩
theorem L_law_801 : Ka L_law 801 3 802 := Or.inr ⟨3, by decide +kernel, rfl, rfl⟩
theorem L_law_802 : Kc L_law 802 0 803 := ⟨by decide, Or.inl ⟨by decide +kernel, rfl⟩⟩
theorem L_law_803 : K1 L_law 803 .laload 804 := ⟨by decide +kernel, rfl⟩
theorem L_law_804 : Ki L_law 804 6 806 := Or.inl ⟨by decide +kernel, rfl⟩
theorem L_law_806 : K1 L_law 806 .i2l 807 := ⟨by decide +kernel, rfl⟩
theorem L_law_807 : K1 L_law 807 .lcmp 808 := ⟨by decide +kernel, rfl⟩
theorem L_law_808 : Kj L_law 808 (.ifCond .eq) 813 811 := ⟨5, by decide +kernel, by decide, rfl⟩
theorem L_law_811 : Kc L_law 811 0 812 := ⟨by decide, Or.inl ⟨by decide +kernel, rfl⟩⟩
theorem L_law_812 : K1 L_law 812 .ireturn 813 := ⟨by decide +kernel, rfl⟩
theorem L_law_813 : Kj L_law 813 .goto 1286 816 := ⟨473, by decide +kernel, by decide, rfl⟩
theorem L_law_816 : Ka L_law 816 1 817 := Or.inr ⟨1, by decide +kernel, rfl, rfl⟩
theorem L_law_817 : Ka L_law 817 3 818 := Or.inr ⟨3, by decide +kernel, rfl, rfl⟩
theorem L_law_818 : KS L_law 818 L_tops 2 821 := ⟨L_tops_q, by decide, w_460, rfl, by decide +kernel, 133, by decide +kernel, Or.inl w_459⟩
theorem L_law_821 : Ks L_law 821 5 823 := ⟨by decide, Or.inl ⟨by decide +kernel, rfl⟩⟩
theorem L_law_823 : Ka L_law 823 2 824 := Or.inr ⟨2, by decide +kernel, rfl, rfl⟩
theorem L_law_824 : KV L_law 824 M_tops 4 0 827 := ⟨M_tops_q, by decide, w_782, w_783, rfl, by decide +kernel, ⟨(RX4, TX4, 21), rfl, rfl⟩, 135, by decide +kernel, w_781⟩
theorem L_law_827 : Ks L_law 827 6 829 := ⟨by decide, Or.inl ⟨by decide +kernel, rfl⟩⟩
theorem L_law_829 : Ka L_law 829 2 830 := Or.inr ⟨2, by decide +kernel, rfl, rfl⟩
theorem L_law_830 : KV L_law 830 M_thrown 4 0 833 := ⟨M_thrown_q, by decide, w_682, w_683, rfl, by decide +kernel, ⟨(RX4, TX4, 21), rfl, rfl⟩, 96, by decide +kernel, w_681⟩
theorem L_law_833 : Ki L_law 833 5 835 := Or.inl ⟨by decide +kernel, rfl⟩
theorem L_law_835 : Kj L_law 835 (.if_icmp .eq) 840 838 := ⟨5, by decide +kernel, by decide, rfl⟩
theorem L_law_838 : Kc L_law 838 0 839 := ⟨by decide, Or.inl ⟨by decide +kernel, rfl⟩⟩
theorem L_law_839 : K1 L_law 839 .ireturn 840 := ⟨by decide +kernel, rfl⟩
theorem L_law_840 : Ki L_law 840 5 842 := Or.inl ⟨by decide +kernel, rfl⟩
theorem L_law_842 : Kj L_law 842 (.ifCond .ne) 857 845 := ⟨15, by decide +kernel, by decide, rfl⟩
theorem L_law_845 : Ka L_law 845 3 846 := Or.inr ⟨3, by decide +kernel, rfl, rfl⟩
theorem L_law_846 : Kc L_law 846 0 847 := ⟨by decide, Or.inl ⟨by decide +kernel, rfl⟩⟩
theorem L_law_847 : K1 L_law 847 .laload 848 := ⟨by decide +kernel, rfl⟩
theorem L_law_848 : Ki L_law 848 6 850 := Or.inl ⟨by decide +kernel, rfl⟩
theorem L_law_850 : K1 L_law 850 .i2l 851 := ⟨by decide +kernel, rfl⟩
theorem L_law_851 : K1 L_law 851 .lcmp 852 := ⟨by decide +kernel, rfl⟩
theorem L_law_852 : Kj L_law 852 (.ifCond .eq) 857 855 := ⟨5, by decide +kernel, by decide, rfl⟩
theorem L_law_855 : Kc L_law 855 0 856 := ⟨by decide, Or.inl ⟨by decide +kernel, rfl⟩⟩
theorem L_law_856 : K1 L_law 856 .ireturn 857 := ⟨by decide +kernel, rfl⟩
theorem L_law_857 : Kj L_law 857 .goto 1286 860 := ⟨429, by decide +kernel, by decide, rfl⟩
theorem L_law_860 : Ka L_law 860 1 861 := Or.inr ⟨1, by decide +kernel, rfl, rfl⟩
theorem L_law_861 : Ka L_law 861 0 862 := Or.inr ⟨0, by decide +kernel, rfl, rfl⟩
theorem L_law_862 : Ki L_law 862 4 864 := Or.inl ⟨by decide +kernel, rfl⟩
theorem L_law_864 : Kc L_law 864 1 865 := ⟨by decide, Or.inl ⟨by decide +kernel, rfl⟩⟩
theorem L_law_865 : K1 L_law 865 .iadd 866 := ⟨by decide +kernel, rfl⟩
theorem L_law_866 : K1 L_law 866 .iaload 867 := ⟨by decide +kernel, rfl⟩
theorem L_law_867 : Ka L_law 867 3 868 := Or.inr ⟨3, by decide +kernel, rfl, rfl⟩
theorem L_law_868 : KS L_law 868 L_top 3 871 := ⟨L_top_q, by decide, w_467, rfl, by decide +kernel, 136, by decide +kernel, Or.inl w_466⟩
theorem L_law_871 : Ks L_law 871 5 873 := ⟨by decide, Or.inl ⟨by decide +kernel, rfl⟩⟩
theorem L_law_873 : Ka L_law 873 2 874 := Or.inr ⟨2, by decide +kernel, rfl, rfl⟩
theorem L_law_874 : Ka L_law 874 0 875 := Or.inr ⟨0, by decide +kernel, rfl, rfl⟩
theorem L_law_875 : Ki L_law 875 4 877 := Or.inl ⟨by decide +kernel, rfl⟩
theorem L_law_877 : Kc L_law 877 1 878 := ⟨by decide, Or.inl ⟨by decide +kernel, rfl⟩⟩
theorem L_law_878 : K1 L_law 878 .iadd 879 := ⟨by decide +kernel, rfl⟩
theorem L_law_879 : K1 L_law 879 .iaload 880 := ⟨by decide +kernel, rfl⟩
theorem L_law_880 : KV L_law 880 M_top 4 1 883 := ⟨M_top_q, by decide, w_790, w_791, rfl, by decide +kernel, ⟨(RX4, TX4, 21), rfl, rfl⟩, 138, by decide +kernel, w_789⟩
theorem L_law_883 : Ks L_law 883 6 885 := ⟨by decide, Or.inl ⟨by decide +kernel, rfl⟩⟩
theorem L_law_885 : Ka L_law 885 2 886 := Or.inr ⟨2, by decide +kernel, rfl, rfl⟩
theorem L_law_886 : KV L_law 886 M_thrown 4 0 889 := ⟨M_thrown_q, by decide, w_682, w_683, rfl, by decide +kernel, ⟨(RX4, TX4, 21), rfl, rfl⟩, 96, by decide +kernel, w_681⟩
theorem L_law_889 : Ki L_law 889 5 891 := Or.inl ⟨by decide +kernel, rfl⟩
theorem L_law_891 : Kj L_law 891 (.if_icmp .eq) 896 894 := ⟨5, by decide +kernel, by decide, rfl⟩
theorem L_law_894 : Kc L_law 894 0 895 := ⟨by decide, Or.inl ⟨by decide +kernel, rfl⟩⟩
theorem L_law_895 : K1 L_law 895 .ireturn 896 := ⟨by decide +kernel, rfl⟩
theorem L_law_896 : Ki L_law 896 5 898 := Or.inl ⟨by decide +kernel, rfl⟩
theorem L_law_898 : Kj L_law 898 (.ifCond .ne) 913 901 := ⟨15, by decide +kernel, by decide, rfl⟩
theorem L_law_901 : Ka L_law 901 3 902 := Or.inr ⟨3, by decide +kernel, rfl, rfl⟩
theorem L_law_902 : Kc L_law 902 0 903 := ⟨by decide, Or.inl ⟨by decide +kernel, rfl⟩⟩
theorem L_law_903 : K1 L_law 903 .laload 904 := ⟨by decide +kernel, rfl⟩
theorem L_law_904 : Ki L_law 904 6 906 := Or.inl ⟨by decide +kernel, rfl⟩
theorem L_law_906 : K1 L_law 906 .i2l 907 := ⟨by decide +kernel, rfl⟩
theorem L_law_907 : K1 L_law 907 .lcmp 908 := ⟨by decide +kernel, rfl⟩
theorem L_law_908 : Kj L_law 908 (.ifCond .eq) 913 911 := ⟨5, by decide +kernel, by decide, rfl⟩
theorem L_law_911 : Kc L_law 911 0 912 := ⟨by decide, Or.inl ⟨by decide +kernel, rfl⟩⟩
theorem L_law_912 : K1 L_law 912 .ireturn 913 := ⟨by decide +kernel, rfl⟩
theorem L_law_913 : Kj L_law 913 .goto 1286 916 := ⟨373, by decide +kernel, by decide, rfl⟩
theorem L_law_916 : Ka L_law 916 1 917 := Or.inr ⟨1, by decide +kernel, rfl, rfl⟩
theorem L_law_917 : Ka L_law 917 3 918 := Or.inr ⟨3, by decide +kernel, rfl, rfl⟩
theorem L_law_918 : KS L_law 918 L_covered 2 921 := ⟨L_covered_q, by decide, w_474, rfl, by decide +kernel, 139, by decide +kernel, Or.inl w_473⟩
theorem L_law_921 : Ks L_law 921 5 923 := ⟨by decide, Or.inl ⟨by decide +kernel, rfl⟩⟩
theorem L_law_923 : Ka L_law 923 2 924 := Or.inr ⟨2, by decide +kernel, rfl, rfl⟩
theorem L_law_924 : KV L_law 924 M_covered 4 0 927 := ⟨M_covered_q, by decide, w_798, w_799, rfl, by decide +kernel, ⟨(RX4, TX4, 21), rfl, rfl⟩, 141, by decide +kernel, w_797⟩
theorem L_law_927 : Ks L_law 927 6 929 := ⟨by decide, Or.inl ⟨by decide +kernel, rfl⟩⟩
theorem L_law_929 : Ka L_law 929 2 930 := Or.inr ⟨2, by decide +kernel, rfl, rfl⟩
theorem L_law_930 : KV L_law 930 M_thrown 4 0 933 := ⟨M_thrown_q, by decide, w_682, w_683, rfl, by decide +kernel, ⟨(RX4, TX4, 21), rfl, rfl⟩, 96, by decide +kernel, w_681⟩
theorem L_law_933 : Ki L_law 933 5 935 := Or.inl ⟨by decide +kernel, rfl⟩
theorem L_law_935 : Kj L_law 935 (.if_icmp .eq) 940 938 := ⟨5, by decide +kernel, by decide, rfl⟩
theorem L_law_938 : Kc L_law 938 0 939 := ⟨by decide, Or.inl ⟨by decide +kernel, rfl⟩⟩
theorem L_law_939 : K1 L_law 939 .ireturn 940 := ⟨by decide +kernel, rfl⟩
theorem L_law_940 : Ki L_law 940 5 942 := Or.inl ⟨by decide +kernel, rfl⟩
theorem L_law_942 : Kj L_law 942 (.ifCond .ne) 964 945 := ⟨22, by decide +kernel, by decide, rfl⟩
theorem L_law_945 : Ka L_law 945 3 946 := Or.inr ⟨3, by decide +kernel, rfl, rfl⟩
theorem L_law_946 : Kc L_law 946 0 947 := ⟨by decide, Or.inl ⟨by decide +kernel, rfl⟩⟩
theorem L_law_947 : K1 L_law 947 .laload 948 := ⟨by decide +kernel, rfl⟩
theorem L_law_948 : Ki L_law 948 6 950 := Or.inl ⟨by decide +kernel, rfl⟩
theorem L_law_950 : Kj L_law 950 (.ifCond .eq) 957 953 := ⟨7, by decide +kernel, by decide, rfl⟩
theorem L_law_953 : ∃ f : Fin 2, K1 L_law 953 (.lconst f) 954 ∧ (f : Nat) = 1 := ⟨1, ⟨by decide +kernel, rfl⟩, rfl⟩
theorem L_law_954 : Kj L_law 954 .goto 958 957 := ⟨4, by decide +kernel, by decide, rfl⟩
theorem L_law_957 : ∃ f : Fin 2, K1 L_law 957 (.lconst f) 958 ∧ (f : Nat) = 0 := ⟨0, ⟨by decide +kernel, rfl⟩, rfl⟩
theorem L_law_958 : K1 L_law 958 .lcmp 959 := ⟨by decide +kernel, rfl⟩
theorem L_law_959 : Kj L_law 959 (.ifCond .eq) 964 962 := ⟨5, by decide +kernel, by decide, rfl⟩
theorem L_law_962 : Kc L_law 962 0 963 := ⟨by decide, Or.inl ⟨by decide +kernel, rfl⟩⟩
theorem L_law_963 : K1 L_law 963 .ireturn 964 := ⟨by decide +kernel, rfl⟩
theorem L_law_964 : Kj L_law 964 .goto 1286 967 := ⟨322, by decide +kernel, by decide, rfl⟩
theorem L_law_967 : Ka L_law 967 1 968 := Or.inr ⟨1, by decide +kernel, rfl, rfl⟩
theorem L_law_968 : Ka L_law 968 0 969 := Or.inr ⟨0, by decide +kernel, rfl, rfl⟩
theorem L_law_969 : Ki L_law 969 4 971 := Or.inl ⟨by decide +kernel, rfl⟩
theorem L_law_971 : Kc L_law 971 1 972 := ⟨by decide, Or.inl ⟨by decide +kernel, rfl⟩⟩
theorem L_law_972 : K1 L_law 972 .iadd 973 := ⟨by decide +kernel, rfl⟩
theorem L_law_973 : K1 L_law 973 .iaload 974 := ⟨by decide +kernel, rfl⟩
theorem L_law_974 : Ka L_law 974 3 975 := Or.inr ⟨3, by decide +kernel, rfl, rfl⟩
theorem L_law_975 : KS L_law 975 L_lives 3 978 := ⟨L_lives_q, by decide, w_485, rfl, by decide +kernel, 142, by decide +kernel, Or.inl w_484⟩
theorem L_law_978 : Ks L_law 978 5 980 := ⟨by decide, Or.inl ⟨by decide +kernel, rfl⟩⟩
theorem L_law_980 : Ka L_law 980 2 981 := Or.inr ⟨2, by decide +kernel, rfl, rfl⟩
theorem L_law_981 : Ka L_law 981 0 982 := Or.inr ⟨0, by decide +kernel, rfl, rfl⟩
theorem L_law_982 : Ki L_law 982 4 984 := Or.inl ⟨by decide +kernel, rfl⟩
theorem L_law_984 : Kc L_law 984 1 985 := ⟨by decide, Or.inl ⟨by decide +kernel, rfl⟩⟩
theorem L_law_985 : K1 L_law 985 .iadd 986 := ⟨by decide +kernel, rfl⟩
theorem L_law_986 : K1 L_law 986 .iaload 987 := ⟨by decide +kernel, rfl⟩
theorem L_law_987 : KV L_law 987 M_lives 4 1 990 := ⟨M_lives_q, by decide, w_802, w_803, rfl, by decide +kernel, ⟨(RX4, TX4, 21), rfl, rfl⟩, 144, by decide +kernel, w_801⟩
theorem L_law_990 : Ks L_law 990 6 992 := ⟨by decide, Or.inl ⟨by decide +kernel, rfl⟩⟩
theorem L_law_992 : Ka L_law 992 2 993 := Or.inr ⟨2, by decide +kernel, rfl, rfl⟩
theorem L_law_993 : KV L_law 993 M_thrown 4 0 996 := ⟨M_thrown_q, by decide, w_682, w_683, rfl, by decide +kernel, ⟨(RX4, TX4, 21), rfl, rfl⟩, 96, by decide +kernel, w_681⟩
theorem L_law_996 : Ki L_law 996 5 998 := Or.inl ⟨by decide +kernel, rfl⟩
theorem L_law_998 : Kj L_law 998 (.if_icmp .eq) 1003 1001 := ⟨5, by decide +kernel, by decide, rfl⟩
theorem L_law_1001 : Kc L_law 1001 0 1002 := ⟨by decide, Or.inl ⟨by decide +kernel, rfl⟩⟩
theorem L_law_1002 : K1 L_law 1002 .ireturn 1003 := ⟨by decide +kernel, rfl⟩
theorem L_law_1003 : Ki L_law 1003 5 1005 := Or.inl ⟨by decide +kernel, rfl⟩
theorem L_law_1005 : Kj L_law 1005 (.ifCond .ne) 1027 1008 := ⟨22, by decide +kernel, by decide, rfl⟩
theorem L_law_1008 : Ka L_law 1008 3 1009 := Or.inr ⟨3, by decide +kernel, rfl, rfl⟩
theorem L_law_1009 : Kc L_law 1009 0 1010 := ⟨by decide, Or.inl ⟨by decide +kernel, rfl⟩⟩
theorem L_law_1010 : K1 L_law 1010 .laload 1011 := ⟨by decide +kernel, rfl⟩
theorem L_law_1011 : Ki L_law 1011 6 1013 := Or.inl ⟨by decide +kernel, rfl⟩
theorem L_law_1013 : Kj L_law 1013 (.ifCond .eq) 1020 1016 := ⟨7, by decide +kernel, by decide, rfl⟩
theorem L_law_1016 : ∃ f : Fin 2, K1 L_law 1016 (.lconst f) 1017 ∧ (f : Nat) = 1 := ⟨1, ⟨by decide +kernel, rfl⟩, rfl⟩
theorem L_law_1017 : Kj L_law 1017 .goto 1021 1020 := ⟨4, by decide +kernel, by decide, rfl⟩
theorem L_law_1020 : ∃ f : Fin 2, K1 L_law 1020 (.lconst f) 1021 ∧ (f : Nat) = 0 := ⟨0, ⟨by decide +kernel, rfl⟩, rfl⟩
theorem L_law_1021 : K1 L_law 1021 .lcmp 1022 := ⟨by decide +kernel, rfl⟩
theorem L_law_1022 : Kj L_law 1022 (.ifCond .eq) 1027 1025 := ⟨5, by decide +kernel, by decide, rfl⟩
theorem L_law_1025 : Kc L_law 1025 0 1026 := ⟨by decide, Or.inl ⟨by decide +kernel, rfl⟩⟩
theorem L_law_1026 : K1 L_law 1026 .ireturn 1027 := ⟨by decide +kernel, rfl⟩
theorem L_law_1027 : Kj L_law 1027 .goto 1286 1030 := ⟨259, by decide +kernel, by decide, rfl⟩
theorem L_law_1030 : Ka L_law 1030 1 1031 := Or.inr ⟨1, by decide +kernel, rfl, rfl⟩
theorem L_law_1031 : Ka L_law 1031 3 1032 := Or.inr ⟨3, by decide +kernel, rfl, rfl⟩
theorem L_law_1032 : KS L_law 1032 L_dead 2 1035 := ⟨L_dead_q, by decide, w_497, rfl, by decide +kernel, 145, by decide +kernel, Or.inl w_496⟩
theorem L_law_1035 : Ks L_law 1035 5 1037 := ⟨by decide, Or.inl ⟨by decide +kernel, rfl⟩⟩
theorem L_law_1037 : Ka L_law 1037 2 1038 := Or.inr ⟨2, by decide +kernel, rfl, rfl⟩
theorem L_law_1038 : KV L_law 1038 M_dead 4 0 1041 := ⟨M_dead_q, by decide, w_806, w_807, rfl, by decide +kernel, ⟨(RX4, TX4, 21), rfl, rfl⟩, 147, by decide +kernel, w_805⟩
theorem L_law_1041 : Ks L_law 1041 6 1043 := ⟨by decide, Or.inl ⟨by decide +kernel, rfl⟩⟩
theorem L_law_1043 : Ka L_law 1043 2 1044 := Or.inr ⟨2, by decide +kernel, rfl, rfl⟩
theorem L_law_1044 : KV L_law 1044 M_thrown 4 0 1047 := ⟨M_thrown_q, by decide, w_682, w_683, rfl, by decide +kernel, ⟨(RX4, TX4, 21), rfl, rfl⟩, 96, by decide +kernel, w_681⟩
theorem L_law_1047 : Ki L_law 1047 5 1049 := Or.inl ⟨by decide +kernel, rfl⟩
theorem L_law_1049 : Kj L_law 1049 (.if_icmp .eq) 1054 1052 := ⟨5, by decide +kernel, by decide, rfl⟩
theorem L_law_1052 : Kc L_law 1052 0 1053 := ⟨by decide, Or.inl ⟨by decide +kernel, rfl⟩⟩
theorem L_law_1053 : K1 L_law 1053 .ireturn 1054 := ⟨by decide +kernel, rfl⟩
theorem L_law_1054 : Ki L_law 1054 5 1056 := Or.inl ⟨by decide +kernel, rfl⟩
theorem L_law_1056 : Kj L_law 1056 (.ifCond .ne) 1071 1059 := ⟨15, by decide +kernel, by decide, rfl⟩
theorem L_law_1059 : Ka L_law 1059 3 1060 := Or.inr ⟨3, by decide +kernel, rfl, rfl⟩
theorem L_law_1060 : Kc L_law 1060 0 1061 := ⟨by decide, Or.inl ⟨by decide +kernel, rfl⟩⟩
theorem L_law_1061 : K1 L_law 1061 .laload 1062 := ⟨by decide +kernel, rfl⟩
theorem L_law_1062 : Ki L_law 1062 6 1064 := Or.inl ⟨by decide +kernel, rfl⟩
theorem L_law_1064 : K1 L_law 1064 .i2l 1065 := ⟨by decide +kernel, rfl⟩
theorem L_law_1065 : K1 L_law 1065 .lcmp 1066 := ⟨by decide +kernel, rfl⟩
theorem L_law_1066 : Kj L_law 1066 (.ifCond .eq) 1071 1069 := ⟨5, by decide +kernel, by decide, rfl⟩
theorem L_law_1069 : Kc L_law 1069 0 1070 := ⟨by decide, Or.inl ⟨by decide +kernel, rfl⟩⟩
theorem L_law_1070 : K1 L_law 1070 .ireturn 1071 := ⟨by decide +kernel, rfl⟩
theorem L_law_1071 : Kj L_law 1071 .goto 1286 1074 := ⟨215, by decide +kernel, by decide, rfl⟩
theorem L_law_1074 : Ka L_law 1074 1 1075 := Or.inr ⟨1, by decide +kernel, rfl, rfl⟩
theorem L_law_1075 : Ka L_law 1075 3 1076 := Or.inr ⟨3, by decide +kernel, rfl, rfl⟩
theorem L_law_1076 : KS L_law 1076 L_back 2 1079 := ⟨L_back_q, by decide, w_513, rfl, by decide +kernel, 148, by decide +kernel, Or.inl w_512⟩
theorem L_law_1079 : Ks L_law 1079 5 1081 := ⟨by decide, Or.inl ⟨by decide +kernel, rfl⟩⟩
theorem L_law_1081 : Ka L_law 1081 2 1082 := Or.inr ⟨2, by decide +kernel, rfl, rfl⟩
theorem L_law_1082 : KV L_law 1082 M_back 4 0 1085 := ⟨M_back_q, by decide, w_810, w_811, rfl, by decide +kernel, ⟨(RX4, TX4, 21), rfl, rfl⟩, 150, by decide +kernel, w_809⟩
theorem L_law_1085 : Ks L_law 1085 6 1087 := ⟨by decide, Or.inl ⟨by decide +kernel, rfl⟩⟩
theorem L_law_1087 : Ka L_law 1087 2 1088 := Or.inr ⟨2, by decide +kernel, rfl, rfl⟩
theorem L_law_1088 : KV L_law 1088 M_thrown 4 0 1091 := ⟨M_thrown_q, by decide, w_682, w_683, rfl, by decide +kernel, ⟨(RX4, TX4, 21), rfl, rfl⟩, 96, by decide +kernel, w_681⟩
theorem L_law_1091 : Ki L_law 1091 5 1093 := Or.inl ⟨by decide +kernel, rfl⟩
theorem L_law_1093 : Kj L_law 1093 (.if_icmp .eq) 1098 1096 := ⟨5, by decide +kernel, by decide, rfl⟩
theorem L_law_1096 : Kc L_law 1096 0 1097 := ⟨by decide, Or.inl ⟨by decide +kernel, rfl⟩⟩
theorem L_law_1097 : K1 L_law 1097 .ireturn 1098 := ⟨by decide +kernel, rfl⟩
theorem L_law_1098 : Ki L_law 1098 5 1100 := Or.inl ⟨by decide +kernel, rfl⟩
theorem L_law_1100 : Kj L_law 1100 (.ifCond .ne) 1115 1103 := ⟨15, by decide +kernel, by decide, rfl⟩
theorem L_law_1103 : Ka L_law 1103 3 1104 := Or.inr ⟨3, by decide +kernel, rfl, rfl⟩
theorem L_law_1104 : Kc L_law 1104 0 1105 := ⟨by decide, Or.inl ⟨by decide +kernel, rfl⟩⟩
theorem L_law_1105 : K1 L_law 1105 .laload 1106 := ⟨by decide +kernel, rfl⟩
theorem L_law_1106 : Ki L_law 1106 6 1108 := Or.inl ⟨by decide +kernel, rfl⟩
theorem L_law_1108 : K1 L_law 1108 .i2l 1109 := ⟨by decide +kernel, rfl⟩
theorem L_law_1109 : K1 L_law 1109 .lcmp 1110 := ⟨by decide +kernel, rfl⟩
theorem L_law_1110 : Kj L_law 1110 (.ifCond .eq) 1115 1113 := ⟨5, by decide +kernel, by decide, rfl⟩
theorem L_law_1113 : Kc L_law 1113 0 1114 := ⟨by decide, Or.inl ⟨by decide +kernel, rfl⟩⟩
theorem L_law_1114 : K1 L_law 1114 .ireturn 1115 := ⟨by decide +kernel, rfl⟩
theorem L_law_1115 : Kj L_law 1115 .goto 1286 1118 := ⟨171, by decide +kernel, by decide, rfl⟩
theorem L_law_1118 : Ka L_law 1118 1 1119 := Or.inr ⟨1, by decide +kernel, rfl, rfl⟩
theorem L_law_1119 : Ka L_law 1119 0 1120 := Or.inr ⟨0, by decide +kernel, rfl, rfl⟩
theorem L_law_1120 : Ki L_law 1120 4 1122 := Or.inl ⟨by decide +kernel, rfl⟩
theorem L_law_1122 : Kc L_law 1122 1 1123 := ⟨by decide, Or.inl ⟨by decide +kernel, rfl⟩⟩
theorem L_law_1123 : K1 L_law 1123 .iadd 1124 := ⟨by decide +kernel, rfl⟩
theorem L_law_1124 : K1 L_law 1124 .iaload 1125 := ⟨by decide +kernel, rfl⟩
theorem L_law_1125 : Ka L_law 1125 0 1126 := Or.inr ⟨0, by decide +kernel, rfl, rfl⟩
theorem L_law_1126 : Ki L_law 1126 4 1128 := Or.inl ⟨by decide +kernel, rfl⟩
theorem L_law_1128 : Kc L_law 1128 2 1129 := ⟨by decide, Or.inl ⟨by decide +kernel, rfl⟩⟩
theorem L_law_1129 : K1 L_law 1129 .iadd 1130 := ⟨by decide +kernel, rfl⟩
theorem L_law_1130 : K1 L_law 1130 .iaload 1131 := ⟨by decide +kernel, rfl⟩
theorem L_law_1131 : Ka L_law 1131 3 1132 := Or.inr ⟨3, by decide +kernel, rfl, rfl⟩
theorem L_law_1132 : KS L_law 1132 L_goal 4 1135 := ⟨L_goal_q, by decide, w_552, rfl, by decide +kernel, 151, by decide +kernel, Or.inl w_551⟩
theorem L_law_1135 : Ks L_law 1135 5 1137 := ⟨by decide, Or.inl ⟨by decide +kernel, rfl⟩⟩
theorem L_law_1137 : Ka L_law 1137 2 1138 := Or.inr ⟨2, by decide +kernel, rfl, rfl⟩
theorem L_law_1138 : Ka L_law 1138 0 1139 := Or.inr ⟨0, by decide +kernel, rfl, rfl⟩
theorem L_law_1139 : Ki L_law 1139 4 1141 := Or.inl ⟨by decide +kernel, rfl⟩
theorem L_law_1141 : Kc L_law 1141 1 1142 := ⟨by decide, Or.inl ⟨by decide +kernel, rfl⟩⟩
theorem L_law_1142 : K1 L_law 1142 .iadd 1143 := ⟨by decide +kernel, rfl⟩
theorem L_law_1143 : K1 L_law 1143 .iaload 1144 := ⟨by decide +kernel, rfl⟩
theorem L_law_1144 : Ka L_law 1144 0 1145 := Or.inr ⟨0, by decide +kernel, rfl, rfl⟩
theorem L_law_1145 : Ki L_law 1145 4 1147 := Or.inl ⟨by decide +kernel, rfl⟩
theorem L_law_1147 : Kc L_law 1147 2 1148 := ⟨by decide, Or.inl ⟨by decide +kernel, rfl⟩⟩
theorem L_law_1148 : K1 L_law 1148 .iadd 1149 := ⟨by decide +kernel, rfl⟩
theorem L_law_1149 : K1 L_law 1149 .iaload 1150 := ⟨by decide +kernel, rfl⟩
theorem L_law_1150 : KV L_law 1150 M_goal 4 2 1153 := ⟨M_goal_q, by decide, w_822, w_823, rfl, by decide +kernel, ⟨(RX4, TX4, 21), rfl, rfl⟩, 153, by decide +kernel, w_821⟩
theorem L_law_1153 : Ks L_law 1153 6 1155 := ⟨by decide, Or.inl ⟨by decide +kernel, rfl⟩⟩
theorem L_law_1155 : Ka L_law 1155 2 1156 := Or.inr ⟨2, by decide +kernel, rfl, rfl⟩
theorem L_law_1156 : KV L_law 1156 M_thrown 4 0 1159 := ⟨M_thrown_q, by decide, w_682, w_683, rfl, by decide +kernel, ⟨(RX4, TX4, 21), rfl, rfl⟩, 96, by decide +kernel, w_681⟩
theorem L_law_1159 : Ki L_law 1159 5 1161 := Or.inl ⟨by decide +kernel, rfl⟩
theorem L_law_1161 : Kj L_law 1161 (.if_icmp .eq) 1166 1164 := ⟨5, by decide +kernel, by decide, rfl⟩
theorem L_law_1164 : Kc L_law 1164 0 1165 := ⟨by decide, Or.inl ⟨by decide +kernel, rfl⟩⟩
theorem L_law_1165 : K1 L_law 1165 .ireturn 1166 := ⟨by decide +kernel, rfl⟩
theorem L_law_1166 : Ki L_law 1166 5 1168 := Or.inl ⟨by decide +kernel, rfl⟩
theorem L_law_1168 : Kj L_law 1168 (.ifCond .ne) 1183 1171 := ⟨15, by decide +kernel, by decide, rfl⟩
theorem L_law_1171 : Ka L_law 1171 3 1172 := Or.inr ⟨3, by decide +kernel, rfl, rfl⟩
theorem L_law_1172 : Kc L_law 1172 0 1173 := ⟨by decide, Or.inl ⟨by decide +kernel, rfl⟩⟩
theorem L_law_1173 : K1 L_law 1173 .laload 1174 := ⟨by decide +kernel, rfl⟩
theorem L_law_1174 : Ki L_law 1174 6 1176 := Or.inl ⟨by decide +kernel, rfl⟩
theorem L_law_1176 : K1 L_law 1176 .i2l 1177 := ⟨by decide +kernel, rfl⟩
theorem L_law_1177 : K1 L_law 1177 .lcmp 1178 := ⟨by decide +kernel, rfl⟩
theorem L_law_1178 : Kj L_law 1178 (.ifCond .eq) 1183 1181 := ⟨5, by decide +kernel, by decide, rfl⟩
theorem L_law_1181 : Kc L_law 1181 0 1182 := ⟨by decide, Or.inl ⟨by decide +kernel, rfl⟩⟩
theorem L_law_1182 : K1 L_law 1182 .ireturn 1183 := ⟨by decide +kernel, rfl⟩
theorem L_law_1183 : Kj L_law 1183 .goto 1286 1186 := ⟨103, by decide +kernel, by decide, rfl⟩
theorem L_law_1186 : Ka L_law 1186 1 1187 := Or.inr ⟨1, by decide +kernel, rfl, rfl⟩
theorem L_law_1187 : Ka L_law 1187 3 1188 := Or.inr ⟨3, by decide +kernel, rfl, rfl⟩
theorem L_law_1188 : KS L_law 1188 L_length 2 1191 := ⟨L_length_q, by decide, w_569, rfl, by decide +kernel, 154, by decide +kernel, Or.inl w_568⟩
theorem L_law_1191 : Ks L_law 1191 5 1193 := ⟨by decide, Or.inl ⟨by decide +kernel, rfl⟩⟩
theorem L_law_1193 : Ka L_law 1193 2 1194 := Or.inr ⟨2, by decide +kernel, rfl, rfl⟩
theorem L_law_1194 : KV L_law 1194 M_length 4 0 1197 := ⟨M_length_q, by decide, w_826, w_827, rfl, by decide +kernel, ⟨(RX4, TX4, 21), rfl, rfl⟩, 156, by decide +kernel, w_825⟩
theorem L_law_1197 : Ks L_law 1197 6 1199 := ⟨by decide, Or.inl ⟨by decide +kernel, rfl⟩⟩
theorem L_law_1199 : Ka L_law 1199 2 1200 := Or.inr ⟨2, by decide +kernel, rfl, rfl⟩
theorem L_law_1200 : KV L_law 1200 M_thrown 4 0 1203 := ⟨M_thrown_q, by decide, w_682, w_683, rfl, by decide +kernel, ⟨(RX4, TX4, 21), rfl, rfl⟩, 96, by decide +kernel, w_681⟩
theorem L_law_1203 : Ki L_law 1203 5 1205 := Or.inl ⟨by decide +kernel, rfl⟩
theorem L_law_1205 : Kj L_law 1205 (.if_icmp .eq) 1210 1208 := ⟨5, by decide +kernel, by decide, rfl⟩
theorem L_law_1208 : Kc L_law 1208 0 1209 := ⟨by decide, Or.inl ⟨by decide +kernel, rfl⟩⟩
theorem L_law_1209 : K1 L_law 1209 .ireturn 1210 := ⟨by decide +kernel, rfl⟩
theorem L_law_1210 : Ki L_law 1210 5 1212 := Or.inl ⟨by decide +kernel, rfl⟩
theorem L_law_1212 : Kj L_law 1212 (.ifCond .ne) 1227 1215 := ⟨15, by decide +kernel, by decide, rfl⟩
theorem L_law_1215 : Ka L_law 1215 3 1216 := Or.inr ⟨3, by decide +kernel, rfl, rfl⟩
theorem L_law_1216 : Kc L_law 1216 0 1217 := ⟨by decide, Or.inl ⟨by decide +kernel, rfl⟩⟩
theorem L_law_1217 : K1 L_law 1217 .laload 1218 := ⟨by decide +kernel, rfl⟩
theorem L_law_1218 : Ki L_law 1218 6 1220 := Or.inl ⟨by decide +kernel, rfl⟩
theorem L_law_1220 : K1 L_law 1220 .i2l 1221 := ⟨by decide +kernel, rfl⟩
theorem L_law_1221 : K1 L_law 1221 .lcmp 1222 := ⟨by decide +kernel, rfl⟩
theorem L_law_1222 : Kj L_law 1222 (.ifCond .eq) 1227 1225 := ⟨5, by decide +kernel, by decide, rfl⟩
theorem L_law_1225 : Kc L_law 1225 0 1226 := ⟨by decide, Or.inl ⟨by decide +kernel, rfl⟩⟩
theorem L_law_1226 : K1 L_law 1226 .ireturn 1227 := ⟨by decide +kernel, rfl⟩
theorem L_law_1227 : Kj L_law 1227 .goto 1286 1230 := ⟨59, by decide +kernel, by decide, rfl⟩
theorem L_law_1230 : Ka L_law 1230 1 1231 := Or.inr ⟨1, by decide +kernel, rfl, rfl⟩
theorem L_law_1231 : Ka L_law 1231 0 1232 := Or.inr ⟨0, by decide +kernel, rfl, rfl⟩
theorem L_law_1232 : Ki L_law 1232 4 1234 := Or.inl ⟨by decide +kernel, rfl⟩
theorem L_law_1234 : Kc L_law 1234 1 1235 := ⟨by decide, Or.inl ⟨by decide +kernel, rfl⟩⟩
theorem L_law_1235 : K1 L_law 1235 .iadd 1236 := ⟨by decide +kernel, rfl⟩
theorem L_law_1236 : K1 L_law 1236 .iaload 1237 := ⟨by decide +kernel, rfl⟩
theorem L_law_1237 : Ka L_law 1237 3 1238 := Or.inr ⟨3, by decide +kernel, rfl, rfl⟩
theorem L_law_1238 : KS L_law 1238 L_way 3 1241 := ⟨L_way_q, by decide, w_601, rfl, by decide +kernel, 157, by decide +kernel, Or.inl w_600⟩
theorem L_law_1241 : Ks L_law 1241 5 1243 := ⟨by decide, Or.inl ⟨by decide +kernel, rfl⟩⟩
theorem L_law_1243 : Ka L_law 1243 2 1244 := Or.inr ⟨2, by decide +kernel, rfl, rfl⟩
theorem L_law_1244 : Ka L_law 1244 0 1245 := Or.inr ⟨0, by decide +kernel, rfl, rfl⟩
theorem L_law_1245 : Ki L_law 1245 4 1247 := Or.inl ⟨by decide +kernel, rfl⟩
theorem L_law_1247 : Kc L_law 1247 1 1248 := ⟨by decide, Or.inl ⟨by decide +kernel, rfl⟩⟩
theorem L_law_1248 : K1 L_law 1248 .iadd 1249 := ⟨by decide +kernel, rfl⟩
theorem L_law_1249 : K1 L_law 1249 .iaload 1250 := ⟨by decide +kernel, rfl⟩
theorem L_law_1250 : KV L_law 1250 M_way 4 1 1253 := ⟨M_way_q, by decide, w_834, w_835, rfl, by decide +kernel, ⟨(RX4, TX4, 21), rfl, rfl⟩, 159, by decide +kernel, w_833⟩
theorem L_law_1253 : Ks L_law 1253 6 1255 := ⟨by decide, Or.inl ⟨by decide +kernel, rfl⟩⟩
theorem L_law_1255 : Ka L_law 1255 2 1256 := Or.inr ⟨2, by decide +kernel, rfl, rfl⟩
theorem L_law_1256 : KV L_law 1256 M_thrown 4 0 1259 := ⟨M_thrown_q, by decide, w_682, w_683, rfl, by decide +kernel, ⟨(RX4, TX4, 21), rfl, rfl⟩, 96, by decide +kernel, w_681⟩
theorem L_law_1259 : Ki L_law 1259 5 1261 := Or.inl ⟨by decide +kernel, rfl⟩
theorem L_law_1261 : Kj L_law 1261 (.if_icmp .eq) 1266 1264 := ⟨5, by decide +kernel, by decide, rfl⟩
theorem L_law_1264 : Kc L_law 1264 0 1265 := ⟨by decide, Or.inl ⟨by decide +kernel, rfl⟩⟩
theorem L_law_1265 : K1 L_law 1265 .ireturn 1266 := ⟨by decide +kernel, rfl⟩
theorem L_law_1266 : Ki L_law 1266 5 1268 := Or.inl ⟨by decide +kernel, rfl⟩
theorem L_law_1268 : Kj L_law 1268 (.ifCond .ne) 1283 1271 := ⟨15, by decide +kernel, by decide, rfl⟩
theorem L_law_1271 : Ka L_law 1271 3 1272 := Or.inr ⟨3, by decide +kernel, rfl, rfl⟩
theorem L_law_1272 : Kc L_law 1272 0 1273 := ⟨by decide, Or.inl ⟨by decide +kernel, rfl⟩⟩
theorem L_law_1273 : K1 L_law 1273 .laload 1274 := ⟨by decide +kernel, rfl⟩
theorem L_law_1274 : Ki L_law 1274 6 1276 := Or.inl ⟨by decide +kernel, rfl⟩
theorem L_law_1276 : K1 L_law 1276 .i2l 1277 := ⟨by decide +kernel, rfl⟩
theorem L_law_1277 : K1 L_law 1277 .lcmp 1278 := ⟨by decide +kernel, rfl⟩
theorem L_law_1278 : Kj L_law 1278 (.ifCond .eq) 1283 1281 := ⟨5, by decide +kernel, by decide, rfl⟩
theorem L_law_1281 : Kc L_law 1281 0 1282 := ⟨by decide, Or.inl ⟨by decide +kernel, rfl⟩⟩
theorem L_law_1282 : K1 L_law 1282 .ireturn 1283 := ⟨by decide +kernel, rfl⟩
theorem L_law_1283 : Kj L_law 1283 .goto 1286 1286 := ⟨3, by decide +kernel, by decide, rfl⟩
theorem L_law_1286 : Kn L_law 1286 4 5 1289 := ⟨by decide, by decide +kernel, rfl⟩
theorem L_law_1289 : Kj L_law 1289 .goto 43 1292 := ⟨(-1246), by decide +kernel, by decide, rfl⟩
theorem L_law_1292 : Kc L_law 1292 1 1293 := ⟨by decide, Or.inl ⟨by decide +kernel, rfl⟩⟩
theorem L_law_1293 : K1 L_law 1293 .ireturn 1294 := ⟨by decide +kernel, rfl⟩
end
section
/-! ===== the shape behind the law's makings ===== -/
def WX (S : aS) (P T : Nat) : Prop :=
  (hasA S (2 * T + 212) 4 0) ∧
  (hasA S 1 5 0) ∧
  (hasA S (2 * T + 5) 6 0) ∧
  (hasA S 0 7 0) ∧
  (hasA S (2 * T + 269) 8 0) ∧
  (S.2.2 (2 * T + 212) 0 = some 1) ∧
  (S.2.2 (2 * T + 212) 1 = some (2 * T + 217)) ∧
  (hasA S (2 * T + 217) 3 48) ∧
  (∀ t : Nat, t < 48 → S.2.2 (2 * T + 217) t = some (2 * T + 218 + t)) ∧
  (∀ t : Nat, t < 48 → hasA S (2 * T + 218 + t) 0 P) ∧
  (S.2.2 (2 * T + 212) 2 = some (2 * T + 213)) ∧
  (hasA S (2 * T + 213) 0 48) ∧
  (S.2.2 (2 * T + 212) 3 = some (2 * T + 214)) ∧
  (hasA S (2 * T + 214) 0 48) ∧
  (S.2.2 (2 * T + 212) 4 = some (2 * T + 215)) ∧
  (hasA S (2 * T + 215) 0 48) ∧
  (S.2.2 (2 * T + 212) 5 = some (2 * T + 216)) ∧
  (hasA S (2 * T + 216) 1 48) ∧
  (S.2.2 (2 * T + 212) 6 = some (2 * T + 266)) ∧
  (hasA S (2 * T + 266) 0 P) ∧
  (S.2.2 1 2 = some 2) ∧
  (hasA S 2 3 T) ∧
  (∀ t : Nat, t < T → S.2.2 2 t = some (3 + t)) ∧
  (∀ t : Nat, t < T → hasA S (3 + t) 0 P) ∧
  (S.2.2 1 3 = some (T + 3)) ∧
  (hasA S (T + 3) 3 T) ∧
  (∀ t : Nat, t < T → S.2.2 (T + 3) t = some (T + 4 + t)) ∧
  (∀ t : Nat, t < T → hasA S (T + 4 + t) 0 P) ∧
  (S.2.2 1 4 = some (2 * T + 4)) ∧
  (hasA S (2 * T + 4) 0 P) ∧
  (S.2.2 (2 * T + 5) 0 = some 1) ∧
  (S.2.2 (2 * T + 5) 1 = some (2 * T + 11)) ∧
  (hasA S (2 * T + 11) 3 200) ∧
  (∀ t : Nat, t < 200 → S.2.2 (2 * T + 11) t = some (2 * T + 12 + t)) ∧
  (∀ t : Nat, t < 200 → hasA S (2 * T + 12 + t) 0 P) ∧
  (S.2.2 (2 * T + 5) 2 = some (2 * T + 6)) ∧
  (hasA S (2 * T + 6) 0 200) ∧
  (S.2.2 (2 * T + 5) 3 = some (2 * T + 7)) ∧
  (hasA S (2 * T + 7) 0 200) ∧
  (S.2.2 (2 * T + 5) 4 = some (2 * T + 8)) ∧
  (hasA S (2 * T + 8) 0 200) ∧
  (S.2.2 (2 * T + 5) 5 = some (2 * T + 9)) ∧
  (hasA S (2 * T + 9) 1 200) ∧
  (S.2.2 (2 * T + 5) 6 = some (2 * T + 10)) ∧
  (hasA S (2 * T + 10) 0 200) ∧
  (S.2.2 0 0 = some 1) ∧
  (S.2.2 0 1 = some (2 * T + 5)) ∧
  (S.2.2 0 2 = some (2 * T + 212)) ∧
  (S.2.2 0 3 = some (2 * T + 267)) ∧
  (hasA S (2 * T + 267) 0 P) ∧
  (S.2.2 0 4 = some (2 * T + 268)) ∧
  (hasA S (2 * T + 268) 0 P) ∧
  (S.2.2 (2 * T + 269) 3 = some (2 * T + 270)) ∧
  (hasA S (2 * T + 270) 0 48) ∧
  (S.2.2 (2 * T + 269) 4 = some (2 * T + 271)) ∧
  (hasA S (2 * T + 271) 0 48) ∧
  (S.2.2 (2 * T + 269) 5 = some (2 * T + 272)) ∧
  (hasA S (2 * T + 272) 0 6) ∧
  (S.2.2 (2 * T + 269) 6 = some (2 * T + 273)) ∧
  (hasA S (2 * T + 273) 0 6) ∧
  (S.2.2 (2 * T + 269) 7 = some (2 * T + 274)) ∧
  (hasA S (2 * T + 274) 0 6) ∧
  (S.2.2 (2 * T + 269) 11 = some (2 * T + 275)) ∧
  (hasA S (2 * T + 275) 0 1206) ∧
  (S.2.2 (2 * T + 269) 12 = some (2 * T + 276)) ∧
  (hasA S (2 * T + 276) 0 201) ∧
  (S.2.2 (2 * T + 269) 13 = some (2 * T + 277)) ∧
  (hasA S (2 * T + 277) 0 201) ∧
  (S.2.2 (2 * T + 269) 14 = some (2 * T + 278)) ∧
  (hasA S (2 * T + 278) 1 201) ∧
  (S.2.2 (2 * T + 269) 17 = some (2 * T + 279)) ∧
  (hasA S (2 * T + 279) 0 294) ∧
  (S.2.2 (2 * T + 269) 18 = some (2 * T + 280)) ∧
  (hasA S (2 * T + 280) 0 49) ∧
  (S.2.2 (2 * T + 269) 19 = some (2 * T + 281)) ∧
  (hasA S (2 * T + 281) 0 49) ∧
  (S.2.2 (2 * T + 269) 20 = some (2 * T + 282)) ∧
  (hasA S (2 * T + 282) 1 49) ∧
  (hasA S (2 * T + 283) 2 1) ∧
  (1 ≤ P ∧ P ≤ 6) ∧
  (1 ≤ T ∧ T ≤ 8)
theorem wx_o0 {S : aS} {P T : Nat} (h : WX S P T) : hasA S (2 * T + 212) 4 0 := h.1
theorem wx_o1 {S : aS} {P T : Nat} (h : WX S P T) : hasA S 1 5 0 := h.2.1
theorem wx_o2 {S : aS} {P T : Nat} (h : WX S P T) : hasA S (2 * T + 5) 6 0 := h.2.2.1
theorem wx_o3 {S : aS} {P T : Nat} (h : WX S P T) : hasA S 0 7 0 := h.2.2.2.1
theorem wx_o4 {S : aS} {P T : Nat} (h : WX S P T) : hasA S (2 * T + 269) 8 0 := h.2.2.2.2.1
theorem wx_r0_0 {S : aS} {P T : Nat} (h : WX S P T) : S.2.2 (2 * T + 212) 0 = some 1 := h.2.2.2.2.2.1
theorem wx_r0_1 {S : aS} {P T : Nat} (h : WX S P T) : S.2.2 (2 * T + 212) 1 = some (2 * T + 217) := h.2.2.2.2.2.2.1
theorem wx_a_gmarks {S : aS} {P T : Nat} (h : WX S P T) : hasA S (2 * T + 217) 3 48 := h.2.2.2.2.2.2.2.1
theorem wx_rr_gmarks {S : aS} {P T : Nat} (h : WX S P T) {t : Nat} (ht : t < 48) : S.2.2 (2 * T + 217) t = some (2 * T + 218 + t) := h.2.2.2.2.2.2.2.2.1 t ht
theorem wx_ra_gmarks {S : aS} {P T : Nat} (h : WX S P T) {t : Nat} (ht : t < 48) : hasA S (2 * T + 218 + t) 0 P := h.2.2.2.2.2.2.2.2.2.1 t ht
theorem wx_r0_2 {S : aS} {P T : Nat} (h : WX S P T) : S.2.2 (2 * T + 212) 2 = some (2 * T + 213) := h.2.2.2.2.2.2.2.2.2.2.1
theorem wx_a_gnex {S : aS} {P T : Nat} (h : WX S P T) : hasA S (2 * T + 213) 0 48 := h.2.2.2.2.2.2.2.2.2.2.2.1
theorem wx_r0_3 {S : aS} {P T : Nat} (h : WX S P T) : S.2.2 (2 * T + 212) 3 = some (2 * T + 214) := h.2.2.2.2.2.2.2.2.2.2.2.2.1
theorem wx_a_gtra {S : aS} {P T : Nat} (h : WX S P T) : hasA S (2 * T + 214) 0 48 := h.2.2.2.2.2.2.2.2.2.2.2.2.2.1
theorem wx_r0_4 {S : aS} {P T : Nat} (h : WX S P T) : S.2.2 (2 * T + 212) 4 = some (2 * T + 215) := h.2.2.2.2.2.2.2.2.2.2.2.2.2.2.1
theorem wx_a_gdep {S : aS} {P T : Nat} (h : WX S P T) : hasA S (2 * T + 215) 0 48 := h.2.2.2.2.2.2.2.2.2.2.2.2.2.2.2.1
theorem wx_r0_5 {S : aS} {P T : Nat} (h : WX S P T) : S.2.2 (2 * T + 212) 5 = some (2 * T + 216) := h.2.2.2.2.2.2.2.2.2.2.2.2.2.2.2.2.1
theorem wx_a_ggiv {S : aS} {P T : Nat} (h : WX S P T) : hasA S (2 * T + 216) 1 48 := h.2.2.2.2.2.2.2.2.2.2.2.2.2.2.2.2.2.1
theorem wx_r0_6 {S : aS} {P T : Nat} (h : WX S P T) : S.2.2 (2 * T + 212) 6 = some (2 * T + 266) := h.2.2.2.2.2.2.2.2.2.2.2.2.2.2.2.2.2.2.1
theorem wx_a_gcan {S : aS} {P T : Nat} (h : WX S P T) : hasA S (2 * T + 266) 0 P := h.2.2.2.2.2.2.2.2.2.2.2.2.2.2.2.2.2.2.2.1
theorem wx_r1_2 {S : aS} {P T : Nat} (h : WX S P T) : S.2.2 1 2 = some 2 := h.2.2.2.2.2.2.2.2.2.2.2.2.2.2.2.2.2.2.2.2.1
theorem wx_a_needs {S : aS} {P T : Nat} (h : WX S P T) : hasA S 2 3 T := h.2.2.2.2.2.2.2.2.2.2.2.2.2.2.2.2.2.2.2.2.2.1
theorem wx_rr_needs {S : aS} {P T : Nat} (h : WX S P T) {t : Nat} (ht : t < T) : S.2.2 2 t = some (3 + t) := h.2.2.2.2.2.2.2.2.2.2.2.2.2.2.2.2.2.2.2.2.2.2.1 t ht
theorem wx_ra_needs {S : aS} {P T : Nat} (h : WX S P T) {t : Nat} (ht : t < T) : hasA S (3 + t) 0 P := h.2.2.2.2.2.2.2.2.2.2.2.2.2.2.2.2.2.2.2.2.2.2.2.1 t ht
theorem wx_r1_3 {S : aS} {P T : Nat} (h : WX S P T) : S.2.2 1 3 = some (T + 3) := h.2.2.2.2.2.2.2.2.2.2.2.2.2.2.2.2.2.2.2.2.2.2.2.2.1
theorem wx_a_gives {S : aS} {P T : Nat} (h : WX S P T) : hasA S (T + 3) 3 T := h.2.2.2.2.2.2.2.2.2.2.2.2.2.2.2.2.2.2.2.2.2.2.2.2.2.1
theorem wx_rr_gives {S : aS} {P T : Nat} (h : WX S P T) {t : Nat} (ht : t < T) : S.2.2 (T + 3) t = some (T + 4 + t) := h.2.2.2.2.2.2.2.2.2.2.2.2.2.2.2.2.2.2.2.2.2.2.2.2.2.2.1 t ht
theorem wx_ra_gives {S : aS} {P T : Nat} (h : WX S P T) {t : Nat} (ht : t < T) : hasA S (T + 4 + t) 0 P := h.2.2.2.2.2.2.2.2.2.2.2.2.2.2.2.2.2.2.2.2.2.2.2.2.2.2.2.1 t ht
theorem wx_r1_4 {S : aS} {P T : Nat} (h : WX S P T) : S.2.2 1 4 = some (2 * T + 4) := h.2.2.2.2.2.2.2.2.2.2.2.2.2.2.2.2.2.2.2.2.2.2.2.2.2.2.2.2.1
theorem wx_a_first {S : aS} {P T : Nat} (h : WX S P T) : hasA S (2 * T + 4) 0 P := h.2.2.2.2.2.2.2.2.2.2.2.2.2.2.2.2.2.2.2.2.2.2.2.2.2.2.2.2.2.1
theorem wx_r2_0 {S : aS} {P T : Nat} (h : WX S P T) : S.2.2 (2 * T + 5) 0 = some 1 := h.2.2.2.2.2.2.2.2.2.2.2.2.2.2.2.2.2.2.2.2.2.2.2.2.2.2.2.2.2.2.1
theorem wx_r2_1 {S : aS} {P T : Nat} (h : WX S P T) : S.2.2 (2 * T + 5) 1 = some (2 * T + 11) := h.2.2.2.2.2.2.2.2.2.2.2.2.2.2.2.2.2.2.2.2.2.2.2.2.2.2.2.2.2.2.2.1
theorem wx_a_tmarks {S : aS} {P T : Nat} (h : WX S P T) : hasA S (2 * T + 11) 3 200 := h.2.2.2.2.2.2.2.2.2.2.2.2.2.2.2.2.2.2.2.2.2.2.2.2.2.2.2.2.2.2.2.2.1
theorem wx_rr_tmarks {S : aS} {P T : Nat} (h : WX S P T) {t : Nat} (ht : t < 200) : S.2.2 (2 * T + 11) t = some (2 * T + 12 + t) := h.2.2.2.2.2.2.2.2.2.2.2.2.2.2.2.2.2.2.2.2.2.2.2.2.2.2.2.2.2.2.2.2.2.1 t ht
theorem wx_ra_tmarks {S : aS} {P T : Nat} (h : WX S P T) {t : Nat} (ht : t < 200) : hasA S (2 * T + 12 + t) 0 P := h.2.2.2.2.2.2.2.2.2.2.2.2.2.2.2.2.2.2.2.2.2.2.2.2.2.2.2.2.2.2.2.2.2.2.1 t ht
theorem wx_r2_2 {S : aS} {P T : Nat} (h : WX S P T) : S.2.2 (2 * T + 5) 2 = some (2 * T + 6) := h.2.2.2.2.2.2.2.2.2.2.2.2.2.2.2.2.2.2.2.2.2.2.2.2.2.2.2.2.2.2.2.2.2.2.2.1
theorem wx_a_tpar {S : aS} {P T : Nat} (h : WX S P T) : hasA S (2 * T + 6) 0 200 := h.2.2.2.2.2.2.2.2.2.2.2.2.2.2.2.2.2.2.2.2.2.2.2.2.2.2.2.2.2.2.2.2.2.2.2.2.1
theorem wx_r2_3 {S : aS} {P T : Nat} (h : WX S P T) : S.2.2 (2 * T + 5) 3 = some (2 * T + 7) := h.2.2.2.2.2.2.2.2.2.2.2.2.2.2.2.2.2.2.2.2.2.2.2.2.2.2.2.2.2.2.2.2.2.2.2.2.2.1
theorem wx_a_ttra {S : aS} {P T : Nat} (h : WX S P T) : hasA S (2 * T + 7) 0 200 := h.2.2.2.2.2.2.2.2.2.2.2.2.2.2.2.2.2.2.2.2.2.2.2.2.2.2.2.2.2.2.2.2.2.2.2.2.2.2.1
theorem wx_r2_4 {S : aS} {P T : Nat} (h : WX S P T) : S.2.2 (2 * T + 5) 4 = some (2 * T + 8) := h.2.2.2.2.2.2.2.2.2.2.2.2.2.2.2.2.2.2.2.2.2.2.2.2.2.2.2.2.2.2.2.2.2.2.2.2.2.2.2.1
theorem wx_a_tdep {S : aS} {P T : Nat} (h : WX S P T) : hasA S (2 * T + 8) 0 200 := h.2.2.2.2.2.2.2.2.2.2.2.2.2.2.2.2.2.2.2.2.2.2.2.2.2.2.2.2.2.2.2.2.2.2.2.2.2.2.2.2.1
theorem wx_r2_5 {S : aS} {P T : Nat} (h : WX S P T) : S.2.2 (2 * T + 5) 5 = some (2 * T + 9) := h.2.2.2.2.2.2.2.2.2.2.2.2.2.2.2.2.2.2.2.2.2.2.2.2.2.2.2.2.2.2.2.2.2.2.2.2.2.2.2.2.2.1
theorem wx_a_tlea {S : aS} {P T : Nat} (h : WX S P T) : hasA S (2 * T + 9) 1 200 := h.2.2.2.2.2.2.2.2.2.2.2.2.2.2.2.2.2.2.2.2.2.2.2.2.2.2.2.2.2.2.2.2.2.2.2.2.2.2.2.2.2.2.1
theorem wx_r2_6 {S : aS} {P T : Nat} (h : WX S P T) : S.2.2 (2 * T + 5) 6 = some (2 * T + 10) := h.2.2.2.2.2.2.2.2.2.2.2.2.2.2.2.2.2.2.2.2.2.2.2.2.2.2.2.2.2.2.2.2.2.2.2.2.2.2.2.2.2.2.2.1
theorem wx_a_tpea {S : aS} {P T : Nat} (h : WX S P T) : hasA S (2 * T + 10) 0 200 := h.2.2.2.2.2.2.2.2.2.2.2.2.2.2.2.2.2.2.2.2.2.2.2.2.2.2.2.2.2.2.2.2.2.2.2.2.2.2.2.2.2.2.2.2.1
theorem wx_r3_0 {S : aS} {P T : Nat} (h : WX S P T) : S.2.2 0 0 = some 1 := h.2.2.2.2.2.2.2.2.2.2.2.2.2.2.2.2.2.2.2.2.2.2.2.2.2.2.2.2.2.2.2.2.2.2.2.2.2.2.2.2.2.2.2.2.2.1
theorem wx_r3_1 {S : aS} {P T : Nat} (h : WX S P T) : S.2.2 0 1 = some (2 * T + 5) := h.2.2.2.2.2.2.2.2.2.2.2.2.2.2.2.2.2.2.2.2.2.2.2.2.2.2.2.2.2.2.2.2.2.2.2.2.2.2.2.2.2.2.2.2.2.2.1
theorem wx_r3_2 {S : aS} {P T : Nat} (h : WX S P T) : S.2.2 0 2 = some (2 * T + 212) := h.2.2.2.2.2.2.2.2.2.2.2.2.2.2.2.2.2.2.2.2.2.2.2.2.2.2.2.2.2.2.2.2.2.2.2.2.2.2.2.2.2.2.2.2.2.2.2.1
theorem wx_r3_3 {S : aS} {P T : Nat} (h : WX S P T) : S.2.2 0 3 = some (2 * T + 267) := h.2.2.2.2.2.2.2.2.2.2.2.2.2.2.2.2.2.2.2.2.2.2.2.2.2.2.2.2.2.2.2.2.2.2.2.2.2.2.2.2.2.2.2.2.2.2.2.2.1
theorem wx_a_xwan {S : aS} {P T : Nat} (h : WX S P T) : hasA S (2 * T + 267) 0 P := h.2.2.2.2.2.2.2.2.2.2.2.2.2.2.2.2.2.2.2.2.2.2.2.2.2.2.2.2.2.2.2.2.2.2.2.2.2.2.2.2.2.2.2.2.2.2.2.2.2.1
theorem wx_r3_4 {S : aS} {P T : Nat} (h : WX S P T) : S.2.2 0 4 = some (2 * T + 268) := h.2.2.2.2.2.2.2.2.2.2.2.2.2.2.2.2.2.2.2.2.2.2.2.2.2.2.2.2.2.2.2.2.2.2.2.2.2.2.2.2.2.2.2.2.2.2.2.2.2.2.1
theorem wx_a_xpre {S : aS} {P T : Nat} (h : WX S P T) : hasA S (2 * T + 268) 0 P := h.2.2.2.2.2.2.2.2.2.2.2.2.2.2.2.2.2.2.2.2.2.2.2.2.2.2.2.2.2.2.2.2.2.2.2.2.2.2.2.2.2.2.2.2.2.2.2.2.2.2.2.1
theorem wx_r4_3 {S : aS} {P T : Nat} (h : WX S P T) : S.2.2 (2 * T + 269) 3 = some (2 * T + 270) := h.2.2.2.2.2.2.2.2.2.2.2.2.2.2.2.2.2.2.2.2.2.2.2.2.2.2.2.2.2.2.2.2.2.2.2.2.2.2.2.2.2.2.2.2.2.2.2.2.2.2.2.2.1
theorem wx_a_mneeds {S : aS} {P T : Nat} (h : WX S P T) : hasA S (2 * T + 270) 0 48 := h.2.2.2.2.2.2.2.2.2.2.2.2.2.2.2.2.2.2.2.2.2.2.2.2.2.2.2.2.2.2.2.2.2.2.2.2.2.2.2.2.2.2.2.2.2.2.2.2.2.2.2.2.2.1
theorem wx_r4_4 {S : aS} {P T : Nat} (h : WX S P T) : S.2.2 (2 * T + 269) 4 = some (2 * T + 271) := h.2.2.2.2.2.2.2.2.2.2.2.2.2.2.2.2.2.2.2.2.2.2.2.2.2.2.2.2.2.2.2.2.2.2.2.2.2.2.2.2.2.2.2.2.2.2.2.2.2.2.2.2.2.2.1
theorem wx_a_mgives {S : aS} {P T : Nat} (h : WX S P T) : hasA S (2 * T + 271) 0 48 := h.2.2.2.2.2.2.2.2.2.2.2.2.2.2.2.2.2.2.2.2.2.2.2.2.2.2.2.2.2.2.2.2.2.2.2.2.2.2.2.2.2.2.2.2.2.2.2.2.2.2.2.2.2.2.2.1
theorem wx_r4_5 {S : aS} {P T : Nat} (h : WX S P T) : S.2.2 (2 * T + 269) 5 = some (2 * T + 272) := h.2.2.2.2.2.2.2.2.2.2.2.2.2.2.2.2.2.2.2.2.2.2.2.2.2.2.2.2.2.2.2.2.2.2.2.2.2.2.2.2.2.2.2.2.2.2.2.2.2.2.2.2.2.2.2.2.1
theorem wx_a_mstarts {S : aS} {P T : Nat} (h : WX S P T) : hasA S (2 * T + 272) 0 6 := h.2.2.2.2.2.2.2.2.2.2.2.2.2.2.2.2.2.2.2.2.2.2.2.2.2.2.2.2.2.2.2.2.2.2.2.2.2.2.2.2.2.2.2.2.2.2.2.2.2.2.2.2.2.2.2.2.2.1
theorem wx_r4_6 {S : aS} {P T : Nat} (h : WX S P T) : S.2.2 (2 * T + 269) 6 = some (2 * T + 273) := h.2.2.2.2.2.2.2.2.2.2.2.2.2.2.2.2.2.2.2.2.2.2.2.2.2.2.2.2.2.2.2.2.2.2.2.2.2.2.2.2.2.2.2.2.2.2.2.2.2.2.2.2.2.2.2.2.2.2.1
theorem wx_a_mwanted {S : aS} {P T : Nat} (h : WX S P T) : hasA S (2 * T + 273) 0 6 := h.2.2.2.2.2.2.2.2.2.2.2.2.2.2.2.2.2.2.2.2.2.2.2.2.2.2.2.2.2.2.2.2.2.2.2.2.2.2.2.2.2.2.2.2.2.2.2.2.2.2.2.2.2.2.2.2.2.2.2.1
theorem wx_r4_7 {S : aS} {P T : Nat} (h : WX S P T) : S.2.2 (2 * T + 269) 7 = some (2 * T + 274) := h.2.2.2.2.2.2.2.2.2.2.2.2.2.2.2.2.2.2.2.2.2.2.2.2.2.2.2.2.2.2.2.2.2.2.2.2.2.2.2.2.2.2.2.2.2.2.2.2.2.2.2.2.2.2.2.2.2.2.2.2.1
theorem wx_a_mpresent {S : aS} {P T : Nat} (h : WX S P T) : hasA S (2 * T + 274) 0 6 := h.2.2.2.2.2.2.2.2.2.2.2.2.2.2.2.2.2.2.2.2.2.2.2.2.2.2.2.2.2.2.2.2.2.2.2.2.2.2.2.2.2.2.2.2.2.2.2.2.2.2.2.2.2.2.2.2.2.2.2.2.2.1
theorem wx_r4_11 {S : aS} {P T : Nat} (h : WX S P T) : S.2.2 (2 * T + 269) 11 = some (2 * T + 275) := h.2.2.2.2.2.2.2.2.2.2.2.2.2.2.2.2.2.2.2.2.2.2.2.2.2.2.2.2.2.2.2.2.2.2.2.2.2.2.2.2.2.2.2.2.2.2.2.2.2.2.2.2.2.2.2.2.2.2.2.2.2.2.1
theorem wx_a_mmarks {S : aS} {P T : Nat} (h : WX S P T) : hasA S (2 * T + 275) 0 1206 := h.2.2.2.2.2.2.2.2.2.2.2.2.2.2.2.2.2.2.2.2.2.2.2.2.2.2.2.2.2.2.2.2.2.2.2.2.2.2.2.2.2.2.2.2.2.2.2.2.2.2.2.2.2.2.2.2.2.2.2.2.2.2.2.1
theorem wx_r4_12 {S : aS} {P T : Nat} (h : WX S P T) : S.2.2 (2 * T + 269) 12 = some (2 * T + 276) := h.2.2.2.2.2.2.2.2.2.2.2.2.2.2.2.2.2.2.2.2.2.2.2.2.2.2.2.2.2.2.2.2.2.2.2.2.2.2.2.2.2.2.2.2.2.2.2.2.2.2.2.2.2.2.2.2.2.2.2.2.2.2.2.2.1
theorem wx_a_mparents {S : aS} {P T : Nat} (h : WX S P T) : hasA S (2 * T + 276) 0 201 := h.2.2.2.2.2.2.2.2.2.2.2.2.2.2.2.2.2.2.2.2.2.2.2.2.2.2.2.2.2.2.2.2.2.2.2.2.2.2.2.2.2.2.2.2.2.2.2.2.2.2.2.2.2.2.2.2.2.2.2.2.2.2.2.2.2.1
theorem wx_r4_13 {S : aS} {P T : Nat} (h : WX S P T) : S.2.2 (2 * T + 269) 13 = some (2 * T + 277) := h.2.2.2.2.2.2.2.2.2.2.2.2.2.2.2.2.2.2.2.2.2.2.2.2.2.2.2.2.2.2.2.2.2.2.2.2.2.2.2.2.2.2.2.2.2.2.2.2.2.2.2.2.2.2.2.2.2.2.2.2.2.2.2.2.2.2.1
theorem wx_a_mby {S : aS} {P T : Nat} (h : WX S P T) : hasA S (2 * T + 277) 0 201 := h.2.2.2.2.2.2.2.2.2.2.2.2.2.2.2.2.2.2.2.2.2.2.2.2.2.2.2.2.2.2.2.2.2.2.2.2.2.2.2.2.2.2.2.2.2.2.2.2.2.2.2.2.2.2.2.2.2.2.2.2.2.2.2.2.2.2.2.1
theorem wx_r4_14 {S : aS} {P T : Nat} (h : WX S P T) : S.2.2 (2 * T + 269) 14 = some (2 * T + 278) := h.2.2.2.2.2.2.2.2.2.2.2.2.2.2.2.2.2.2.2.2.2.2.2.2.2.2.2.2.2.2.2.2.2.2.2.2.2.2.2.2.2.2.2.2.2.2.2.2.2.2.2.2.2.2.2.2.2.2.2.2.2.2.2.2.2.2.2.2.1
theorem wx_a_mleaves {S : aS} {P T : Nat} (h : WX S P T) : hasA S (2 * T + 278) 1 201 := h.2.2.2.2.2.2.2.2.2.2.2.2.2.2.2.2.2.2.2.2.2.2.2.2.2.2.2.2.2.2.2.2.2.2.2.2.2.2.2.2.2.2.2.2.2.2.2.2.2.2.2.2.2.2.2.2.2.2.2.2.2.2.2.2.2.2.2.2.2.1
theorem wx_r4_17 {S : aS} {P T : Nat} (h : WX S P T) : S.2.2 (2 * T + 269) 17 = some (2 * T + 279) := h.2.2.2.2.2.2.2.2.2.2.2.2.2.2.2.2.2.2.2.2.2.2.2.2.2.2.2.2.2.2.2.2.2.2.2.2.2.2.2.2.2.2.2.2.2.2.2.2.2.2.2.2.2.2.2.2.2.2.2.2.2.2.2.2.2.2.2.2.2.2.1
theorem wx_a_mgoalMarks {S : aS} {P T : Nat} (h : WX S P T) : hasA S (2 * T + 279) 0 294 := h.2.2.2.2.2.2.2.2.2.2.2.2.2.2.2.2.2.2.2.2.2.2.2.2.2.2.2.2.2.2.2.2.2.2.2.2.2.2.2.2.2.2.2.2.2.2.2.2.2.2.2.2.2.2.2.2.2.2.2.2.2.2.2.2.2.2.2.2.2.2.2.1
theorem wx_r4_18 {S : aS} {P T : Nat} (h : WX S P T) : S.2.2 (2 * T + 269) 18 = some (2 * T + 280) := h.2.2.2.2.2.2.2.2.2.2.2.2.2.2.2.2.2.2.2.2.2.2.2.2.2.2.2.2.2.2.2.2.2.2.2.2.2.2.2.2.2.2.2.2.2.2.2.2.2.2.2.2.2.2.2.2.2.2.2.2.2.2.2.2.2.2.2.2.2.2.2.2.1
theorem wx_a_mgoalParents {S : aS} {P T : Nat} (h : WX S P T) : hasA S (2 * T + 280) 0 49 := h.2.2.2.2.2.2.2.2.2.2.2.2.2.2.2.2.2.2.2.2.2.2.2.2.2.2.2.2.2.2.2.2.2.2.2.2.2.2.2.2.2.2.2.2.2.2.2.2.2.2.2.2.2.2.2.2.2.2.2.2.2.2.2.2.2.2.2.2.2.2.2.2.2.1
theorem wx_r4_19 {S : aS} {P T : Nat} (h : WX S P T) : S.2.2 (2 * T + 269) 19 = some (2 * T + 281) := h.2.2.2.2.2.2.2.2.2.2.2.2.2.2.2.2.2.2.2.2.2.2.2.2.2.2.2.2.2.2.2.2.2.2.2.2.2.2.2.2.2.2.2.2.2.2.2.2.2.2.2.2.2.2.2.2.2.2.2.2.2.2.2.2.2.2.2.2.2.2.2.2.2.2.1
theorem wx_a_mgoalBy {S : aS} {P T : Nat} (h : WX S P T) : hasA S (2 * T + 281) 0 49 := h.2.2.2.2.2.2.2.2.2.2.2.2.2.2.2.2.2.2.2.2.2.2.2.2.2.2.2.2.2.2.2.2.2.2.2.2.2.2.2.2.2.2.2.2.2.2.2.2.2.2.2.2.2.2.2.2.2.2.2.2.2.2.2.2.2.2.2.2.2.2.2.2.2.2.2.1
theorem wx_r4_20 {S : aS} {P T : Nat} (h : WX S P T) : S.2.2 (2 * T + 269) 20 = some (2 * T + 282) := h.2.2.2.2.2.2.2.2.2.2.2.2.2.2.2.2.2.2.2.2.2.2.2.2.2.2.2.2.2.2.2.2.2.2.2.2.2.2.2.2.2.2.2.2.2.2.2.2.2.2.2.2.2.2.2.2.2.2.2.2.2.2.2.2.2.2.2.2.2.2.2.2.2.2.2.2.1
theorem wx_a_mgiven {S : aS} {P T : Nat} (h : WX S P T) : hasA S (2 * T + 282) 1 49 := h.2.2.2.2.2.2.2.2.2.2.2.2.2.2.2.2.2.2.2.2.2.2.2.2.2.2.2.2.2.2.2.2.2.2.2.2.2.2.2.2.2.2.2.2.2.2.2.2.2.2.2.2.2.2.2.2.2.2.2.2.2.2.2.2.2.2.2.2.2.2.2.2.2.2.2.2.2.1
theorem wx_out {S : aS} {P T : Nat} (h : WX S P T) : hasA S (2 * T + 283) 2 1 := h.2.2.2.2.2.2.2.2.2.2.2.2.2.2.2.2.2.2.2.2.2.2.2.2.2.2.2.2.2.2.2.2.2.2.2.2.2.2.2.2.2.2.2.2.2.2.2.2.2.2.2.2.2.2.2.2.2.2.2.2.2.2.2.2.2.2.2.2.2.2.2.2.2.2.2.2.2.2.1
theorem wx_P {S : aS} {P T : Nat} (h : WX S P T) : 1 ≤ P ∧ P ≤ 6 := h.2.2.2.2.2.2.2.2.2.2.2.2.2.2.2.2.2.2.2.2.2.2.2.2.2.2.2.2.2.2.2.2.2.2.2.2.2.2.2.2.2.2.2.2.2.2.2.2.2.2.2.2.2.2.2.2.2.2.2.2.2.2.2.2.2.2.2.2.2.2.2.2.2.2.2.2.2.2.2.1
theorem wx_T {S : aS} {P T : Nat} (h : WX S P T) : 1 ≤ T ∧ T ≤ 8 := h.2.2.2.2.2.2.2.2.2.2.2.2.2.2.2.2.2.2.2.2.2.2.2.2.2.2.2.2.2.2.2.2.2.2.2.2.2.2.2.2.2.2.2.2.2.2.2.2.2.2.2.2.2.2.2.2.2.2.2.2.2.2.2.2.2.2.2.2.2.2.2.2.2.2.2.2.2.2.2.2
section WXR
variable {l : Launch} {E : aE} {q : aK} {d pc nx tg : Nat} {L : List (Option aA)} {st : List aA} {M : aM} {P : aP}

theorem aw_ip0 {x1 x2 x3 x4 x5 x6 : Option aA} {x : Nat} (h : Kn q pc 0 1 nx) (hr : x ≤ 1000000) (kk : aw l E q d nx [some (iV ((x + 1 : Nat) : Int)), x1, x2, x3, x4, x5, x6] st M P) : aw l E q d pc [some (iV (x : Int)), x1, x2, x3, x4, x5, x6] st M P := aw_in0 h (by constructor <;> omega) kk
theorem aw_ip1 {x0 x2 x3 x4 x5 x6 : Option aA} {x : Nat} (h : Kn q pc 1 1 nx) (hr : x ≤ 1000000) (kk : aw l E q d nx [x0, some (iV ((x + 1 : Nat) : Int)), x2, x3, x4, x5, x6] st M P) : aw l E q d pc [x0, some (iV (x : Int)), x2, x3, x4, x5, x6] st M P := aw_in1 h (by constructor <;> omega) kk
theorem aw_ip2 {x0 x1 x3 x4 x5 x6 : Option aA} {x : Nat} (h : Kn q pc 2 1 nx) (hr : x ≤ 1000000) (kk : aw l E q d nx [x0, x1, some (iV ((x + 1 : Nat) : Int)), x3, x4, x5, x6] st M P) : aw l E q d pc [x0, x1, some (iV (x : Int)), x3, x4, x5, x6] st M P := aw_in2 h (by constructor <;> omega) kk
theorem aw_ip3 {x0 x1 x2 x4 x5 x6 : Option aA} {x : Nat} (h : Kn q pc 3 1 nx) (hr : x ≤ 1000000) (kk : aw l E q d nx [x0, x1, x2, some (iV ((x + 1 : Nat) : Int)), x4, x5, x6] st M P) : aw l E q d pc [x0, x1, x2, some (iV (x : Int)), x4, x5, x6] st M P := aw_in3 h (by constructor <;> omega) kk
theorem aw_ip4 {x0 x1 x2 x3 x5 x6 : Option aA} {x : Nat} (h : Kn q pc 4 1 nx) (hr : x ≤ 1000000) (kk : aw l E q d nx [x0, x1, x2, x3, some (iV ((x + 1 : Nat) : Int)), x5, x6] st M P) : aw l E q d pc [x0, x1, x2, x3, some (iV (x : Int)), x5, x6] st M P := aw_in4 h (by constructor <;> omega) kk
theorem aw_ip5 {x0 x1 x2 x3 x4 x6 : Option aA} {x : Nat} (h : Kn q pc 5 1 nx) (hr : x ≤ 1000000) (kk : aw l E q d nx [x0, x1, x2, x3, x4, some (iV ((x + 1 : Nat) : Int)), x6] st M P) : aw l E q d pc [x0, x1, x2, x3, x4, some (iV (x : Int)), x6] st M P := aw_in5 h (by constructor <;> omega) kk
theorem aw_ip6 {x0 x1 x2 x3 x4 x5 : Option aA} {x : Nat} (h : Kn q pc 6 1 nx) (hr : x ≤ 1000000) (kk : aw l E q d nx [x0, x1, x2, x3, x4, x5, some (iV ((x + 1 : Nat) : Int))] st M P) : aw l E q d pc [x0, x1, x2, x3, x4, x5, some (iV (x : Int))] st M P := aw_in6 h (by constructor <;> omega) kk
theorem ok01 {c : Prop} (i : Decidable c) : ((if c then (1 : Int) else 0) = 0 ∨ (if c then (1 : Int) else 0) = 1) := by split <;> simp
end WXR
end
section
section MA
variable {l : Launch} {E : aE} {d : Nat} {S : aS} {g : aG} {u : aU} {P : aP} {Pn T : Nat}
abbrev bl (n : Nat) (a b : Nat → Int) : Prop := ∀ p, p < n → a p ≤ b p
abbrev xIO : String := "java/lang/IndexOutOfBoundsException"
abbrev xIA : String := "java/lang/IllegalArgumentException"
abbrev xIS : String := "java/lang/IllegalStateException"
abbrev xUO : String := "java/lang/UnsupportedOperationException"
theorem nz {c : Prop} {i : Decidable c} (h : ¬ (@ite Int c i 1 0 = 0)) : c := by
  by_cases hc : c
  · exact hc
  · rw [if_neg hc] at h; exact absurd rfl h
theorem iz {c : Prop} {i : Decidable c} (h : @ite Int c i 1 0 = 0) : ¬ c := by
  intro hc
  rw [if_pos hc] at h
  omega
theorem pT {c : Prop} {i : Decidable c} {M : aM} (h : c) (hP : P (.inl (some (iV (@ite Int c i 1 0)))) M) : P (.inl (some (iV 1))) M := by rw [if_pos h] at hP; exact hP
theorem pF {c : Prop} {i : Decidable c} {M : aM} (h : ¬ c) (hP : P (.inl (some (iV (@ite Int c i 1 0)))) M) : P (.inl (some (iV 0))) M := by rw [if_neg h] at hP; exact hP
theorem c_isBelow_lp {n i j : Nat} (hi : hasA S i 0 n) (hj : hasA S j 0 n) (hn : n ≤ 1000) (hP : P (.inl (some (iV (if bl n (g i) (g j) then 1 else 0)))) (S, g, u)) : ∀ (m p : Nat), n - p < m → p ≤ n → (∀ r, r < p → g i r ≤ g j r) → aw l E O_isBelow d 2 [some (rV i), some (rV j), some (iV (p : Int)), none, none, none, none] [] (S, g, u) P := by
  intro m
  induction m with
  | zero => intro p h; omega
  | succ m ih =>
    intro p hm hp hb
    refine aw_il2 O_isBelow_2 ?_
    refine aw_al0 O_isBelow_3 ?_
    refine aw_len O_isBelow_4 hi (by constructor <;> omega) ?_
    refine aw_cge O_isBelow_5 (fun h5 => ?_) (fun h5 => ?_)
    · skip
      refine aw_c O_isBelow_31 ?_
      refine aw_reti O_isBelow_32 (Or.inr ⟨rfl, (by first | exact Or.inl rfl | exact Or.inr rfl | assumption)⟩) ?_
      exact pT (fun r hr => hb r (by omega)) hP
    · skip
      refine aw_il2 O_isBelow_8 ?_
      refine aw_al1 O_isBelow_9 ?_
      refine aw_len O_isBelow_10 hj (by constructor <;> omega) ?_
      refine aw_cge O_isBelow_11 (fun h11 => ?_) (fun h11 => ?_)
      · skip
        refine aw_c O_isBelow_31 ?_
        refine aw_reti O_isBelow_32 (Or.inr ⟨rfl, (by first | exact Or.inl rfl | exact Or.inr rfl | assumption)⟩) ?_
        exact pT (fun r hr => hb r (by omega)) hP
      · skip
        refine aw_al0 O_isBelow_14 ?_
        refine aw_il2 O_isBelow_15 ?_
        refine aw_ia O_isBelow_16 hi (by first | rfl | assumption) (by omega) ?_
        refine aw_al1 O_isBelow_17 ?_
        refine aw_il2 O_isBelow_18 ?_
        refine aw_ia O_isBelow_19 hj (by first | rfl | assumption) (by omega) ?_
        refine aw_cle O_isBelow_20 (fun h20 => ?_) (fun h20 => ?_)
        · skip
          refine aw_ip2 O_isBelow_25 (by omega) ?_
          refine aw_go O_isBelow_28 ?_
          exact ih (p + 1) (by omega) (by omega) (fun r hr => by
            by_cases e : r = p
            · subst e; omega
            · exact hb r (by omega))
        · skip
          refine aw_c O_isBelow_23 ?_
          refine aw_reti O_isBelow_24 (Or.inr ⟨rfl, (by first | exact Or.inl rfl | exact Or.inr rfl | assumption)⟩) ?_
          exact pF (fun z => by have := z p (by omega); omega) hP
theorem c_isBelow {n i j : Nat} (hi : hasA S i 0 n) (hj : hasA S j 0 n) (hn : n ≤ 1000) (hP : P (.inl (some (iV (if bl n (g i) (g j) then 1 else 0)))) (S, g, u)) : Sp l E O_isBelow d [rV i, rV j] (S, g, u) P := by
  show aw l E O_isBelow d 0 [some (rV i), some (rV j), none, none, none, none, none] [] (S, g, u) P
  refine aw_c O_isBelow_0 ?_
  refine aw_is2 O_isBelow_1 ?_
  exact c_isBelow_lp hi hj hn hP (n + 1) 0 (by omega) (by omega) (fun r hr => absurd hr (Nat.not_lt_zero r))
theorem c_isSame {n i j : Nat} (hi : hasA S i 0 n) (hj : hasA S j 0 n) (hn : n ≤ 1000) (hP : P (.inl (some (iV (if bl n (g i) (g j) ∧ bl n (g j) (g i) then 1 else 0)))) (S, g, u)) : Sp l E O_isSame (d + 1) [rV i, rV j] (S, g, u) P := by
  show aw l E O_isSame (d + 1) 0 [some (rV i), some (rV j), none, none, none, none, none] [] (S, g, u) P
  refine aw_al0 O_isSame_0 ?_
  refine aw_al1 O_isSame_1 ?_
  refine aw_S2 O_isSame_2 rfl rfl rfl rfl ?_
  refine c_isBelow hi hj hn ?_
  show aw _ _ _ _ _ _ _ _ _
  refine aw_zeq O_isSame_5 (fun h5 => ?_) (fun h5 => ?_)
  · skip
    refine aw_c O_isSame_20 ?_
    refine aw_reti O_isSame_21 (Or.inr ⟨rfl, (by first | exact Or.inl rfl | exact Or.inr rfl | assumption)⟩) ?_
    exact pF (fun z => iz h5 z.1) hP
  · skip
    refine aw_al1 O_isSame_8 ?_
    refine aw_al0 O_isSame_9 ?_
    refine aw_S2 O_isSame_10 rfl rfl rfl rfl ?_
    refine c_isBelow hj hi hn ?_
    show aw _ _ _ _ _ _ _ _ _
    refine aw_zeq O_isSame_13 (fun h13 => ?_) (fun h13 => ?_)
    · skip
      refine aw_c O_isSame_20 ?_
      refine aw_reti O_isSame_21 (Or.inr ⟨rfl, (by first | exact Or.inl rfl | exact Or.inr rfl | assumption)⟩) ?_
      exact pF (fun z => iz h13 z.2) hP
    · skip
      refine aw_c O_isSame_16 ?_
      refine aw_go O_isSame_17 ?_
      refine aw_reti O_isSame_21 (Or.inr ⟨rfl, (by first | exact Or.inl rfl | exact Or.inr rfl | assumption)⟩) ?_
      exact pT ⟨nz h5, nz h13⟩ hP
theorem c_enables {i t : Nat} (hW : WX S Pn T) (hi : hasA S i 0 Pn) (ht : t < T) (hP : P (.inl (some (iV (if bl Pn (g (3 + t)) (g i) then 1 else 0)))) (S, g, u)) : Sp l E N_enables (d + 1) [rV 1, rV i, iV (t : Int)] (S, g, u) P := by
  have hp6 := wx_P hW
  show aw l E N_enables (d + 1) 0 [some (rV 1), some (rV i), some (iV (t : Int)), none, none, none, none] [] (S, g, u) P
  refine aw_al0 N_enables_0 ?_
  refine aw_gr (wx_r1_2 hW) N_enables_1 (wx_o1 hW) ?_
  refine aw_il2 N_enables_4 ?_
  refine aw_aa N_enables_5 (wx_a_needs hW) (by first | rfl | assumption) (by omega) (wx_rr_needs hW (by omega)) ?_
  refine aw_al1 N_enables_6 ?_
  refine aw_S2 N_enables_7 rfl rfl rfl rfl ?_
  refine c_isBelow (wx_ra_needs hW (by omega)) hi (by omega) ?_
  show aw _ _ _ _ _ _ _ _ _
  refine aw_reti N_enables_10 (Or.inr ⟨rfl, (ok01 _)⟩) ?_
  exact hP
theorem c_isStuck_lp {i : Nat} (hW : WX S Pn T) (hi : hasA S i 0 Pn) (hT : g 1 1 = (T : Int)) (hP : P (.inl (some (iV (if ∀ t, t < T → ¬ bl Pn (g (3 + t)) (g i) then 1 else 0)))) (S, g, u)) : ∀ (m t : Nat), T - t < m → t ≤ T → (∀ r, r < t → ¬ bl Pn (g (3 + r)) (g i)) → aw l E N_isStuck (d + 2) 2 [some (rV 1), some (rV i), some (iV (t : Int)), none, none, none, none] [] (S, g, u) P := by
  intro m
  have hT8 := wx_T hW
  induction m with
  | zero => intro p h; omega
  | succ m ih =>
    intro t hm hp hb
    refine aw_il2 N_isStuck_2 ?_
    refine aw_al0 N_isStuck_3 ?_
    refine aw_gi N_isStuck_4 (wx_o1 hW) ?_
    refine aw_cge N_isStuck_7 (fun h7 => ?_) (fun h7 => ?_)
    · skip
      refine aw_c N_isStuck_27 ?_
      refine aw_reti N_isStuck_28 (Or.inr ⟨rfl, (by first | exact Or.inl rfl | exact Or.inr rfl | assumption)⟩) ?_
      exact pT (fun r hr => hb r (by omega)) hP
    · skip
      refine aw_al0 N_isStuck_10 ?_
      refine aw_al1 N_isStuck_11 ?_
      refine aw_il2 N_isStuck_12 ?_
      refine aw_V2 N_isStuck_13 rfl rfl rfl rfl (wx_o1 hW) ?_
      refine c_enables hW hi (by omega) ?_
      show aw _ _ _ _ _ _ _ _ _
      refine aw_zeq N_isStuck_16 (fun h16 => ?_) (fun h16 => ?_)
      · skip
        refine aw_ip2 N_isStuck_21 (by omega) ?_
        refine aw_go N_isStuck_24 ?_
        exact ih (t + 1) (by omega) (by omega) (fun r hr => by
          by_cases e : r = t
          · subst e; exact iz h16
          · exact hb r (by omega))
      · skip
        refine aw_c N_isStuck_19 ?_
        refine aw_reti N_isStuck_20 (Or.inr ⟨rfl, (by first | exact Or.inl rfl | exact Or.inr rfl | assumption)⟩) ?_
        exact pF (fun z => z t (by omega) (nz h16)) hP
theorem c_isStuck {i : Nat} (hW : WX S Pn T) (hi : hasA S i 0 Pn) (hT : g 1 1 = (T : Int)) (hP : P (.inl (some (iV (if ∀ t, t < T → ¬ bl Pn (g (3 + t)) (g i) then 1 else 0)))) (S, g, u)) : Sp l E N_isStuck (d + 2) [rV 1, rV i] (S, g, u) P := by
  show aw l E N_isStuck (d + 2) 0 [some (rV 1), some (rV i), none, none, none, none, none] [] (S, g, u) P
  refine aw_c N_isStuck_0 ?_
  refine aw_is2 N_isStuck_1 ?_
  exact c_isStuck_lp hW hi hT hP (T + 1) 0 (by omega) (by omega) (fun r hr => absurd hr (Nat.not_lt_zero r))
def mv (f n v : Int) : Int := if f = 1000000000 then 1000000000 else f - n + v
def mvk (g : aG) (fr to nd gv k : Nat) : aG := fun a b => if a = to ∧ b < k then mv (g fr b) (g nd b) (g gv b) else g a b
theorem mvk_0 (g : aG) (fr to nd gv : Nat) : mvk g fr to nd gv 0 = g := by
  funext a b
  exact if_neg (fun z => absurd z.2 (Nat.not_lt_zero b))
theorem mvk_s (g : aG) (fr to nd gv k : Nat) : upA (mvk g fr to nd gv k) to k (mv (g fr k) (g nd k) (g gv k)) = mvk g fr to nd gv (k + 1) := by
  funext a b
  unfold upA mvk
  by_cases ha : a = to
  · by_cases hb : b = k
    · subst hb; simp [ha]
    · by_cases hc : b < k
      · simp [ha, hb, hc, show b < k + 1 by omega]
      · simp [ha, hb, hc, show ¬ b < k + 1 by omega]
  · simp [ha]
def mb (f n v : Int) : Int := if n < f - v + n then f - v + n else n
def mbk (g : aG) (fr to nd gv k : Nat) : aG := fun a b => if a = to ∧ b < k then mb (g fr b) (g nd b) (g gv b) else g a b
theorem mbk_0 (g : aG) (fr to nd gv : Nat) : mbk g fr to nd gv 0 = g := by
  funext a b
  exact if_neg (fun z => absurd z.2 (Nat.not_lt_zero b))
theorem mbk_s (g : aG) (fr to nd gv k : Nat) : upA (mbk g fr to nd gv k) to k (mb (g fr k) (g nd k) (g gv k)) = mbk g fr to nd gv (k + 1) := by
  funext a b
  unfold upA mbk
  by_cases ha : a = to
  · by_cases hb : b = k
    · subst hb; simp [ha]
    · by_cases hc : b < k
      · simp [ha, hb, hc, show b < k + 1 by omega]
      · simp [ha, hb, hc, show ¬ b < k + 1 by omega]
  · simp [ha]
theorem c_move_lp {fr to t : Nat} (hW : WX S Pn T) (hi : hasA S fr 0 Pn) (hj : hasA S to 0 Pn) (ht : t < T) (hto : 2 * T + 5 ≤ to) (h10 : g 1 0 = (Pn : Int)) (hB1 : ∀ b, b < Pn → 0 ≤ g fr b ∧ g fr b ≤ 1000000000) (hB2 : ∀ b, b < Pn → 0 ≤ g (3 + t) b ∧ g (3 + t) b ≤ 9) (hB3 : ∀ b, b < Pn → 0 ≤ g (T + 4 + t) b ∧ g (T + 4 + t) b ≤ 9) (hP : P (.inl none) (S, mvk g fr to (3 + t) (T + 4 + t) Pn, u)) : ∀ (m p : Nat), Pn - p < m → p ≤ Pn → aw l E N_move d 3 [some (rV 1), some (rV fr), some (iV (t : Int)), some (rV to), some (iV (p : Int)), none, none] [] (S, mvk g fr to (3 + t) (T + 4 + t) p, u) P := by
  intro m
  have hp6 := wx_P hW
  induction m with
  | zero => intro p h; omega
  | succ m ih =>
    intro p hm hp
    have e0 : mvk g fr to (3 + t) (T + 4 + t) p 1 0 = (Pn : Int) := (if_neg (by omega)).trans h10
    have e1 : mvk g fr to (3 + t) (T + 4 + t) p fr p = g fr p := if_neg (fun z => absurd z.2 (Nat.lt_irrefl p))
    have e2 : mvk g fr to (3 + t) (T + 4 + t) p (3 + t) p = g (3 + t) p := if_neg (fun z => absurd z.2 (Nat.lt_irrefl p))
    have e3 : mvk g fr to (3 + t) (T + 4 + t) p (T + 4 + t) p = g (T + 4 + t) p := if_neg (fun z => absurd z.2 (Nat.lt_irrefl p))
    have b1 := hB1 p
    have b2 := hB2 p
    have b3 := hB3 p
    refine aw_il4 N_move_3 ?_
    refine aw_al0 N_move_5 ?_
    refine aw_gi N_move_6 (wx_o1 hW) ?_
    refine aw_cge N_move_9 (fun h9 => ?_) (fun h9 => ?_)
    · skip
      refine aw_retv N_move_60 rfl ?_
      have e : p = Pn := by omega
      subst e
      exact hP
    · skip
      refine aw_al3 N_move_12 ?_
      refine aw_il4 N_move_13 ?_
      refine aw_al1 N_move_15 ?_
      refine aw_il4 N_move_16 ?_
      refine aw_ia N_move_18 hi (by first | rfl | assumption) (by omega) ?_
      refine aw_c N_move_19 ?_
      refine aw_cne N_move_21 (fun h21 => ?_) (fun h21 => ?_)
      · skip
        refine aw_al1 N_move_29 ?_
        refine aw_il4 N_move_30 ?_
        refine aw_ia N_move_32 hi (by first | rfl | assumption) (by omega) ?_
        refine aw_al0 N_move_33 ?_
        refine aw_gr (wx_r1_2 hW) N_move_34 (wx_o1 hW) ?_
        refine aw_il2 N_move_37 ?_
        refine aw_aa N_move_38 (wx_a_needs hW) (by first | rfl | assumption) (by omega) (wx_rr_needs hW (by omega)) ?_
        refine aw_il4 N_move_39 ?_
        refine aw_ia N_move_41 (wx_ra_needs hW (by omega)) (by first | rfl | assumption) (by omega) ?_
        refine aw_sub N_move_42 (by constructor <;> omega) ?_
        refine aw_al0 N_move_43 ?_
        refine aw_gr (wx_r1_3 hW) N_move_44 (wx_o1 hW) ?_
        refine aw_il2 N_move_47 ?_
        refine aw_aa N_move_48 (wx_a_gives hW) (by first | rfl | assumption) (by omega) (wx_rr_gives hW (by omega)) ?_
        refine aw_il4 N_move_49 ?_
        refine aw_ia N_move_51 (wx_ra_gives hW (by omega)) (by first | rfl | assumption) (by omega) ?_
        refine aw_add N_move_52 (by constructor <;> omega) ?_
        refine aw_iast N_move_53 hj (by first | rfl | assumption) (by omega) ?_
        refine aw_ip4 N_move_54 (by omega) ?_
        refine aw_go N_move_57 ?_
        rw [show mvk g fr to (3 + t) (T + 4 + t) p fr p - mvk g fr to (3 + t) (T + 4 + t) p (3 + t) p + mvk g fr to (3 + t) (T + 4 + t) p (T + 4 + t) p = mv (g fr p) (g (3 + t) p) (g (T + 4 + t) p) by rw [e1, e2, e3]; exact (if_neg (by omega)).symm]
        rw [mvk_s]
        exact ih (p + 1) (by omega) (by omega)
      · skip
        refine aw_c N_move_24 ?_
        refine aw_go N_move_26 ?_
        refine aw_iast N_move_53 hj (by first | rfl | assumption) (by omega) ?_
        refine aw_ip4 N_move_54 (by omega) ?_
        refine aw_go N_move_57 ?_
        rw [show (1000000000 : Int) = mv (g fr p) (g (3 + t) p) (g (T + 4 + t) p) from (if_pos (by omega)).symm]
        rw [mvk_s]
        exact ih (p + 1) (by omega) (by omega)
theorem c_move {fr to t : Nat} (hW : WX S Pn T) (hi : hasA S fr 0 Pn) (hj : hasA S to 0 Pn) (ht : t < T) (hto : 2 * T + 5 ≤ to) (h10 : g 1 0 = (Pn : Int)) (hB1 : ∀ b, b < Pn → 0 ≤ g fr b ∧ g fr b ≤ 1000000000) (hB2 : ∀ b, b < Pn → 0 ≤ g (3 + t) b ∧ g (3 + t) b ≤ 9) (hB3 : ∀ b, b < Pn → 0 ≤ g (T + 4 + t) b ∧ g (T + 4 + t) b ≤ 9) (hP : P (.inl none) (S, mvk g fr to (3 + t) (T + 4 + t) Pn, u)) : Sp l E N_move d [rV 1, rV fr, iV (t : Int), rV to] (S, g, u) P := by
  show aw l E N_move d 0 [some (rV 1), some (rV fr), some (iV (t : Int)), some (rV to), none, none, none] [] (S, g, u) P
  refine aw_c N_move_0 ?_
  refine aw_is4 N_move_1 ?_
  have k0 := c_move_lp (l := l) (E := E) (d := d) (u := u) hW hi hj ht hto h10 hB1 hB2 hB3 hP (Pn + 1) 0 (by omega) (by omega)
  rw [mvk_0] at k0
  exact k0
theorem c_moveBack_lp {fr to t : Nat} (hW : WX S Pn T) (hi : hasA S fr 0 Pn) (hj : hasA S to 0 Pn) (ht : t < T) (hto : 2 * T + 5 ≤ to) (h10 : g 1 0 = (Pn : Int)) (hB1 : ∀ b, b < Pn → 0 ≤ g fr b ∧ g fr b ≤ 1000000000) (hB2 : ∀ b, b < Pn → 0 ≤ g (3 + t) b ∧ g (3 + t) b ≤ 9) (hB3 : ∀ b, b < Pn → 0 ≤ g (T + 4 + t) b ∧ g (T + 4 + t) b ≤ 9) (hd : 1 ≤ d) (hP : P (.inl none) (S, mbk g fr to (3 + t) (T + 4 + t) Pn, u)) : ∀ (m p : Nat), Pn - p < m → p ≤ Pn → aw l E N_moveBack d 3 [some (rV 1), some (rV fr), some (iV (t : Int)), some (rV to), some (iV (p : Int)), none, none] [] (S, mbk g fr to (3 + t) (T + 4 + t) p, u) P := by
  intro m
  have hp6 := wx_P hW
  induction m with
  | zero => intro p h; omega
  | succ m ih =>
    intro p hm hp
    have e0 : mbk g fr to (3 + t) (T + 4 + t) p 1 0 = (Pn : Int) := (if_neg (by omega)).trans h10
    have e1 : mbk g fr to (3 + t) (T + 4 + t) p fr p = g fr p := if_neg (fun z => absurd z.2 (Nat.lt_irrefl p))
    have e2 : mbk g fr to (3 + t) (T + 4 + t) p (3 + t) p = g (3 + t) p := if_neg (fun z => absurd z.2 (Nat.lt_irrefl p))
    have e3 : mbk g fr to (3 + t) (T + 4 + t) p (T + 4 + t) p = g (T + 4 + t) p := if_neg (fun z => absurd z.2 (Nat.lt_irrefl p))
    have b1 := hB1 p
    have b2 := hB2 p
    have b3 := hB3 p
    refine aw_il4 N_moveBack_3 ?_
    refine aw_al0 N_moveBack_5 ?_
    refine aw_gi N_moveBack_6 (wx_o1 hW) ?_
    refine aw_cge N_moveBack_9 (fun h9 => ?_) (fun h9 => ?_)
    · skip
      refine aw_retv N_moveBack_58 rfl ?_
      have e : p = Pn := by omega
      subst e
      exact hP
    · skip
      refine aw_al3 N_moveBack_12 ?_
      refine aw_il4 N_moveBack_13 ?_
      refine aw_al0 N_moveBack_15 ?_
      refine aw_gr (wx_r1_2 hW) N_moveBack_16 (wx_o1 hW) ?_
      refine aw_il2 N_moveBack_19 ?_
      refine aw_aa N_moveBack_20 (wx_a_needs hW) (by first | rfl | assumption) (by omega) (wx_rr_needs hW (by omega)) ?_
      refine aw_il4 N_moveBack_21 ?_
      refine aw_ia N_moveBack_23 (wx_ra_needs hW (by omega)) (by first | rfl | assumption) (by omega) ?_
      refine aw_al1 N_moveBack_24 ?_
      refine aw_il4 N_moveBack_25 ?_
      refine aw_ia N_moveBack_27 hi (by first | rfl | assumption) (by omega) ?_
      refine aw_al0 N_moveBack_28 ?_
      refine aw_gr (wx_r1_3 hW) N_moveBack_29 (wx_o1 hW) ?_
      refine aw_il2 N_moveBack_32 ?_
      refine aw_aa N_moveBack_33 (wx_a_gives hW) (by first | rfl | assumption) (by omega) (wx_rr_gives hW (by omega)) ?_
      refine aw_il4 N_moveBack_34 ?_
      refine aw_ia N_moveBack_36 (wx_ra_gives hW (by omega)) (by first | rfl | assumption) (by omega) ?_
      refine aw_sub N_moveBack_37 (by constructor <;> omega) ?_
      refine aw_al0 N_moveBack_38 ?_
      refine aw_gr (wx_r1_2 hW) N_moveBack_39 (wx_o1 hW) ?_
      refine aw_il2 N_moveBack_42 ?_
      refine aw_aa N_moveBack_43 (wx_a_needs hW) (by first | rfl | assumption) (by omega) (wx_rr_needs hW (by omega)) ?_
      refine aw_il4 N_moveBack_44 ?_
      refine aw_ia N_moveBack_46 (wx_ra_needs hW (by omega)) (by first | rfl | assumption) (by omega) ?_
      refine aw_add N_moveBack_47 (by constructor <;> omega) ?_
      refine aw_max N_moveBack_48 (by omega) rfl ?_
      refine aw_iast N_moveBack_51 hj (by first | rfl | assumption) (by omega) ?_
      refine aw_ip4 N_moveBack_52 (by omega) ?_
      refine aw_go N_moveBack_55 ?_
      rw [show (if mbk g fr to (3 + t) (T + 4 + t) p (3 + t) p < mbk g fr to (3 + t) (T + 4 + t) p fr p - mbk g fr to (3 + t) (T + 4 + t) p (T + 4 + t) p + mbk g fr to (3 + t) (T + 4 + t) p (3 + t) p then mbk g fr to (3 + t) (T + 4 + t) p fr p - mbk g fr to (3 + t) (T + 4 + t) p (T + 4 + t) p + mbk g fr to (3 + t) (T + 4 + t) p (3 + t) p else mbk g fr to (3 + t) (T + 4 + t) p (3 + t) p) = mb (g fr p) (g (3 + t) p) (g (T + 4 + t) p) by rw [e1, e2, e3]; rfl]
      rw [mbk_s]
      exact ih (p + 1) (by omega) (by omega)
theorem c_moveBack {fr to t : Nat} (hW : WX S Pn T) (hi : hasA S fr 0 Pn) (hj : hasA S to 0 Pn) (ht : t < T) (hto : 2 * T + 5 ≤ to) (h10 : g 1 0 = (Pn : Int)) (hB1 : ∀ b, b < Pn → 0 ≤ g fr b ∧ g fr b ≤ 1000000000) (hB2 : ∀ b, b < Pn → 0 ≤ g (3 + t) b ∧ g (3 + t) b ≤ 9) (hB3 : ∀ b, b < Pn → 0 ≤ g (T + 4 + t) b ∧ g (T + 4 + t) b ≤ 9) (hd : 1 ≤ d) (hP : P (.inl none) (S, mbk g fr to (3 + t) (T + 4 + t) Pn, u)) : Sp l E N_moveBack d [rV 1, rV fr, iV (t : Int), rV to] (S, g, u) P := by
  show aw l E N_moveBack d 0 [some (rV 1), some (rV fr), some (iV (t : Int)), some (rV to), none, none, none] [] (S, g, u) P
  refine aw_c N_moveBack_0 ?_
  refine aw_is4 N_moveBack_1 ?_
  have k0 := c_moveBack_lp (l := l) (E := E) (d := d) (u := u) hW hi hj ht hto h10 hB1 hB2 hB3 hd hP (Pn + 1) 0 (by omega) (by omega)
  rw [mbk_0] at k0
  exact k0
theorem c_checkIndex {i n : Int} {a b : Nat} {f : Bool} (hd : 6 ≤ d) (ha : 1 ≤ a) (hb : 6 ≤ b) (h1 : 0 ≤ i → i < n → P (.inl none) (S, g, a, b, f)) (h2 : ¬ (0 ≤ i ∧ i < n) → P (.inr xIO) (S, g, a - 1, b - 6, false)) : Sp l E O_checkIndex d [iV i, iV n] (S, g, a, b, f) P := by
  show aw l E O_checkIndex d 0 [some (iV i), some (iV n), none, none, none, none, none] [] (S, g, a, b, f) P
  refine aw_il0 O_checkIndex_0 ?_
  refine aw_zlt O_checkIndex_1 (fun k1 => ?_) (fun k1 => ?_)
  · skip
    refine aw_throw O_checkIndex_9 (by omega) (Nat.le_of_ble_eq_true rfl) (by omega) (by omega) ?_
    exact h2 (by omega)
  · skip
    refine aw_il0 O_checkIndex_4 ?_
    refine aw_il1 O_checkIndex_5 ?_
    refine aw_clt O_checkIndex_6 (fun k6 => ?_) (fun k6 => ?_)
    · skip
      refine aw_retv O_checkIndex_19 rfl ?_
      exact h1 (by omega) (by omega)
    · skip
      refine aw_throw O_checkIndex_9 (by omega) (Nat.le_of_ble_eq_true rfl) (by omega) (by omega) ?_
      exact h2 (by omega)
theorem c_checkNumber {i n : Int} {a b : Nat} {f : Bool} (hd : 6 ≤ d) (ha : 1 ≤ a) (hb : 6 ≤ b) (h1 : 0 ≤ i → i ≤ n → P (.inl none) (S, g, a, b, f)) (h2 : ¬ (0 ≤ i ∧ i ≤ n) → P (.inr xIA) (S, g, a - 1, b - 6, false)) : Sp l E O_checkNumber d [iV i, iV n] (S, g, a, b, f) P := by
  show aw l E O_checkNumber d 0 [some (iV i), some (iV n), none, none, none, none, none] [] (S, g, a, b, f) P
  refine aw_il0 O_checkNumber_0 ?_
  refine aw_zlt O_checkNumber_1 (fun k1 => ?_) (fun k1 => ?_)
  · skip
    refine aw_throw O_checkNumber_9 (by omega) (Nat.le_of_ble_eq_true rfl) (by omega) (by omega) ?_
    exact h2 (by omega)
  · skip
    refine aw_il0 O_checkNumber_4 ?_
    refine aw_il1 O_checkNumber_5 ?_
    refine aw_cle O_checkNumber_6 (fun k6 => ?_) (fun k6 => ?_)
    · skip
      refine aw_retv O_checkNumber_19 rfl ?_
      exact h1 (by omega) (by omega)
    · skip
      refine aw_throw O_checkNumber_9 (by omega) (Nat.le_of_ble_eq_true rfl) (by omega) (by omega) ?_
      exact h2 (by omega)
theorem c_within {n lo hi : Int} {M : aM} (hd : 1 ≤ d) (hP : P (.inl (some (iV (if lo < (if n < hi then n else hi) then (if n < hi then n else hi) else lo)))) M) : Sp l E O_within d [iV n, iV lo, iV hi] M P := by
  show aw l E O_within d 0 [some (iV n), some (iV lo), some (iV hi), none, none, none, none] [] M P
  refine aw_il1 O_within_0 ?_
  refine aw_il2 O_within_1 ?_
  refine aw_il0 O_within_2 ?_
  refine aw_min O_within_3 (by omega) rfl ?_
  refine aw_max O_within_6 (by omega) rfl ?_
  refine aw_reti O_within_9 (Or.inl rfl) ?_
  exact hP
theorem c_shown {n : Int} {M : aM} (hP : P (.inl (some (iV (if n = 1000000000 then -1 else n)))) M) : Sp l E O_shown d [iV n] M P := by
  show aw l E O_shown d 0 [some (iV n), none, none, none, none, none, none] [] M P
  refine aw_il0 O_shown_0 ?_
  refine aw_c O_shown_1 ?_
  refine aw_cne O_shown_3 (fun h3 => ?_) (fun h3 => ?_)
  · skip
    refine aw_il0 O_shown_10 ?_
    refine aw_reti O_shown_11 (Or.inl rfl) ?_
    rw [if_neg h3] at hP; exact hP
  · skip
    refine aw_c O_shown_6 ?_
    refine aw_go O_shown_7 ?_
    refine aw_reti O_shown_11 (Or.inl rfl) ?_
    rw [if_pos h3] at hP; exact hP
end MA
end
section
/-! ===== the tree, as mathematics ===== -/
noncomputable abbrev cI {α : Type} (c : Prop) (x y : α) : α := @ite α c (Classical.propDecidable c) x y
theorem cI_p {α : Type} {c : Prop} {x y : α} (h : c) : cI c x y = x := if_pos h
theorem cI_n {α : Type} {c : Prop} {x y : α} (h : ¬ c) : cI c x y = y := if_neg h
/-- 1 or 0 -/
noncomputable abbrev tf (c : Prop) : Int := cI c 1 0
theorem tf01 (c : Prop) : tf c = 0 ∨ tf c = 1 := by
  by_cases h : c
  · exact Or.inr (if_pos h)
  · exact Or.inl (if_neg h)
theorem tfE {c c' : Prop} (h : c ↔ c') : tf c = tf c' := by rw [propext h]
theorem iteT {c : Prop} {i : Decidable c} : @ite Int c i 1 0 = tf c := by
  by_cases h : c
  · rw [if_pos h]; exact (cI_p h).symm
  · rw [if_neg h]; exact (cI_n h).symm
theorem tfor {a b : Prop} : Int32.ofInt (tf (a ∨ b)) = Int32.ofInt (tf a) ||| Int32.ofInt (tf b) := by
  by_cases ha : a <;> by_cases hb : b
  · rw [show tf (a ∨ b) = 1 from cI_p (Or.inl ha), show tf a = 1 from cI_p ha, show tf b = 1 from cI_p hb]; decide
  · rw [show tf (a ∨ b) = 1 from cI_p (Or.inl ha), show tf a = 1 from cI_p ha, show tf b = 0 from cI_n hb]; decide
  · rw [show tf (a ∨ b) = 1 from cI_p (Or.inr hb), show tf a = 0 from cI_n ha, show tf b = 1 from cI_p hb]; decide
  · rw [show tf (a ∨ b) = 0 from cI_n (fun z => z.elim ha hb), show tf a = 0 from cI_n ha, show tf b = 0 from cI_n hb]; decide
theorem ok_tf (c : Prop) : okI (tf c) := by
  rcases tf01 c with h | h <;> rw [h] <;> decide
theorem blC {P : Nat} {a a' b b' : Nat → Int} (h1 : ∀ p, p < P → a p = a' p) (h2 : ∀ p, p < P → b p = b' p) : bl P a b ↔ bl P a' b' :=
  ⟨fun h p hp => by rw [← h1 p hp, ← h2 p hp]; exact h p hp, fun h p hp => by rw [h1 p hp, h2 p hp]; exact h p hp⟩
/-- h, lifted over low -/
noncomputable def lo (P : Nat) (low h : Nat → Int) : Nat → Int := fun p => cI (p < P ∧ bl P low h ∧ h p ≠ 1000000000 ∧ low p < h p) 1000000000 (h p)
def fl (P : Nat) (low h : Nat → Int) : Prop := ∃ p, p < P ∧ bl P low h ∧ h p ≠ 1000000000 ∧ low p < h p
theorem loC {P : Nat} {a b : Nat → Int} (h : Nat → Int) (hab : ∀ p, p < P → a p = b p) : lo P a h = lo P b h := by
  funext p
  unfold lo
  have e : (p < P ∧ bl P a h ∧ h p ≠ 1000000000 ∧ a p < h p) ↔ (p < P ∧ bl P b h ∧ h p ≠ 1000000000 ∧ b p < h p) := by
    constructor
    · rintro ⟨h1, h2, h3, h4⟩
      exact ⟨h1, (blC hab (fun _ _ => rfl)).mp h2, h3, by rw [← hab p h1]; exact h4⟩
    · rintro ⟨h1, h2, h3, h4⟩
      exact ⟨h1, (blC hab (fun _ _ => rfl)).mpr h2, h3, by rw [hab p h1]; exact h4⟩
  rw [propext e]
theorem flC {P : Nat} {a b : Nat → Int} (h : Nat → Int) (hab : ∀ p, p < P → a p = b p) : fl P a h ↔ fl P b h := by
  constructor
  · rintro ⟨p, h1, h2, h3, h4⟩
    exact ⟨p, h1, (blC hab (fun _ _ => rfl)).mp h2, h3, by rw [← hab p h1]; exact h4⟩
  · rintro ⟨p, h1, h2, h3, h4⟩
    exact ⟨p, h1, (blC hab (fun _ _ => rfl)).mpr h2, h3, by rw [hab p h1]; exact h4⟩
/-- a round over the k nodes from a upwards -/
noncomputable def rnH (P : Nat) (mk : Nat → Nat → Int) (pa : Nat → Nat) : Nat → Nat → (Nat → Int) → (Nat → Int)
  | 0, _, h => h
  | k + 1, a, h => rnH P mk pa k (pa a) (lo P (mk a) h)
def rnF (P : Nat) (mk : Nat → Nat → Int) (pa : Nat → Nat) : Nat → Nat → (Nat → Int) → Prop
  | 0, _, _ => False
  | k + 1, a, h => fl P (mk a) h ∨ rnF P mk pa k (pa a) (lo P (mk a) h)
noncomputable def liH (P : Nat) (mk : Nat → Nat → Int) (pa : Nat → Nat) (k a : Nat) : Nat → (Nat → Int) → (Nat → Int)
  | 0, h => h
  | f + 1, h => cI (rnF P mk pa k a h) (liH P mk pa k a f (rnH P mk pa k a h)) (rnH P mk pa k a h)
theorem lo_cong {P : Nat} {low h h' : Nat → Int} (hh : ∀ p, p < P → h p = h' p) : (∀ p, p < P → lo P low h p = lo P low h' p) ∧ (fl P low h ↔ fl P low h') := by
  have key : ∀ p, p < P → ((p < P ∧ bl P low h ∧ h p ≠ 1000000000 ∧ low p < h p) ↔ (p < P ∧ bl P low h' ∧ h' p ≠ 1000000000 ∧ low p < h' p)) := fun p hp => by
    rw [hh p hp, propext (blC (fun _ _ => rfl) hh : bl P low h ↔ bl P low h')]
  refine ⟨fun p hp => ?_, ?_⟩
  · unfold lo
    rw [propext (key p hp), hh p hp]
  · constructor
    · rintro ⟨p, hp, h2⟩
      exact ⟨p, (key p hp).mp ⟨hp, h2⟩⟩
    · rintro ⟨p, hp, h2⟩
      exact ⟨p, (key p hp).mpr ⟨hp, h2⟩⟩
theorem rn_cong {P : Nat} {mk : Nat → Nat → Int} {pa : Nat → Nat} : ∀ (k a : Nat) (h h' : Nat → Int), (∀ p, p < P → h p = h' p) → (∀ p, p < P → rnH P mk pa k a h p = rnH P mk pa k a h' p) ∧ (rnF P mk pa k a h ↔ rnF P mk pa k a h')
  | 0, _, _, _, hh => ⟨hh, Iff.rfl⟩
  | k + 1, a, h, h', hh => by
    obtain ⟨e1, e2⟩ := lo_cong (low := mk a) hh
    obtain ⟨e3, e4⟩ := rn_cong (mk := mk) (pa := pa) k (pa a) _ _ e1
    exact ⟨e3, or_congr e2 e4⟩
theorem li_cong {P : Nat} {mk : Nat → Nat → Int} {pa : Nat → Nat} {k a : Nat} : ∀ (f : Nat) (h h' : Nat → Int), (∀ p, p < P → h p = h' p) → ∀ p, p < P → liH P mk pa k a f h p = liH P mk pa k a f h' p
  | 0, _, _, hh => hh
  | f + 1, h, h', hh => by
    obtain ⟨e1, e2⟩ := rn_cong (P := P) (mk := mk) (pa := pa) k a h h' hh
    intro p hp
    show (cI _ _ _ : Nat → Int) p = (cI _ _ _ : Nat → Int) p
    by_cases hc : rnF P mk pa k a h
    · rw [cI_p hc, cI_p (e2.mp hc)]
      exact li_cong f _ _ e1 p hp
    · rw [cI_n hc, cI_n (fun z => hc (e2.mpr z))]
      exact e1 p hp
theorem lo_val {P : Nat} {low h : Nat → Int} (p : Nat) : lo P low h p = h p ∨ lo P low h p = 1000000000 := by
  unfold lo
  by_cases hc : p < P ∧ bl P low h ∧ h p ≠ 1000000000 ∧ low p < h p
  · exact Or.inr (cI_p hc)
  · exact Or.inl (cI_n hc)
theorem rn_val {P : Nat} {mk : Nat → Nat → Int} {pa : Nat → Nat} : ∀ (k a : Nat) (h : Nat → Int) (p : Nat), rnH P mk pa k a h p = h p ∨ rnH P mk pa k a h p = 1000000000
  | 0, _, _, _ => Or.inl rfl
  | k + 1, a, h, p => by
    rcases rn_val (mk := mk) (pa := pa) (P := P) k (pa a) (lo P (mk a) h) p with e | e
    · rcases lo_val (P := P) (low := mk a) (h := h) p with e2 | e2
      · exact Or.inl (e.trans e2)
      · exact Or.inr (e.trans e2)
    · exact Or.inr e
theorem li_val {P : Nat} {mk : Nat → Nat → Int} {pa : Nat → Nat} {k a : Nat} : ∀ (f : Nat) (h : Nat → Int) (p : Nat), liH P mk pa k a f h p = h p ∨ liH P mk pa k a f h p = 1000000000
  | 0, _, _ => Or.inl rfl
  | f + 1, h, p => by
    show (cI _ _ _ : Nat → Int) p = h p ∨ (cI _ _ _ : Nat → Int) p = 1000000000
    by_cases hc : rnF P mk pa k a h
    · rw [cI_p hc]
      rcases li_val (P := P) (mk := mk) (pa := pa) (k := k) (a := a) f (rnH P mk pa k a h) p with e | e
      · rcases rn_val (P := P) (mk := mk) (pa := pa) k a h p with e2 | e2
        · exact Or.inl (e.trans e2)
        · exact Or.inr (e.trans e2)
      · exact Or.inr e
    · rw [cI_n hc]
      exact rn_val k a h p
/-- how many places of h are not without bound -/
def cnE (h : Nat → Int) : Nat → Nat
  | 0 => 0
  | k + 1 => cnE h k + (if h k = 1000000000 then 0 else 1)
theorem cnE_le {h h' : Nat → Int} : ∀ P : Nat, (∀ p, p < P → h p = 1000000000 → h' p = 1000000000) → cnE h' P ≤ cnE h P
  | 0, _ => Nat.le_refl _
  | P + 1, hh => by
    have := cnE_le P fun p hp => hh p (by omega)
    have h2 := hh P (by omega)
    show cnE h' P + _ ≤ cnE h P + _
    by_cases e1 : h P = 1000000000
    · rw [if_pos e1, if_pos (h2 e1)]; exact this
    · rw [if_neg e1]
      split <;> omega
theorem cnE_lt {h h' : Nat → Int} : ∀ P : Nat, (∀ p, p < P → h p = 1000000000 → h' p = 1000000000) → (∃ p, p < P ∧ h p ≠ 1000000000 ∧ h' p = 1000000000) → cnE h' P < cnE h P
  | 0, _, hx => by obtain ⟨p, hp, -⟩ := hx; omega
  | P + 1, hh, hx => by
    have h1 := cnE_le (h := h) (h' := h') P fun p hp => hh p (by omega)
    have h2 := hh P (by omega)
    show cnE h' P + _ < cnE h P + _
    obtain ⟨p, hp, e1, e2⟩ := hx
    by_cases e : p = P
    · subst e
      rw [if_neg e1, if_pos e2]
      omega
    · have h3 := cnE_lt P (fun p hp => hh p (by omega)) ⟨p, by omega, e1, e2⟩
      by_cases e3 : h P = 1000000000
      · rw [if_pos e3, if_pos (h2 e3)]; exact h3
      · rw [if_neg e3]
        split <;> omega
theorem cnE_ub (h : Nat → Int) : ∀ P : Nat, cnE h P ≤ P
  | 0 => Nat.le_refl _
  | P + 1 => by
    have := cnE_ub h P
    show cnE h P + _ ≤ P + 1
    split <;> omega
theorem rn_keep {P : Nat} {mk : Nat → Nat → Int} {pa : Nat → Nat} {k a : Nat} {h : Nat → Int} {p : Nat} (hp : h p = 1000000000) : rnH P mk pa k a h p = 1000000000 := by
  rcases rn_val (P := P) (mk := mk) (pa := pa) k a h p with e | e
  · rw [e, hp]
  · exact e
theorem rn_some {P : Nat} {mk : Nat → Nat → Int} {pa : Nat → Nat} : ∀ (k a : Nat) (h : Nat → Int), rnF P mk pa k a h → ∃ p, p < P ∧ h p ≠ 1000000000 ∧ rnH P mk pa k a h p = 1000000000
  | 0, _, _, hf => hf.elim
  | k + 1, a, h, hf => by
    rcases hf with ⟨p, hp, h2, h3, h4⟩ | hf
    · exact ⟨p, hp, h3, rn_keep (h := lo P (mk a) h) (show lo P (mk a) h p = 1000000000 from cI_p ⟨hp, h2, h3, h4⟩)⟩
    · obtain ⟨p, hp, h2, h3⟩ := rn_some k (pa a) (lo P (mk a) h) hf
      refine ⟨p, hp, fun e => h2 ?_, h3⟩
      rcases lo_val (P := P) (low := mk a) (h := h) p with e2 | e2
      · rw [e2, e]
      · exact e2
theorem rn_cnt {P : Nat} {mk : Nat → Nat → Int} {pa : Nat → Nat} {k a : Nat} {h : Nat → Int} (hf : rnF P mk pa k a h) : cnE (rnH P mk pa k a h) P < cnE h P :=
  cnE_lt P (fun _ _ e => rn_keep e) (rn_some k a h hf)
/-! a tree: its size, markings, parents, transitions, depths, leaves -/
abbrev Tz : Type := Nat × (Nat → Nat → Int) × (Nat → Nat) × (Nat → Nat) × (Nat → Nat) × (Nat → Prop)
def addT (τ : Tz) (n t : Nat) (row : Nat → Int) : Tz := (τ.1 + 1, fun k => if k = τ.1 then row else τ.2.1 k, fun k => if k = τ.1 then n else τ.2.2.1 k, fun k => if k = τ.1 then t else τ.2.2.2.1 k, fun k => if k = τ.1 then τ.2.2.2.2.1 n + 1 else τ.2.2.2.2.1 k, τ.2.2.2.2.2)
noncomputable def newT (P : Nat) (nd gv : Nat → Nat → Int) (τ : Tz) (n t : Nat) : Nat → Int := liH P τ.2.1 τ.2.2.1 (τ.2.2.2.2.1 n + 1) n (P + 1) (fun p => mv (τ.2.1 n p) (nd t p) (gv t p))
noncomputable def brT (P : Nat) (nd gv : Nat → Nat → Int) (τ : Tz) (n : Nat) : Nat → Bool × Tz
  | 0 => (true, τ)
  | k + 1 => cI ((brT P nd gv τ n k).1 = true ∧ bl P (nd k) ((brT P nd gv τ n k).2.2.1 n)) (cI ((brT P nd gv τ n k).2.1 = 200) (false, (brT P nd gv τ n k).2) (true, addT (brT P nd gv τ n k).2 n k (newT P nd gv (brT P nd gv τ n k).2 n k))) (brT P nd gv τ n k)
/-- one of the k nodes from a upwards has h's marking -/
def rpT (P : Nat) (mk : Nat → Nat → Int) (pa : Nat → Nat) : Nat → Nat → (Nat → Int) → Prop
  | 0, _, _ => False
  | k + 1, a, h => (bl P (mk a) h ∧ bl P h (mk a)) ∨ rpT P mk pa k (pa a) h
def repT (P : Nat) (τ : Tz) (n : Nat) : Prop := rpT P τ.2.1 τ.2.2.1 (τ.2.2.2.2.1 n) (τ.2.2.1 n) (τ.2.1 n)
def lfT (P : Nat) (τ : Tz) (n : Nat) : Tz := (τ.1, τ.2.1, τ.2.2.1, τ.2.2.2.1, τ.2.2.2.2.1, fun k => if k = n then repT P τ n else τ.2.2.2.2.2 k)
def plT (first : Nat → Int) : Tz := (1, fun _ => first, fun _ => 0, fun _ => 0, fun _ => 0, fun _ => False)
noncomputable def grT (P T : Nat) (nd gv : Nat → Nat → Int) (first : Nat → Int) : Nat → Bool × Tz
  | 0 => (true, plT first)
  | k + 1 => cI ((grT P T nd gv first k).1 = true ∧ k < (grT P T nd gv first k).2.1) (cI (repT P (grT P T nd gv first k).2 k) (true, lfT P (grT P T nd gv first k).2 k) (brT P nd gv (lfT P (grT P T nd gv first k).2 k) k T)) (grT P T nd gv first k)
/-- parents below, depths by one -/
def WT (P : Nat) (τ : Tz) : Prop := 1 ≤ τ.1 ∧ τ.1 ≤ 200 ∧ τ.2.2.2.2.1 0 = 0 ∧ (∀ n, 0 < n → n < τ.1 → τ.2.2.1 n < n ∧ τ.2.2.2.2.1 n = τ.2.2.2.2.1 (τ.2.2.1 n) + 1) ∧ ∀ n, n < τ.1 → ∀ p, p < P → 0 ≤ τ.2.1 n p ∧ (τ.2.1 n p = 1000000000 ∨ τ.2.1 n p ≤ 100 + 9 * n)
theorem WT_dp {P : Nat} {τ : Tz} (h : WT P τ) : ∀ n, n < τ.1 → τ.2.2.2.2.1 n ≤ n := by
  intro n
  induction n using Nat.strongRecOn with
  | ind n ih =>
    intro hn
    by_cases h0 : n = 0
    · subst h0; rw [h.2.2.1]; omega
    · obtain ⟨h1, h2⟩ := h.2.2.2.1 n (by omega) hn
      have := ih _ h1 (by omega)
      omega
theorem WT_0 {P : Nat} {τ : Tz} (h : WT P τ) {n : Nat} (hn : n < τ.1) (hd : τ.2.2.2.2.1 n = 0) : n = 0 := by
  by_cases h0 : n = 0
  · exact h0
  · have := (h.2.2.2.1 n (by omega) hn).2
    omega
theorem WT_add {P : Nat} {nd gv : Nat → Nat → Int} {τ : Tz} {n t : Nat} (h : WT P τ) (hn : n < τ.1) (hs : τ.1 < 200) (hen : bl P (nd t) (τ.2.1 n)) (hnd : ∀ p, p < P → 0 ≤ nd t p) (hgv : ∀ p, p < P → 0 ≤ gv t p ∧ gv t p ≤ 9) : WT P (addT τ n t (newT P nd gv τ n t)) := by
  obtain ⟨h1, h2, h3, h4, h5⟩ := h
  refine ⟨by show 1 ≤ τ.1 + 1; omega, by show τ.1 + 1 ≤ 200; omega, ?_, fun k hk0 hk => ?_, fun k hk p hp => ?_⟩
  · show (if 0 = τ.1 then _ else _) = 0
    rw [if_neg (by omega)]; exact h3
  · have hk' : k < τ.1 + 1 := hk
    show (if k = τ.1 then n else τ.2.2.1 k) < k ∧ (if k = τ.1 then τ.2.2.2.2.1 n + 1 else τ.2.2.2.2.1 k) = (if (if k = τ.1 then n else τ.2.2.1 k) = τ.1 then _ else τ.2.2.2.2.1 (if k = τ.1 then n else τ.2.2.1 k)) + 1
    by_cases e : k = τ.1
    · rw [if_pos e, if_pos e, if_neg (by omega)]
      exact ⟨by omega, rfl⟩
    · obtain ⟨g1, g2⟩ := h4 k hk0 (by omega)
      rw [if_neg e, if_neg e, if_neg (by omega)]
      exact ⟨g1, g2⟩
  · have hk' : k < τ.1 + 1 := hk
    show 0 ≤ (if k = τ.1 then newT P nd gv τ n t else τ.2.1 k) p ∧ _
    by_cases e : k = τ.1
    · have e9 : (addT τ n t (newT P nd gv τ n t)).2.1 k p = newT P nd gv τ n t p := by
        show (if k = τ.1 then newT P nd gv τ n t else τ.2.1 k) p = _
        rw [if_pos e]
      rw [e9, if_pos e]
      obtain ⟨b1, b2⟩ := h5 n hn p hp
      have b3 := hen p hp
      have b4 := hnd p hp
      have b5 := hgv p hp
      have hmv : 0 ≤ mv (τ.2.1 n p) (nd t p) (gv t p) ∧ (mv (τ.2.1 n p) (nd t p) (gv t p) = 1000000000 ∨ mv (τ.2.1 n p) (nd t p) (gv t p) ≤ 100 + 9 * k) := by
        unfold mv
        split
        · exact ⟨by omega, Or.inl rfl⟩
        · refine ⟨by omega, Or.inr ?_⟩
          rcases b2 with b2 | b2
          · omega
          · omega
      unfold newT
      rcases li_val (P := P) (mk := τ.2.1) (pa := τ.2.2.1) (k := τ.2.2.2.2.1 n + 1) (a := n) (P + 1) (fun p => mv (τ.2.1 n p) (nd t p) (gv t p)) p with e2 | e2
      · rw [e2]; exact hmv
      · rw [e2]; exact ⟨by omega, Or.inl rfl⟩
    · have e9 : (addT τ n t (newT P nd gv τ n t)).2.1 k p = τ.2.1 k p := by
        show (if k = τ.1 then newT P nd gv τ n t else τ.2.1 k) p = _
        rw [if_neg e]
      rw [e9, if_neg e]
      exact h5 k (by omega) p hp
theorem WT_br {P : Nat} {nd gv : Nat → Nat → Int} {τ : Tz} {n : Nat} (h : WT P τ) (hn : n < τ.1) : ∀ k : Nat, (∀ t, t < k → ∀ p, p < P → 0 ≤ nd t p) → (∀ t, t < k → ∀ p, p < P → 0 ≤ gv t p ∧ gv t p ≤ 9) → WT P (brT P nd gv τ n k).2 ∧ τ.1 ≤ (brT P nd gv τ n k).2.1
  | 0, _, _ => ⟨h, Nat.le_refl _⟩
  | k + 1, hnd, hgv => by
    obtain ⟨h1, h2⟩ := WT_br h hn k (fun t ht => hnd t (by omega)) (fun t ht => hgv t (by omega))
    show WT P (cI _ _ _ : Bool × Tz).2 ∧ τ.1 ≤ (cI _ _ _ : Bool × Tz).2.1
    by_cases hc : (brT P nd gv τ n k).1 = true ∧ bl P (nd k) ((brT P nd gv τ n k).2.2.1 n)
    · rw [cI_p hc]
      by_cases hs : (brT P nd gv τ n k).2.1 = 200
      · rw [cI_p hs]; exact ⟨h1, h2⟩
      · rw [cI_n hs]
        refine ⟨WT_add h1 (by omega) (by have := h1.2.1; omega) hc.2 (hnd k (by omega)) (hgv k (by omega)), ?_⟩
        show τ.1 ≤ (brT P nd gv τ n k).2.1 + 1
        omega
    · rw [cI_n hc]; exact ⟨h1, h2⟩
theorem WT_lf {P : Nat} {τ : Tz} {n : Nat} (h : WT P τ) : WT P (lfT P τ n) := h
theorem WT_gr {P T : Nat} {nd gv : Nat → Nat → Int} {first : Nat → Int} (hf : ∀ p, p < P → 0 ≤ first p ∧ first p ≤ 100) (hnd : ∀ t, t < T → ∀ p, p < P → 0 ≤ nd t p) (hgv : ∀ t, t < T → ∀ p, p < P → 0 ≤ gv t p ∧ gv t p ≤ 9) : ∀ k : Nat, WT P (grT P T nd gv first k).2
  | 0 => ⟨Nat.le_refl _, (by decide : 1 ≤ 200), rfl, fun n h1 h2 => by have h3 : n < 1 := h2; omega, fun n hn p hp => ⟨(hf p hp).1, Or.inr (by have := (hf p hp).2; show first p ≤ _; omega)⟩⟩
  | k + 1 => by
    have h1 := WT_gr hf hnd hgv k
    show WT P (cI _ _ _ : Bool × Tz).2
    by_cases hc : (grT P T nd gv first k).1 = true ∧ k < (grT P T nd gv first k).2.1
    · rw [cI_p hc]
      by_cases hr : repT P (grT P T nd gv first k).2 k
      · rw [cI_p hr]; exact h1
      · rw [cI_n hr]
        exact (WT_br (τ := lfT P (grT P T nd gv first k).2 k) h1 hc.2 T hnd hgv).1
    · rw [cI_n hc]; exact h1
theorem br_false {P : Nat} {nd gv : Nat → Nat → Int} {τ : Tz} {n k : Nat} (h : (brT P nd gv τ n k).1 = false) : ∀ j, brT P nd gv τ n (k + j) = brT P nd gv τ n k
  | 0 => rfl
  | j + 1 => by
    have h1 := br_false h j
    show brT P nd gv τ n ((k + j) + 1) = _
    refine (cI_n (fun z => ?_)).trans h1
    have z1 : (brT P nd gv τ n (k + j)).1 = true := z.1
    rw [h1, h] at z1
    cases z1
theorem gr_false {P T : Nat} {nd gv : Nat → Nat → Int} {first : Nat → Int} {k : Nat} (h : (grT P T nd gv first k).1 = false ∨ (grT P T nd gv first k).2.1 ≤ k) : ∀ j, grT P T nd gv first (k + j) = grT P T nd gv first k
  | 0 => rfl
  | j + 1 => by
    have h1 := gr_false h j
    show grT P T nd gv first ((k + j) + 1) = _
    refine (cI_n (fun z => ?_)).trans h1
    have z1 : (grT P T nd gv first (k + j)).1 = true := z.1
    have z2 : k + j < (grT P T nd gv first (k + j)).2.1 := z.2
    rw [h1] at z1 z2
    rcases h with h | h
    · rw [h] at z1; cases z1
    · omega
end
section
section MT
variable {l : Launch} {E : aE} {d : Nat} {S : aS} {g : aG} {u : aU} {P : aP} {Pn T : Nat}
noncomputable def loG (Pn : Nat) (g : aG) (i j : Nat) : aG := fun a b => if a = j then lo Pn (g i) (g j) b else g a b
noncomputable def lok (g : aG) (i j k : Nat) : aG := fun a b => cI (a = j ∧ b < k ∧ g j b ≠ 1000000000 ∧ g i b < g j b) 1000000000 (g a b)
theorem lok_0 (g : aG) (i j : Nat) : lok g i j 0 = g := by
  funext a b
  exact cI_n (fun z => absurd z.2.1 (Nat.not_lt_zero b))
theorem lok_s {g : aG} {i j k : Nat} (h : g j k ≠ 1000000000 ∧ g i k < g j k) : upA (lok g i j k) j k 1000000000 = lok g i j (k + 1) := by
  funext a b
  unfold upA
  by_cases hc : a = j ∧ b = k
  · obtain ⟨rfl, rfl⟩ := hc
    rw [if_pos ⟨rfl, rfl⟩]
    exact (cI_p ⟨rfl, by omega, h⟩).symm
  · rw [if_neg hc]
    unfold lok
    have e : (a = j ∧ b < k ∧ g j b ≠ 1000000000 ∧ g i b < g j b) ↔ (a = j ∧ b < k + 1 ∧ g j b ≠ 1000000000 ∧ g i b < g j b) := by
      constructor
      · rintro ⟨h1, h2, h3⟩; exact ⟨h1, by omega, h3⟩
      · rintro ⟨h1, h2, h3⟩; exact ⟨h1, by have : b ≠ k := fun e => hc ⟨h1, e⟩; omega, h3⟩
    rw [propext e]
theorem lok_n {g : aG} {i j k : Nat} (h : ¬ (g j k ≠ 1000000000 ∧ g i k < g j k)) : lok g i j (k + 1) = lok g i j k := by
  funext a b
  unfold lok
  have e : (a = j ∧ b < k + 1 ∧ g j b ≠ 1000000000 ∧ g i b < g j b) ↔ (a = j ∧ b < k ∧ g j b ≠ 1000000000 ∧ g i b < g j b) := by
    constructor
    · rintro ⟨h1, h2, h3⟩
      exact ⟨h1, by have : b ≠ k := fun e => h (by rw [← e]; exact h3); omega, h3⟩
    · rintro ⟨h1, h2, h3⟩; exact ⟨h1, by omega, h3⟩
  rw [propext e]
theorem lok_end {g : aG} {i j : Nat} (hb : bl Pn (g i) (g j)) : lok g i j Pn = loG Pn g i j := by
  funext a b
  unfold lok loG lo
  by_cases ha : a = j
  · subst ha
    rw [if_pos rfl]
    have e : (a = a ∧ b < Pn ∧ g a b ≠ 1000000000 ∧ g i b < g a b) ↔ (b < Pn ∧ bl Pn (g i) (g a) ∧ g a b ≠ 1000000000 ∧ g i b < g a b) := ⟨fun z => ⟨z.2.1, hb, z.2.2⟩, fun z => ⟨rfl, z.1, z.2.2⟩⟩
    rw [propext e]
  · rw [if_neg ha]
    exact cI_n (fun z => ha z.1)
theorem loG_n {g : aG} {i j : Nat} (hb : ¬ bl Pn (g i) (g j)) : loG Pn g i j = g := by
  funext a b
  unfold loG
  split
  · next h => rw [h]; exact cI_n (fun z => hb z.2.1)
  · rfl
theorem flg_n {g : aG} {i j p : Nat} (h : ¬ (g j p ≠ 1000000000 ∧ g i p < g j p)) : (∃ r, r < p + 1 ∧ g j r ≠ 1000000000 ∧ g i r < g j r) ↔ (∃ r, r < p ∧ g j r ≠ 1000000000 ∧ g i r < g j r) := by
  constructor
  · rintro ⟨r, z1, z2⟩
    exact ⟨r, by have : r ≠ p := fun e => h (by rw [← e]; exact z2)
                 omega, z2⟩
  · rintro ⟨r, z1, z2⟩
    exact ⟨r, by omega, z2⟩
theorem c_liftOver_lp {i j : Nat} (hW : WX S Pn T) (hi : hasA S i 0 Pn) (hj : hasA S j 0 Pn) (hij : i ≠ j) (hj2 : 2 * T + 12 ≤ j) (h10 : g 1 0 = (Pn : Int)) (hbl : bl Pn (g i) (g j)) (hP : P (.inl (some (iV (tf (fl Pn (g i) (g j)))))) (S, loG Pn g i j, u)) : ∀ (m p : Nat), Pn - p < m → p ≤ Pn → aw l E T_liftOver (d + 1) 15 [some (rV (2 * T + 5)), some (rV i), some (rV j), some (iV (tf (∃ r, r < p ∧ g j r ≠ 1000000000 ∧ g i r < g j r))), some (iV (p : Int)), none, none] [] (S, lok g i j p, u) P := by
  intro m
  have hp6 := wx_P hW
  induction m with
  | zero => intro p h; omega
  | succ m ih =>
    intro p hm hp
    have e0 : lok g i j p 1 0 = (Pn : Int) := (cI_n (fun z => by omega)).trans h10
    have e1 : lok g i j p j p = g j p := cI_n (fun z => absurd z.2.1 (Nat.lt_irrefl p))
    have e2 : lok g i j p i p = g i p := cI_n (fun z => absurd z.2.1 (Nat.lt_irrefl p))
    refine aw_il4 T_liftOver_15 ?_
    refine aw_al0 T_liftOver_17 ?_
    refine aw_gr (wx_r2_0 hW) T_liftOver_18 (wx_o2 hW) ?_
    refine aw_gi T_liftOver_21 (wx_o1 hW) ?_
    refine aw_cge T_liftOver_24 (fun h24 => ?_) (fun h24 => ?_)
    · skip
      refine aw_il3 T_liftOver_61 ?_
      refine aw_reti T_liftOver_62 (Or.inr ⟨rfl, (tf01 _)⟩) ?_
      have e : p = Pn := by omega
      subst e
      rw [← lok_end hbl, tfE (show fl p (g i) (g j) ↔ ∃ r, r < p ∧ g j r ≠ 1000000000 ∧ g i r < g j r from ⟨fun ⟨r, z1, z2, z3⟩ => ⟨r, z1, z3⟩, fun ⟨r, z1, z3⟩ => ⟨r, z1, hbl, z3⟩⟩)] at hP
      exact hP
    · skip
      refine aw_al2 T_liftOver_27 ?_
      refine aw_il4 T_liftOver_28 ?_
      refine aw_ia T_liftOver_30 hj (by first | rfl | assumption) (by omega) ?_
      refine aw_c T_liftOver_31 ?_
      refine aw_ceq T_liftOver_33 (fun h33 => ?_) (fun h33 => ?_)
      · skip
        refine aw_ip4 T_liftOver_55 (by omega) ?_
        refine aw_go T_liftOver_58 ?_
        have hno : ¬ (g j p ≠ 1000000000 ∧ g i p < g j p) := by omega
        have hk := ih (p + 1) (by omega) (by omega)
        rw [lok_n hno, tfE (flg_n hno)] at hk
        exact hk
      · skip
        refine aw_al1 T_liftOver_36 ?_
        refine aw_il4 T_liftOver_37 ?_
        refine aw_ia T_liftOver_39 hi (by first | rfl | assumption) (by omega) ?_
        refine aw_al2 T_liftOver_40 ?_
        refine aw_il4 T_liftOver_41 ?_
        refine aw_ia T_liftOver_43 hj (by first | rfl | assumption) (by omega) ?_
        refine aw_cge T_liftOver_44 (fun h44 => ?_) (fun h44 => ?_)
        · skip
          refine aw_ip4 T_liftOver_55 (by omega) ?_
          refine aw_go T_liftOver_58 ?_
          have hno : ¬ (g j p ≠ 1000000000 ∧ g i p < g j p) := by omega
          have hk := ih (p + 1) (by omega) (by omega)
          rw [lok_n hno, tfE (flg_n hno)] at hk
          exact hk
        · skip
          refine aw_al2 T_liftOver_47 ?_
          refine aw_il4 T_liftOver_48 ?_
          refine aw_c T_liftOver_50 ?_
          refine aw_iast T_liftOver_52 hj (by first | rfl | assumption) (by omega) ?_
          refine aw_c T_liftOver_53 ?_
          refine aw_is3 T_liftOver_54 ?_
          refine aw_ip4 T_liftOver_55 (by omega) ?_
          refine aw_go T_liftOver_58 ?_
          have hyes : g j p ≠ 1000000000 ∧ g i p < g j p := by omega
          have hk := ih (p + 1) (by omega) (by omega)
          rw [← lok_s hyes, show tf (∃ r, r < p + 1 ∧ g j r ≠ 1000000000 ∧ g i r < g j r) = 1 from cI_p ⟨p, by omega, hyes⟩] at hk
          exact hk
theorem c_liftOver {i j : Nat} (hW : WX S Pn T) (hi : hasA S i 0 Pn) (hj : hasA S j 0 Pn) (hij : i ≠ j) (hj2 : 2 * T + 12 ≤ j) (h10 : g 1 0 = (Pn : Int)) (hP : P (.inl (some (iV (tf (fl Pn (g i) (g j)))))) (S, loG Pn g i j, u)) : Sp l E T_liftOver (d + 1) [rV (2 * T + 5), rV i, rV j] (S, g, u) P := by
  have hp6 := wx_P hW
  show aw l E T_liftOver (d + 1) 0 [some (rV (2 * T + 5)), some (rV i), some (rV j), none, none, none, none] [] (S, g, u) P
  refine aw_al1 T_liftOver_0 ?_
  refine aw_al2 T_liftOver_1 ?_
  refine aw_S2 T_liftOver_2 rfl rfl rfl rfl ?_
  refine c_isBelow hi hj (by omega) ?_
  show aw _ _ _ _ _ _ _ _ _
  refine aw_zne T_liftOver_5 (fun h5 => ?_) (fun h5 => ?_)
  · skip
    refine aw_c T_liftOver_10 ?_
    refine aw_is3 T_liftOver_11 ?_
    refine aw_c T_liftOver_12 ?_
    refine aw_is4 T_liftOver_13 ?_
    have hk := c_liftOver_lp (l := l) (E := E) (d := d) (u := u) hW hi hj hij hj2 h10 (nz h5) hP (Pn + 1) 0 (by omega) (by omega)
    rw [lok_0, show tf (∃ r, r < 0 ∧ g j r ≠ 1000000000 ∧ g i r < g j r) = 0 from cI_n (fun ⟨r, z, _⟩ => absurd z (Nat.not_lt_zero r))] at hk
    exact hk
  · skip
    refine aw_c T_liftOver_8 ?_
    refine aw_reti T_liftOver_9 (Or.inr ⟨rfl, (by first | exact Or.inl rfl | exact Or.inr rfl | assumption)⟩) ?_
    rw [loG_n (iz h5), show tf (fl Pn (g i) (g j)) = 0 from cI_n (fun ⟨r, _, z, _⟩ => iz h5 z)] at hP
    exact hP
/-- the class's tree cells hold τ -/
def RCz (Pn T : Nat) (g : aG) (τ : Tz) (z : Int) : Prop := (∀ n, n < τ.1 → ∀ p, p < Pn → g (2 * T + 12 + n) p = τ.2.1 n p) ∧ g (2 * T + 6) 0 = -2 ∧ g (2 * T + 7) 0 = -2 ∧ (∀ n, 0 < n → n < τ.1 → g (2 * T + 6) n = (τ.2.2.1 n : Int) ∧ g (2 * T + 7) n = (τ.2.2.2.1 n : Int)) ∧ (∀ n, n < τ.1 → g (2 * T + 8) n = (τ.2.2.2.2.1 n : Int)) ∧ g (2 * T + 5) 7 = z
abbrev RC (Pn T : Nat) (g : aG) (τ : Tz) : Prop := RCz Pn T g τ (τ.1 : Int)
def rwG (T : Nat) (g : aG) (v : Nat) (h : Nat → Int) : aG := fun a b => if a = 2 * T + 12 + v then h b else g a b
theorem rwG_at (T : Nat) (g : aG) (v : Nat) (h : Nat → Int) : rwG T g v h (2 * T + 12 + v) = h := by funext b; exact if_pos rfl
theorem rwG_ne {T : Nat} {g : aG} {v a : Nat} {h : Nat → Int} (ha : a ≠ 2 * T + 12 + v) : rwG T g v h a = g a := by funext b; exact if_neg ha
theorem rwG_lo {T : Nat} {g : aG} {v a : Nat} {h : Nat → Int} (ha : a ≠ v) : loG Pn (rwG T g v h) (2 * T + 12 + a) (2 * T + 12 + v) = rwG T g v (lo Pn (g (2 * T + 12 + a)) h) := by
  funext c b
  unfold loG
  rw [rwG_at, rwG_ne (show 2 * T + 12 + a ≠ 2 * T + 12 + v by omega)]
  by_cases hc : c = 2 * T + 12 + v
  · rw [if_pos hc, hc, rwG_at]
  · rw [if_neg hc, rwG_ne hc, rwG_ne hc]
theorem rwG_self (T : Nat) (g : aG) (v : Nat) : rwG T g v (g (2 * T + 12 + v)) = g := by
  funext a b
  unfold rwG
  split
  · next h => rw [h]
  · rfl
theorem c_lift_in {v D rd : Nat} {τ : Tz} {zz : Int} (hW : WX S Pn T) (hv : v < 200) (hw : WT Pn τ) (hR : RCz Pn T g τ zz) (hv2 : τ.1 ≤ v) (h10 : g 1 0 = (Pn : Int)) (h8 : g (2 * T + 8) v = (D : Int)) (hD : D ≤ 1000) : ∀ (r a s : Nat) (h : Nat → Int) (F : Prop) (x : Int), s + r = D → (0 < r → x = (a : Int) ∧ a < τ.1 ∧ τ.2.2.2.2.1 a + 1 = r) →
    (∀ x4 x5 : Option aA, aw l E T_lift (d + 2) 78 [some (rV (2 * T + 5)), some (iV (v : Int)), some (iV (tf (F ∨ rnF Pn τ.2.1 τ.2.2.1 r a h))), some (iV (rd : Int)), x4, x5, none] [] (S, rwG T g v (rnH Pn τ.2.1 τ.2.2.1 r a h), u) P) →
    aw l E T_lift (d + 2) 32 [some (rV (2 * T + 5)), some (iV (v : Int)), some (iV (tf F)), some (iV (rd : Int)), some (iV x), some (iV (s : Int)), none] [] (S, rwG T g v h, u) P := by
  intro r
  have hp6 := wx_P hW
  have ht2 := hw.2.1
  induction r with
  | zero =>
    intro a s h F x hs hx hK
    have e8 : rwG T g v h (2 * T + 8) v = (D : Int) := by rw [rwG_ne (by omega)]; exact h8
    refine aw_il5 T_lift_32 ?_
    refine aw_al0 T_lift_34 ?_
    refine aw_gr (wx_r2_4 hW) T_lift_35 (wx_o2 hW) ?_
    refine aw_il1 T_lift_38 ?_
    refine aw_ia T_lift_39 (wx_a_tdep hW) (by first | rfl | assumption) (by omega) ?_
    refine aw_cge T_lift_40 (fun h40 => ?_) (fun h40 => ?_)
    · skip
      have hk := hK (some (iV x)) (some (iV (s : Int)))
      rw [tfE (show (F ∨ rnF Pn τ.2.1 τ.2.2.1 0 a h) ↔ F from ⟨fun z => z.elim id (fun f => f.elim), Or.inl⟩)] at hk
      exact hk
    · skip
      omega
  | succ r ih =>
    intro a s h F x hs hx hK
    obtain ⟨rfl, ha, hda⟩ := hx (by omega)
    have e8 : rwG T g v h (2 * T + 8) v = (D : Int) := by rw [rwG_ne (by omega)]; exact h8
    have e10 : rwG T g v h 1 0 = (Pn : Int) := by rw [rwG_ne (by omega)]; exact h10
    refine aw_il5 T_lift_32 ?_
    refine aw_al0 T_lift_34 ?_
    refine aw_gr (wx_r2_4 hW) T_lift_35 (wx_o2 hW) ?_
    refine aw_il1 T_lift_38 ?_
    refine aw_ia T_lift_39 (wx_a_tdep hW) (by first | rfl | assumption) (by omega) ?_
    refine aw_cge T_lift_40 (fun h40 => ?_) (fun h40 => ?_)
    · skip
      omega
    · skip
      refine aw_il2 T_lift_43 ?_
      refine aw_al0 T_lift_44 ?_
      refine aw_al0 T_lift_45 ?_
      refine aw_gr (wx_r2_1 hW) T_lift_46 (wx_o2 hW) ?_
      refine aw_il4 T_lift_49 ?_
      refine aw_aa T_lift_51 (wx_a_tmarks hW) (by first | rfl | assumption) (by omega) (wx_rr_tmarks hW (by omega)) ?_
      refine aw_al0 T_lift_52 ?_
      refine aw_gr (wx_r2_1 hW) T_lift_53 (wx_o2 hW) ?_
      refine aw_il1 T_lift_56 ?_
      refine aw_aa T_lift_57 (wx_a_tmarks hW) (by first | rfl | assumption) (by omega) (wx_rr_tmarks hW (by omega)) ?_
      refine aw_V2 T_lift_58 rfl rfl rfl rfl (wx_o2 hW) ?_
      refine c_liftOver hW (wx_ra_tmarks hW (by omega)) (wx_ra_tmarks hW (by omega)) (by omega) (by omega) e10 ?_
      show aw _ _ _ _ _ _ _ _ _
      rw [rwG_lo (by omega : a ≠ v), loC h (fun p hp => hR.1 a ha p hp), rwG_at, rwG_ne (by omega : 2 * T + 12 + a ≠ 2 * T + 12 + v), tfE (flC h (fun p hp => hR.1 a ha p hp))]
      refine aw_ior T_lift_61 (ok_tf _) tfor ?_
      refine aw_is2 T_lift_62 ?_
      refine aw_al0 T_lift_63 ?_
      refine aw_gr (wx_r2_2 hW) T_lift_64 (wx_o2 hW) ?_
      refine aw_il4 T_lift_67 ?_
      refine aw_ia T_lift_69 (wx_a_tpar hW) (by first | rfl | assumption) (by omega) ?_
      refine aw_is4 T_lift_70 ?_
      refine aw_ip5 T_lift_72 (by omega) ?_
      refine aw_go T_lift_75 ?_
      refine ih (τ.2.2.1 a) (s + 1) (lo Pn (τ.2.1 a) h) (F ∨ fl Pn (τ.2.1 a) h) _ (by omega) (fun hr => ?_) (fun x4 x5 => ?_)
      · have ha0 : 0 < a := by
          rcases Nat.eq_zero_or_pos a with z | z
          · rw [z, hw.2.2.1] at hda; omega
          · exact z
        obtain ⟨z1, z2⟩ := hw.2.2.2.1 a ha0 ha
        rw [rwG_ne (by omega)]
        exact ⟨(hR.2.2.2.1 a ha0 ha).1, by omega, by omega⟩
      · have hk := hK x4 x5
        rw [tfE (show (F ∨ rnF Pn τ.2.1 τ.2.2.1 (r + 1) a h) ↔ ((F ∨ fl Pn (τ.2.1 a) h) ∨ rnF Pn τ.2.1 τ.2.2.1 r (τ.2.2.1 a) (lo Pn (τ.2.1 a) h)) from or_assoc.symm)] at hk
        exact hk
theorem c_lift_ex {v rd : Nat} {h : Nat → Int} {x4 x5 : Option aA} (hP : P (.inl none) (S, rwG T g v h, u)) : aw l E T_lift (d + 2) 4 [some (rV (2 * T + 5)), some (iV (v : Int)), some (iV 0), some (iV (rd : Int)), x4, x5, none] [] (S, rwG T g v h, u) P := by
  refine aw_il2 T_lift_4 ?_
  refine aw_zeq T_lift_5 (fun h5 => ?_) (fun h5 => ?_)
  · skip
    refine aw_retv T_lift_84 rfl ?_
    exact hP
  · skip
    omega
theorem c_lift_out {v D a0 : Nat} {τ : Tz} {zz : Int} (hW : WX S Pn T) (hv : v < 200) (hw : WT Pn τ) (hR : RCz Pn T g τ zz) (hv2 : τ.1 ≤ v) (h10 : g 1 0 = (Pn : Int)) (h8 : g (2 * T + 8) v = (D : Int)) (hD : D ≤ 1000) (ha0 : a0 < τ.1) (hDa : τ.2.2.2.2.1 a0 + 1 = D) (h6 : g (2 * T + 6) v = (a0 : Int)) : ∀ (f : Nat) (h : Nat → Int) (rd : Nat), rd + f = Pn + 1 → P (.inl none) (S, rwG T g v (liH Pn τ.2.1 τ.2.2.1 D a0 f h), u) → ∀ x4 x5 : Option aA, aw l E T_lift (d + 2) 4 [some (rV (2 * T + 5)), some (iV (v : Int)), some (iV 1), some (iV (rd : Int)), x4, x5, none] [] (S, rwG T g v h, u) P := by
  intro f
  have hp6 := wx_P hW
  induction f with
  | zero =>
    intro h rd hr hP x4 x5
    have e10 : rwG T g v h 1 0 = (Pn : Int) := by rw [rwG_ne (by omega)]; exact h10
    refine aw_il2 T_lift_4 ?_
    refine aw_zeq T_lift_5 (fun h5 => ?_) (fun h5 => ?_)
    · skip
      refine aw_retv T_lift_84 rfl ?_
      omega
    · skip
      refine aw_il3 T_lift_8 ?_
      refine aw_al0 T_lift_9 ?_
      refine aw_gr (wx_r2_0 hW) T_lift_10 (wx_o2 hW) ?_
      refine aw_gi T_lift_13 (wx_o1 hW) ?_
      refine aw_cgt T_lift_16 (fun h16 => ?_) (fun h16 => ?_)
      · skip
        refine aw_retv T_lift_84 rfl ?_
        exact hP
      · skip
        omega
  | succ f ih =>
    intro h rd hr hP x4 x5
    have e10 : rwG T g v h 1 0 = (Pn : Int) := by rw [rwG_ne (by omega)]; exact h10
    have e6 : rwG T g v h (2 * T + 6) v = (a0 : Int) := by rw [rwG_ne (by omega)]; exact h6
    refine aw_il2 T_lift_4 ?_
    refine aw_zeq T_lift_5 (fun h5 => ?_) (fun h5 => ?_)
    · skip
      refine aw_retv T_lift_84 rfl ?_
      omega
    · skip
      refine aw_il3 T_lift_8 ?_
      refine aw_al0 T_lift_9 ?_
      refine aw_gr (wx_r2_0 hW) T_lift_10 (wx_o2 hW) ?_
      refine aw_gi T_lift_13 (wx_o1 hW) ?_
      refine aw_cgt T_lift_16 (fun h16 => ?_) (fun h16 => ?_)
      · skip
        refine aw_retv T_lift_84 rfl ?_
        omega
      · skip
        refine aw_c T_lift_19 ?_
        refine aw_is2 T_lift_20 ?_
        refine aw_al0 T_lift_21 ?_
        refine aw_gr (wx_r2_2 hW) T_lift_22 (wx_o2 hW) ?_
        refine aw_il1 T_lift_25 ?_
        refine aw_ia T_lift_26 (wx_a_tpar hW) (by first | rfl | assumption) (by omega) ?_
        refine aw_is4 T_lift_27 ?_
        refine aw_c T_lift_29 ?_
        refine aw_is5 T_lift_30 ?_
        have hk := c_lift_in (l := l) (E := E) (d := d) (u := u) (P := P) (rd := rd) hW hv hw hR hv2 h10 h8 hD D a0 0 h False (rwG T g v h (2 * T + 6) v) (by omega) (fun _ => ⟨e6, ha0, hDa⟩) ?_
        · rw [show tf False = 0 from cI_n id] at hk
          exact hk
        · intro x4 x5
          refine aw_ip3 T_lift_78 (by omega) ?_
          refine aw_go T_lift_81 ?_
          by_cases hF : rnF Pn τ.2.1 τ.2.2.1 D a0 h
          · rw [show tf (False ∨ rnF Pn τ.2.1 τ.2.2.1 D a0 h) = 1 from cI_p (Or.inr hF)]
            refine ih _ (rd + 1) (by omega) ?_ x4 x5
            rw [show liH Pn τ.2.1 τ.2.2.1 D a0 (f + 1) h = liH Pn τ.2.1 τ.2.2.1 D a0 f (rnH Pn τ.2.1 τ.2.2.1 D a0 h) from cI_p hF] at hP
            exact hP
          · rw [show tf (False ∨ rnF Pn τ.2.1 τ.2.2.1 D a0 h) = 0 from cI_n (fun z => z.elim id hF)]
            rw [show liH Pn τ.2.1 τ.2.2.1 D a0 (f + 1) h = rnH Pn τ.2.1 τ.2.2.1 D a0 h from cI_n hF] at hP
            exact c_lift_ex hP
theorem c_lift {v D a0 : Nat} {τ : Tz} {zz : Int} (hW : WX S Pn T) (hv : v < 200) (hw : WT Pn τ) (hR : RCz Pn T g τ zz) (hv2 : τ.1 ≤ v) (h10 : g 1 0 = (Pn : Int)) (h8 : g (2 * T + 8) v = (D : Int)) (hD : D ≤ 1000) (ha0 : a0 < τ.1) (hDa : τ.2.2.2.2.1 a0 + 1 = D) (h6 : g (2 * T + 6) v = (a0 : Int)) (hP : P (.inl none) (S, rwG T g v (liH Pn τ.2.1 τ.2.2.1 D a0 (Pn + 1) (g (2 * T + 12 + v))), u)) : Sp l E T_lift (d + 2) [rV (2 * T + 5), iV (v : Int)] (S, g, u) P := by
  show aw l E T_lift (d + 2) 0 [some (rV (2 * T + 5)), some (iV (v : Int)), none, none, none, none, none] [] (S, g, u) P
  refine aw_c T_lift_0 ?_
  refine aw_is2 T_lift_1 ?_
  refine aw_c T_lift_2 ?_
  refine aw_is3 T_lift_3 ?_
  have hk := c_lift_out (l := l) (E := E) (d := d) (u := u) (P := P) hW hv hw hR hv2 h10 h8 hD ha0 hDa h6 (Pn + 1) (g (2 * T + 12 + v)) 0 (by omega) hP none none
  rw [rwG_self] at hk
  exact hk
theorem c_rep_lp {n : Nat} {τ : Tz} (hW : WX S Pn T) (hw : WT Pn τ) (hR : RC Pn T g τ) (hn : n < τ.1) (hP : P (.inl (some (iV (tf (repT Pn τ n))))) (S, g, u)) : ∀ (r a s : Nat) (x : Int), s + r = τ.2.2.2.2.1 n → (0 < r → x = (a : Int) ∧ a < τ.1 ∧ τ.2.2.2.2.1 a + 1 = r) → (repT Pn τ n ↔ rpT Pn τ.2.1 τ.2.2.1 r a (τ.2.1 n)) → aw l E T_repeatsOneAbove (d + 2) 9 [some (rV (2 * T + 5)), some (iV (n : Int)), some (iV x), some (iV (s : Int)), none, none, none] [] (S, g, u) P := by
  intro r
  have hp6 := wx_P hW
  have ht2 := hw.2.1
  have hdn := WT_dp hw n hn
  have e8 := hR.2.2.2.2.1 n hn
  induction r with
  | zero =>
    intro a s x hs hx hi
    refine aw_il3 T_repeatsOneAbove_9 ?_
    refine aw_al0 T_repeatsOneAbove_10 ?_
    refine aw_gr (wx_r2_4 hW) T_repeatsOneAbove_11 (wx_o2 hW) ?_
    refine aw_il1 T_repeatsOneAbove_14 ?_
    refine aw_ia T_repeatsOneAbove_15 (wx_a_tdep hW) (by first | rfl | assumption) (by omega) ?_
    refine aw_cge T_repeatsOneAbove_16 (fun h16 => ?_) (fun h16 => ?_)
    · skip
      refine aw_c T_repeatsOneAbove_52 ?_
      refine aw_reti T_repeatsOneAbove_53 (Or.inr ⟨rfl, (by first | exact Or.inl rfl | exact Or.inr rfl | assumption)⟩) ?_
      rw [show tf (repT Pn τ n) = 0 from cI_n (fun z => hi.mp z)] at hP
      exact hP
    · skip
      omega
  | succ r ih =>
    intro a s x hs hx hi
    obtain ⟨rfl, ha, hda⟩ := hx (by omega)
    have hsm : (bl Pn (g (2 * T + 12 + a)) (g (2 * T + 12 + n)) ∧ bl Pn (g (2 * T + 12 + n)) (g (2 * T + 12 + a))) ↔ (bl Pn (τ.2.1 a) (τ.2.1 n) ∧ bl Pn (τ.2.1 n) (τ.2.1 a)) := and_congr (blC (hR.1 a ha) (hR.1 n hn)) (blC (hR.1 n hn) (hR.1 a ha))
    refine aw_il3 T_repeatsOneAbove_9 ?_
    refine aw_al0 T_repeatsOneAbove_10 ?_
    refine aw_gr (wx_r2_4 hW) T_repeatsOneAbove_11 (wx_o2 hW) ?_
    refine aw_il1 T_repeatsOneAbove_14 ?_
    refine aw_ia T_repeatsOneAbove_15 (wx_a_tdep hW) (by first | rfl | assumption) (by omega) ?_
    refine aw_cge T_repeatsOneAbove_16 (fun h16 => ?_) (fun h16 => ?_)
    · skip
      omega
    · skip
      refine aw_al0 T_repeatsOneAbove_19 ?_
      refine aw_gr (wx_r2_1 hW) T_repeatsOneAbove_20 (wx_o2 hW) ?_
      refine aw_il2 T_repeatsOneAbove_23 ?_
      refine aw_aa T_repeatsOneAbove_24 (wx_a_tmarks hW) (by first | rfl | assumption) (by omega) (wx_rr_tmarks hW (by omega)) ?_
      refine aw_al0 T_repeatsOneAbove_25 ?_
      refine aw_gr (wx_r2_1 hW) T_repeatsOneAbove_26 (wx_o2 hW) ?_
      refine aw_il1 T_repeatsOneAbove_29 ?_
      refine aw_aa T_repeatsOneAbove_30 (wx_a_tmarks hW) (by first | rfl | assumption) (by omega) (wx_rr_tmarks hW (by omega)) ?_
      refine aw_S2 T_repeatsOneAbove_31 rfl rfl rfl rfl ?_
      refine c_isSame (wx_ra_tmarks hW (by omega)) (wx_ra_tmarks hW (by omega)) (by omega) ?_
      show aw _ _ _ _ _ _ _ _ _
      refine aw_zeq T_repeatsOneAbove_34 (fun h34 => ?_) (fun h34 => ?_)
      · skip
        refine aw_al0 T_repeatsOneAbove_39 ?_
        refine aw_gr (wx_r2_2 hW) T_repeatsOneAbove_40 (wx_o2 hW) ?_
        refine aw_il2 T_repeatsOneAbove_43 ?_
        refine aw_ia T_repeatsOneAbove_44 (wx_a_tpar hW) (by first | rfl | assumption) (by omega) ?_
        refine aw_is2 T_repeatsOneAbove_45 ?_
        refine aw_ip3 T_repeatsOneAbove_46 (by omega) ?_
        refine aw_go T_repeatsOneAbove_49 ?_
        refine ih (τ.2.2.1 a) (s + 1) _ (by omega) (fun hr => ?_) ?_
        · have ha0 : 0 < a := by
            rcases Nat.eq_zero_or_pos a with z | z
            · rw [z, hw.2.2.1] at hda; omega
            · exact z
          obtain ⟨z1, z2⟩ := hw.2.2.2.1 a ha0 ha
          exact ⟨(hR.2.2.2.1 a ha0 ha).1, by omega, by omega⟩
        · rw [hi]
          exact ⟨fun z => z.elim (fun f => absurd (hsm.mpr f) (iz h34)) id, Or.inr⟩
      · skip
        refine aw_c T_repeatsOneAbove_37 ?_
        refine aw_reti T_repeatsOneAbove_38 (Or.inr ⟨rfl, (by first | exact Or.inl rfl | exact Or.inr rfl | assumption)⟩) ?_
        rw [show tf (repT Pn τ n) = 1 from cI_p (hi.mpr (Or.inl (hsm.mp (nz h34))))] at hP
        exact hP
theorem c_rep {n : Nat} {τ : Tz} (hW : WX S Pn T) (hw : WT Pn τ) (hR : RC Pn T g τ) (hn : n < τ.1) (hP : P (.inl (some (iV (tf (repT Pn τ n))))) (S, g, u)) : Sp l E T_repeatsOneAbove (d + 2) [rV (2 * T + 5), iV (n : Int)] (S, g, u) P := by
  have ht2 := hw.2.1
  show aw l E T_repeatsOneAbove (d + 2) 0 [some (rV (2 * T + 5)), some (iV (n : Int)), none, none, none, none, none] [] (S, g, u) P
  refine aw_al0 T_repeatsOneAbove_0 ?_
  refine aw_gr (wx_r2_2 hW) T_repeatsOneAbove_1 (wx_o2 hW) ?_
  refine aw_il1 T_repeatsOneAbove_4 ?_
  refine aw_ia T_repeatsOneAbove_5 (wx_a_tpar hW) (by first | rfl | assumption) (by omega) ?_
  refine aw_is2 T_repeatsOneAbove_6 ?_
  refine aw_c T_repeatsOneAbove_7 ?_
  refine aw_is3 T_repeatsOneAbove_8 ?_
  exact c_rep_lp hW hw hR hn hP (τ.2.2.2.2.1 n) (τ.2.2.1 n) 0 _ (by omega) (fun hr => by
    have hn0 : 0 < n := by
      rcases Nat.eq_zero_or_pos n with z | z
      · rw [z, hw.2.2.1] at hr; omega
      · exact z
    obtain ⟨z1, z2⟩ := hw.2.2.2.1 n hn0 hn
    exact ⟨(hR.2.2.2.1 n hn0 hn).1, by omega, by omega⟩) Iff.rfl
end MT
end
section
section MU
variable {l : Launch} {E : aE} {d : Nat} {S : aS} {g : aG} {u : aU} {P : aP} {Pn T : Nat} {nd gv : Nat → Nat → Int} {fs : Nat → Int}
/-- the net's cells hold nd, gv, fs -/
def NX (Pn T : Nat) (g : aG) (nd gv : Nat → Nat → Int) (fs : Nat → Int) : Prop := g 1 0 = (Pn : Int) ∧ g 1 1 = (T : Int) ∧ (∀ t, t < T → ∀ p, p < Pn → g (3 + t) p = nd t p ∧ g (T + 4 + t) p = gv t p) ∧ ∀ p, p < Pn → g (2 * T + 4) p = fs p
def BX (Pn T : Nat) (nd gv : Nat → Nat → Int) (fs : Nat → Int) : Prop := (∀ t, t < T → ∀ p, p < Pn → 0 ≤ nd t p ∧ nd t p ≤ 9 ∧ 0 ≤ gv t p ∧ gv t p ≤ 9) ∧ ∀ p, p < Pn → 0 ≤ fs p ∧ fs p ≤ 100
theorem NX_lo {g' : aG} (h : NX Pn T g nd gv fs) (hT : 1 ≤ T) (hg : ∀ a b, a < 2 * T + 5 → g' a b = g a b) : NX Pn T g' nd gv fs := by
  obtain ⟨h1, h2, h3, h4⟩ := h
  refine ⟨(hg _ _ (by omega)).trans h1, (hg _ _ (by omega)).trans h2, fun t ht p hp => ?_, fun p hp => (hg _ _ (by omega)).trans (h4 p hp)⟩
  obtain ⟨z1, z2⟩ := h3 t ht p hp
  exact ⟨(hg _ _ (by omega)).trans z1, (hg _ _ (by omega)).trans z2⟩
/-- nothing but nodes has changed -/
def FT (T : Nat) (g g' : aG) : Prop := ∀ a b, (a < 2 * T + 5 ∨ (a = 2 * T + 5 ∧ b ≠ 7) ∨ a = 2 * T + 9 ∨ a = 2 * T + 10 ∨ 2 * T + 212 ≤ a) → g' a b = g a b
theorem FT.rf (T : Nat) (g : aG) : FT T g g := fun _ _ _ => rfl
theorem FT.tr {T : Nat} {g g' g'' : aG} (h : FT T g g') (h' : FT T g' g'') : FT T g g'' := fun a b z => (h' a b z).trans (h a b z)
theorem mvk_ne {g : aG} {fr to n v k a b : Nat} (h : a ≠ to) : mvk g fr to n v k a b = g a b := if_neg (fun z => h z.1)
theorem RC_add {G : aG} {τ : Tz} {n t : Nat} (hw : WT Pn τ) (hR : RC Pn T g τ) (hn : n < τ.1) (hN : NX Pn T g nd gv fs) (ht : t < T) (hs : τ.1 < 200)
    (a1 : ∀ a b, ¬ (a = 2 * T + 5 ∧ b = 7) → ¬ (a = 2 * T + 6 ∧ b = τ.1) → ¬ (a = 2 * T + 7 ∧ b = τ.1) → ¬ (a = 2 * T + 8 ∧ b = τ.1) → G a b = g a b) (a2 : G (2 * T + 5) 7 = (τ.1 : Int) + 1) (a3 : G (2 * T + 6) τ.1 = (n : Int)) (a4 : G (2 * T + 7) τ.1 = (t : Int)) (a5 : G (2 * T + 8) τ.1 = (τ.2.2.2.2.1 n : Int) + 1) :
    RCz Pn T (mvk G (2 * T + 12 + n) (2 * T + 12 + τ.1) (3 + t) (T + 4 + t) Pn) τ ((τ.1 : Int) + 1) ∧
    RC Pn T (rwG T (mvk G (2 * T + 12 + n) (2 * T + 12 + τ.1) (3 + t) (T + 4 + t) Pn) τ.1 (liH Pn τ.2.1 τ.2.2.1 (τ.2.2.2.2.1 n + 1) n (Pn + 1) (mvk G (2 * T + 12 + n) (2 * T + 12 + τ.1) (3 + t) (T + 4 + t) Pn (2 * T + 12 + τ.1)))) (addT τ n t (newT Pn nd gv τ n t)) ∧
    FT T g (rwG T (mvk G (2 * T + 12 + n) (2 * T + 12 + τ.1) (3 + t) (T + 4 + t) Pn) τ.1 (liH Pn τ.2.1 τ.2.2.1 (τ.2.2.2.2.1 n + 1) n (Pn + 1) (mvk G (2 * T + 12 + n) (2 * T + 12 + τ.1) (3 + t) (T + 4 + t) Pn (2 * T + 12 + τ.1)))) := by
  obtain ⟨r1, r2, r3, r4, r5, r6⟩ := hR
  have hw1 := hw.1
  have hrow : ∀ p, p < Pn → mvk G (2 * T + 12 + n) (2 * T + 12 + τ.1) (3 + t) (T + 4 + t) Pn (2 * T + 12 + τ.1) p = mv (τ.2.1 n p) (nd t p) (gv t p) := by
    intro p hp
    obtain ⟨z1, z2⟩ := hN.2.2.1 t ht p hp
    rw [show mvk G (2 * T + 12 + n) (2 * T + 12 + τ.1) (3 + t) (T + 4 + t) Pn (2 * T + 12 + τ.1) p = mv (G (2 * T + 12 + n) p) (G (3 + t) p) (G (T + 4 + t) p) from if_pos ⟨rfl, hp⟩,
      a1 (2 * T + 12 + n) p (by omega) (by omega) (by omega) (by omega), a1 (3 + t) p (by omega) (by omega) (by omega) (by omega), a1 (T + 4 + t) p (by omega) (by omega) (by omega) (by omega), r1 n hn p hp, z1, z2]
  have old : ∀ a b, a ≠ 2 * T + 12 + τ.1 → rwG T (mvk G (2 * T + 12 + n) (2 * T + 12 + τ.1) (3 + t) (T + 4 + t) Pn) τ.1 (liH Pn τ.2.1 τ.2.2.1 (τ.2.2.2.2.1 n + 1) n (Pn + 1) (mvk G (2 * T + 12 + n) (2 * T + 12 + τ.1) (3 + t) (T + 4 + t) Pn (2 * T + 12 + τ.1))) a b = G a b := fun a b h => by
    rw [rwG_ne h, mvk_ne h]
  refine ⟨⟨fun k hk p hp => ?_, ?_, ?_, fun k h0 hk => ?_, fun k hk => ?_, ?_⟩, ⟨fun k hk p hp => ?_, ?_, ?_, fun k h0 hk => ?_, fun k hk => ?_, ?_⟩, fun a b hab => ?_⟩
  · rw [mvk_ne (by omega), a1 _ _ (by omega) (by omega) (by omega) (by omega)]; exact r1 k hk p hp
  · rw [mvk_ne (by omega), a1 _ _ (by omega) (by omega) (by omega) (by omega)]; exact r2
  · rw [mvk_ne (by omega), a1 _ _ (by omega) (by omega) (by omega) (by omega)]; exact r3
  · rw [mvk_ne (by omega), mvk_ne (by omega), a1 _ _ (by omega) (by omega) (by omega) (by omega), a1 _ _ (by omega) (by omega) (by omega) (by omega)]; exact r4 k h0 hk
  · rw [mvk_ne (by omega), a1 _ _ (by omega) (by omega) (by omega) (by omega)]; exact r5 k hk
  · rw [mvk_ne (by omega)]; exact a2
  · have hk' : k < τ.1 + 1 := hk
    show _ = (if k = τ.1 then newT Pn nd gv τ n t else τ.2.1 k) p
    by_cases e : k = τ.1
    · rw [if_pos e, e, rwG_at]
      exact li_cong (Pn + 1) _ _ hrow p hp
    · rw [if_neg e, old _ _ (by omega), a1 _ _ (by omega) (by omega) (by omega) (by omega)]
      exact r1 k (by omega) p hp
  · rw [old _ _ (by omega), a1 _ _ (by omega) (by omega) (by omega) (by omega)]; exact r2
  · rw [old _ _ (by omega), a1 _ _ (by omega) (by omega) (by omega) (by omega)]; exact r3
  · have hk' : k < τ.1 + 1 := hk
    show _ = (((if k = τ.1 then n else τ.2.2.1 k : Nat)) : Int) ∧ _ = (((if k = τ.1 then t else τ.2.2.2.1 k : Nat)) : Int)
    rw [old _ _ (by omega), old _ _ (by omega)]
    by_cases e : k = τ.1
    · rw [if_pos e, if_pos e, e]; exact ⟨a3, a4⟩
    · rw [if_neg e, if_neg e, a1 _ _ (by omega) (by omega) (by omega) (by omega), a1 _ _ (by omega) (by omega) (by omega) (by omega)]
      exact r4 k h0 (by omega)
  · have hk' : k < τ.1 + 1 := hk
    show _ = (((if k = τ.1 then τ.2.2.2.2.1 n + 1 else τ.2.2.2.2.1 k : Nat)) : Int)
    rw [old _ _ (by omega)]
    by_cases e : k = τ.1
    · rw [if_pos e, e]; exact a5
    · rw [if_neg e, a1 _ _ (by omega) (by omega) (by omega) (by omega)]
      exact r5 k (by omega)
  · rw [old _ _ (by omega)]; exact a2
  · rw [old _ _ (by omega)]
    exact a1 _ _ (by omega) (by omega) (by omega) (by omega)
theorem c_addNode {n t : Nat} {τ : Tz} (hW : WX S Pn T) (hN : NX Pn T g nd gv fs) (hB : BX Pn T nd gv fs) (hw : WT Pn τ) (hR : RC Pn T g τ) (hn : n < τ.1) (hs : τ.1 < 200) (ht : t < T) (hP : ∀ g', RC Pn T g' (addT τ n t (newT Pn nd gv τ n t)) → FT T g g' → P (.inl none) (S, g', u)) : Sp l E T_addNode (d + 3) [rV (2 * T + 5), iV (n : Int), iV (t : Int)] (S, g, u) P := by
  have hp6 := wx_P hW
  have hT8 := wx_T hW
  have hsz : g (2 * T + 5) 7 = (τ.1 : Int) := hR.2.2.2.2.2
  have hdn := WT_dp hw n hn
  have e38 : (upA (upA (upA g (2 * T + 5) 7 (g (2 * T + 5) 7 + 1)) (2 * T + 6) τ.1 (n : Int)) (2 * T + 7) τ.1 (t : Int)) (2 * T + 8) n = (τ.2.2.2.2.1 n : Int) := by
    rw [← hR.2.2.2.2.1 n hn]; simp only [upA]; (repeat' split) <;> first | rfl | omega
  show aw l E T_addNode (d + 3) 0 [some (rV (2 * T + 5)), some (iV (n : Int)), some (iV (t : Int)), none, none, none, none] [] (S, g, u) P
  refine aw_al0 T_addNode_0 ?_
  refine aw_gi T_addNode_1 (wx_o2 hW) ?_
  refine aw_is3 T_addNode_4 ?_
  refine aw_al0 T_addNode_5 ?_
  refine aw_dup T_addNode_6 ?_
  refine aw_gi T_addNode_7 (wx_o2 hW) ?_
  refine aw_c T_addNode_10 ?_
  refine aw_add T_addNode_11 (by constructor <;> omega) ?_
  refine aw_pi T_addNode_12 (wx_o2 hW) ?_
  refine aw_al0 T_addNode_15 ?_
  refine aw_gr (wx_r2_2 hW) T_addNode_16 (wx_o2 hW) ?_
  refine aw_il3 T_addNode_19 ?_
  refine aw_il1 T_addNode_20 ?_
  refine aw_iast T_addNode_21 (wx_a_tpar hW) (by first | rfl | assumption) (by omega) ?_
  refine aw_al0 T_addNode_22 ?_
  refine aw_gr (wx_r2_3 hW) T_addNode_23 (wx_o2 hW) ?_
  refine aw_il3 T_addNode_26 ?_
  refine aw_il2 T_addNode_27 ?_
  refine aw_iast T_addNode_28 (wx_a_ttra hW) (by first | rfl | assumption) (by omega) ?_
  refine aw_al0 T_addNode_29 ?_
  refine aw_gr (wx_r2_4 hW) T_addNode_30 (wx_o2 hW) ?_
  refine aw_il3 T_addNode_33 ?_
  refine aw_al0 T_addNode_34 ?_
  refine aw_gr (wx_r2_4 hW) T_addNode_35 (wx_o2 hW) ?_
  refine aw_il1 T_addNode_38 ?_
  refine aw_ia T_addNode_39 (wx_a_tdep hW) (by first | rfl | assumption) (by omega) ?_
  refine aw_c T_addNode_40 ?_
  refine aw_add T_addNode_41 (by constructor <;> omega) ?_
  refine aw_iast T_addNode_42 (wx_a_tdep hW) (by first | rfl | assumption) (by omega) ?_
  have b1 : ∀ a b, ¬ (a = 2 * T + 5 ∧ b = 7) → ¬ (a = 2 * T + 6 ∧ b = τ.1) → ¬ (a = 2 * T + 7 ∧ b = τ.1) → ¬ (a = 2 * T + 8 ∧ b = τ.1) → (upA (upA (upA (upA g (2 * T + 5) 7 (g (2 * T + 5) 7 + 1)) (2 * T + 6) τ.1 (n : Int)) (2 * T + 7) τ.1 (t : Int)) (2 * T + 8) τ.1 ((upA (upA (upA g (2 * T + 5) 7 (g (2 * T + 5) 7 + 1)) (2 * T + 6) τ.1 (n : Int)) (2 * T + 7) τ.1 (t : Int)) (2 * T + 8) n + 1)) a b = g a b := by
    intro a b h1 h2 h3 h4
    simp only [upA]; (repeat' split) <;> first | rfl | omega
  have b2 : (upA (upA (upA (upA g (2 * T + 5) 7 (g (2 * T + 5) 7 + 1)) (2 * T + 6) τ.1 (n : Int)) (2 * T + 7) τ.1 (t : Int)) (2 * T + 8) τ.1 ((upA (upA (upA g (2 * T + 5) 7 (g (2 * T + 5) 7 + 1)) (2 * T + 6) τ.1 (n : Int)) (2 * T + 7) τ.1 (t : Int)) (2 * T + 8) n + 1)) (2 * T + 5) 7 = (τ.1 : Int) + 1 := by
    rw [upA_ne (by omega), upA_ne (by omega), upA_ne (by omega), upA_eq, hsz]
  have b3 : (upA (upA (upA (upA g (2 * T + 5) 7 (g (2 * T + 5) 7 + 1)) (2 * T + 6) τ.1 (n : Int)) (2 * T + 7) τ.1 (t : Int)) (2 * T + 8) τ.1 ((upA (upA (upA g (2 * T + 5) 7 (g (2 * T + 5) 7 + 1)) (2 * T + 6) τ.1 (n : Int)) (2 * T + 7) τ.1 (t : Int)) (2 * T + 8) n + 1)) (2 * T + 6) τ.1 = (n : Int) := by
    rw [upA_ne (by omega), upA_ne (by omega), upA_eq]
  have b4 : (upA (upA (upA (upA g (2 * T + 5) 7 (g (2 * T + 5) 7 + 1)) (2 * T + 6) τ.1 (n : Int)) (2 * T + 7) τ.1 (t : Int)) (2 * T + 8) τ.1 ((upA (upA (upA g (2 * T + 5) 7 (g (2 * T + 5) 7 + 1)) (2 * T + 6) τ.1 (n : Int)) (2 * T + 7) τ.1 (t : Int)) (2 * T + 8) n + 1)) (2 * T + 7) τ.1 = (t : Int) := by
    rw [upA_ne (by omega), upA_eq]
  have b5 : (upA (upA (upA (upA g (2 * T + 5) 7 (g (2 * T + 5) 7 + 1)) (2 * T + 6) τ.1 (n : Int)) (2 * T + 7) τ.1 (t : Int)) (2 * T + 8) τ.1 ((upA (upA (upA g (2 * T + 5) 7 (g (2 * T + 5) 7 + 1)) (2 * T + 6) τ.1 (n : Int)) (2 * T + 7) τ.1 (t : Int)) (2 * T + 8) n + 1)) (2 * T + 8) τ.1 = (τ.2.2.2.2.1 n : Int) + 1 := by
    rw [← e38]; exact upA_eq _ _ _ _
  generalize upA (upA (upA (upA g (2 * T + 5) 7 (g (2 * T + 5) 7 + 1)) (2 * T + 6) τ.1 (n : Int)) (2 * T + 7) τ.1 (t : Int)) (2 * T + 8) τ.1 ((upA (upA (upA g (2 * T + 5) 7 (g (2 * T + 5) 7 + 1)) (2 * T + 6) τ.1 (n : Int)) (2 * T + 7) τ.1 (t : Int)) (2 * T + 8) n + 1) = G at b1 b2 b3 b4 b5 ⊢
  obtain ⟨k1, k2, k3⟩ := RC_add hw hR hn hN ht hs b1 b2 b3 b4 b5
  have hbd : ∀ p, p < Pn → 0 ≤ G (2 * T + 12 + n) p ∧ G (2 * T + 12 + n) p ≤ 1000000000 := fun p hp => by
    rw [b1 _ _ (by omega) (by omega) (by omega) (by omega), hR.1 n hn p hp]
    have := hw.2.2.2.2 n hn p hp
    have := hw.2.1
    omega
  have hb2 : ∀ p, p < Pn → 0 ≤ G (3 + t) p ∧ G (3 + t) p ≤ 9 := fun p hp => by
    rw [b1 _ _ (by omega) (by omega) (by omega) (by omega), (hN.2.2.1 t ht p hp).1]
    have := hB.1 t ht p hp
    omega
  have hb3 : ∀ p, p < Pn → 0 ≤ G (T + 4 + t) p ∧ G (T + 4 + t) p ≤ 9 := fun p hp => by
    rw [b1 _ _ (by omega) (by omega) (by omega) (by omega), (hN.2.2.1 t ht p hp).2]
    have := hB.1 t ht p hp
    omega
  have h10 : G 1 0 = (Pn : Int) := (b1 _ _ (by omega) (by omega) (by omega) (by omega)).trans hN.1
  rw [hsz]
  refine aw_al0 T_addNode_43 ?_
  refine aw_gr (wx_r2_0 hW) T_addNode_44 (wx_o2 hW) ?_
  refine aw_al0 T_addNode_47 ?_
  refine aw_gr (wx_r2_1 hW) T_addNode_48 (wx_o2 hW) ?_
  refine aw_il1 T_addNode_51 ?_
  refine aw_aa T_addNode_52 (wx_a_tmarks hW) (by first | rfl | assumption) (by omega) (wx_rr_tmarks hW (by omega)) ?_
  refine aw_il2 T_addNode_53 ?_
  refine aw_al0 T_addNode_54 ?_
  refine aw_gr (wx_r2_1 hW) T_addNode_55 (wx_o2 hW) ?_
  refine aw_il3 T_addNode_58 ?_
  refine aw_aa T_addNode_59 (wx_a_tmarks hW) (by first | rfl | assumption) (by omega) (wx_rr_tmarks hW (by omega)) ?_
  refine aw_V3 T_addNode_60 rfl rfl rfl rfl rfl (wx_o1 hW) ?_
  refine c_move hW (wx_ra_tmarks hW (by omega)) (wx_ra_tmarks hW (by omega)) ht (by omega) h10 hbd hb2 hb3 ?_
  show aw _ _ _ _ _ _ _ _ _
  refine aw_al0 T_addNode_63 ?_
  refine aw_il3 T_addNode_64 ?_
  refine aw_V1 T_addNode_65 rfl rfl rfl (wx_o2 hW) ?_
  refine c_lift (D := τ.2.2.2.2.1 n + 1) (a0 := n) hW (by omega) hw k1 (Nat.le_refl _) (by rw [mvk_ne (by omega)]; exact h10) (by rw [mvk_ne (by omega)]; exact b5) (by omega) hn rfl (by rw [mvk_ne (by omega)]; exact b3) ?_
  show aw _ _ _ _ _ _ _ _ _
  refine aw_retv T_addNode_68 rfl ?_
  exact hP _ k2 k3
theorem c_branch_lp {n : Nat} {τ : Tz} (hW : WX S Pn T) (hN : NX Pn T g nd gv fs) (hB : BX Pn T nd gv fs) (hw : WT Pn τ) (hn : n < τ.1) (hP : ∀ g', RC Pn T g' (brT Pn nd gv τ n T).2 → FT T g g' → P (.inl (some (iV (tf ((brT Pn nd gv τ n T).1 = true))))) (S, g', u)) : ∀ (m t : Nat) (g' : aG), T - t < m → t ≤ T → (brT Pn nd gv τ n t).1 = true → RC Pn T g' (brT Pn nd gv τ n t).2 → FT T g g' → aw l E T_branch (d + 4) 2 [some (rV (2 * T + 5)), some (iV (n : Int)), some (iV (t : Int)), none, none, none, none] [] (S, g', u) P := by
  intro m
  have hp6 := wx_P hW
  have hT8 := wx_T hW
  induction m with
  | zero => intro t g' h; omega
  | succ m ih =>
    intro t g' hm ht hok hR hF
    have hN' : NX Pn T g' nd gv fs := NX_lo hN (by omega) (fun a b h => hF a b (Or.inl h))
    obtain ⟨hw', hle⟩ := WT_br (nd := nd) (gv := gv) hw hn t (fun k hk p hp => (hB.1 k (by omega) p hp).1) (fun k hk p hp => ⟨(hB.1 k (by omega) p hp).2.2.1, (hB.1 k (by omega) p hp).2.2.2⟩)
    have hn' : n < (brT Pn nd gv τ n t).2.1 := by omega
    have h200 := hw'.2.1
    have e11 : g' 1 1 = (T : Int) := hN'.2.1
    have hsz : g' (2 * T + 5) 7 = ((brT Pn nd gv τ n t).2.1 : Int) := hR.2.2.2.2.2
    have hbl : t < T → (bl Pn (g' (3 + t)) (g' (2 * T + 12 + n)) ↔ bl Pn (nd t) ((brT Pn nd gv τ n t).2.2.1 n)) := fun h => blC (fun p hp => (hN'.2.2.1 t h p hp).1) (hR.1 n hn')
    refine aw_il2 T_branch_2 ?_
    refine aw_al0 T_branch_3 ?_
    refine aw_gr (wx_r2_0 hW) T_branch_4 (wx_o2 hW) ?_
    refine aw_gi T_branch_7 (wx_o1 hW) ?_
    refine aw_cge T_branch_10 (fun h10 => ?_) (fun h10 => ?_)
    · skip
      refine aw_c T_branch_54 ?_
      refine aw_reti T_branch_55 (Or.inr ⟨rfl, (by first | exact Or.inl rfl | exact Or.inr rfl | assumption)⟩) ?_
      have e : t = T := by omega
      subst e
      have hk := hP g' hR hF
      rw [show tf ((brT Pn nd gv τ n t).1 = true) = 1 from cI_p hok] at hk
      exact hk
    · skip
      refine aw_al0 T_branch_13 ?_
      refine aw_gr (wx_r2_0 hW) T_branch_14 (wx_o2 hW) ?_
      refine aw_al0 T_branch_17 ?_
      refine aw_gr (wx_r2_1 hW) T_branch_18 (wx_o2 hW) ?_
      refine aw_il1 T_branch_21 ?_
      refine aw_aa T_branch_22 (wx_a_tmarks hW) (by first | rfl | assumption) (by omega) (wx_rr_tmarks hW (by omega)) ?_
      refine aw_il2 T_branch_23 ?_
      refine aw_V2 T_branch_24 rfl rfl rfl rfl (wx_o1 hW) ?_
      refine c_enables hW (wx_ra_tmarks hW (by omega)) (by omega) ?_
      show aw _ _ _ _ _ _ _ _ _
      refine aw_zeq T_branch_27 (fun h27 => ?_) (fun h27 => ?_)
      · skip
        refine aw_ip2 T_branch_48 (by omega) ?_
        refine aw_go T_branch_51 ?_
        have e : brT Pn nd gv τ n (t + 1) = brT Pn nd gv τ n t := cI_n (fun z => iz h27 ((hbl (by omega)).mpr z.2))
        exact ih (t + 1) g' (by omega) (by omega) (by rw [e]; exact hok) (by rw [e]; exact hR) hF
      · skip
        refine aw_al0 T_branch_30 ?_
        refine aw_gi T_branch_31 (wx_o2 hW) ?_
        refine aw_c T_branch_34 ?_
        refine aw_cne T_branch_37 (fun h37 => ?_) (fun h37 => ?_)
        · skip
          refine aw_al0 T_branch_42 ?_
          refine aw_il1 T_branch_43 ?_
          refine aw_il2 T_branch_44 ?_
          refine aw_V2 T_branch_45 rfl rfl rfl rfl (wx_o2 hW) ?_
          refine c_addNode hW hN' hB hw' hR hn' (by omega) (by omega) (fun g2 hR2 hF2 => ?_)
          show aw _ _ _ _ _ _ _ _ _
          refine aw_ip2 T_branch_48 (by omega) ?_
          refine aw_go T_branch_51 ?_
          have e : brT Pn nd gv τ n (t + 1) = (true, addT (brT Pn nd gv τ n t).2 n t (newT Pn nd gv (brT Pn nd gv τ n t).2 n t)) := (cI_p ⟨hok, (hbl (by omega)).mp (nz h27)⟩).trans (cI_n (by omega))
          refine ih (t + 1) g2 (by omega) (by omega) (by rw [e]) (by rw [e]; exact hR2) (hF.tr hF2)
        · skip
          refine aw_c T_branch_40 ?_
          refine aw_reti T_branch_41 (Or.inr ⟨rfl, (by first | exact Or.inl rfl | exact Or.inr rfl | assumption)⟩) ?_
          have e : brT Pn nd gv τ n (t + 1) = (false, (brT Pn nd gv τ n t).2) := (cI_p ⟨hok, (hbl (by omega)).mp (nz h27)⟩).trans (cI_p (by omega))
          have e2 : brT Pn nd gv τ n T = (false, (brT Pn nd gv τ n t).2) := by
            have := br_false (P := Pn) (nd := nd) (gv := gv) (τ := τ) (n := n) (k := t + 1) (by rw [e]) (T - (t + 1))
            rw [show t + 1 + (T - (t + 1)) = T by omega] at this
            rw [this, e]
          have hk := hP g' (by rw [e2]; exact hR) hF
          rw [show tf ((brT Pn nd gv τ n T).1 = true) = 0 from cI_n (by rw [e2]; exact fun z => by cases z)] at hk
          exact hk
theorem c_branch {n : Nat} {τ : Tz} (hW : WX S Pn T) (hN : NX Pn T g nd gv fs) (hB : BX Pn T nd gv fs) (hw : WT Pn τ) (hR : RC Pn T g τ) (hn : n < τ.1) (hP : ∀ g', RC Pn T g' (brT Pn nd gv τ n T).2 → FT T g g' → P (.inl (some (iV (tf ((brT Pn nd gv τ n T).1 = true))))) (S, g', u)) : Sp l E T_branch (d + 4) [rV (2 * T + 5), iV (n : Int)] (S, g, u) P := by
  show aw l E T_branch (d + 4) 0 [some (rV (2 * T + 5)), some (iV (n : Int)), none, none, none, none, none] [] (S, g, u) P
  refine aw_c T_branch_0 ?_
  refine aw_is2 T_branch_1 ?_
  exact c_branch_lp hW hN hB hw hn hP (T + 1) 0 g (by omega) (by omega) rfl hR (FT.rf T g)
end MU
end
section
section MV
variable {l : Launch} {E : aE} {d : Nat} {S : aS} {g : aG} {u : aU} {P : aP} {Pn T : Nat} {nd gv : Nat → Nat → Int} {fs : Nat → Int}
theorem c_Tplant {a b : Nat} (hW : WX S Pn T) (hN : NX Pn T g nd gv fs) (hB : BX Pn T nd gv fs) (hd : 1 ≤ d) (hP : ∀ g', RC Pn T g' (plT fs) → FT T g g' → P (.inl none) (S, g', a, b, false)) : Sp l E T_plant d [rV (2 * T + 5)] (S, g, a, b, false) P := by
  have hp6 := wx_P hW
  have hT8 := wx_T hW
  show aw l E T_plant d 0 [some (rV (2 * T + 5)), none, none, none, none, none, none] [] (S, g, a, b, false) P
  refine aw_al0 T_plant_0 ?_
  refine aw_gr (wx_r2_0 hW) T_plant_1 (wx_o2 hW) ?_
  refine aw_gr (wx_r1_4 hW) T_plant_4 (wx_o1 hW) ?_
  refine aw_c T_plant_7 ?_
  refine aw_al0 T_plant_8 ?_
  refine aw_gr (wx_r2_1 hW) T_plant_9 (wx_o2 hW) ?_
  refine aw_c T_plant_12 ?_
  refine aw_aa T_plant_13 (wx_a_tmarks hW) (show (0 : Int) = ((0 : Nat) : Int) from rfl) (by omega) (wx_rr_tmarks hW (by omega)) ?_
  refine aw_c T_plant_14 ?_
  refine aw_al0 T_plant_15 ?_
  refine aw_gr (wx_r2_0 hW) T_plant_16 (wx_o2 hW) ?_
  refine aw_gi T_plant_19 (wx_o1 hW) ?_
  refine aw_cp T_plant_22 (by omega) rfl (wx_a_first hW) (wx_ra_tmarks hW (by omega)) hN.1 (Nat.le_refl _) (Nat.le_refl _) ?_
  refine aw_al0 T_plant_25 ?_
  refine aw_gr (wx_r2_2 hW) T_plant_26 (wx_o2 hW) ?_
  refine aw_c T_plant_29 ?_
  refine aw_c T_plant_30 ?_
  refine aw_iast T_plant_32 (wx_a_tpar hW) (show (0 : Int) = ((0 : Nat) : Int) from rfl) (by omega) ?_
  refine aw_al0 T_plant_33 ?_
  refine aw_gr (wx_r2_3 hW) T_plant_34 (wx_o2 hW) ?_
  refine aw_c T_plant_37 ?_
  refine aw_c T_plant_38 ?_
  refine aw_iast T_plant_40 (wx_a_ttra hW) (show (0 : Int) = ((0 : Nat) : Int) from rfl) (by omega) ?_
  refine aw_al0 T_plant_41 ?_
  refine aw_gr (wx_r2_4 hW) T_plant_42 (wx_o2 hW) ?_
  refine aw_c T_plant_45 ?_
  refine aw_c T_plant_46 ?_
  refine aw_iast T_plant_47 (wx_a_tdep hW) (show (0 : Int) = ((0 : Nat) : Int) from rfl) (by omega) ?_
  refine aw_al0 T_plant_48 ?_
  refine aw_c T_plant_49 ?_
  refine aw_pi T_plant_50 (wx_o2 hW) ?_
  refine aw_retv T_plant_53 rfl ?_
  refine hP _ ⟨fun n hn p hp => ?_, ?_, ?_, fun n h0 hn => ?_, fun n hn => ?_, ?_⟩ (fun c e hce => ?_)
  · have hn' : n < 1 := hn
    rw [upA_ne (by omega), upA_ne (by omega), upA_ne (by omega), upA_ne (by omega), show n = 0 by omega]
    exact (if_pos ⟨rfl, hp⟩).trans (hN.2.2.2 p hp)
  · rw [upA_ne (by omega), upA_ne (by omega), upA_ne (by omega), upA_eq]
  · rw [upA_ne (by omega), upA_ne (by omega), upA_eq]
  · have hn' : n < 1 := hn
    omega
  · have hn' : n < 1 := hn
    rw [upA_ne (by omega), show n = 0 by omega, upA_eq]; rfl
  · rw [upA_eq]; rfl
  · rw [upA_ne (by omega), upA_ne (by omega), upA_ne (by omega), upA_ne (by omega)]
    exact if_neg (by omega)
/-- a node that no other is above (of like ones the first) -/
def tpT (P : Nat) (τ : Tz) (n : Nat) : Prop := ∀ m, m < τ.1 → m ≠ n → bl P (τ.2.1 n) (τ.2.1 m) → n < m ∧ bl P (τ.2.1 m) (τ.2.1 n)
noncomputable def ctT (P : Nat) (τ : Tz) : Nat → Nat
  | 0 => 0
  | k + 1 => ctT P τ k + cI (tpT P τ k) 1 0
theorem ctT_le (P : Nat) (τ : Tz) : ∀ k, ctT P τ k ≤ k
  | 0 => Nat.le_refl _
  | k + 1 => by
    have := ctT_le P τ k
    show ctT P τ k + cI (tpT P τ k) 1 0 ≤ k + 1
    by_cases h : tpT P τ k
    · rw [cI_p h]; omega
    · rw [cI_n h]; omega
theorem c_isPeak_lp {n : Nat} {τ : Tz} (hW : WX S Pn T) (hR : RC Pn T g τ) (hs : τ.1 ≤ 200) (hn : n < τ.1) (hP : P (.inl (some (iV (tf (tpT Pn τ n))))) (S, g, u)) : ∀ (m k : Nat), τ.1 - k < m → k ≤ τ.1 → (∀ r, r < k → r ≠ n → bl Pn (τ.2.1 n) (τ.2.1 r) → n < r ∧ bl Pn (τ.2.1 r) (τ.2.1 n)) → aw l E T_isPeak (d + 1) 2 [some (rV (2 * T + 5)), some (iV (n : Int)), some (iV (k : Int)), none, none, none, none] [] (S, g, u) P ∧ ∀ x3, aw l E T_isPeak (d + 1) 2 [some (rV (2 * T + 5)), some (iV (n : Int)), some (iV (k : Int)), x3, none, none, none] [] (S, g, u) P := by
  intro m
  have hp6 := wx_P hW
  have hsz : g (2 * T + 5) 7 = (τ.1 : Int) := hR.2.2.2.2.2
  suffices h : ∀ k, τ.1 - k < m → k ≤ τ.1 → (∀ r, r < k → r ≠ n → bl Pn (τ.2.1 n) (τ.2.1 r) → n < r ∧ bl Pn (τ.2.1 r) (τ.2.1 n)) → ∀ x3, aw l E T_isPeak (d + 1) 2 [some (rV (2 * T + 5)), some (iV (n : Int)), some (iV (k : Int)), x3, none, none, none] [] (S, g, u) P from fun k a b c => ⟨h k a b c none, h k a b c⟩
  induction m with
  | zero => intro k h; omega
  | succ m ih =>
    intro k hm hk hi x3
    have hb1 : k < τ.1 → (bl Pn (g (2 * T + 12 + n)) (g (2 * T + 12 + k)) ↔ bl Pn (τ.2.1 n) (τ.2.1 k)) := fun h => blC (hR.1 n hn) (hR.1 k h)
    have hb2 : k < τ.1 → (bl Pn (g (2 * T + 12 + k)) (g (2 * T + 12 + n)) ↔ bl Pn (τ.2.1 k) (τ.2.1 n)) := fun h => blC (hR.1 k h) (hR.1 n hn)
    refine aw_il2 T_isPeak_2 ?_
    refine aw_al0 T_isPeak_3 ?_
    refine aw_gi T_isPeak_4 (wx_o2 hW) ?_
    refine aw_cge T_isPeak_7 (fun h7 => ?_) (fun h7 => ?_)
    · skip
      refine aw_c T_isPeak_74 ?_
      refine aw_reti T_isPeak_75 (Or.inr ⟨rfl, (by first | exact Or.inl rfl | exact Or.inr rfl | assumption)⟩) ?_
      rw [show tf (tpT Pn τ n) = 1 from cI_p (fun r hr => hi r (by omega))] at hP
      exact hP
    · skip
      refine aw_il2 T_isPeak_10 ?_
      refine aw_il1 T_isPeak_11 ?_
      refine aw_ceq T_isPeak_12 (fun h12 => ?_) (fun h12 => ?_)
      · skip
        refine aw_ip2 T_isPeak_68 (by omega) ?_
        refine aw_go T_isPeak_71 ?_
        exact ih (k + 1) (by omega) (by omega) (fun r hr hne hbl => by
          by_cases e : r = k
          · subst e
            omega
          · exact hi r (by omega) hne hbl) _
      · skip
        refine aw_al0 T_isPeak_15 ?_
        refine aw_gr (wx_r2_1 hW) T_isPeak_16 (wx_o2 hW) ?_
        refine aw_il1 T_isPeak_19 ?_
        refine aw_aa T_isPeak_20 (wx_a_tmarks hW) (by first | rfl | assumption) (by omega) (wx_rr_tmarks hW (by omega)) ?_
        refine aw_al0 T_isPeak_21 ?_
        refine aw_gr (wx_r2_1 hW) T_isPeak_22 (wx_o2 hW) ?_
        refine aw_il2 T_isPeak_25 ?_
        refine aw_aa T_isPeak_26 (wx_a_tmarks hW) (by first | rfl | assumption) (by omega) (wx_rr_tmarks hW (by omega)) ?_
        refine aw_S2 T_isPeak_27 rfl rfl rfl rfl ?_
        refine c_isBelow (wx_ra_tmarks hW (by omega)) (wx_ra_tmarks hW (by omega)) (by omega) ?_
        show aw _ _ _ _ _ _ _ _ _
        refine aw_zeq T_isPeak_30 (fun h30 => ?_) (fun h30 => ?_)
        · skip
          refine aw_ip2 T_isPeak_68 (by omega) ?_
          refine aw_go T_isPeak_71 ?_
          exact ih (k + 1) (by omega) (by omega) (fun r hr hne hbl => by
            by_cases e : r = k
            · subst e
              exact absurd ((hb1 (by omega)).mpr hbl) (iz h30)
            · exact hi r (by omega) hne hbl) _
        · skip
          refine aw_il2 T_isPeak_33 ?_
          refine aw_il1 T_isPeak_34 ?_
          refine aw_cle T_isPeak_35 (fun h35 => ?_) (fun h35 => ?_)
          · skip
            refine aw_c T_isPeak_60 ?_
            refine aw_is3 T_isPeak_61 ?_
            refine aw_il3 T_isPeak_62 ?_
            refine aw_zne T_isPeak_63 (fun h63 => ?_) (fun h63 => ?_)
            · skip
              refine aw_ip2 T_isPeak_68 (by omega) ?_
              refine aw_go T_isPeak_71 ?_
              exact absurd rfl h63
            · skip
              refine aw_c T_isPeak_66 ?_
              refine aw_reti T_isPeak_67 (Or.inr ⟨rfl, (by first | exact Or.inl rfl | exact Or.inr rfl | assumption)⟩) ?_
              rw [show tf (tpT Pn τ n) = 0 from cI_n (fun z => by have := (z k (by omega) (by omega) ((hb1 (by omega)).mp (nz h30))).1; omega)] at hP
              exact hP
          · skip
            refine aw_al0 T_isPeak_38 ?_
            refine aw_gr (wx_r2_1 hW) T_isPeak_39 (wx_o2 hW) ?_
            refine aw_il2 T_isPeak_42 ?_
            refine aw_aa T_isPeak_43 (wx_a_tmarks hW) (by first | rfl | assumption) (by omega) (wx_rr_tmarks hW (by omega)) ?_
            refine aw_al0 T_isPeak_44 ?_
            refine aw_gr (wx_r2_1 hW) T_isPeak_45 (wx_o2 hW) ?_
            refine aw_il1 T_isPeak_48 ?_
            refine aw_aa T_isPeak_49 (wx_a_tmarks hW) (by first | rfl | assumption) (by omega) (wx_rr_tmarks hW (by omega)) ?_
            refine aw_S2 T_isPeak_50 rfl rfl rfl rfl ?_
            refine c_isBelow (wx_ra_tmarks hW (by omega)) (wx_ra_tmarks hW (by omega)) (by omega) ?_
            show aw _ _ _ _ _ _ _ _ _
            refine aw_zeq T_isPeak_53 (fun h53 => ?_) (fun h53 => ?_)
            · skip
              refine aw_c T_isPeak_60 ?_
              refine aw_is3 T_isPeak_61 ?_
              refine aw_il3 T_isPeak_62 ?_
              refine aw_zne T_isPeak_63 (fun h63 => ?_) (fun h63 => ?_)
              · skip
                refine aw_ip2 T_isPeak_68 (by omega) ?_
                refine aw_go T_isPeak_71 ?_
                exact absurd rfl h63
              · skip
                refine aw_c T_isPeak_66 ?_
                refine aw_reti T_isPeak_67 (Or.inr ⟨rfl, (by first | exact Or.inl rfl | exact Or.inr rfl | assumption)⟩) ?_
                rw [show tf (tpT Pn τ n) = 0 from cI_n (fun z => iz h53 ((hb2 (by omega)).mpr (z k (by omega) (by omega) ((hb1 (by omega)).mp (nz h30))).2))] at hP
                exact hP
            · skip
              refine aw_c T_isPeak_56 ?_
              refine aw_go T_isPeak_57 ?_
              refine aw_is3 T_isPeak_61 ?_
              refine aw_il3 T_isPeak_62 ?_
              refine aw_zne T_isPeak_63 (fun h63 => ?_) (fun h63 => ?_)
              · skip
                refine aw_ip2 T_isPeak_68 (by omega) ?_
                refine aw_go T_isPeak_71 ?_
                exact ih (k + 1) (by omega) (by omega) (fun r hr hne hbl => by
                  by_cases e : r = k
                  · subst e
                    exact ⟨by omega, (hb2 (by omega)).mp (nz h53)⟩
                  · exact hi r (by omega) hne hbl) _
              · skip
                refine aw_c T_isPeak_66 ?_
                refine aw_reti T_isPeak_67 (Or.inr ⟨rfl, (by first | exact Or.inl rfl | exact Or.inr rfl | assumption)⟩) ?_
                omega
theorem c_isPeak {n : Nat} {τ : Tz} (hW : WX S Pn T) (hR : RC Pn T g τ) (hs : τ.1 ≤ 200) (hn : n < τ.1) (hP : P (.inl (some (iV (tf (tpT Pn τ n))))) (S, g, u)) : Sp l E T_isPeak (d + 1) [rV (2 * T + 5), iV (n : Int)] (S, g, u) P := by
  show aw l E T_isPeak (d + 1) 0 [some (rV (2 * T + 5)), some (iV (n : Int)), none, none, none, none, none] [] (S, g, u) P
  refine aw_c T_isPeak_0 ?_
  refine aw_is2 T_isPeak_1 ?_
  exact (c_isPeak_lp hW hR hs hn hP (τ.1 + 1) 0 (by omega) (by omega) (fun r hr => absurd hr (Nat.not_lt_zero r))).1
/-- nothing but the peaks has changed -/
def FP (T : Nat) (g g' : aG) : Prop := ∀ a b, ¬ (a = 2 * T + 5 ∧ b = 8) → a ≠ 2 * T + 10 → g' a b = g a b
theorem RC_FP {g' : aG} {τ : Tz} (h : RC Pn T g τ) (hF : FP T g g') : RC Pn T g' τ := by
  obtain ⟨r1, r2, r3, r4, r5, r6⟩ := h
  refine ⟨fun n hn p hp => (hF _ _ (by omega) (by omega)).trans (r1 n hn p hp), (hF _ _ (by omega) (by omega)).trans r2, (hF _ _ (by omega) (by omega)).trans r3, fun n h0 hn => ?_, fun n hn => (hF _ _ (by omega) (by omega)).trans (r5 n hn), (hF _ _ (by omega) (by omega)).trans r6⟩
  obtain ⟨z1, z2⟩ := r4 n h0 hn
  exact ⟨(hF _ _ (by omega) (by omega)).trans z1, (hF _ _ (by omega) (by omega)).trans z2⟩
def PK (Pn T : Nat) (g : aG) (τ : Tz) (k : Nat) : Prop := g (2 * T + 5) 8 = (ctT Pn τ k : Int) ∧ ∀ v, v < k → tpT Pn τ v → g (2 * T + 10) (ctT Pn τ v) = (v : Int)
theorem ctT_lt {P : Nat} {τ : Tz} {v : Nat} (hv : tpT P τ v) : ∀ k, v < k → ctT P τ v < ctT P τ k
  | 0, h => by omega
  | k + 1, h => by
    show ctT P τ v < ctT P τ k + cI (tpT P τ k) 1 0
    by_cases e : v = k
    · subst e; rw [cI_p hv]; omega
    · have := ctT_lt hv k (by omega)
      omega
theorem c_findPeaks_lp {τ : Tz} (hW : WX S Pn T) (hR : RC Pn T g τ) (hs : τ.1 ≤ 200) (hP : ∀ g', PK Pn T g' τ τ.1 → FP T g g' → P (.inl none) (S, g', u)) : ∀ (m k : Nat) (g' : aG), τ.1 - k < m → k ≤ τ.1 → PK Pn T g' τ k → FP T g g' → aw l E T_findPeaks (d + 2) 7 [some (rV (2 * T + 5)), some (iV (k : Int)), none, none, none, none, none] [] (S, g', u) P := by
  intro m
  induction m with
  | zero => intro k g' h; omega
  | succ m ih =>
    intro k g' hm hk hK hF
    have hR' := RC_FP hR hF
    have hsz : g' (2 * T + 5) 7 = (τ.1 : Int) := hR'.2.2.2.2.2
    have hct := ctT_le Pn τ k
    have h8 : g' (2 * T + 5) 8 = (ctT Pn τ k : Int) := hK.1
    refine aw_il1 T_findPeaks_7 ?_
    refine aw_al0 T_findPeaks_8 ?_
    refine aw_gi T_findPeaks_9 (wx_o2 hW) ?_
    refine aw_cge T_findPeaks_12 (fun h12 => ?_) (fun h12 => ?_)
    · skip
      refine aw_retv T_findPeaks_49 rfl ?_
      have e : k = τ.1 := by omega
      subst e
      exact hP g' hK hF
    · skip
      refine aw_al0 T_findPeaks_15 ?_
      refine aw_il1 T_findPeaks_16 ?_
      refine aw_V1 T_findPeaks_17 rfl rfl rfl (wx_o2 hW) ?_
      refine c_isPeak hW hR' hs (by omega) ?_
      show aw _ _ _ _ _ _ _ _ _
      refine aw_zeq T_findPeaks_20 (fun h20 => ?_) (fun h20 => ?_)
      · skip
        refine aw_ip1 T_findPeaks_43 (by omega) ?_
        refine aw_go T_findPeaks_46 ?_
        have hno : ¬ tpT Pn τ k := iz h20
        refine ih (k + 1) g' (by omega) (by omega) ⟨?_, fun v hv hv2 => ?_⟩ hF
        · rw [h8]
          show (ctT Pn τ k : Int) = ((ctT Pn τ k + cI (tpT Pn τ k) 1 0 : Nat) : Int)
          rw [cI_n hno]; rfl
        · exact hK.2 v (by have : v ≠ k := fun e => hno (by rw [← e]; exact hv2)
                           omega) hv2
      · skip
        refine aw_al0 T_findPeaks_23 ?_
        refine aw_gr (wx_r2_6 hW) T_findPeaks_24 (wx_o2 hW) ?_
        refine aw_al0 T_findPeaks_27 ?_
        refine aw_gi T_findPeaks_28 (wx_o2 hW) ?_
        refine aw_il1 T_findPeaks_31 ?_
        refine aw_iast T_findPeaks_32 (wx_a_tpea hW) (by first | rfl | assumption) (by omega) ?_
        have e58 : upA g' (2 * T + 10) (ctT Pn τ k) (k : Int) (2 * T + 5) 8 = (ctT Pn τ k : Int) := (upA_ne (by omega)).trans h8
        refine aw_al0 T_findPeaks_33 ?_
        refine aw_dup T_findPeaks_34 ?_
        refine aw_gi T_findPeaks_35 (wx_o2 hW) ?_
        refine aw_c T_findPeaks_38 ?_
        refine aw_add T_findPeaks_39 (by constructor <;> omega) ?_
        refine aw_pi T_findPeaks_40 (wx_o2 hW) ?_
        refine aw_ip1 T_findPeaks_43 (by omega) ?_
        refine aw_go T_findPeaks_46 ?_
        have hyes : tpT Pn τ k := nz h20
        refine ih (k + 1) _ (by omega) (by omega) ⟨?_, fun v hv hv2 => ?_⟩ (fun a b h1 h2 => ?_)
        · rw [upA_eq, e58]
          show (ctT Pn τ k : Int) + 1 = ((ctT Pn τ k + cI (tpT Pn τ k) 1 0 : Nat) : Int)
          rw [cI_p hyes]; rfl
        · rw [upA_ne (by omega)]
          by_cases e : v = k
          · subst e; rw [upA_eq]
          · have hlt := ctT_lt hv2 k (by omega)
            rw [upA_ne (by omega)]
            exact hK.2 v (by omega) hv2
        · rw [upA_ne h1, upA_ne (fun z => h2 z.1)]
          exact hF a b h1 h2
theorem c_findPeaks {τ : Tz} (hW : WX S Pn T) (hR : RC Pn T g τ) (hs : τ.1 ≤ 200) (hP : ∀ g', PK Pn T g' τ τ.1 → FP T g g' → P (.inl none) (S, g', u)) : Sp l E T_findPeaks (d + 2) [rV (2 * T + 5)] (S, g, u) P := by
  show aw l E T_findPeaks (d + 2) 0 [some (rV (2 * T + 5)), none, none, none, none, none, none] [] (S, g, u) P
  refine aw_al0 T_findPeaks_0 ?_
  refine aw_c T_findPeaks_1 ?_
  refine aw_pi T_findPeaks_2 (wx_o2 hW) ?_
  refine aw_c T_findPeaks_5 ?_
  refine aw_is1 T_findPeaks_6 ?_
  exact c_findPeaks_lp hW hR hs hP (τ.1 + 1) 0 _ (by omega) (by omega) ⟨upA_eq _ _ _ _, fun v hv => absurd hv (Nat.not_lt_zero v)⟩ (fun a b h1 h2 => upA_ne h1)
theorem br_lf {P : Nat} {nd gv : Nat → Nat → Int} {τ : Tz} {n : Nat} : ∀ k, (brT P nd gv τ n k).2.2.2.2.2.2 = τ.2.2.2.2.2
  | 0 => rfl
  | k + 1 => by
    have h := br_lf (P := P) (τ := τ) (n := n) (nd := nd) (gv := gv) k
    show (cI _ _ _ : Bool × Tz).2.2.2.2.2.2 = _
    by_cases hc : (brT P nd gv τ n k).1 = true ∧ bl P (nd k) ((brT P nd gv τ n k).2.2.1 n)
    · rw [cI_p hc]
      by_cases hs : (brT P nd gv τ n k).2.1 = 200
      · rw [cI_p hs]; exact h
      · rw [cI_n hs]; exact h
    · rw [cI_n hc]; exact h
/-- the class's tree stands and is τ -/
def TX (Pn T : Nat) (g : aG) (τ : Tz) : Prop := RC Pn T g τ ∧ (∀ n, n < τ.1 → g (2 * T + 9) n = tf (τ.2.2.2.2.2 n)) ∧ PK Pn T g τ τ.1
def FG (T : Nat) (g g' : aG) : Prop := ∀ a b, (a < 2 * T + 5 ∨ (a = 2 * T + 5 ∧ b ≠ 7) ∨ a = 2 * T + 10 ∨ 2 * T + 212 ≤ a) → g' a b = g a b
theorem FG.tr {T : Nat} {g g' g'' : aG} (h : FG T g g') (h' : FG T g' g'') : FG T g g'' := fun a b z => (h' a b z).trans (h a b z)
theorem FG.ofT {T : Nat} {g g' : aG} (h : FT T g g') : FG T g g' := fun a b z => h a b (by omega)
theorem c_grow_end0 {a b k : Nat} {g' : aG} (hP : (∀ g', (∀ a b, (a < 2 * T + 5 ∨ 2 * T + 212 ≤ a) → g' a b = g a b) → (((grT Pn T nd gv fs 200).1 = true ∧ TX Pn T g' (grT Pn T nd gv fs 200).2 ∧ g' (2 * T + 5) 9 = 1) ∨ ((grT Pn T nd gv fs 200).1 = false ∧ g' (2 * T + 5) 9 = 0)) → P (.inl none) (S, g', a, b, false))) (hF : FG T (upA g (2 * T + 5) 9 0) g') (hok : (grT Pn T nd gv fs 200).1 = false) : aw l E T_grow (d + 5) 72 [some (rV (2 * T + 5)), some (iV 0), some (iV (k : Int)), none, none, none, none] [] (S, g', a, b, false) P := by
  refine aw_il1 T_grow_72 ?_
  refine aw_zeq T_grow_73 (fun h73 => ?_) (fun h73 => ?_)
  · skip
    refine aw_retv T_grow_85 rfl ?_
    refine hP g' (fun c e h => (hF c e (by omega)).trans (upA_ne (by omega))) (Or.inr ⟨hok, ?_⟩)
    exact (hF _ _ (by omega)).trans (upA_eq _ _ _ _)
  · skip
    omega
theorem c_grow_end1 {a b k : Nat} {g' : aG} (hW : WX S Pn T) (hP : (∀ g', (∀ a b, (a < 2 * T + 5 ∨ 2 * T + 212 ≤ a) → g' a b = g a b) → (((grT Pn T nd gv fs 200).1 = true ∧ TX Pn T g' (grT Pn T nd gv fs 200).2 ∧ g' (2 * T + 5) 9 = 1) ∨ ((grT Pn T nd gv fs 200).1 = false ∧ g' (2 * T + 5) 9 = 0)) → P (.inl none) (S, g', a, b, false))) (hF : FG T (upA g (2 * T + 5) 9 0) g') (hok : (grT Pn T nd gv fs 200).1 = true) (hw : WT Pn (grT Pn T nd gv fs 200).2) (hR : RC Pn T g' (grT Pn T nd gv fs 200).2) (hlf : ∀ n, n < (grT Pn T nd gv fs 200).2.1 → g' (2 * T + 9) n = tf ((grT Pn T nd gv fs 200).2.2.2.2.2.2 n)) : aw l E T_grow (d + 5) 72 [some (rV (2 * T + 5)), some (iV 1), some (iV (k : Int)), none, none, none, none] [] (S, g', a, b, false) P := by
  refine aw_il1 T_grow_72 ?_
  refine aw_zeq T_grow_73 (fun h73 => ?_) (fun h73 => ?_)
  · skip
    refine aw_retv T_grow_85 rfl ?_
    omega
  · skip
    refine aw_al0 T_grow_76 ?_
    refine aw_V0 T_grow_77 rfl rfl (wx_o2 hW) ?_
    refine c_findPeaks (d := d + 2) hW hR hw.2.1 (fun g2 hK hF2 => ?_)
    show aw _ _ _ _ _ _ _ _ _
    refine aw_al0 T_grow_80 ?_
    refine aw_c T_grow_81 ?_
    refine aw_pz T_grow_82 (wx_o2 hW) (by first | exact Or.inl rfl | exact Or.inr rfl | assumption) ?_
    refine aw_retv T_grow_85 rfl ?_
    refine hP _ (fun c e h => ?_) (Or.inl ⟨hok, ⟨⟨fun n hn p hp => ?_, ?_, ?_, fun n h0 hn => ?_, fun n hn => ?_, ?_⟩, fun n hn => ?_, ⟨?_, fun v hv hv2 => ?_⟩⟩, upA_eq _ _ _ _⟩)
    · rw [upA_ne (by omega), hF2 c e (by omega) (by omega)]
      exact (hF c e (by omega)).trans (upA_ne (by omega))
    · rw [upA_ne (by omega)]; exact (RC_FP hR hF2).1 n hn p hp
    · rw [upA_ne (by omega)]; exact (RC_FP hR hF2).2.1
    · rw [upA_ne (by omega)]; exact (RC_FP hR hF2).2.2.1
    · rw [upA_ne (by omega), upA_ne (by omega)]; exact (RC_FP hR hF2).2.2.2.1 n h0 hn
    · rw [upA_ne (by omega)]; exact (RC_FP hR hF2).2.2.2.2.1 n hn
    · rw [upA_ne (by omega)]; exact (RC_FP hR hF2).2.2.2.2.2
    · rw [upA_ne (by omega), hF2 _ _ (by omega) (by omega)]; exact hlf n hn
    · rw [upA_ne (by omega)]; exact hK.1
    · rw [upA_ne (by omega)]; exact hK.2 v hv hv2
theorem c_grow_lp {a b : Nat} (hW : WX S Pn T) (hN : NX Pn T g nd gv fs) (hB : BX Pn T nd gv fs) (hP : (∀ g', (∀ a b, (a < 2 * T + 5 ∨ 2 * T + 212 ≤ a) → g' a b = g a b) → (((grT Pn T nd gv fs 200).1 = true ∧ TX Pn T g' (grT Pn T nd gv fs 200).2 ∧ g' (2 * T + 5) 9 = 1) ∨ ((grT Pn T nd gv fs 200).1 = false ∧ g' (2 * T + 5) 9 = 0)) → P (.inl none) (S, g', a, b, false))) : ∀ (m k : Nat) (g' : aG), 200 - k < m → k ≤ 200 → (grT Pn T nd gv fs k).1 = true → RC Pn T g' (grT Pn T nd gv fs k).2 → (∀ n, n < k → n < (grT Pn T nd gv fs k).2.1 → g' (2 * T + 9) n = tf ((grT Pn T nd gv fs k).2.2.2.2.2.2 n)) → FG T (upA g (2 * T + 5) 9 0) g' → aw l E T_grow (d + 5) 13 [some (rV (2 * T + 5)), some (iV 1), some (iV (k : Int)), none, none, none, none] [] (S, g', a, b, false) P := by
  intro m
  have hp6 := wx_P hW
  have hT8 := wx_T hW
  have hwg : ∀ k, WT Pn (grT Pn T nd gv fs k).2 := WT_gr hB.2 (fun t ht p hp => (hB.1 t ht p hp).1) (fun t ht p hp => ⟨(hB.1 t ht p hp).2.2.1, (hB.1 t ht p hp).2.2.2⟩)
  induction m with
  | zero => intro k g' h; omega
  | succ m ih =>
    intro k g' hm hk hok hR hlf hF
    have hw := hwg k
    have hsz : g' (2 * T + 5) 7 = ((grT Pn T nd gv fs k).2.1 : Int) := hR.2.2.2.2.2
    have hend : (grT Pn T nd gv fs k).2.1 ≤ k ∨ k = 200 → grT Pn T nd gv fs 200 = grT Pn T nd gv fs k := fun h => by
      rcases h with h | h
      · have := gr_false (P := Pn) (T := T) (nd := nd) (gv := gv) (first := fs) (k := k) (Or.inr h) (200 - k)
        rw [show k + (200 - k) = 200 by omega] at this
        exact this
      · rw [h]
    refine aw_il1 T_grow_13 ?_
    refine aw_zeq T_grow_14 (fun h14 => ?_) (fun h14 => ?_)
    · skip
      omega
    · skip
      refine aw_il2 T_grow_17 ?_
      refine aw_al0 T_grow_18 ?_
      refine aw_gi T_grow_19 (wx_o2 hW) ?_
      refine aw_cge T_grow_22 (fun h22 => ?_) (fun h22 => ?_)
      · skip
        have e := hend (by omega)
        exact c_grow_end1 hW hP hF (by rw [e]; exact hok) (by rw [e]; exact hw) (by rw [e]; exact hR) (fun n hn => by rw [e] at hn ⊢; exact hlf n (by have := hw.2.1; omega) hn)
      · skip
        refine aw_il2 T_grow_25 ?_
        refine aw_c T_grow_26 ?_
        refine aw_cge T_grow_29 (fun h29 => ?_) (fun h29 => ?_)
        · skip
          have e := hend (by omega)
          exact c_grow_end1 hW hP hF (by rw [e]; exact hok) (by rw [e]; exact hw) (by rw [e]; exact hR) (fun n hn => by rw [e] at hn ⊢; exact hlf n (by have := hw.2.1; omega) hn)
        · skip
          refine aw_al0 T_grow_32 ?_
          refine aw_gr (wx_r2_5 hW) T_grow_33 (wx_o2 hW) ?_
          refine aw_il2 T_grow_36 ?_
          refine aw_al0 T_grow_37 ?_
          refine aw_il2 T_grow_38 ?_
          refine aw_V1 T_grow_39 rfl rfl rfl (wx_o2 hW) ?_
          refine c_rep (d := d + 2) hW hw hR (by omega) ?_
          show aw _ _ _ _ _ _ _ _ _
          refine aw_zast T_grow_42 (wx_a_tlea hW) (by first | rfl | assumption) (by omega) (tf01 _) ?_
          refine aw_al0 T_grow_43 ?_
          refine aw_gr (wx_r2_5 hW) T_grow_44 (wx_o2 hW) ?_
          refine aw_il2 T_grow_47 ?_
          refine aw_za T_grow_48 (wx_a_tlea hW) (by first | rfl | assumption) (by omega) ?_
          have hFL : FG T g' (upA g' (2 * T + 9) k (tf (repT Pn (grT Pn T nd gv fs k).2 k))) := fun c e h => upA_ne (by omega)
          have hRL : RC Pn T (upA g' (2 * T + 9) k (tf (repT Pn (grT Pn T nd gv fs k).2 k))) (lfT Pn (grT Pn T nd gv fs k).2 k) := by
            obtain ⟨r1, r2, r3, r4, r5, r6⟩ := hR
            refine ⟨fun n hn p hp => (upA_ne (by omega)).trans (r1 n hn p hp), (upA_ne (by omega)).trans r2, (upA_ne (by omega)).trans r3, fun n h0 hn => ?_, fun n hn => (upA_ne (by omega)).trans (r5 n hn), (upA_ne (by omega)).trans r6⟩
            obtain ⟨z1, z2⟩ := r4 n h0 hn
            exact ⟨(upA_ne (by omega)).trans z1, (upA_ne (by omega)).trans z2⟩
          have hll : ∀ n, n < k + 1 → n < (grT Pn T nd gv fs k).2.1 → (upA g' (2 * T + 9) k (tf (repT Pn (grT Pn T nd gv fs k).2 k))) (2 * T + 9) n = tf ((lfT Pn (grT Pn T nd gv fs k).2 k).2.2.2.2.2 n) := fun n h1 h2 => by
            show _ = tf (if n = k then repT Pn (grT Pn T nd gv fs k).2 k else (grT Pn T nd gv fs k).2.2.2.2.2.2 n)
            by_cases e : n = k
            · subst e; rw [upA_eq, if_pos rfl]
            · rw [upA_ne (by omega), if_neg e]; exact hlf n (by omega) h2
          have hNL : NX Pn T (upA g' (2 * T + 9) k (tf (repT Pn (grT Pn T nd gv fs k).2 k))) nd gv fs := NX_lo hN (by omega) (fun c e h => (upA_ne (by omega)).trans ((hF c e (Or.inl h)).trans (upA_ne (by omega))))
          rw [upA_eq] 
          refine aw_zne T_grow_49 (fun h49 => ?_) (fun h49 => ?_)
          · skip
            refine aw_c T_grow_60 ?_
            refine aw_go T_grow_61 ?_
            refine aw_is1 T_grow_65 ?_
            refine aw_ip2 T_grow_66 (by omega) ?_
            refine aw_go T_grow_69 ?_
            have hr : repT Pn (grT Pn T nd gv fs k).2 k := nz h49
            have e : grT Pn T nd gv fs (k + 1) = (true, lfT Pn (grT Pn T nd gv fs k).2 k) := (cI_p ⟨hok, by omega⟩).trans (cI_p hr)
            exact ih (k + 1) _ (by omega) (by omega) (by rw [e]) (by rw [e]; exact hRL) (fun n h1 h2 => by rw [e] at h2 ⊢; exact hll n h1 h2) (hF.tr hFL)
          · skip
            refine aw_al0 T_grow_52 ?_
            refine aw_il2 T_grow_53 ?_
            refine aw_V1 T_grow_54 rfl rfl rfl (wx_o2 hW) ?_
            refine c_branch (d := d) hW hNL hB (τ := lfT Pn (grT Pn T nd gv fs k).2 k) hw hRL (show k < (grT Pn T nd gv fs k).2.1 by omega) (fun g2 hR2 hF2 => ?_)
            show aw _ _ _ _ _ _ _ _ _
            refine aw_zeq T_grow_57 (fun h57 => ?_) (fun h57 => ?_)
            · skip
              refine aw_c T_grow_64 ?_
              refine aw_is1 T_grow_65 ?_
              refine aw_ip2 T_grow_66 (by omega) ?_
              refine aw_go T_grow_69 ?_
              have e : grT Pn T nd gv fs (k + 1) = brT Pn nd gv (lfT Pn (grT Pn T nd gv fs k).2 k) k T := (cI_p ⟨hok, by omega⟩).trans (cI_n (iz h49))
              have hfa : (grT Pn T nd gv fs (k + 1)).1 = false := by
                rw [e]
                cases hb : (brT Pn nd gv (lfT Pn (grT Pn T nd gv fs k).2 k) k T).1 with
                | false => rfl
                | true => exact absurd hb (iz h57)
              have e2 : grT Pn T nd gv fs 200 = grT Pn T nd gv fs (k + 1) := by
                have := gr_false (P := Pn) (T := T) (nd := nd) (gv := gv) (first := fs) (k := k + 1) (Or.inl hfa) (200 - (k + 1))
                rw [show k + 1 + (200 - (k + 1)) = 200 by omega] at this
                exact this
              refine aw_il1 T_grow_13 ?_
              refine aw_zeq T_grow_14 (fun _ => ?_) (fun z => absurd rfl z)
              exact c_grow_end0 hP ((hF.tr hFL).tr (FG.ofT hF2)) (by rw [e2]; exact hfa)
            · skip
              refine aw_c T_grow_60 ?_
              refine aw_go T_grow_61 ?_
              refine aw_is1 T_grow_65 ?_
              refine aw_ip2 T_grow_66 (by omega) ?_
              refine aw_go T_grow_69 ?_
              have e : grT Pn T nd gv fs (k + 1) = brT Pn nd gv (lfT Pn (grT Pn T nd gv fs k).2 k) k T := (cI_p ⟨hok, by omega⟩).trans (cI_n (iz h49))
              refine ih (k + 1) g2 (by omega) (by omega) (by rw [e]; exact nz h57) (by rw [e]; exact hR2) (fun n h1 h2 => ?_) ((hF.tr hFL).tr (FG.ofT hF2))
              rw [e] at h2 ⊢
              rw [br_lf, hF2 _ _ (by omega)]
              by_cases hnn : n < (grT Pn T nd gv fs k).2.1
              · exact hll n h1 hnn
              · omega
theorem c_grow {a b : Nat} (hW : WX S Pn T) (hN : NX Pn T g nd gv fs) (hB : BX Pn T nd gv fs) (hP : (∀ g', (∀ a b, (a < 2 * T + 5 ∨ 2 * T + 212 ≤ a) → g' a b = g a b) → (((grT Pn T nd gv fs 200).1 = true ∧ TX Pn T g' (grT Pn T nd gv fs 200).2 ∧ g' (2 * T + 5) 9 = 1) ∨ ((grT Pn T nd gv fs 200).1 = false ∧ g' (2 * T + 5) 9 = 0)) → P (.inl none) (S, g', a, b, false))) : Sp l E T_grow (d + 5) [rV (2 * T + 5)] (S, g, a, b, false) P := by
  have hT8 := wx_T hW
  have hN0 : NX Pn T (upA g (2 * T + 5) 9 0) nd gv fs := NX_lo hN (by omega) (fun c e h => upA_ne (by omega))
  show aw l E T_grow (d + 5) 0 [some (rV (2 * T + 5)), none, none, none, none, none, none] [] (S, g, a, b, false) P
  refine aw_al0 T_grow_0 ?_
  refine aw_c T_grow_1 ?_
  refine aw_pz T_grow_2 (wx_o2 hW) (by first | exact Or.inl rfl | exact Or.inr rfl | assumption) ?_
  refine aw_al0 T_grow_5 ?_
  refine aw_V0 T_grow_6 rfl rfl (wx_o2 hW) ?_
  refine c_Tplant (d := d + 4) hW hN0 hB (by omega) (fun g1 hR1 hF1 => ?_)
  show aw _ _ _ _ _ _ _ _ _
  refine aw_c T_grow_9 ?_
  refine aw_is1 T_grow_10 ?_
  refine aw_c T_grow_11 ?_
  refine aw_is2 T_grow_12 ?_
  exact c_grow_lp hW hN hB hP 201 0 g1 (by omega) (by omega) rfl hR1 (fun n h => absurd h (Nat.not_lt_zero n)) (FG.ofT hF1)
end MV
end
section
section MX
variable {l : Launch} {E : aE} {d : Nat} {S : aS} {g : aG} {u : aU} {P : aP} {Pn T : Nat} {nd gv : Nat → Nat → Int} {fs : Nat → Int}
/-- k parents up -/
def upT (pa : Nat → Nat) : Nat → Nat → Nat
  | 0, n => n
  | k + 1, n => upT pa k (pa n)
/-- the first of s numbers from k on with c, or -2 -/
noncomputable def fnd (c : Nat → Prop) : Nat → Nat → Int
  | 0, _ => -2
  | s + 1, k => cI (c k) (k : Int) (fnd c s (k + 1))
noncomputable def mxT (τ : Tz) (p : Nat) : Nat → Int
  | 0 => 0
  | k + 1 => if mxT τ p k < τ.2.1 k p then τ.2.1 k p else mxT τ p k
theorem c_stepTo_lp {n i : Nat} {τ : Tz} (hW : WX S Pn T) (hw : WT Pn τ) (hR : RC Pn T g τ) (hi : i ≤ 1000) {v : Nat} (hP : P (.inl (some (iV (v : Int)))) (S, g, u)) : ∀ (r b : Nat), b < τ.1 → τ.2.2.2.2.1 b = i + 1 + r → τ.2.2.2.1 (upT τ.2.2.1 r b) = v → aw l E T_stepTo d 10 [some (rV (2 * T + 5)), some (iV (n : Int)), some (iV (i : Int)), some (iV (b : Int)), some (iV ((i + 1 + r : Nat) : Int)), none, none] [] (S, g, u) P := by
  intro r
  have ht2 := hw.2.1
  induction r with
  | zero =>
    intro b hb hd hv
    have hb0 : 0 < b := by
      rcases Nat.eq_zero_or_pos b with z | z
      · rw [z, hw.2.2.1] at hd; omega
      · exact z
    refine aw_il4 T_stepTo_10 ?_
    refine aw_il2 T_stepTo_12 ?_
    refine aw_c T_stepTo_13 ?_
    refine aw_add T_stepTo_14 (by constructor <;> omega) ?_
    refine aw_cle T_stepTo_15 (fun h15 => ?_) (fun h15 => ?_)
    · skip
      refine aw_al0 T_stepTo_31 ?_
      refine aw_gr (wx_r2_3 hW) T_stepTo_32 (wx_o2 hW) ?_
      refine aw_il3 T_stepTo_35 ?_
      refine aw_ia T_stepTo_36 (wx_a_ttra hW) (by first | rfl | assumption) (by omega) ?_
      refine aw_reti T_stepTo_37 (Or.inl rfl) ?_
      rw [(hR.2.2.2.1 b hb0 hb).2, show τ.2.2.2.1 b = v from hv]
      exact hP
    · skip
      omega
  | succ r ih =>
    intro b hb hd hv
    have hb0 : 0 < b := by
      rcases Nat.eq_zero_or_pos b with z | z
      · rw [z, hw.2.2.1] at hd; omega
      · exact z
    have hdb := WT_dp hw b hb
    obtain ⟨z1, z2⟩ := hw.2.2.2.1 b hb0 hb
    have e6 := (hR.2.2.2.1 b hb0 hb).1
    refine aw_il4 T_stepTo_10 ?_
    refine aw_il2 T_stepTo_12 ?_
    refine aw_c T_stepTo_13 ?_
    refine aw_add T_stepTo_14 (by constructor <;> omega) ?_
    refine aw_cle T_stepTo_15 (fun h15 => ?_) (fun h15 => ?_)
    · skip
      omega
    · skip
      refine aw_al0 T_stepTo_18 ?_
      refine aw_gr (wx_r2_2 hW) T_stepTo_19 (wx_o2 hW) ?_
      refine aw_il3 T_stepTo_22 ?_
      refine aw_ia T_stepTo_23 (wx_a_tpar hW) (by first | rfl | assumption) (by omega) ?_
      refine aw_is3 T_stepTo_24 ?_
      refine aw_in4 T_stepTo_25 (by constructor <;> omega) ?_
      refine aw_go T_stepTo_28 ?_
      rw [e6, show ((i + 1 + (r + 1) : Nat) : Int) + -1 = ((i + 1 + r : Nat) : Int) by omega]
      exact ih (τ.2.2.1 b) (by omega) (by omega) hv
theorem c_stepTo {n i : Nat} {τ : Tz} (hW : WX S Pn T) (hw : WT Pn τ) (hR : RC Pn T g τ) (hn : n < τ.1) (hi : i < τ.2.2.2.2.1 n) (hP : P (.inl (some (iV (τ.2.2.2.1 (upT τ.2.2.1 (τ.2.2.2.2.1 n - (i + 1)) n) : Int)))) (S, g, u)) : Sp l E T_stepTo d [rV (2 * T + 5), iV (n : Int), iV (i : Int)] (S, g, u) P := by
  have ht2 := hw.2.1
  have hdn := WT_dp hw n hn
  have e8 := hR.2.2.2.2.1 n hn
  show aw l E T_stepTo d 0 [some (rV (2 * T + 5)), some (iV (n : Int)), some (iV (i : Int)), none, none, none, none] [] (S, g, u) P
  refine aw_il1 T_stepTo_0 ?_
  refine aw_is3 T_stepTo_1 ?_
  refine aw_al0 T_stepTo_2 ?_
  refine aw_gr (wx_r2_4 hW) T_stepTo_3 (wx_o2 hW) ?_
  refine aw_il1 T_stepTo_6 ?_
  refine aw_ia T_stepTo_7 (wx_a_tdep hW) (by first | rfl | assumption) (by omega) ?_
  refine aw_is4 T_stepTo_8 ?_
  rw [e8]
  have hk := c_stepTo_lp (l := l) (E := E) (d := d) (u := u) (n := n) (i := i) hW hw hR (by omega) hP (τ.2.2.2.2.1 n - (i + 1)) n hn (by omega) rfl
  rw [show i + 1 + (τ.2.2.2.2.1 n - (i + 1)) = τ.2.2.2.2.1 n by omega] at hk
  exact hk
theorem c_greatest_lp {p : Nat} {τ : Tz} (hW : WX S Pn T) (hs : τ.1 ≤ 200) (hR : RC Pn T g τ) (hp : p < Pn) (hd : 1 ≤ d) (hP : P (.inl (some (iV (mxT τ p τ.1)))) (S, g, u)) : ∀ (m k : Nat), τ.1 - k < m → k ≤ τ.1 → aw l E T_greatest d 4 [some (rV (2 * T + 5)), some (iV (p : Int)), some (iV (mxT τ p k)), some (iV (k : Int)), none, none, none] [] (S, g, u) P := by
  intro m
  have hsz : g (2 * T + 5) 7 = (τ.1 : Int) := hR.2.2.2.2.2
  induction m with
  | zero => intro k h; omega
  | succ m ih =>
    intro k hm hk
    refine aw_il3 T_greatest_4 ?_
    refine aw_al0 T_greatest_5 ?_
    refine aw_gi T_greatest_6 (wx_o2 hW) ?_
    refine aw_cge T_greatest_9 (fun h9 => ?_) (fun h9 => ?_)
    · skip
      refine aw_il2 T_greatest_31 ?_
      refine aw_reti T_greatest_32 (Or.inl rfl) ?_
      have e : k = τ.1 := by omega
      subst e
      exact hP
    · skip
      refine aw_il2 T_greatest_12 ?_
      refine aw_al0 T_greatest_13 ?_
      refine aw_gr (wx_r2_1 hW) T_greatest_14 (wx_o2 hW) ?_
      refine aw_il3 T_greatest_17 ?_
      refine aw_aa T_greatest_18 (wx_a_tmarks hW) (by first | rfl | assumption) (by omega) (wx_rr_tmarks hW (by omega)) ?_
      refine aw_il1 T_greatest_19 ?_
      refine aw_ia T_greatest_20 (wx_ra_tmarks hW (by omega)) (by first | rfl | assumption) (by omega) ?_
      refine aw_max T_greatest_21 (by omega) rfl ?_
      rw [hR.1 k (by omega) p hp]
      refine aw_is2 T_greatest_24 ?_
      refine aw_ip3 T_greatest_25 (by omega) ?_
      refine aw_go T_greatest_28 ?_
      exact ih (k + 1) (by omega) (by omega)
theorem c_greatest {p : Nat} {τ : Tz} (hW : WX S Pn T) (hs : τ.1 ≤ 200) (hR : RC Pn T g τ) (hp : p < Pn) (hd : 1 ≤ d) (hP : P (.inl (some (iV (mxT τ p τ.1)))) (S, g, u)) : Sp l E T_greatest d [rV (2 * T + 5), iV (p : Int)] (S, g, u) P := by
  show aw l E T_greatest d 0 [some (rV (2 * T + 5)), some (iV (p : Int)), none, none, none, none, none] [] (S, g, u) P
  refine aw_c T_greatest_0 ?_
  refine aw_is2 T_greatest_1 ?_
  refine aw_c T_greatest_2 ?_
  refine aw_is3 T_greatest_3 ?_
  exact c_greatest_lp hW hs hR hp hd hP (τ.1 + 1) 0 (by omega) (by omega)
def cvT (P : Nat) (τ : Tz) (f : Nat → Int) : Prop := ∃ n, n < τ.1 ∧ bl P f (τ.2.1 n)
theorem c_reachesAbove_lp {i : Nat} {τ : Tz} {f : Nat → Int} (hW : WX S Pn T) (hs : τ.1 ≤ 200) (hR : RC Pn T g τ) (hi : hasA S i 0 Pn) (hf : ∀ p, p < Pn → g i p = f p) (hP : P (.inl (some (iV (tf (cvT Pn τ f))))) (S, g, u)) : ∀ (m k : Nat), τ.1 - k < m → k ≤ τ.1 → (∀ r, r < k → ¬ bl Pn f (τ.2.1 r)) → aw l E T_reachesAbove (d + 1) 2 [some (rV (2 * T + 5)), some (rV i), some (iV (k : Int)), none, none, none, none] [] (S, g, u) P := by
  intro m
  have hp6 := wx_P hW
  have hsz : g (2 * T + 5) 7 = (τ.1 : Int) := hR.2.2.2.2.2
  induction m with
  | zero => intro k h; omega
  | succ m ih =>
    intro k hm hk hno
    have hb : k < τ.1 → (bl Pn (g i) (g (2 * T + 12 + k)) ↔ bl Pn f (τ.2.1 k)) := fun h => blC hf (hR.1 k h)
    refine aw_il2 T_reachesAbove_2 ?_
    refine aw_al0 T_reachesAbove_3 ?_
    refine aw_gi T_reachesAbove_4 (wx_o2 hW) ?_
    refine aw_cge T_reachesAbove_7 (fun h7 => ?_) (fun h7 => ?_)
    · skip
      refine aw_c T_reachesAbove_31 ?_
      refine aw_reti T_reachesAbove_32 (Or.inr ⟨rfl, (by first | exact Or.inl rfl | exact Or.inr rfl | assumption)⟩) ?_
      rw [show tf (cvT Pn τ f) = 0 from cI_n (fun ⟨r, z1, z2⟩ => hno r (by omega) z2)] at hP
      exact hP
    · skip
      refine aw_al1 T_reachesAbove_10 ?_
      refine aw_al0 T_reachesAbove_11 ?_
      refine aw_gr (wx_r2_1 hW) T_reachesAbove_12 (wx_o2 hW) ?_
      refine aw_il2 T_reachesAbove_15 ?_
      refine aw_aa T_reachesAbove_16 (wx_a_tmarks hW) (by first | rfl | assumption) (by omega) (wx_rr_tmarks hW (by omega)) ?_
      refine aw_S2 T_reachesAbove_17 rfl rfl rfl rfl ?_
      refine c_isBelow hi (wx_ra_tmarks hW (by omega)) (by omega) ?_
      show aw _ _ _ _ _ _ _ _ _
      refine aw_zeq T_reachesAbove_20 (fun h20 => ?_) (fun h20 => ?_)
      · skip
        refine aw_ip2 T_reachesAbove_25 (by omega) ?_
        refine aw_go T_reachesAbove_28 ?_
        exact ih (k + 1) (by omega) (by omega) (fun r hr => by
          by_cases e : r = k
          · subst e; exact fun z => iz h20 ((hb (by omega)).mpr z)
          · exact hno r (by omega))
      · skip
        refine aw_c T_reachesAbove_23 ?_
        refine aw_reti T_reachesAbove_24 (Or.inr ⟨rfl, (by first | exact Or.inl rfl | exact Or.inr rfl | assumption)⟩) ?_
        rw [show tf (cvT Pn τ f) = 1 from cI_p ⟨k, by omega, (hb (by omega)).mp (nz h20)⟩] at hP
        exact hP
theorem c_reachesAbove {i : Nat} {τ : Tz} {f : Nat → Int} (hW : WX S Pn T) (hs : τ.1 ≤ 200) (hR : RC Pn T g τ) (hi : hasA S i 0 Pn) (hf : ∀ p, p < Pn → g i p = f p) (hP : P (.inl (some (iV (tf (cvT Pn τ f))))) (S, g, u)) : Sp l E T_reachesAbove (d + 1) [rV (2 * T + 5), rV i] (S, g, u) P := by
  show aw l E T_reachesAbove (d + 1) 0 [some (rV (2 * T + 5)), some (rV i), none, none, none, none, none] [] (S, g, u) P
  refine aw_c T_reachesAbove_0 ?_
  refine aw_is2 T_reachesAbove_1 ?_
  exact c_reachesAbove_lp hW hs hR hi hf hP (τ.1 + 1) 0 (by omega) (by omega) (fun r hr => absurd hr (Nat.not_lt_zero r))
theorem c_everEnables {t : Nat} {τ : Tz} (hW : WX S Pn T) (hN : NX Pn T g nd gv fs) (hs : τ.1 ≤ 200) (hR : RC Pn T g τ) (ht : t < T) (hP : P (.inl (some (iV (tf (cvT Pn τ (nd t)))))) (S, g, u)) : Sp l E T_everEnables (d + 2) [rV (2 * T + 5), iV (t : Int)] (S, g, u) P := by
  show aw l E T_everEnables (d + 2) 0 [some (rV (2 * T + 5)), some (iV (t : Int)), none, none, none, none, none] [] (S, g, u) P
  refine aw_al0 T_everEnables_0 ?_
  refine aw_al0 T_everEnables_1 ?_
  refine aw_gr (wx_r2_0 hW) T_everEnables_2 (wx_o2 hW) ?_
  refine aw_gr (wx_r1_2 hW) T_everEnables_5 (wx_o1 hW) ?_
  refine aw_il1 T_everEnables_8 ?_
  refine aw_aa T_everEnables_9 (wx_a_needs hW) (by first | rfl | assumption) (by omega) (wx_rr_needs hW (by omega)) ?_
  refine aw_V1 T_everEnables_10 rfl rfl rfl (wx_o2 hW) ?_
  refine c_reachesAbove hW hs hR (wx_ra_needs hW (by omega)) (fun p hp => (hN.2.2.1 t ht p hp).1) ?_
  show aw _ _ _ _ _ _ _ _ _
  refine aw_reti T_everEnables_13 (Or.inr ⟨rfl, (tf01 _)⟩) ?_
  exact hP
def suT (P T : Nat) (nd : Nat → Nat → Int) (τ : Tz) (n : Nat) : Prop := ∀ t, t < T → ¬ bl P (nd t) (τ.2.1 n)
theorem c_firstStuck_lp {τ : Tz} (hW : WX S Pn T) (hN : NX Pn T g nd gv fs) (hs : τ.1 ≤ 200) (hR : RC Pn T g τ) : ∀ (s k : Nat), k + s = τ.1 → P (.inl (some (iV (fnd (suT Pn T nd τ) s k)))) (S, g, u) → aw l E T_firstStuck (d + 3) 2 [some (rV (2 * T + 5)), some (iV (k : Int)), none, none, none, none, none] [] (S, g, u) P := by
  intro s
  have hp6 := wx_P hW
  have hsz : g (2 * T + 5) 7 = (τ.1 : Int) := hR.2.2.2.2.2
  induction s with
  | zero =>
    intro k hk hP
    refine aw_il1 T_firstStuck_2 ?_
    refine aw_al0 T_firstStuck_3 ?_
    refine aw_gi T_firstStuck_4 (wx_o2 hW) ?_
    refine aw_cge T_firstStuck_7 (fun h7 => ?_) (fun h7 => ?_)
    · skip
      refine aw_c T_firstStuck_34 ?_
      refine aw_reti T_firstStuck_36 (Or.inl rfl) ?_
      exact hP
    · skip
      omega
  | succ s ih =>
    intro k hk hP
    have hb : (∀ t, t < T → ¬ bl Pn (g (3 + t)) (g (2 * T + 12 + k))) ↔ suT Pn T nd τ k := forall_congr' fun t => ⟨fun h ht z => h ht ((blC (fun p hp => (hN.2.2.1 t ht p hp).1) (hR.1 k (by omega))).mpr z), fun h ht z => h ht ((blC (fun p hp => (hN.2.2.1 t ht p hp).1) (hR.1 k (by omega))).mp z)⟩
    refine aw_il1 T_firstStuck_2 ?_
    refine aw_al0 T_firstStuck_3 ?_
    refine aw_gi T_firstStuck_4 (wx_o2 hW) ?_
    refine aw_cge T_firstStuck_7 (fun h7 => ?_) (fun h7 => ?_)
    · skip
      omega
    · skip
      refine aw_al0 T_firstStuck_10 ?_
      refine aw_gr (wx_r2_0 hW) T_firstStuck_11 (wx_o2 hW) ?_
      refine aw_al0 T_firstStuck_14 ?_
      refine aw_gr (wx_r2_1 hW) T_firstStuck_15 (wx_o2 hW) ?_
      refine aw_il1 T_firstStuck_18 ?_
      refine aw_aa T_firstStuck_19 (wx_a_tmarks hW) (by first | rfl | assumption) (by omega) (wx_rr_tmarks hW (by omega)) ?_
      refine aw_V1 T_firstStuck_20 rfl rfl rfl (wx_o1 hW) ?_
      refine c_isStuck (d := d) hW (wx_ra_tmarks hW (by omega)) hN.2.1 ?_
      show aw _ _ _ _ _ _ _ _ _
      refine aw_zeq T_firstStuck_23 (fun h23 => ?_) (fun h23 => ?_)
      · skip
        refine aw_ip1 T_firstStuck_28 (by omega) ?_
        refine aw_go T_firstStuck_31 ?_
        refine ih (k + 1) (by omega) ?_
        rw [show fnd (suT Pn T nd τ) (s + 1) k = fnd (suT Pn T nd τ) s (k + 1) from cI_n (fun z => iz h23 (hb.mpr z))] at hP
        exact hP
      · skip
        refine aw_il1 T_firstStuck_26 ?_
        refine aw_reti T_firstStuck_27 (Or.inl rfl) ?_
        rw [show fnd (suT Pn T nd τ) (s + 1) k = (k : Int) from cI_p (hb.mp (nz h23))] at hP
        exact hP
theorem c_firstStuck {τ : Tz} (hW : WX S Pn T) (hN : NX Pn T g nd gv fs) (hs : τ.1 ≤ 200) (hR : RC Pn T g τ) (hP : P (.inl (some (iV (fnd (suT Pn T nd τ) τ.1 0)))) (S, g, u)) : Sp l E T_firstStuck (d + 3) [rV (2 * T + 5)] (S, g, u) P := by
  show aw l E T_firstStuck (d + 3) 0 [some (rV (2 * T + 5)), none, none, none, none, none, none] [] (S, g, u) P
  refine aw_c T_firstStuck_0 ?_
  refine aw_is1 T_firstStuck_1 ?_
  exact c_firstStuck_lp hW hN hs hR τ.1 0 (by omega) hP
end MX
end
section
/-! ===== the goals, as mathematics ===== -/
def knG (P : Nat) (γ : Tz) (c : Nat → Int) : Prop := ∃ k, k < γ.1 ∧ ¬ γ.2.2.2.2.2 k ∧ bl P (γ.2.1 k) c
def adG (P : Nat) (γ : Tz) (n t : Nat) (c : Nat → Int) : Tz := (γ.1 + 1, fun k => if k = γ.1 then c else γ.2.1 k, fun k => if k = γ.1 then n else γ.2.2.1 k, fun k => if k = γ.1 then t else γ.2.2.2.1 k, fun k => if k = γ.1 then γ.2.2.2.2.1 n + 1 else γ.2.2.2.2.1 k, fun k => if k = γ.1 then False else (γ.2.2.2.2.2 k ∨ bl P c (γ.2.1 k)))
def cdG (nd gv : Nat → Nat → Int) (γ : Tz) (n t : Nat) : Nat → Int := fun p => mb (γ.2.1 n p) (nd t p) (gv t p)
noncomputable def bkG (P : Nat) (nd gv : Nat → Nat → Int) (γ : Tz) (n : Nat) : Nat → Bool × Tz
  | 0 => (true, γ)
  | k + 1 => cI ((bkG P nd gv γ n k).1 = true ∧ ¬ knG P (bkG P nd gv γ n k).2 (cdG nd gv (bkG P nd gv γ n k).2 n k)) (cI ((bkG P nd gv γ n k).2.1 = 48) (false, (bkG P nd gv γ n k).2) (true, adG P (bkG P nd gv γ n k).2 n k (cdG nd gv (bkG P nd gv γ n k).2 n k))) (bkG P nd gv γ n k)
noncomputable def gtG (P T : Nat) (nd gv : Nat → Nat → Int) (wn : Nat → Int) : Nat → Bool × Tz
  | 0 => (true, plT wn)
  | k + 1 => cI ((gtG P T nd gv wn k).1 = true ∧ k < (gtG P T nd gv wn k).2.1 ∧ ¬ (gtG P T nd gv wn k).2.2.2.2.2.2 k) (bkG P nd gv (gtG P T nd gv wn k).2 k T) (gtG P T nd gv wn k)
def WG (P : Nat) (γ : Tz) : Prop := 1 ≤ γ.1 ∧ γ.1 ≤ 48 ∧ γ.2.2.2.2.1 0 = 0 ∧ (∀ n, 0 < n → n < γ.1 → γ.2.2.1 n < n ∧ γ.2.2.2.2.1 n = γ.2.2.2.2.1 (γ.2.2.1 n) + 1) ∧ ∀ n, n < γ.1 → ∀ p, p < P → 0 ≤ γ.2.1 n p ∧ γ.2.1 n p ≤ 100 + 9 * n
theorem WG_dp {P : Nat} {τ : Tz} (h : WG P τ) : ∀ n, n < τ.1 → τ.2.2.2.2.1 n ≤ n := by
  intro n
  induction n using Nat.strongRecOn with
  | ind n ih =>
    intro hn
    by_cases h0 : n = 0
    · subst h0; rw [h.2.2.1]; omega
    · obtain ⟨h1, h2⟩ := h.2.2.2.1 n (by omega) hn
      have := ih _ h1 (by omega)
      omega
theorem WG_ad {P : Nat} {nd gv : Nat → Nat → Int} {γ : Tz} {n t : Nat} (h : WG P γ) (hn : n < γ.1) (hs : γ.1 < 48) (hnd : ∀ p, p < P → 0 ≤ nd t p ∧ nd t p ≤ 9) (hgv : ∀ p, p < P → 0 ≤ gv t p ∧ gv t p ≤ 9) : WG P (adG P γ n t (cdG nd gv γ n t)) := by
  obtain ⟨h1, h2, h3, h4, h5⟩ := h
  refine ⟨by show 1 ≤ γ.1 + 1; omega, by show γ.1 + 1 ≤ 48; omega, ?_, fun k hk0 hk => ?_, fun k hk p hp => ?_⟩
  · show (if 0 = γ.1 then _ else _) = 0
    rw [if_neg (by omega)]; exact h3
  · have hk' : k < γ.1 + 1 := hk
    show (if k = γ.1 then n else γ.2.2.1 k) < k ∧ (if k = γ.1 then γ.2.2.2.2.1 n + 1 else γ.2.2.2.2.1 k) = (if (if k = γ.1 then n else γ.2.2.1 k) = γ.1 then _ else γ.2.2.2.2.1 (if k = γ.1 then n else γ.2.2.1 k)) + 1
    by_cases e : k = γ.1
    · rw [if_pos e, if_pos e, if_neg (by omega)]
      exact ⟨by omega, rfl⟩
    · obtain ⟨g1, g2⟩ := h4 k hk0 (by omega)
      rw [if_neg e, if_neg e, if_neg (by omega)]
      exact ⟨g1, g2⟩
  · have hk' : k < γ.1 + 1 := hk
    by_cases e : k = γ.1
    · have e9 : (adG P γ n t (cdG nd gv γ n t)).2.1 k p = mb (γ.2.1 n p) (nd t p) (gv t p) := by
        show (if k = γ.1 then cdG nd gv γ n t else γ.2.1 k) p = _
        rw [if_pos e]; rfl
      rw [e9]
      obtain ⟨b1, b2⟩ := h5 n hn p hp
      have b4 := hnd p hp
      have b5 := hgv p hp
      unfold mb
      split <;> omega
    · have e9 : (adG P γ n t (cdG nd gv γ n t)).2.1 k p = γ.2.1 k p := by
        show (if k = γ.1 then cdG nd gv γ n t else γ.2.1 k) p = _
        rw [if_neg e]
      rw [e9]
      exact h5 k (by omega) p hp
theorem WG_bk {P : Nat} {nd gv : Nat → Nat → Int} {γ : Tz} {n : Nat} (h : WG P γ) (hn : n < γ.1) : ∀ k : Nat, (∀ t, t < k → ∀ p, p < P → 0 ≤ nd t p ∧ nd t p ≤ 9) → (∀ t, t < k → ∀ p, p < P → 0 ≤ gv t p ∧ gv t p ≤ 9) → WG P (bkG P nd gv γ n k).2 ∧ γ.1 ≤ (bkG P nd gv γ n k).2.1
  | 0, _, _ => ⟨h, Nat.le_refl _⟩
  | k + 1, hnd, hgv => by
    obtain ⟨h1, h2⟩ := WG_bk h hn k (fun t ht => hnd t (by omega)) (fun t ht => hgv t (by omega))
    show WG P (cI _ _ _ : Bool × Tz).2 ∧ γ.1 ≤ (cI _ _ _ : Bool × Tz).2.1
    by_cases hc : (bkG P nd gv γ n k).1 = true ∧ ¬ knG P (bkG P nd gv γ n k).2 (cdG nd gv (bkG P nd gv γ n k).2 n k)
    · rw [cI_p hc]
      by_cases hs : (bkG P nd gv γ n k).2.1 = 48
      · rw [cI_p hs]; exact ⟨h1, h2⟩
      · rw [cI_n hs]
        refine ⟨WG_ad h1 (by omega) (by have := h1.2.1; omega) (hnd k (by omega)) (hgv k (by omega)), ?_⟩
        show γ.1 ≤ (bkG P nd gv γ n k).2.1 + 1
        omega
    · rw [cI_n hc]; exact ⟨h1, h2⟩
theorem WG_gt {P T : Nat} {nd gv : Nat → Nat → Int} {wn : Nat → Int} (hf : ∀ p, p < P → 0 ≤ wn p ∧ wn p ≤ 100) (hnd : ∀ t, t < T → ∀ p, p < P → 0 ≤ nd t p ∧ nd t p ≤ 9) (hgv : ∀ t, t < T → ∀ p, p < P → 0 ≤ gv t p ∧ gv t p ≤ 9) : ∀ k : Nat, WG P (gtG P T nd gv wn k).2
  | 0 => ⟨Nat.le_refl _, (by decide : 1 ≤ 48), rfl, fun n h1 h2 => by have h3 : n < 1 := h2; omega, fun n hn p hp => ⟨(hf p hp).1, by have := (hf p hp).2; show wn p ≤ _; omega⟩⟩
  | k + 1 => by
    have h1 := WG_gt hf hnd hgv k
    show WG P (cI _ _ _ : Bool × Tz).2
    by_cases hc : (gtG P T nd gv wn k).1 = true ∧ k < (gtG P T nd gv wn k).2.1 ∧ ¬ (gtG P T nd gv wn k).2.2.2.2.2.2 k
    · rw [cI_p hc]
      exact (WG_bk h1 hc.2.1 T hnd hgv).1
    · rw [cI_n hc]; exact h1
theorem bk_false {P : Nat} {nd gv : Nat → Nat → Int} {τ : Tz} {n k : Nat} (h : (bkG P nd gv τ n k).1 = false) : ∀ j, bkG P nd gv τ n (k + j) = bkG P nd gv τ n k
  | 0 => rfl
  | j + 1 => by
    have h1 := bk_false h j
    show bkG P nd gv τ n ((k + j) + 1) = _
    refine (cI_n (fun z => ?_)).trans h1
    have z1 : (bkG P nd gv τ n (k + j)).1 = true := z.1
    rw [h1, h] at z1
    cases z1
theorem gt_false {P T : Nat} {nd gv : Nat → Nat → Int} {wn : Nat → Int} {k : Nat} (h : (gtG P T nd gv wn k).1 = false ∨ (gtG P T nd gv wn k).2.1 ≤ k) : ∀ j, gtG P T nd gv wn (k + j) = gtG P T nd gv wn k
  | 0 => rfl
  | j + 1 => by
    have h1 := gt_false h j
    show gtG P T nd gv wn ((k + j) + 1) = _
    refine (cI_n (fun z => ?_)).trans h1
    have z1 : (gtG P T nd gv wn (k + j)).1 = true := z.1
    have z2 : k + j < (gtG P T nd gv wn (k + j)).2.1 := z.2.1
    rw [h1] at z1 z2
    rcases h with h | h
    · rw [h] at z1; cases z1
    · omega
/-- how many of the first k are kept -/
noncomputable def kcG (γ : Tz) : Nat → Nat
  | 0 => 0
  | k + 1 => kcG γ k + cI (γ.2.2.2.2.2 k) 0 1
theorem kcG_le (γ : Tz) : ∀ k, kcG γ k ≤ k
  | 0 => Nat.le_refl _
  | k + 1 => by
    have := kcG_le γ k
    show kcG γ k + cI (γ.2.2.2.2.2 k) 0 1 ≤ k + 1
    by_cases h : γ.2.2.2.2.2 k
    · rw [cI_p h]; omega
    · rw [cI_n h]; omega
theorem kcG_lt {γ : Tz} {v : Nat} (hv : ¬ γ.2.2.2.2.2 v) : ∀ k, v < k → kcG γ v < kcG γ k
  | 0, h => by omega
  | k + 1, h => by
    show kcG γ v < kcG γ k + cI (γ.2.2.2.2.2 k) 0 1
    by_cases e : v = k
    · subst e; rw [cI_n hv]; omega
    · have := kcG_lt hv k (by omega)
      omega
/-- an int, wrapped -/
def wr (x : Int) : Int := (Int32.ofInt x).toInt
theorem wr_ok (x : Int) : okI (wr x) := okT _
theorem wr_of (x : Int) : Int32.ofInt (wr x) = Int32.ofInt x := i32R _
theorem wr_id {x : Int} (h : okI x) : wr x = x := i32T h
theorem wr_0 {x : Int} (h1 : -2147483648 - 1000 ≤ x) (h2 : x ≤ 2147483647) : wr x = 0 ↔ x = 0 := by
  unfold wr
  rw [Int32.toInt_ofInt]
  have e : (Int32.size : Nat) = 4294967296 := by decide
  simp only [e, Int.bmod]
  split <;> omega
theorem wr_s (x : Int) : wr (wr x + -1) = wr (x - 1) := by
  unfold wr
  congr 1
  rw [Int32.ofInt_add, i32R, ← Int32.ofInt_add]
  rfl
section WRR
variable {l : Launch} {E : aE} {q : aK} {d pc nx : Nat} {L : List (Option aA)} {st : List aA} {M : aM} {P : aP}
theorem aw_inw {k : Nat} {x n : Int} (h : Kn q pc k n nx) (hk : L[k]? = some (some (iV x))) (kk : aw l E q d nx (L.set k (some (iV (wr (x + n))))) st M P) : aw l E q d pc L st M P := by
  intro p e R s m args below meth cd H locs cells slots kc ks ls hx hG hM hd hl hR hS hL hst c1 c2 s1 s2
  obtain ⟨hkn, h1, h2⟩ := h
  subst h2
  obtain ⟨lv, g1, g2⟩ := lsA_set (v := iV (wr (x + n))) hL hkn (wr_ok _) rfl
  obtain ⟨g3, -, -⟩ := hL.2.2 k _ hk
  have g4 : lv_has ls q.2.2.1 ((k, Value.int (Int32.ofInt x)) :: lv) := ⟨g1.1, g1.2.1, fun y hy => (List.mem_cons.mp hy).elim (fun e => by rw [e]; exact g3) (g1.2.2 y)⟩
  refine lv_iinc (k := 0) (lv := (k, Value.int (Int32.ofInt x)) :: lv) hx hM.2.2.1 h1 g4 rfl (v := Int32.ofInt (wr (x + n))) (by rw [wr_of, Int32.ofInt_add]) hkn rfl fun ls' h' => ?_
  have h'' : lv_has ls' q.2.2.1 ((k, cvA E (iV (wr (x + n)))) :: lv.filter (fun q => !(q.1 == k) && !(q.1 + 1 == k && q.2.category == 2))) := by
    have e : ((k, Value.int (Int32.ofInt x)) :: lv).filter (fun q => !(q.1 == k) && !(q.1 + 1 == k && q.2.category == 2)) = lv.filter (fun q => !(q.1 == k) && !(q.1 + 1 == k && q.2.category == 2)) := by
      rw [List.filter_cons_of_neg]
      simp
    rw [e] at h'
    exact h'
  exact kk p e R s m args below meth cd H locs cells slots kc ks ls' hx hG hM hd hl hR hS (g2 ls' h'') hst c1 c2 s1 s2
theorem aw_inw2 {x0 x1 x3 x4 x5 x6 : Option aA} {x n : Int} (h : Kn q pc 2 n nx) (kk : aw l E q d nx [x0, x1, some (iV (wr (x + n))), x3, x4, x5, x6] st M P) : aw l E q d pc [x0, x1, some (iV x), x3, x4, x5, x6] st M P := aw_inw h rfl kk
end WRR
end
section
section MG
variable {l : Launch} {E : aE} {d : Nat} {S : aS} {g : aG} {u : aU} {P : aP} {Pn T : Nat} {nd gv : Nat → Nat → Int} {fs : Nat → Int}
/-- the class's goal cells hold γ -/
def RGz (Pn T : Nat) (g : aG) (γ : Tz) (z : Int) : Prop := (∀ n, n < γ.1 → ∀ p, p < Pn → g (2 * T + 218 + n) p = γ.2.1 n p) ∧ (∀ n, 0 < n → n < γ.1 → g (2 * T + 213) n = (γ.2.2.1 n : Int) ∧ g (2 * T + 214) n = (γ.2.2.2.1 n : Int)) ∧ (∀ n, n < γ.1 → g (2 * T + 215) n = (γ.2.2.2.2.1 n : Int)) ∧ (∀ n, n < γ.1 → g (2 * T + 216) n = tf (γ.2.2.2.2.2 n)) ∧ g (2 * T + 212) 7 = z
abbrev RG (Pn T : Nat) (g : aG) (γ : Tz) : Prop := RGz Pn T g γ (γ.1 : Int)
/-- nothing but goals has changed -/
def FL (T : Nat) (g g' : aG) : Prop := ∀ a b, (a < 2 * T + 212 ∨ (a = 2 * T + 212 ∧ b ≠ 7) ∨ 2 * T + 267 ≤ a) → g' a b = g a b
theorem FL.rf (T : Nat) (g : aG) : FL T g g := fun _ _ _ => rfl
theorem FL.tr {T : Nat} {g g' g'' : aG} (h : FL T g g') (h' : FL T g' g'') : FL T g g'' := fun a b z => (h' a b z).trans (h a b z)
theorem mbk_ne {g : aG} {fr to n v k a b : Nat} (h : a ≠ to) : mbk g fr to n v k a b = g a b := if_neg (fun z => h z.1)
theorem c_isKnown_lp {i : Nat} {γ : Tz} {c : Nat → Int} (hW : WX S Pn T) (hs : γ.1 ≤ 48) (hR : RG Pn T g γ) (hi : hasA S i 0 Pn) (hc : ∀ p, p < Pn → g i p = c p) (hP : P (.inl (some (iV (tf (knG Pn γ c))))) (S, g, u)) : ∀ (m k : Nat), γ.1 - k < m → k ≤ γ.1 → (∀ r, r < k → ¬ (¬ γ.2.2.2.2.2 r ∧ bl Pn (γ.2.1 r) c)) → aw l E G_isKnown (d + 1) 2 [some (rV (2 * T + 212)), some (rV i), some (iV (k : Int)), none, none, none, none] [] (S, g, u) P := by
  intro m
  have hp6 := wx_P hW
  have hsz : g (2 * T + 212) 7 = (γ.1 : Int) := hR.2.2.2.2
  induction m with
  | zero => intro k h; omega
  | succ m ih =>
    intro k hm hk hno
    have hb : k < γ.1 → (bl Pn (g (2 * T + 218 + k)) (g i) ↔ bl Pn (γ.2.1 k) c) := fun h => blC (hR.1 k h) hc
    have hgu : k < γ.1 → g (2 * T + 216) k = tf (γ.2.2.2.2.2 k) := fun h => hR.2.2.2.1 k h
    refine aw_il2 G_isKnown_2 ?_
    refine aw_al0 G_isKnown_3 ?_
    refine aw_gi G_isKnown_4 (wx_o0 hW) ?_
    refine aw_cge G_isKnown_7 (fun h7 => ?_) (fun h7 => ?_)
    · skip
      refine aw_c G_isKnown_40 ?_
      refine aw_reti G_isKnown_41 (Or.inr ⟨rfl, (by first | exact Or.inl rfl | exact Or.inr rfl | assumption)⟩) ?_
      rw [show tf (knG Pn γ c) = 0 from cI_n (fun ⟨r, z1, z2⟩ => hno r (by omega) z2)] at hP
      exact hP
    · skip
      refine aw_al0 G_isKnown_10 ?_
      refine aw_gr (wx_r0_5 hW) G_isKnown_11 (wx_o0 hW) ?_
      refine aw_il2 G_isKnown_14 ?_
      refine aw_za G_isKnown_15 (wx_a_ggiv hW) (by first | rfl | assumption) (by omega) ?_
      rw [hgu (by omega)]
      refine aw_zne G_isKnown_16 (fun h16 => ?_) (fun h16 => ?_)
      · skip
        refine aw_ip2 G_isKnown_34 (by omega) ?_
        refine aw_go G_isKnown_37 ?_
        exact ih (k + 1) (by omega) (by omega) (fun r hr => by
          by_cases e : r = k
          · subst e
            exact fun z => z.1 (nz h16)
          · exact hno r (by omega))
      · skip
        refine aw_al0 G_isKnown_19 ?_
        refine aw_gr (wx_r0_1 hW) G_isKnown_20 (wx_o0 hW) ?_
        refine aw_il2 G_isKnown_23 ?_
        refine aw_aa G_isKnown_24 (wx_a_gmarks hW) (by first | rfl | assumption) (by omega) (wx_rr_gmarks hW (by omega)) ?_
        refine aw_al1 G_isKnown_25 ?_
        refine aw_S2 G_isKnown_26 rfl rfl rfl rfl ?_
        refine c_isBelow (wx_ra_gmarks hW (by omega)) hi (by omega) ?_
        show aw _ _ _ _ _ _ _ _ _
        refine aw_zeq G_isKnown_29 (fun h29 => ?_) (fun h29 => ?_)
        · skip
          refine aw_ip2 G_isKnown_34 (by omega) ?_
          refine aw_go G_isKnown_37 ?_
          exact ih (k + 1) (by omega) (by omega) (fun r hr => by
            by_cases e : r = k
            · subst e
              exact fun z => iz h29 ((hb (by omega)).mpr z.2)
            · exact hno r (by omega))
        · skip
          refine aw_c G_isKnown_32 ?_
          refine aw_reti G_isKnown_33 (Or.inr ⟨rfl, (by first | exact Or.inl rfl | exact Or.inr rfl | assumption)⟩) ?_
          rw [show tf (knG Pn γ c) = 1 from cI_p ⟨k, by omega, iz h16, (hb (by omega)).mp (nz h29)⟩] at hP
          exact hP
theorem c_isKnown {i : Nat} {γ : Tz} {c : Nat → Int} (hW : WX S Pn T) (hs : γ.1 ≤ 48) (hR : RG Pn T g γ) (hi : hasA S i 0 Pn) (hc : ∀ p, p < Pn → g i p = c p) (hP : P (.inl (some (iV (tf (knG Pn γ c))))) (S, g, u)) : Sp l E G_isKnown (d + 1) [rV (2 * T + 212), rV i] (S, g, u) P := by
  show aw l E G_isKnown (d + 1) 0 [some (rV (2 * T + 212)), some (rV i), none, none, none, none, none] [] (S, g, u) P
  refine aw_c G_isKnown_0 ?_
  refine aw_is2 G_isKnown_1 ?_
  exact c_isKnown_lp hW hs hR hi hc hP (γ.1 + 1) 0 (by omega) (by omega) (fun r hr => absurd hr (Nat.not_lt_zero r))
/-- of the first k goals those above the candidate are given up -/
noncomputable def guk (Pn T : Nat) (g : aG) (k : Nat) : aG := fun a b => cI (a = 2 * T + 216 ∧ b < k ∧ bl Pn (g (2 * T + 266)) (g (2 * T + 218 + b))) 1 (g a b)
theorem guk_0 (Pn T : Nat) (g : aG) : guk Pn T g 0 = g := by
  funext a b
  exact cI_n (fun z => absurd z.2.1 (Nat.not_lt_zero b))
theorem guk_ne {g : aG} {k a b : Nat} (h : a ≠ 2 * T + 216) : guk Pn T g k a b = g a b := cI_n (fun z => h z.1)
theorem guk_f {g : aG} {k a : Nat} (h : a ≠ 2 * T + 216) : guk Pn T g k a = g a := funext fun b => guk_ne h
theorem guk_s {g : aG} {k : Nat} (h : bl Pn (g (2 * T + 266)) (g (2 * T + 218 + k))) : upA (guk Pn T g k) (2 * T + 216) k 1 = guk Pn T g (k + 1) := by
  funext a b
  unfold upA
  by_cases hc : a = 2 * T + 216 ∧ b = k
  · obtain ⟨rfl, rfl⟩ := hc
    rw [if_pos ⟨rfl, rfl⟩]
    exact (cI_p ⟨rfl, by omega, h⟩).symm
  · rw [if_neg hc]
    unfold guk
    have e : (a = 2 * T + 216 ∧ b < k ∧ bl Pn (g (2 * T + 266)) (g (2 * T + 218 + b))) ↔ (a = 2 * T + 216 ∧ b < k + 1 ∧ bl Pn (g (2 * T + 266)) (g (2 * T + 218 + b))) := by
      constructor
      · rintro ⟨h1, h2, h3⟩; exact ⟨h1, by omega, h3⟩
      · rintro ⟨h1, h2, h3⟩; exact ⟨h1, by have : b ≠ k := fun e => hc ⟨h1, e⟩; omega, h3⟩
    rw [propext e]
theorem guk_n {g : aG} {k : Nat} (h : ¬ bl Pn (g (2 * T + 266)) (g (2 * T + 218 + k))) : guk Pn T g (k + 1) = guk Pn T g k := by
  funext a b
  unfold guk
  have e : (a = 2 * T + 216 ∧ b < k + 1 ∧ bl Pn (g (2 * T + 266)) (g (2 * T + 218 + b))) ↔ (a = 2 * T + 216 ∧ b < k ∧ bl Pn (g (2 * T + 266)) (g (2 * T + 218 + b))) := by
    constructor
    · rintro ⟨h1, h2, h3⟩
      exact ⟨h1, by have : b ≠ k := fun e => h (by rw [← e]; exact h3); omega, h3⟩
    · rintro ⟨h1, h2, h3⟩; exact ⟨h1, by omega, h3⟩
  rw [propext e]
theorem cpA_ne {g : aG} {i j k a b : Nat} (h : a ≠ j) : cpA g i j k a b = g a b := if_neg (fun z => h z.1)
theorem c_addCand_2 {n t a b : Nat} {γ : Tz} {c : Nat → Int} (hW : WX S Pn T) (hN : NX Pn T g nd gv fs) (hd : 1 ≤ d) (hw : WG Pn γ) (hR : RG Pn T g γ) (hn : n < γ.1) (hs : γ.1 < 48) (hc : ∀ p, p < Pn → g (2 * T + 266) p = c p) (hP : ∀ g', RG Pn T g' (adG Pn γ n t c) → FL T g g' → P (.inl none) (S, g', a, b, false)) : aw l E G_addCandidate d 39 [some (rV (2 * T + 212)), some (iV (n : Int)), some (iV (t : Int)), some (iV (γ.1 : Int)), none, none, none] [] (S, guk Pn T g γ.1, a, b, false) P := by
  have hp6 := wx_P hW
  have hT8 := wx_T hW
  obtain ⟨r1, r2, r3, r4, r5⟩ := hR
  have hsz : guk Pn T g γ.1 (2 * T + 212) 7 = (γ.1 : Int) := (guk_ne (by omega)).trans r5
  have h10 : guk Pn T g γ.1 1 0 = (Pn : Int) := (guk_ne (by omega)).trans hN.1
  have hdn := WG_dp hw n hn
  refine aw_al0 G_addCandidate_39 ?_
  refine aw_gr (wx_r0_6 hW) G_addCandidate_40 (wx_o0 hW) ?_
  refine aw_c G_addCandidate_43 ?_
  refine aw_al0 G_addCandidate_44 ?_
  refine aw_gr (wx_r0_1 hW) G_addCandidate_45 (wx_o0 hW) ?_
  refine aw_al0 G_addCandidate_48 ?_
  refine aw_gi G_addCandidate_49 (wx_o0 hW) ?_
  refine aw_aa G_addCandidate_52 (wx_a_gmarks hW) (by first | rfl | assumption) (by omega) (wx_rr_gmarks hW (by omega)) ?_
  refine aw_c G_addCandidate_53 ?_
  refine aw_al0 G_addCandidate_54 ?_
  refine aw_gr (wx_r0_0 hW) G_addCandidate_55 (wx_o0 hW) ?_
  refine aw_gi G_addCandidate_58 (wx_o1 hW) ?_
  refine aw_cp G_addCandidate_61 (by omega) rfl (wx_a_gcan hW) (wx_ra_gmarks hW (by omega)) h10 (Nat.le_refl _) (Nat.le_refl _) ?_
  have q1 : ∀ x y, x ≠ 2 * T + 218 + γ.1 → x ≠ 2 * T + 216 → (cpA (guk Pn T g γ.1) (2 * T + 266) (2 * T + 218 + γ.1) Pn) x y = g x y := fun x y h1 h2 => (cpA_ne h1).trans (guk_ne h2)
  have q2 : ∀ p, p < Pn → (cpA (guk Pn T g γ.1) (2 * T + 266) (2 * T + 218 + γ.1) Pn) (2 * T + 218 + γ.1) p = c p := fun p hp => (if_pos ⟨rfl, hp⟩).trans ((guk_ne (by omega)).trans (hc p hp))
  have q3 : ∀ k, k < γ.1 → (cpA (guk Pn T g γ.1) (2 * T + 266) (2 * T + 218 + γ.1) Pn) (2 * T + 216) k = tf (γ.2.2.2.2.2 k ∨ bl Pn c (γ.2.1 k)) := fun k hk => by
    rw [cpA_ne (by omega)]
    have hb : bl Pn (g (2 * T + 266)) (g (2 * T + 218 + k)) ↔ bl Pn c (γ.2.1 k) := blC hc (r1 k hk)
    by_cases z : bl Pn c (γ.2.1 k)
    · rw [show tf (γ.2.2.2.2.2 k ∨ bl Pn c (γ.2.1 k)) = 1 from cI_p (Or.inr z)]
      exact cI_p ⟨rfl, hk, hb.mpr z⟩
    · rw [show guk Pn T g γ.1 (2 * T + 216) k = g (2 * T + 216) k from cI_n (fun y => z (hb.mp y.2.2)), r4 k hk]
      exact tfE ⟨Or.inl, fun y => y.elim id (fun f => absurd f z)⟩
  have hs64 : (cpA (guk Pn T g γ.1) (2 * T + 266) (2 * T + 218 + γ.1) Pn) (2 * T + 212) 7 = (γ.1 : Int) := (q1 _ _ (by omega) (by omega)).trans r5
  generalize cpA (guk Pn T g γ.1) (2 * T + 266) (2 * T + 218 + γ.1) Pn = G at q1 q2 q3 hs64 ⊢
  refine aw_al0 G_addCandidate_64 ?_
  refine aw_gr (wx_r0_2 hW) G_addCandidate_65 (wx_o0 hW) ?_
  refine aw_al0 G_addCandidate_68 ?_
  refine aw_gi G_addCandidate_69 (wx_o0 hW) ?_
  refine aw_il1 G_addCandidate_72 ?_
  refine aw_iast G_addCandidate_73 (wx_a_gnex hW) (by first | rfl | assumption) (by omega) ?_
  have s74 : (upA G (2 * T + 213) γ.1 (n : Int)) (2 * T + 212) 7 = (γ.1 : Int) := (upA_ne (by omega)).trans hs64
  refine aw_al0 G_addCandidate_74 ?_
  refine aw_gr (wx_r0_3 hW) G_addCandidate_75 (wx_o0 hW) ?_
  refine aw_al0 G_addCandidate_78 ?_
  refine aw_gi G_addCandidate_79 (wx_o0 hW) ?_
  refine aw_il2 G_addCandidate_82 ?_
  refine aw_iast G_addCandidate_83 (wx_a_gtra hW) (by first | rfl | assumption) (by omega) ?_
  have s84 : (upA (upA G (2 * T + 213) γ.1 (n : Int)) (2 * T + 214) γ.1 (t : Int)) (2 * T + 212) 7 = (γ.1 : Int) := (upA_ne (by omega)).trans s74
  have e15 : (upA (upA G (2 * T + 213) γ.1 (n : Int)) (2 * T + 214) γ.1 (t : Int)) (2 * T + 215) n = (γ.2.2.2.2.1 n : Int) := by
    rw [upA_ne (by omega), upA_ne (by omega), q1 _ _ (by omega) (by omega)]; exact r3 n hn
  refine aw_al0 G_addCandidate_84 ?_
  refine aw_gr (wx_r0_4 hW) G_addCandidate_85 (wx_o0 hW) ?_
  refine aw_al0 G_addCandidate_88 ?_
  refine aw_gi G_addCandidate_89 (wx_o0 hW) ?_
  refine aw_al0 G_addCandidate_92 ?_
  refine aw_gr (wx_r0_4 hW) G_addCandidate_93 (wx_o0 hW) ?_
  refine aw_il1 G_addCandidate_96 ?_
  refine aw_ia G_addCandidate_97 (wx_a_gdep hW) (by first | rfl | assumption) (by omega) ?_
  refine aw_c G_addCandidate_98 ?_
  refine aw_add G_addCandidate_99 (by constructor <;> omega) ?_
  refine aw_iast G_addCandidate_100 (wx_a_gdep hW) (by first | rfl | assumption) (by omega) ?_
  have s101 : (upA (upA (upA G (2 * T + 213) γ.1 (n : Int)) (2 * T + 214) γ.1 (t : Int)) (2 * T + 215) γ.1 ((upA (upA G (2 * T + 213) γ.1 (n : Int)) (2 * T + 214) γ.1 (t : Int)) (2 * T + 215) n + 1)) (2 * T + 212) 7 = (γ.1 : Int) := (upA_ne (by omega)).trans s84
  refine aw_al0 G_addCandidate_101 ?_
  refine aw_gr (wx_r0_5 hW) G_addCandidate_102 (wx_o0 hW) ?_
  refine aw_al0 G_addCandidate_105 ?_
  refine aw_gi G_addCandidate_106 (wx_o0 hW) ?_
  refine aw_c G_addCandidate_109 ?_
  refine aw_zast G_addCandidate_110 (wx_a_ggiv hW) (by first | rfl | assumption) (by omega) (by first | exact Or.inl rfl | exact Or.inr rfl | assumption) ?_
  have s111 : (upA (upA (upA (upA G (2 * T + 213) γ.1 (n : Int)) (2 * T + 214) γ.1 (t : Int)) (2 * T + 215) γ.1 ((upA (upA G (2 * T + 213) γ.1 (n : Int)) (2 * T + 214) γ.1 (t : Int)) (2 * T + 215) n + 1)) (2 * T + 216) γ.1 0) (2 * T + 212) 7 = (γ.1 : Int) := (upA_ne (by omega)).trans s101
  refine aw_al0 G_addCandidate_111 ?_
  refine aw_dup G_addCandidate_112 ?_
  refine aw_gi G_addCandidate_113 (wx_o0 hW) ?_
  refine aw_c G_addCandidate_116 ?_
  refine aw_add G_addCandidate_117 (by constructor <;> omega) ?_
  refine aw_pi G_addCandidate_118 (wx_o0 hW) ?_
  refine aw_retv G_addCandidate_121 rfl ?_
  refine hP _ ⟨fun k hk p hp => ?_, fun k h0 hk => ?_, fun k hk => ?_, fun k hk => ?_, ?_⟩ (fun x y hxy => ?_)
  · have hk' : k < γ.1 + 1 := hk
    show _ = (if k = γ.1 then c else γ.2.1 k) p
    rw [upA_ne (by omega), upA_ne (by omega), upA_ne (by omega), upA_ne (by omega), upA_ne (by omega)]
    by_cases e : k = γ.1
    · rw [if_pos e, e]; exact q2 p hp
    · rw [if_neg e, q1 _ _ (by omega) (by omega)]; exact r1 k (by omega) p hp
  · have hk' : k < γ.1 + 1 := hk
    show _ = (((if k = γ.1 then n else γ.2.2.1 k : Nat)) : Int) ∧ _ = (((if k = γ.1 then t else γ.2.2.2.1 k : Nat)) : Int)
    by_cases e : k = γ.1
    · rw [if_pos e, if_pos e, e, upA_ne (by omega), upA_ne (by omega), upA_ne (by omega), upA_ne (by omega), upA_eq, upA_ne (by omega), upA_ne (by omega), upA_ne (by omega), upA_eq]
      exact ⟨rfl, rfl⟩
    · rw [if_neg e, if_neg e, upA_ne (by omega), upA_ne (by omega), upA_ne (by omega), upA_ne (by omega), upA_ne (by omega), q1 _ _ (by omega) (by omega), upA_ne (by omega), upA_ne (by omega), upA_ne (by omega), upA_ne (by omega), upA_ne (by omega), q1 _ _ (by omega) (by omega)]
      exact r2 k h0 (by omega)
  · have hk' : k < γ.1 + 1 := hk
    show _ = (((if k = γ.1 then γ.2.2.2.2.1 n + 1 else γ.2.2.2.2.1 k : Nat)) : Int)
    by_cases e : k = γ.1
    · rw [if_pos e, e, upA_ne (by omega), upA_ne (by omega), upA_eq, e15]; rfl
    · rw [if_neg e, upA_ne (by omega), upA_ne (by omega), upA_ne (by omega), upA_ne (by omega), upA_ne (by omega), q1 _ _ (by omega) (by omega)]
      exact r3 k (by omega)
  · have hk' : k < γ.1 + 1 := hk
    show _ = tf (if k = γ.1 then False else (γ.2.2.2.2.2 k ∨ bl Pn c (γ.2.1 k)))
    by_cases e : k = γ.1
    · rw [if_pos e, e, upA_ne (by omega), upA_eq]; exact (cI_n id).symm
    · rw [if_neg e, upA_ne (by omega), upA_ne (by omega), upA_ne (by omega), upA_ne (by omega), upA_ne (by omega)]
      exact q3 k (by omega)
  · rw [upA_eq, s111]; rfl
  · rw [upA_ne (by omega), upA_ne (by omega), upA_ne (by omega), upA_ne (by omega), upA_ne (by omega)]
    exact q1 _ _ (by omega) (by omega)
theorem c_addCand_lp {n t a b : Nat} {γ : Tz} {c : Nat → Int} (hW : WX S Pn T) (hN : NX Pn T g nd gv fs) (hw : WG Pn γ) (hR : RG Pn T g γ) (hn : n < γ.1) (hs : γ.1 < 48) (hc : ∀ p, p < Pn → g (2 * T + 266) p = c p) (hP : ∀ g', RG Pn T g' (adG Pn γ n t c) → FL T g g' → P (.inl none) (S, g', a, b, false)) : ∀ (m k : Nat), γ.1 - k < m → k ≤ γ.1 → aw l E G_addCandidate (d + 1) 2 [some (rV (2 * T + 212)), some (iV (n : Int)), some (iV (t : Int)), some (iV (k : Int)), none, none, none] [] (S, guk Pn T g k, a, b, false) P := by
  intro m
  have hp6 := wx_P hW
  induction m with
  | zero => intro k h; omega
  | succ m ih =>
    intro k hm hk
    have hsz : guk Pn T g k (2 * T + 212) 7 = (γ.1 : Int) := (guk_ne (by omega)).trans hR.2.2.2.2
    refine aw_il3 G_addCandidate_2 ?_
    refine aw_al0 G_addCandidate_3 ?_
    refine aw_gi G_addCandidate_4 (wx_o0 hW) ?_
    refine aw_cge G_addCandidate_7 (fun h7 => ?_) (fun h7 => ?_)
    · skip
      have e : k = γ.1 := by omega
      subst e
      exact c_addCand_2 hW hN (by omega) hw hR hn hs hc hP
    · skip
      refine aw_al0 G_addCandidate_10 ?_
      refine aw_gr (wx_r0_6 hW) G_addCandidate_11 (wx_o0 hW) ?_
      refine aw_al0 G_addCandidate_14 ?_
      refine aw_gr (wx_r0_1 hW) G_addCandidate_15 (wx_o0 hW) ?_
      refine aw_il3 G_addCandidate_18 ?_
      refine aw_aa G_addCandidate_19 (wx_a_gmarks hW) (by first | rfl | assumption) (by omega) (wx_rr_gmarks hW (by omega)) ?_
      refine aw_S2 G_addCandidate_20 rfl rfl rfl rfl ?_
      refine c_isBelow (wx_a_gcan hW) (wx_ra_gmarks hW (by omega)) (by omega) ?_
      show aw _ _ _ _ _ _ _ _ _
      rw [guk_f (by omega : 2 * T + 266 ≠ 2 * T + 216), guk_f (by omega : 2 * T + 218 + k ≠ 2 * T + 216)]
      refine aw_zeq G_addCandidate_23 (fun h23 => ?_) (fun h23 => ?_)
      · skip
        refine aw_ip3 G_addCandidate_33 (by omega) ?_
        refine aw_go G_addCandidate_36 ?_
        have hk2 := ih (k + 1) (by omega) (by omega)
        rw [guk_n (iz h23)] at hk2
        exact hk2
      · skip
        refine aw_al0 G_addCandidate_26 ?_
        refine aw_gr (wx_r0_5 hW) G_addCandidate_27 (wx_o0 hW) ?_
        refine aw_il3 G_addCandidate_30 ?_
        refine aw_c G_addCandidate_31 ?_
        refine aw_zast G_addCandidate_32 (wx_a_ggiv hW) (by first | rfl | assumption) (by omega) (by first | exact Or.inl rfl | exact Or.inr rfl | assumption) ?_
        refine aw_ip3 G_addCandidate_33 (by omega) ?_
        refine aw_go G_addCandidate_36 ?_
        rw [guk_s (nz h23)]
        exact ih (k + 1) (by omega) (by omega)
theorem c_addCand {n t a b : Nat} {γ : Tz} {c : Nat → Int} (hW : WX S Pn T) (hN : NX Pn T g nd gv fs) (hw : WG Pn γ) (hR : RG Pn T g γ) (hn : n < γ.1) (hs : γ.1 < 48) (hc : ∀ p, p < Pn → g (2 * T + 266) p = c p) (hP : ∀ g', RG Pn T g' (adG Pn γ n t c) → FL T g g' → P (.inl none) (S, g', a, b, false)) : Sp l E G_addCandidate (d + 1) [rV (2 * T + 212), iV (n : Int), iV (t : Int)] (S, g, a, b, false) P := by
  show aw l E G_addCandidate (d + 1) 0 [some (rV (2 * T + 212)), some (iV (n : Int)), some (iV (t : Int)), none, none, none, none] [] (S, g, a, b, false) P
  refine aw_c G_addCandidate_0 ?_
  refine aw_is3 G_addCandidate_1 ?_
  have hk := c_addCand_lp (l := l) (E := E) (d := d) (P := P) (t := t) hW hN hw hR hn hs hc hP (γ.1 + 1) 0 (by omega) (by omega)
  rw [guk_0] at hk
  exact hk
theorem c_goBack_lp {n a b : Nat} {γ : Tz} (hW : WX S Pn T) (hN : NX Pn T g nd gv fs) (hB : BX Pn T nd gv fs) (hw : WG Pn γ) (hn : n < γ.1) (hP : ∀ g', RG Pn T g' (bkG Pn nd gv γ n T).2 → FL T g g' → P (.inl (some (iV (tf ((bkG Pn nd gv γ n T).1 = true))))) (S, g', a, b, false)) : ∀ (m t : Nat) (g' : aG), T - t < m → t ≤ T → (bkG Pn nd gv γ n t).1 = true → RG Pn T g' (bkG Pn nd gv γ n t).2 → FL T g g' → aw l E G_goBack (d + 2) 2 [some (rV (2 * T + 212)), some (iV (n : Int)), some (iV (t : Int)), none, none, none, none] [] (S, g', a, b, false) P := by
  intro m
  have hp6 := wx_P hW
  have hT8 := wx_T hW
  induction m with
  | zero => intro t g' h; omega
  | succ m ih =>
    intro t g' hm ht hok hR hF
    have hN' : NX Pn T g' nd gv fs := NX_lo hN (by omega) (fun a b h => hF a b (Or.inl (by omega)))
    obtain ⟨hw', hle⟩ := WG_bk (nd := nd) (gv := gv) hw hn t (fun k hk p hp => ⟨(hB.1 k (by omega) p hp).1, (hB.1 k (by omega) p hp).2.1⟩) (fun k hk p hp => ⟨(hB.1 k (by omega) p hp).2.2.1, (hB.1 k (by omega) p hp).2.2.2⟩)
    have hn' : n < (bkG Pn nd gv γ n t).2.1 := by omega
    have h48 := hw'.2.1
    have e11 : g' 1 1 = (T : Int) := hN'.2.1
    have hb1 : ∀ p, p < Pn → 0 ≤ g' (2 * T + 218 + n) p ∧ g' (2 * T + 218 + n) p ≤ 1000000000 := fun p hp => by
      rw [hR.1 n hn' p hp]
      have := hw'.2.2.2.2 n hn' p hp
      omega
    have hb2 : t < T → ∀ p, p < Pn → 0 ≤ g' (3 + t) p ∧ g' (3 + t) p ≤ 9 := fun h p hp => by
      rw [(hN'.2.2.1 t h p hp).1]
      have := hB.1 t h p hp
      omega
    have hb3 : t < T → ∀ p, p < Pn → 0 ≤ g' (T + 4 + t) p ∧ g' (T + 4 + t) p ≤ 9 := fun h p hp => by
      rw [(hN'.2.2.1 t h p hp).2]
      have := hB.1 t h p hp
      omega
    refine aw_il2 G_goBack_2 ?_
    refine aw_al0 G_goBack_3 ?_
    refine aw_gr (wx_r0_0 hW) G_goBack_4 (wx_o0 hW) ?_
    refine aw_gi G_goBack_7 (wx_o1 hW) ?_
    refine aw_cge G_goBack_10 (fun h10 => ?_) (fun h10 => ?_)
    · skip
      refine aw_c G_goBack_65 ?_
      refine aw_reti G_goBack_66 (Or.inr ⟨rfl, (by first | exact Or.inl rfl | exact Or.inr rfl | assumption)⟩) ?_
      have e : t = T := by omega
      subst e
      have hk := hP g' hR hF
      rw [show tf ((bkG Pn nd gv γ n t).1 = true) = 1 from cI_p hok] at hk
      exact hk
    · skip
      refine aw_al0 G_goBack_13 ?_
      refine aw_gr (wx_r0_0 hW) G_goBack_14 (wx_o0 hW) ?_
      refine aw_al0 G_goBack_17 ?_
      refine aw_gr (wx_r0_1 hW) G_goBack_18 (wx_o0 hW) ?_
      refine aw_il1 G_goBack_21 ?_
      refine aw_aa G_goBack_22 (wx_a_gmarks hW) (by first | rfl | assumption) (by omega) (wx_rr_gmarks hW (by omega)) ?_
      refine aw_il2 G_goBack_23 ?_
      refine aw_al0 G_goBack_24 ?_
      refine aw_gr (wx_r0_6 hW) G_goBack_25 (wx_o0 hW) ?_
      refine aw_V3 G_goBack_28 rfl rfl rfl rfl rfl (wx_o1 hW) ?_
      refine c_moveBack hW (wx_ra_gmarks hW (by omega)) (wx_a_gcan hW) (by omega) (by omega) hN'.1 hb1 (hb2 (by omega)) (hb3 (by omega)) (by omega) ?_
      show aw _ _ _ _ _ _ _ _ _
      have htT : t < T := by omega
      have q1 : ∀ x y, x ≠ 2 * T + 266 → (mbk g' (2 * T + 218 + n) (2 * T + 266) (3 + t) (T + 4 + t) Pn) x y = g' x y := fun x y h => mbk_ne h
      have q2 : ∀ p, p < Pn → (mbk g' (2 * T + 218 + n) (2 * T + 266) (3 + t) (T + 4 + t) Pn) (2 * T + 266) p = cdG nd gv (bkG Pn nd gv γ n t).2 n t p := fun p hp => by
        rw [show (mbk g' (2 * T + 218 + n) (2 * T + 266) (3 + t) (T + 4 + t) Pn) (2 * T + 266) p = mb (g' (2 * T + 218 + n) p) (g' (3 + t) p) (g' (T + 4 + t) p) from if_pos ⟨rfl, hp⟩, hR.1 n hn' p hp, (hN'.2.2.1 t htT p hp).1, (hN'.2.2.1 t htT p hp).2]
        rfl
      generalize mbk g' (2 * T + 218 + n) (2 * T + 266) (3 + t) (T + 4 + t) Pn = G at q1 q2 ⊢
      have hF2 : FL T g' G := fun x y h => q1 x y (by omega)
      have hR2 : RG Pn T G (bkG Pn nd gv γ n t).2 := by
        obtain ⟨r1, r2, r3, r4, r5⟩ := hR
        refine ⟨fun k hk p hp => (q1 _ _ (by omega)).trans (r1 k hk p hp), fun k h0 hk => ?_, fun k hk => (q1 _ _ (by omega)).trans (r3 k hk), fun k hk => (q1 _ _ (by omega)).trans (r4 k hk), (q1 _ _ (by omega)).trans r5⟩
        obtain ⟨z1, z2⟩ := r2 k h0 hk
        exact ⟨(q1 _ _ (by omega)).trans z1, (q1 _ _ (by omega)).trans z2⟩
      have hsz : G (2 * T + 212) 7 = ((bkG Pn nd gv γ n t).2.1 : Int) := hR2.2.2.2.2
      have hN2 : NX Pn T G nd gv fs := NX_lo hN' (by omega) (fun x y h => q1 x y (by omega))
      refine aw_al0 G_goBack_31 ?_
      refine aw_al0 G_goBack_32 ?_
      refine aw_gr (wx_r0_6 hW) G_goBack_33 (wx_o0 hW) ?_
      refine aw_V1 G_goBack_36 rfl rfl rfl (wx_o0 hW) ?_
      refine c_isKnown hW h48 hR2 (wx_a_gcan hW) q2 ?_
      show aw _ _ _ _ _ _ _ _ _
      refine aw_zne G_goBack_39 (fun h39 => ?_) (fun h39 => ?_)
      · skip
        refine aw_ip2 G_goBack_59 (by omega) ?_
        refine aw_go G_goBack_62 ?_
        have e : bkG Pn nd gv γ n (t + 1) = bkG Pn nd gv γ n t := cI_n (fun z => z.2 (nz h39))
        exact ih (t + 1) G (by omega) (by omega) (by rw [e]; exact hok) (by rw [e]; exact hR2) (hF.tr hF2)
      · skip
        refine aw_al0 G_goBack_42 ?_
        refine aw_gi G_goBack_43 (wx_o0 hW) ?_
        refine aw_c G_goBack_46 ?_
        refine aw_cne G_goBack_48 (fun h48 => ?_) (fun h48 => ?_)
        · skip
          refine aw_al0 G_goBack_53 ?_
          refine aw_il1 G_goBack_54 ?_
          refine aw_il2 G_goBack_55 ?_
          refine aw_V2 G_goBack_56 rfl rfl rfl rfl (wx_o0 hW) ?_
          refine c_addCand hW hN2 hw' hR2 hn' (by omega) q2 (fun g3 hR3 hF3 => ?_)
          show aw _ _ _ _ _ _ _ _ _
          refine aw_ip2 G_goBack_59 (by omega) ?_
          refine aw_go G_goBack_62 ?_
          have e : bkG Pn nd gv γ n (t + 1) = (true, adG Pn (bkG Pn nd gv γ n t).2 n t (cdG nd gv (bkG Pn nd gv γ n t).2 n t)) := (cI_p ⟨hok, iz h39⟩).trans (cI_n (by omega))
          exact ih (t + 1) g3 (by omega) (by omega) (by rw [e]) (by rw [e]; exact hR3) ((hF.tr hF2).tr hF3)
        · skip
          refine aw_c G_goBack_51 ?_
          refine aw_reti G_goBack_52 (Or.inr ⟨rfl, (by first | exact Or.inl rfl | exact Or.inr rfl | assumption)⟩) ?_
          have e : bkG Pn nd gv γ n (t + 1) = (false, (bkG Pn nd gv γ n t).2) := (cI_p ⟨hok, iz h39⟩).trans (cI_p (by omega))
          have e2 : bkG Pn nd gv γ n T = (false, (bkG Pn nd gv γ n t).2) := by
            have := bk_false (P := Pn) (nd := nd) (gv := gv) (τ := γ) (n := n) (k := t + 1) (by rw [e]) (T - (t + 1))
            rw [show t + 1 + (T - (t + 1)) = T by omega] at this
            rw [this, e]
          have hk := hP G (by rw [e2]; exact hR2) (hF.tr hF2)
          rw [show tf ((bkG Pn nd gv γ n T).1 = true) = 0 from cI_n (by rw [e2]; exact fun z => by cases z)] at hk
          exact hk
theorem c_goBack {n a b : Nat} {γ : Tz} (hW : WX S Pn T) (hN : NX Pn T g nd gv fs) (hB : BX Pn T nd gv fs) (hw : WG Pn γ) (hR : RG Pn T g γ) (hn : n < γ.1) (hP : ∀ g', RG Pn T g' (bkG Pn nd gv γ n T).2 → FL T g g' → P (.inl (some (iV (tf ((bkG Pn nd gv γ n T).1 = true))))) (S, g', a, b, false)) : Sp l E G_goBack (d + 2) [rV (2 * T + 212), iV (n : Int)] (S, g, a, b, false) P := by
  show aw l E G_goBack (d + 2) 0 [some (rV (2 * T + 212)), some (iV (n : Int)), none, none, none, none, none] [] (S, g, a, b, false) P
  refine aw_c G_goBack_0 ?_
  refine aw_is2 G_goBack_1 ?_
  exact c_goBack_lp hW hN hB hw hn hP (T + 1) 0 g (by omega) (by omega) rfl hR (FL.rf T g)
theorem c_Gplant {i a b : Nat} {wn : Nat → Int} (hW : WX S Pn T) (hN : NX Pn T g nd gv fs) (hd : 1 ≤ d) (hi : hasA S i 0 Pn) (hwn : ∀ p, p < Pn → g i p = wn p) (hP : ∀ g', RG Pn T g' (plT wn) → FL T g g' → P (.inl none) (S, g', a, b, false)) : Sp l E G_plant d [rV (2 * T + 212), rV i] (S, g, a, b, false) P := by
  have hp6 := wx_P hW
  have hT8 := wx_T hW
  show aw l E G_plant d 0 [some (rV (2 * T + 212)), some (rV i), none, none, none, none, none] [] (S, g, a, b, false) P
  refine aw_al1 G_plant_0 ?_
  refine aw_c G_plant_1 ?_
  refine aw_al0 G_plant_2 ?_
  refine aw_gr (wx_r0_1 hW) G_plant_3 (wx_o0 hW) ?_
  refine aw_c G_plant_6 ?_
  refine aw_aa G_plant_7 (wx_a_gmarks hW) (show (0 : Int) = ((0 : Nat) : Int) from rfl) (by omega) (wx_rr_gmarks hW (by omega)) ?_
  refine aw_c G_plant_8 ?_
  refine aw_al0 G_plant_9 ?_
  refine aw_gr (wx_r0_0 hW) G_plant_10 (wx_o0 hW) ?_
  refine aw_gi G_plant_13 (wx_o1 hW) ?_
  refine aw_cp G_plant_16 (by omega) rfl hi (wx_ra_gmarks hW (by omega)) hN.1 (Nat.le_refl _) (Nat.le_refl _) ?_
  refine aw_al0 G_plant_19 ?_
  refine aw_gr (wx_r0_2 hW) G_plant_20 (wx_o0 hW) ?_
  refine aw_c G_plant_23 ?_
  refine aw_c G_plant_24 ?_
  refine aw_iast G_plant_26 (wx_a_gnex hW) (show (0 : Int) = ((0 : Nat) : Int) from rfl) (by omega) ?_
  refine aw_al0 G_plant_27 ?_
  refine aw_gr (wx_r0_3 hW) G_plant_28 (wx_o0 hW) ?_
  refine aw_c G_plant_31 ?_
  refine aw_c G_plant_32 ?_
  refine aw_iast G_plant_34 (wx_a_gtra hW) (show (0 : Int) = ((0 : Nat) : Int) from rfl) (by omega) ?_
  refine aw_al0 G_plant_35 ?_
  refine aw_gr (wx_r0_4 hW) G_plant_36 (wx_o0 hW) ?_
  refine aw_c G_plant_39 ?_
  refine aw_c G_plant_40 ?_
  refine aw_iast G_plant_41 (wx_a_gdep hW) (show (0 : Int) = ((0 : Nat) : Int) from rfl) (by omega) ?_
  refine aw_al0 G_plant_42 ?_
  refine aw_gr (wx_r0_5 hW) G_plant_43 (wx_o0 hW) ?_
  refine aw_c G_plant_46 ?_
  refine aw_c G_plant_47 ?_
  refine aw_zast G_plant_48 (wx_a_ggiv hW) (show (0 : Int) = ((0 : Nat) : Int) from rfl) (by omega) (by first | exact Or.inl rfl | exact Or.inr rfl | assumption) ?_
  refine aw_al0 G_plant_49 ?_
  refine aw_c G_plant_50 ?_
  refine aw_pi G_plant_51 (wx_o0 hW) ?_
  refine aw_retv G_plant_54 rfl ?_
  refine hP _ ⟨fun n hn p hp => ?_, fun n h0 hn => ?_, fun n hn => ?_, fun n hn => ?_, ?_⟩ (fun c e hce => ?_)
  · have hn' : n < 1 := hn
    rw [upA_ne (by omega), upA_ne (by omega), upA_ne (by omega), upA_ne (by omega), upA_ne (by omega), show n = 0 by omega]
    exact (if_pos ⟨rfl, hp⟩).trans (hwn p hp)
  · have hn' : n < 1 := hn
    omega
  · have hn' : n < 1 := hn
    rw [upA_ne (by omega), upA_ne (by omega), show n = 0 by omega, upA_eq]; rfl
  · have hn' : n < 1 := hn
    rw [upA_ne (by omega), show n = 0 by omega, upA_eq]; exact (cI_n id).symm
  · rw [upA_eq]; rfl
  · rw [upA_ne (by omega), upA_ne (by omega), upA_ne (by omega), upA_ne (by omega), upA_ne (by omega)]
    exact if_neg (by omega)
theorem RG_8 {γ : Tz} {z x : Int} (h : RGz Pn T g γ z) : RGz Pn T (upA g (2 * T + 212) 8 x) γ z := by
  obtain ⟨r1, r2, r3, r4, r5⟩ := h
  refine ⟨fun k hk p hp => (upA_ne (by omega)).trans (r1 k hk p hp), fun k h0 hk => ?_, fun k hk => (upA_ne (by omega)).trans (r3 k hk), fun k hk => (upA_ne (by omega)).trans (r4 k hk), (upA_ne (by omega)).trans r5⟩
  obtain ⟨z1, z2⟩ := r2 k h0 hk
  exact ⟨(upA_ne (by omega)).trans z1, (upA_ne (by omega)).trans z2⟩
theorem c_gather_e0 {i a b k : Nat} {wn : Nat → Int} {g' : aG} (hW : WX S Pn T) (hP : ∀ g', (∀ x y, (x < 2 * T + 212 ∨ 2 * T + 267 ≤ x) → g' x y = g x y) → (((gtG Pn T nd gv wn 48).1 = true ∧ RG Pn T g' (gtG Pn T nd gv wn 48).2 ∧ g' (2 * T + 212) 8 = 1) ∨ ((gtG Pn T nd gv wn 48).1 = false ∧ g' (2 * T + 212) 8 = 0)) → P (.inl none) (S, g', a, b, false)) (hF : FL T (upA g (2 * T + 212) 8 0) g') (hok : (gtG Pn T nd gv wn 48).1 = false) : aw l E G_gather (d + 3) 61 [some (rV (2 * T + 212)), some (rV i), some (iV 0), some (iV (k : Int)), none, none, none] [] (S, g', a, b, false) P := by
  refine aw_al0 G_gather_61 ?_
  refine aw_il2 G_gather_62 ?_
  refine aw_pz G_gather_63 (wx_o0 hW) (by first | exact Or.inl rfl | exact Or.inr rfl | assumption) ?_
  refine aw_retv G_gather_66 rfl ?_
  exact hP _ (fun x y h => (upA_ne (by omega)).trans ((hF x y (by omega)).trans (upA_ne (by omega)))) (Or.inr ⟨hok, upA_eq _ _ _ _⟩)
theorem c_gather_e1 {i a b k : Nat} {wn : Nat → Int} {g' : aG} (hW : WX S Pn T) (hP : ∀ g', (∀ x y, (x < 2 * T + 212 ∨ 2 * T + 267 ≤ x) → g' x y = g x y) → (((gtG Pn T nd gv wn 48).1 = true ∧ RG Pn T g' (gtG Pn T nd gv wn 48).2 ∧ g' (2 * T + 212) 8 = 1) ∨ ((gtG Pn T nd gv wn 48).1 = false ∧ g' (2 * T + 212) 8 = 0)) → P (.inl none) (S, g', a, b, false)) (hF : FL T (upA g (2 * T + 212) 8 0) g') (hok : (gtG Pn T nd gv wn 48).1 = true) (hR : RG Pn T g' (gtG Pn T nd gv wn 48).2) : aw l E G_gather (d + 3) 61 [some (rV (2 * T + 212)), some (rV i), some (iV 1), some (iV (k : Int)), none, none, none] [] (S, g', a, b, false) P := by
  refine aw_al0 G_gather_61 ?_
  refine aw_il2 G_gather_62 ?_
  refine aw_pz G_gather_63 (wx_o0 hW) (by first | exact Or.inl rfl | exact Or.inr rfl | assumption) ?_
  refine aw_retv G_gather_66 rfl ?_
  exact hP _ (fun x y h => (upA_ne (by omega)).trans ((hF x y (by omega)).trans (upA_ne (by omega)))) (Or.inl ⟨hok, RG_8 hR, upA_eq _ _ _ _⟩)
theorem c_gather_lp {i a b : Nat} {wn : Nat → Int} (hW : WX S Pn T) (hN : NX Pn T g nd gv fs) (hB : BX Pn T nd gv fs) (hB2 : ∀ p, p < Pn → 0 ≤ wn p ∧ wn p ≤ 100) (hP : ∀ g', (∀ x y, (x < 2 * T + 212 ∨ 2 * T + 267 ≤ x) → g' x y = g x y) → (((gtG Pn T nd gv wn 48).1 = true ∧ RG Pn T g' (gtG Pn T nd gv wn 48).2 ∧ g' (2 * T + 212) 8 = 1) ∨ ((gtG Pn T nd gv wn 48).1 = false ∧ g' (2 * T + 212) 8 = 0)) → P (.inl none) (S, g', a, b, false)) : ∀ (m k : Nat) (g' : aG), 48 - k < m → k ≤ 48 → (gtG Pn T nd gv wn k).1 = true → RG Pn T g' (gtG Pn T nd gv wn k).2 → FL T (upA g (2 * T + 212) 8 0) g' → aw l E G_gather (d + 3) 14 [some (rV (2 * T + 212)), some (rV i), some (iV 1), some (iV (k : Int)), none, none, none] [] (S, g', a, b, false) P := by
  intro m
  have hp6 := wx_P hW
  have hT8 := wx_T hW
  have hwg : ∀ k, WG Pn (gtG Pn T nd gv wn k).2 := WG_gt hB2 (fun t ht p hp => ⟨(hB.1 t ht p hp).1, (hB.1 t ht p hp).2.1⟩) (fun t ht p hp => ⟨(hB.1 t ht p hp).2.2.1, (hB.1 t ht p hp).2.2.2⟩)
  induction m with
  | zero => intro k g' h; omega
  | succ m ih =>
    intro k g' hm hk hok hR hF
    have hw := hwg k
    have h48 := hw.2.1
    have hsz : g' (2 * T + 212) 7 = ((gtG Pn T nd gv wn k).2.1 : Int) := hR.2.2.2.2
    have hN' : NX Pn T g' nd gv fs := NX_lo hN (by omega) (fun x y h => (hF x y (Or.inl (by omega))).trans (upA_ne (by omega)))
    have hgu : k < (gtG Pn T nd gv wn k).2.1 → g' (2 * T + 216) k = tf ((gtG Pn T nd gv wn k).2.2.2.2.2.2 k) := fun h => hR.2.2.2.1 k h
    have hend : (gtG Pn T nd gv wn k).2.1 ≤ k ∨ k = 48 → gtG Pn T nd gv wn 48 = gtG Pn T nd gv wn k := fun h => by
      rcases h with h | h
      · have := gt_false (P := Pn) (T := T) (nd := nd) (gv := gv) (wn := wn) (k := k) (Or.inr h) (48 - k)
        rw [show k + (48 - k) = 48 by omega] at this
        exact this
      · rw [h]
    refine aw_il2 G_gather_14 ?_
    refine aw_zeq G_gather_15 (fun h15 => ?_) (fun h15 => ?_)
    · skip
      omega
    · skip
      refine aw_il3 G_gather_18 ?_
      refine aw_al0 G_gather_19 ?_
      refine aw_gi G_gather_20 (wx_o0 hW) ?_
      refine aw_cge G_gather_23 (fun h23 => ?_) (fun h23 => ?_)
      · skip
        have e := hend (by omega)
        exact c_gather_e1 hW hP hF (by rw [e]; exact hok) (by rw [e]; exact hR)
      · skip
        refine aw_il3 G_gather_26 ?_
        refine aw_c G_gather_27 ?_
        refine aw_cge G_gather_29 (fun h29 => ?_) (fun h29 => ?_)
        · skip
          have e := hend (by omega)
          exact c_gather_e1 hW hP hF (by rw [e]; exact hok) (by rw [e]; exact hR)
        · skip
          refine aw_al0 G_gather_32 ?_
          refine aw_gr (wx_r0_5 hW) G_gather_33 (wx_o0 hW) ?_
          refine aw_il3 G_gather_36 ?_
          refine aw_za G_gather_37 (wx_a_ggiv hW) (by first | rfl | assumption) (by omega) ?_
          rw [hgu (by omega)]
          refine aw_zne G_gather_38 (fun h38 => ?_) (fun h38 => ?_)
          · skip
            refine aw_c G_gather_49 ?_
            refine aw_go G_gather_50 ?_
            refine aw_is2 G_gather_54 ?_
            refine aw_ip3 G_gather_55 (by omega) ?_
            refine aw_go G_gather_58 ?_
            have e : gtG Pn T nd gv wn (k + 1) = gtG Pn T nd gv wn k := cI_n (fun z => z.2.2 (nz h38))
            exact ih (k + 1) g' (by omega) (by omega) (by rw [e]; exact hok) (by rw [e]; exact hR) hF
          · skip
            refine aw_al0 G_gather_41 ?_
            refine aw_il3 G_gather_42 ?_
            refine aw_V1 G_gather_43 rfl rfl rfl (wx_o0 hW) ?_
            refine c_goBack (d := d) hW hN' hB hw hR (by omega) (fun g2 hR2 hF2 => ?_)
            show aw _ _ _ _ _ _ _ _ _
            refine aw_zeq G_gather_46 (fun h46 => ?_) (fun h46 => ?_)
            · skip
              refine aw_c G_gather_53 ?_
              refine aw_is2 G_gather_54 ?_
              refine aw_ip3 G_gather_55 (by omega) ?_
              refine aw_go G_gather_58 ?_
              have e : gtG Pn T nd gv wn (k + 1) = bkG Pn nd gv (gtG Pn T nd gv wn k).2 k T := cI_p ⟨hok, by omega, iz h38⟩
              have hfa : (gtG Pn T nd gv wn (k + 1)).1 = false := by
                rw [e]
                cases hb : (bkG Pn nd gv (gtG Pn T nd gv wn k).2 k T).1 with
                | false => rfl
                | true => exact absurd hb (iz h46)
              have e2 : gtG Pn T nd gv wn 48 = gtG Pn T nd gv wn (k + 1) := by
                have := gt_false (P := Pn) (T := T) (nd := nd) (gv := gv) (wn := wn) (k := k + 1) (Or.inl hfa) (48 - (k + 1))
                rw [show k + 1 + (48 - (k + 1)) = 48 by omega] at this
                exact this
              refine aw_il2 G_gather_14 ?_
              refine aw_zeq G_gather_15 (fun _ => ?_) (fun z => absurd rfl z)
              exact c_gather_e0 hW hP (hF.tr hF2) (by rw [e2]; exact hfa)
            · skip
              refine aw_c G_gather_49 ?_
              refine aw_go G_gather_50 ?_
              refine aw_is2 G_gather_54 ?_
              refine aw_ip3 G_gather_55 (by omega) ?_
              refine aw_go G_gather_58 ?_
              have e : gtG Pn T nd gv wn (k + 1) = bkG Pn nd gv (gtG Pn T nd gv wn k).2 k T := cI_p ⟨hok, by omega, iz h38⟩
              exact ih (k + 1) g2 (by omega) (by omega) (by rw [e]; exact nz h46) (by rw [e]; exact hR2) (hF.tr hF2)
theorem c_gather {i a b : Nat} {wn : Nat → Int} (hW : WX S Pn T) (hN : NX Pn T g nd gv fs) (hB : BX Pn T nd gv fs) (hB2 : ∀ p, p < Pn → 0 ≤ wn p ∧ wn p ≤ 100) (hi : hasA S i 0 Pn) (hi2 : i = 2 * T + 267) (hwn : ∀ p, p < Pn → g i p = wn p) (hP : ∀ g', (∀ x y, (x < 2 * T + 212 ∨ 2 * T + 267 ≤ x) → g' x y = g x y) → (((gtG Pn T nd gv wn 48).1 = true ∧ RG Pn T g' (gtG Pn T nd gv wn 48).2 ∧ g' (2 * T + 212) 8 = 1) ∨ ((gtG Pn T nd gv wn 48).1 = false ∧ g' (2 * T + 212) 8 = 0)) → P (.inl none) (S, g', a, b, false)) : Sp l E G_gather (d + 3) [rV (2 * T + 212), rV i] (S, g, a, b, false) P := by
  have hT8 := wx_T hW
  have hN0 : NX Pn T (upA g (2 * T + 212) 8 0) nd gv fs := NX_lo hN (by omega) (fun x y h => upA_ne (by omega))
  show aw l E G_gather (d + 3) 0 [some (rV (2 * T + 212)), some (rV i), none, none, none, none, none] [] (S, g, a, b, false) P
  refine aw_al0 G_gather_0 ?_
  refine aw_c G_gather_1 ?_
  refine aw_pz G_gather_2 (wx_o0 hW) (by first | exact Or.inl rfl | exact Or.inr rfl | assumption) ?_
  refine aw_al0 G_gather_5 ?_
  refine aw_al1 G_gather_6 ?_
  refine aw_V1 G_gather_7 rfl rfl rfl (wx_o0 hW) ?_
  refine c_Gplant (d := d + 2) hW hN0 (by omega) hi (fun p hp => (upA_ne (by omega)).trans (hwn p hp)) (fun g1 hR1 hF1 => ?_)
  show aw _ _ _ _ _ _ _ _ _
  refine aw_c G_gather_10 ?_
  refine aw_is2 G_gather_11 ?_
  refine aw_c G_gather_12 ?_
  refine aw_is3 G_gather_13 ?_
  exact c_gather_lp hW hN hB hB2 hP 49 0 g1 (by omega) (by omega) rfl hR1 hF1
end MG
end
section
section MH
variable {l : Launch} {E : aE} {d : Nat} {S : aS} {g : aG} {u : aU} {P : aP} {Pn T : Nat}
theorem c_keptCount_lp {γ : Tz} (hW : WX S Pn T) (hs : γ.1 ≤ 48) (hR : RG Pn T g γ) (hP : P (.inl (some (iV (kcG γ γ.1 : Int)))) (S, g, u)) : ∀ (m k : Nat), γ.1 - k < m → k ≤ γ.1 → aw l E G_keptCount d 4 [some (rV (2 * T + 212)), some (iV (kcG γ k : Int)), some (iV (k : Int)), none, none, none, none] [] (S, g, u) P := by
  intro m
  have hsz : g (2 * T + 212) 7 = (γ.1 : Int) := hR.2.2.2.2
  induction m with
  | zero => intro k h; omega
  | succ m ih =>
    intro k hm hk
    have hkc := kcG_le γ k
    have hgu : k < γ.1 → g (2 * T + 216) k = tf (γ.2.2.2.2.2 k) := fun h => hR.2.2.2.1 k h
    refine aw_il2 G_keptCount_4 ?_
    refine aw_al0 G_keptCount_5 ?_
    refine aw_gi G_keptCount_6 (wx_o0 hW) ?_
    refine aw_cge G_keptCount_9 (fun h9 => ?_) (fun h9 => ?_)
    · skip
      refine aw_il1 G_keptCount_30 ?_
      refine aw_reti G_keptCount_31 (Or.inl rfl) ?_
      have e : k = γ.1 := by omega
      subst e
      exact hP
    · skip
      refine aw_al0 G_keptCount_12 ?_
      refine aw_gr (wx_r0_5 hW) G_keptCount_13 (wx_o0 hW) ?_
      refine aw_il2 G_keptCount_16 ?_
      refine aw_za G_keptCount_17 (wx_a_ggiv hW) (by first | rfl | assumption) (by omega) ?_
      rw [hgu (by omega)]
      refine aw_zne G_keptCount_18 (fun h18 => ?_) (fun h18 => ?_)
      · skip
        refine aw_ip2 G_keptCount_24 (by omega) ?_
        refine aw_go G_keptCount_27 ?_
        have e : kcG γ (k + 1) = kcG γ k := by
          show kcG γ k + cI (γ.2.2.2.2.2 k) 0 1 = _
          rw [cI_p (nz h18)]; rfl
        have hk2 := ih (k + 1) (by omega) (by omega)
        rw [e] at hk2
        exact hk2
      · skip
        refine aw_ip1 G_keptCount_21 (by omega) ?_
        refine aw_ip2 G_keptCount_24 (by omega) ?_
        refine aw_go G_keptCount_27 ?_
        have e : kcG γ (k + 1) = kcG γ k + 1 := by
          show kcG γ k + cI (γ.2.2.2.2.2 k) 0 1 = _
          rw [cI_n (iz h18)]
        have hk2 := ih (k + 1) (by omega) (by omega)
        rw [e] at hk2
        exact hk2
theorem c_keptCount {γ : Tz} (hW : WX S Pn T) (hs : γ.1 ≤ 48) (hR : RG Pn T g γ) (hP : P (.inl (some (iV (kcG γ γ.1 : Int)))) (S, g, u)) : Sp l E G_keptCount d [rV (2 * T + 212)] (S, g, u) P := by
  show aw l E G_keptCount d 0 [some (rV (2 * T + 212)), none, none, none, none, none, none] [] (S, g, u) P
  refine aw_c G_keptCount_0 ?_
  refine aw_is1 G_keptCount_1 ?_
  refine aw_c G_keptCount_2 ?_
  refine aw_is2 G_keptCount_3 ?_
  exact c_keptCount_lp hW hs hR hP (γ.1 + 1) 0 (by omega) (by omega)
theorem c_kept_lp {x : Int} {γ : Tz} (hW : WX S Pn T) (hs : γ.1 ≤ 48) (hR : RG Pn T g γ) (hx : okI x) : ∀ (s j : Nat), j + s = γ.1 → P (.inl (some (iV (fnd (fun j => ¬ γ.2.2.2.2.2 j ∧ x = (kcG γ j : Int)) s j)))) (S, g, u) → aw l E G_kept d 4 [some (rV (2 * T + 212)), some (iV x), some (iV (wr (x - (kcG γ j : Int)))), some (iV (j : Int)), none, none, none] [] (S, g, u) P := by
  intro s
  have hsz : g (2 * T + 212) 7 = (γ.1 : Int) := hR.2.2.2.2
  induction s with
  | zero =>
    intro j hj hP
    refine aw_il3 G_kept_4 ?_
    refine aw_al0 G_kept_5 ?_
    refine aw_gi G_kept_6 (wx_o0 hW) ?_
    refine aw_cge G_kept_9 (fun h9 => ?_) (fun h9 => ?_)
    · skip
      refine aw_c G_kept_36 ?_
      refine aw_reti G_kept_38 (Or.inl rfl) ?_
      exact hP
    · skip
      omega
  | succ s ih =>
    intro j hj hP
    have hkc := kcG_le γ j
    have hgu : g (2 * T + 216) j = tf (γ.2.2.2.2.2 j) := hR.2.2.2.1 j (by omega)
    have hw0 : wr (x - (kcG γ j : Int)) = 0 ↔ x - (kcG γ j : Int) = 0 := wr_0 (by omega) (by omega)
    refine aw_il3 G_kept_4 ?_
    refine aw_al0 G_kept_5 ?_
    refine aw_gi G_kept_6 (wx_o0 hW) ?_
    refine aw_cge G_kept_9 (fun h9 => ?_) (fun h9 => ?_)
    · skip
      omega
    · skip
      refine aw_al0 G_kept_12 ?_
      refine aw_gr (wx_r0_5 hW) G_kept_13 (wx_o0 hW) ?_
      refine aw_il3 G_kept_16 ?_
      refine aw_za G_kept_17 (wx_a_ggiv hW) (by first | rfl | assumption) (by omega) ?_
      rw [hgu]
      refine aw_zne G_kept_18 (fun h18 => ?_) (fun h18 => ?_)
      · skip
        refine aw_ip3 G_kept_30 (by omega) ?_
        refine aw_go G_kept_33 ?_
        have e : kcG γ (j + 1) = kcG γ j := by
          show kcG γ j + cI (γ.2.2.2.2.2 j) 0 1 = _
          rw [cI_p (nz h18)]; rfl
        rw [show fnd (fun j => ¬ γ.2.2.2.2.2 j ∧ x = (kcG γ j : Int)) (s + 1) j = fnd (fun j => ¬ γ.2.2.2.2.2 j ∧ x = (kcG γ j : Int)) s (j + 1) from cI_n (fun z => z.1 (nz h18))] at hP
        have hk2 := ih (j + 1) (by omega) hP
        rw [e] at hk2
        exact hk2
      · skip
        refine aw_il2 G_kept_21 ?_
        refine aw_zne G_kept_22 (fun h22 => ?_) (fun h22 => ?_)
        · skip
          refine aw_inw2 G_kept_27 ?_
          refine aw_ip3 G_kept_30 (by omega) ?_
          refine aw_go G_kept_33 ?_
          have e : kcG γ (j + 1) = kcG γ j + 1 := by
            show kcG γ j + cI (γ.2.2.2.2.2 j) 0 1 = _
            rw [cI_n (iz h18)]
          rw [show fnd (fun j => ¬ γ.2.2.2.2.2 j ∧ x = (kcG γ j : Int)) (s + 1) j = fnd (fun j => ¬ γ.2.2.2.2.2 j ∧ x = (kcG γ j : Int)) s (j + 1) from cI_n (fun z => h22 (hw0.mpr (by have := z.2; omega)))] at hP
          have hk2 := ih (j + 1) (by omega) hP
          rw [e, show x - ((kcG γ j + 1 : Nat) : Int) = x - (kcG γ j : Int) - 1 by omega, ← wr_s] at hk2
          exact hk2
        · skip
          refine aw_il3 G_kept_25 ?_
          refine aw_reti G_kept_26 (Or.inl rfl) ?_
          rw [show fnd (fun j => ¬ γ.2.2.2.2.2 j ∧ x = (kcG γ j : Int)) (s + 1) j = (j : Int) from cI_p ⟨iz h18, by have := hw0.mp h22; omega⟩] at hP
          exact hP
theorem c_kept {x : Int} {γ : Tz} (hW : WX S Pn T) (hs : γ.1 ≤ 48) (hR : RG Pn T g γ) (hx : okI x) (hP : P (.inl (some (iV (fnd (fun j => ¬ γ.2.2.2.2.2 j ∧ x = (kcG γ j : Int)) γ.1 0)))) (S, g, u)) : Sp l E G_kept d [rV (2 * T + 212), iV x] (S, g, u) P := by
  show aw l E G_kept d 0 [some (rV (2 * T + 212)), some (iV x), none, none, none, none, none] [] (S, g, u) P
  refine aw_il1 G_kept_0 ?_
  refine aw_is2 G_kept_1 ?_
  refine aw_c G_kept_2 ?_
  refine aw_is3 G_kept_3 ?_
  have hk := c_kept_lp (l := l) (E := E) (d := d) (u := u) hW hs hR hx γ.1 0 (by omega) hP
  rw [show x - (kcG γ 0 : Int) = x by show x - 0 = x; omega, wr_id hx] at hk
  exact hk
theorem c_firstBelow_lp {i : Nat} {γ : Tz} {f : Nat → Int} (hW : WX S Pn T) (hs : γ.1 ≤ 48) (hR : RG Pn T g γ) (hi : hasA S i 0 Pn) (hf : ∀ p, p < Pn → g i p = f p) : ∀ (s j : Nat), j + s = γ.1 → P (.inl (some (iV (fnd (fun j => bl Pn (γ.2.1 j) f) s j)))) (S, g, u) → aw l E G_firstBelow (d + 1) 2 [some (rV (2 * T + 212)), some (rV i), some (iV (j : Int)), none, none, none, none] [] (S, g, u) P := by
  intro s
  have hp6 := wx_P hW
  have hsz : g (2 * T + 212) 7 = (γ.1 : Int) := hR.2.2.2.2
  induction s with
  | zero =>
    intro j hj hP
    refine aw_il2 G_firstBelow_2 ?_
    refine aw_al0 G_firstBelow_3 ?_
    refine aw_gi G_firstBelow_4 (wx_o0 hW) ?_
    refine aw_cge G_firstBelow_7 (fun h7 => ?_) (fun h7 => ?_)
    · skip
      refine aw_c G_firstBelow_31 ?_
      refine aw_reti G_firstBelow_33 (Or.inl rfl) ?_
      exact hP
    · skip
      omega
  | succ s ih =>
    intro j hj hP
    have hb : bl Pn (g (2 * T + 218 + j)) (g i) ↔ bl Pn (γ.2.1 j) f := blC (hR.1 j (by omega)) hf
    refine aw_il2 G_firstBelow_2 ?_
    refine aw_al0 G_firstBelow_3 ?_
    refine aw_gi G_firstBelow_4 (wx_o0 hW) ?_
    refine aw_cge G_firstBelow_7 (fun h7 => ?_) (fun h7 => ?_)
    · skip
      omega
    · skip
      refine aw_al0 G_firstBelow_10 ?_
      refine aw_gr (wx_r0_1 hW) G_firstBelow_11 (wx_o0 hW) ?_
      refine aw_il2 G_firstBelow_14 ?_
      refine aw_aa G_firstBelow_15 (wx_a_gmarks hW) (by first | rfl | assumption) (by omega) (wx_rr_gmarks hW (by omega)) ?_
      refine aw_al1 G_firstBelow_16 ?_
      refine aw_S2 G_firstBelow_17 rfl rfl rfl rfl ?_
      refine c_isBelow (wx_ra_gmarks hW (by omega)) hi (by omega) ?_
      show aw _ _ _ _ _ _ _ _ _
      refine aw_zeq G_firstBelow_20 (fun h20 => ?_) (fun h20 => ?_)
      · skip
        refine aw_ip2 G_firstBelow_25 (by omega) ?_
        refine aw_go G_firstBelow_28 ?_
        rw [show fnd (fun j => bl Pn (γ.2.1 j) f) (s + 1) j = fnd (fun j => bl Pn (γ.2.1 j) f) s (j + 1) from cI_n (fun z => iz h20 (hb.mpr z))] at hP
        exact ih (j + 1) (by omega) hP
      · skip
        refine aw_il2 G_firstBelow_23 ?_
        refine aw_reti G_firstBelow_24 (Or.inl rfl) ?_
        rw [show fnd (fun j => bl Pn (γ.2.1 j) f) (s + 1) j = (j : Int) from cI_p (hb.mp (nz h20))] at hP
        exact hP
theorem c_firstBelow {i : Nat} {γ : Tz} {f : Nat → Int} (hW : WX S Pn T) (hs : γ.1 ≤ 48) (hR : RG Pn T g γ) (hi : hasA S i 0 Pn) (hf : ∀ p, p < Pn → g i p = f p) (hP : P (.inl (some (iV (fnd (fun j => bl Pn (γ.2.1 j) f) γ.1 0)))) (S, g, u)) : Sp l E G_firstBelow (d + 1) [rV (2 * T + 212), rV i] (S, g, u) P := by
  show aw l E G_firstBelow (d + 1) 0 [some (rV (2 * T + 212)), some (rV i), none, none, none, none, none] [] (S, g, u) P
  refine aw_c G_firstBelow_0 ?_
  refine aw_is2 G_firstBelow_1 ?_
  exact c_firstBelow_lp hW hs hR hi hf γ.1 0 (by omega) hP
theorem c_stepFrom_lp {n i : Nat} {γ : Tz} (hW : WX S Pn T) (hw : WG Pn γ) (hR : RG Pn T g γ) (hi : i ≤ 1000) {v : Nat} (hP : P (.inl (some (iV (v : Int)))) (S, g, u)) : ∀ (r b s : Nat), s + r = i → b < γ.1 → r < γ.2.2.2.2.1 b → γ.2.2.2.1 (upT γ.2.2.1 r b) = v → aw l E G_stepFrom d 5 [some (rV (2 * T + 212)), some (iV (n : Int)), some (iV (i : Int)), some (iV (b : Int)), some (iV (s : Int)), none, none] [] (S, g, u) P := by
  intro r
  have ht2 := hw.2.1
  induction r with
  | zero =>
    intro b s hs hb hd hv
    have hb0 : 0 < b := by
      rcases Nat.eq_zero_or_pos b with z | z
      · rw [z, hw.2.2.1] at hd; omega
      · exact z
    refine aw_il4 G_stepFrom_5 ?_
    refine aw_il2 G_stepFrom_7 ?_
    refine aw_cge G_stepFrom_8 (fun h8 => ?_) (fun h8 => ?_)
    · skip
      refine aw_al0 G_stepFrom_24 ?_
      refine aw_gr (wx_r0_3 hW) G_stepFrom_25 (wx_o0 hW) ?_
      refine aw_il3 G_stepFrom_28 ?_
      refine aw_ia G_stepFrom_29 (wx_a_gtra hW) (by first | rfl | assumption) (by omega) ?_
      refine aw_reti G_stepFrom_30 (Or.inl rfl) ?_
      rw [(hR.2.1 b hb0 hb).2, show γ.2.2.2.1 b = v from hv]
      exact hP
    · skip
      omega
  | succ r ih =>
    intro b s hs hb hd hv
    have hb0 : 0 < b := by
      rcases Nat.eq_zero_or_pos b with z | z
      · rw [z, hw.2.2.1] at hd; omega
      · exact z
    obtain ⟨z1, z2⟩ := hw.2.2.2.1 b hb0 hb
    have e6 := (hR.2.1 b hb0 hb).1
    refine aw_il4 G_stepFrom_5 ?_
    refine aw_il2 G_stepFrom_7 ?_
    refine aw_cge G_stepFrom_8 (fun h8 => ?_) (fun h8 => ?_)
    · skip
      omega
    · skip
      refine aw_al0 G_stepFrom_11 ?_
      refine aw_gr (wx_r0_2 hW) G_stepFrom_12 (wx_o0 hW) ?_
      refine aw_il3 G_stepFrom_15 ?_
      refine aw_ia G_stepFrom_16 (wx_a_gnex hW) (by first | rfl | assumption) (by omega) ?_
      refine aw_is3 G_stepFrom_17 ?_
      refine aw_ip4 G_stepFrom_18 (by omega) ?_
      refine aw_go G_stepFrom_21 ?_
      rw [e6]
      exact ih (γ.2.2.1 b) (s + 1) (by omega) (by omega) (by omega) hv
theorem c_stepFrom {n i : Nat} {γ : Tz} (hW : WX S Pn T) (hw : WG Pn γ) (hR : RG Pn T g γ) (hn : n < γ.1) (hi : i < γ.2.2.2.2.1 n) (hP : P (.inl (some (iV (γ.2.2.2.1 (upT γ.2.2.1 i n) : Int)))) (S, g, u)) : Sp l E G_stepFrom d [rV (2 * T + 212), iV (n : Int), iV (i : Int)] (S, g, u) P := by
  have ht2 := hw.2.1
  have hdn := WG_dp hw n hn
  show aw l E G_stepFrom d 0 [some (rV (2 * T + 212)), some (iV (n : Int)), some (iV (i : Int)), none, none, none, none] [] (S, g, u) P
  refine aw_il1 G_stepFrom_0 ?_
  refine aw_is3 G_stepFrom_1 ?_
  refine aw_c G_stepFrom_2 ?_
  refine aw_is4 G_stepFrom_3 ?_
  exact c_stepFrom_lp hW hw hR (by omega) hP i n 0 (by omega) hn hi rfl
end MH
end
section
section MO
variable {l : Launch} {E : aE} {d : Nat} {S : aS} {g : aG} {u : aU} {P : aP} {Pn T : Nat} {nd gv : Nat → Nat → Int} {fs wn pr : Nat → Int} {fi : Nat} {tm gm : Prop} {a b : Nat}
/-- the class's object holds these -/
def XS (Pn T : Nat) (g : aG) (nd gv : Nat → Nat → Int) (fs wn pr : Nat → Int) (fi : Nat) (tm gm : Prop) : Prop :=
  NX Pn T g nd gv fs ∧ BX Pn T nd gv fs ∧ (∀ p, p < Pn → g (2 * T + 267) p = wn p ∧ 0 ≤ wn p ∧ wn p ≤ 100) ∧ (∀ p, p < Pn → g (2 * T + 268) p = pr p ∧ 0 ≤ pr p ∧ pr p ≤ 100 + 9 * fi) ∧ g 0 5 = (fi : Int) ∧ g (2 * T + 5) 9 = tf tm ∧ g (2 * T + 212) 8 = tf gm ∧
  (tm → (grT Pn T nd gv fs 200).1 = true ∧ TX Pn T g (grT Pn T nd gv fs 200).2) ∧ (gm → (gtG Pn T nd gv wn 48).1 = true ∧ RG Pn T g (gtG Pn T nd gv wn 48).2)
/-- the class's cells alone have changed -/
def FX (T : Nat) (g g' : aG) : Prop := ∀ x y, 2 * T + 269 ≤ x → g' x y = g x y
def up1 (f : Nat → Int) (p : Nat) (x : Int) : Nat → Int := fun r => if r = p then x else f r
theorem TX_fr {g' : aG} {τ : Tz} (h : TX Pn T g τ) (hg : ∀ x y, 2 * T + 5 ≤ x → x < 2 * T + 212 → ¬ (x = 2 * T + 5 ∧ y = 9) → g' x y = g x y) (hs : τ.1 ≤ 200) : TX Pn T g' τ := by
  obtain ⟨⟨r1, r2, r3, r4, r5, r6⟩, h2, h3, h4⟩ := h
  refine ⟨⟨fun n hn p hp => (hg _ _ (by omega) (by omega) (by omega)).trans (r1 n hn p hp), (hg _ _ (by omega) (by omega) (by omega)).trans r2, (hg _ _ (by omega) (by omega) (by omega)).trans r3, fun n h0 hn => ?_, fun n hn => (hg _ _ (by omega) (by omega) (by omega)).trans (r5 n hn), (hg _ _ (by omega) (by omega) (by omega)).trans r6⟩, fun n hn => (hg _ _ (by omega) (by omega) (by omega)).trans (h2 n hn), (hg _ _ (by omega) (by omega) (by omega)).trans h3, fun v hv hv2 => (hg _ _ (by omega) (by omega) (by omega)).trans (h4 v hv hv2)⟩
  obtain ⟨z1, z2⟩ := r4 n h0 hn
  exact ⟨(hg _ _ (by omega) (by omega) (by omega)).trans z1, (hg _ _ (by omega) (by omega) (by omega)).trans z2⟩
theorem RG_fr {g' : aG} {γ : Tz} (h : RG Pn T g γ) (hg : ∀ x y, 2 * T + 212 ≤ x → x < 2 * T + 267 → ¬ (x = 2 * T + 212 ∧ y = 8) → g' x y = g x y) (hs : γ.1 ≤ 48) : RG Pn T g' γ := by
  obtain ⟨r1, r2, r3, r4, r5⟩ := h
  refine ⟨fun k hk p hp => (hg _ _ (by omega) (by omega) (by omega)).trans (r1 k hk p hp), fun k h0 hk => ?_, fun k hk => (hg _ _ (by omega) (by omega) (by omega)).trans (r3 k hk), fun k hk => (hg _ _ (by omega) (by omega) (by omega)).trans (r4 k hk), (hg _ _ (by omega) (by omega) (by omega)).trans r5⟩
  obtain ⟨z1, z2⟩ := r2 k h0 hk
  exact ⟨(hg _ _ (by omega) (by omega) (by omega)).trans z1, (hg _ _ (by omega) (by omega) (by omega)).trans z2⟩
theorem BX_wt (hB : BX Pn T nd gv fs) (k : Nat) : WT Pn (grT Pn T nd gv fs k).2 := WT_gr hB.2 (fun t ht p hp => (hB.1 t ht p hp).1) (fun t ht p hp => ⟨(hB.1 t ht p hp).2.2.1, (hB.1 t ht p hp).2.2.2⟩) k
theorem BX_wg (hB : BX Pn T nd gv fs) (hw : ∀ p, p < Pn → 0 ≤ wn p ∧ wn p ≤ 100) (k : Nat) : WG Pn (gtG Pn T nd gv wn k).2 := WG_gt hw (fun t ht p hp => ⟨(hB.1 t ht p hp).1, (hB.1 t ht p hp).2.1⟩) (fun t ht p hp => ⟨(hB.1 t ht p hp).2.2.1, (hB.1 t ht p hp).2.2.2⟩) k
theorem XS_lo {g' : aG} (h : XS Pn T g nd gv fs wn pr fi tm gm) (hT : 1 ≤ T) (hg : ∀ x y, x < 2 * T + 269 → g' x y = g x y) : XS Pn T g' nd gv fs wn pr fi tm gm := by
  obtain ⟨h1, h2, h3, h4, h5, h6, h7, h8, h9⟩ := h
  refine ⟨NX_lo h1 hT (fun x y h => hg x y (by omega)), h2, fun p hp => ⟨(hg _ _ (by omega)).trans (h3 p hp).1, (h3 p hp).2⟩, fun p hp => ⟨(hg _ _ (by omega)).trans (h4 p hp).1, (h4 p hp).2⟩, (hg _ _ (by omega)).trans h5, (hg _ _ (by omega)).trans h6, (hg _ _ (by omega)).trans h7, fun z => ⟨(h8 z).1, TX_fr (h8 z).2 (fun x y a1 a2 _ => hg x y (by omega)) (BX_wt h2 200).2.1⟩, fun z => ⟨(h9 z).1, RG_fr (h9 z).2 (fun x y a1 a2 _ => hg x y (by omega)) (BX_wg h2 (fun p hp => (h3 p hp).2) 48).2.1⟩⟩
theorem fnd_spec (c : Nat → Prop) : ∀ s k, (fnd c s k = -2 ∧ ∀ j, k ≤ j → j < k + s → ¬ c j) ∨ ∃ j, k ≤ j ∧ j < k + s ∧ c j ∧ fnd c s k = (j : Int) ∧ ∀ i, k ≤ i → i < j → ¬ c i
  | 0, k => Or.inl ⟨rfl, fun j h1 h2 => by omega⟩
  | s + 1, k => by
    by_cases hc : c k
    · exact Or.inr ⟨k, Nat.le_refl _, by omega, hc, cI_p hc, fun i h1 h2 => by omega⟩
    · have e : fnd c (s + 1) k = fnd c s (k + 1) := cI_n hc
      rw [e]
      rcases fnd_spec c s (k + 1) with ⟨h1, h2⟩ | ⟨j, h1, h2, h3, h4, h5⟩
      · refine Or.inl ⟨h1, fun j h3 h4 => ?_⟩
        by_cases ej : j = k
        · rw [ej]; exact hc
        · exact h2 j (by omega) (by omega)
      · refine Or.inr ⟨j, by omega, by omega, h3, h4, fun i h6 h7 => ?_⟩
        by_cases ej : i = k
        · rw [ej]; exact hc
        · exact h5 i (by omega) h7
theorem ctT_ex (P : Nat) (τ : Tz) (k : Nat) : ∀ s, k < ctT P τ s → ∃ v, v < s ∧ tpT P τ v ∧ ctT P τ v = k
  | 0, h => by have h' : k < 0 := h; omega
  | s + 1, h => by
    have h' : k < ctT P τ s + cI (tpT P τ s) 1 0 := h
    by_cases hlt : k < ctT P τ s
    · obtain ⟨v, h1, h2, h3⟩ := ctT_ex P τ k s hlt
      exact ⟨v, by omega, h2, h3⟩
    · by_cases ht : tpT P τ s
      · rw [cI_p ht] at h'
        exact ⟨s, by omega, ht, by omega⟩
      · rw [cI_n ht] at h'
        omega
theorem c_checkTransition {i : Int} (hW : WX S Pn T) (hX : XS Pn T g nd gv fs wn pr fi tm gm) (ha : 1 ≤ a) (hb : 6 ≤ b) (hd : 6 ≤ d) (h1 : 0 ≤ i → i < (T : Int) → P (.inl none) (S, g, a, b, false)) (h2 : ¬ (0 ≤ i ∧ i < (T : Int)) → P (.inr xIO) (S, g, a - 1, b - 6, false)) : Sp l E O_checkTransition (d + 1) [rV 0, iV i] (S, g, a, b, false) P := by
  have e := hX.1.2.1
  show aw l E O_checkTransition (d + 1) 0 [some (rV 0), some (iV i), none, none, none, none, none] [] (S, g, a, b, false) P
  refine aw_il1 O_checkTransition_0 ?_
  refine aw_al0 O_checkTransition_1 ?_
  refine aw_gr (wx_r3_0 hW) O_checkTransition_2 (wx_o3 hW) ?_
  refine aw_gi O_checkTransition_5 (wx_o1 hW) ?_
  refine aw_S2 O_checkTransition_8 rfl rfl rfl rfl ?_
  refine c_checkIndex hd ha hb (fun k1 k2 => ?_) (fun k3 => h2 (by rw [e] at k3; exact k3))
  show aw _ _ _ _ _ _ _ _ _
  refine aw_retv O_checkTransition_11 rfl ?_
  exact h1 k1 (by rw [e] at k2; exact k2)
theorem c_checkPlace {i : Int} (hW : WX S Pn T) (hX : XS Pn T g nd gv fs wn pr fi tm gm) (ha : 1 ≤ a) (hb : 6 ≤ b) (hd : 6 ≤ d) (h1 : 0 ≤ i → i < (Pn : Int) → P (.inl none) (S, g, a, b, false)) (h2 : ¬ (0 ≤ i ∧ i < (Pn : Int)) → P (.inr xIO) (S, g, a - 1, b - 6, false)) : Sp l E O_checkPlace (d + 1) [rV 0, iV i] (S, g, a, b, false) P := by
  have e := hX.1.1
  show aw l E O_checkPlace (d + 1) 0 [some (rV 0), some (iV i), none, none, none, none, none] [] (S, g, a, b, false) P
  refine aw_il1 O_checkPlace_0 ?_
  refine aw_al0 O_checkPlace_1 ?_
  refine aw_gr (wx_r3_0 hW) O_checkPlace_2 (wx_o3 hW) ?_
  refine aw_gi O_checkPlace_5 (wx_o1 hW) ?_
  refine aw_S2 O_checkPlace_8 rfl rfl rfl rfl ?_
  refine c_checkIndex hd ha hb (fun k1 k2 => ?_) (fun k3 => h2 (by rw [e] at k3; exact k3))
  show aw _ _ _ _ _ _ _ _ _
  refine aw_retv O_checkPlace_11 rfl ?_
  exact h1 k1 (by rw [e] at k2; exact k2)
theorem c_checkNode {i : Int} {sz : Nat} (hW : WX S Pn T) (hsz : g (2 * T + 5) 7 = (sz : Int)) (ha : 1 ≤ a) (hb : 6 ≤ b) (hd : 6 ≤ d) (h1 : 0 ≤ i → i < (sz : Int) → P (.inl none) (S, g, a, b, false)) (h2 : ¬ (0 ≤ i ∧ i < (sz : Int)) → P (.inr xIO) (S, g, a - 1, b - 6, false)) : Sp l E O_checkNode (d + 1) [rV 0, iV i] (S, g, a, b, false) P := by
  show aw l E O_checkNode (d + 1) 0 [some (rV 0), some (iV i), none, none, none, none, none] [] (S, g, a, b, false) P
  refine aw_il1 O_checkNode_0 ?_
  refine aw_al0 O_checkNode_1 ?_
  refine aw_gr (wx_r3_1 hW) O_checkNode_2 (wx_o3 hW) ?_
  refine aw_gi O_checkNode_5 (wx_o2 hW) ?_
  refine aw_S2 O_checkNode_8 rfl rfl rfl rfl ?_
  refine c_checkIndex hd ha hb (fun k1 k2 => ?_) (fun k3 => h2 (by rw [hsz] at k3; exact k3))
  show aw _ _ _ _ _ _ _ _ _
  refine aw_retv O_checkNode_11 rfl ?_
  exact h1 k1 (by rw [hsz] at k2; exact k2)
theorem c_checkTree (hW : WX S Pn T) (hX : XS Pn T g nd gv fs wn pr fi tm gm) (ha : 1 ≤ a) (hb : 6 ≤ b) (hd : 6 ≤ d) (h1 : tm → P (.inl none) (S, g, a, b, false)) (h2 : ¬ tm → P (.inr xIS) (S, g, a - 1, b - 6, false)) : Sp l E O_checkTree d [rV 0] (S, g, a, b, false) P := by
  have e := hX.2.2.2.2.2.1
  show aw l E O_checkTree d 0 [some (rV 0), none, none, none, none, none, none] [] (S, g, a, b, false) P
  refine aw_al0 O_checkTree_0 ?_
  refine aw_gr (wx_r3_1 hW) O_checkTree_1 (wx_o3 hW) ?_
  refine aw_gi O_checkTree_4 (wx_o2 hW) ?_
  rw [e]
  refine aw_zne O_checkTree_7 (fun h7 => ?_) (fun h7 => ?_)
  · skip
    refine aw_retv O_checkTree_20 rfl ?_
    exact h1 (nz h7)
  · skip
    refine aw_throw O_checkTree_10 (by omega) (Nat.le_of_ble_eq_true rfl) (by omega) (by omega) ?_
    exact h2 (iz h7)
theorem c_checkGoals (hW : WX S Pn T) (hX : XS Pn T g nd gv fs wn pr fi tm gm) (ha : 1 ≤ a) (hb : 6 ≤ b) (hd : 6 ≤ d) (h1 : gm → P (.inl none) (S, g, a, b, false)) (h2 : ¬ gm → P (.inr xIS) (S, g, a - 1, b - 6, false)) : Sp l E O_checkGoals d [rV 0] (S, g, a, b, false) P := by
  have e := hX.2.2.2.2.2.2.1
  show aw l E O_checkGoals d 0 [some (rV 0), none, none, none, none, none, none] [] (S, g, a, b, false) P
  refine aw_al0 O_checkGoals_0 ?_
  refine aw_gr (wx_r3_2 hW) O_checkGoals_1 (wx_o3 hW) ?_
  refine aw_gi O_checkGoals_4 (wx_o0 hW) ?_
  rw [e]
  refine aw_zne O_checkGoals_7 (fun h7 => ?_) (fun h7 => ?_)
  · skip
    refine aw_retv O_checkGoals_20 rfl ?_
    exact h1 (nz h7)
  · skip
    refine aw_throw O_checkGoals_10 (by omega) (Nat.le_of_ble_eq_true rfl) (by omega) (by omega) ?_
    exact h2 (iz h7)
theorem c_forget (hW : WX S Pn T) (hP : P (.inl none) (S, upA (upA g (2 * T + 5) 9 0) (2 * T + 212) 8 0, u)) : Sp l E O_forgetTreeAndGoals d [rV 0] (S, g, u) P := by
  show aw l E O_forgetTreeAndGoals d 0 [some (rV 0), none, none, none, none, none, none] [] (S, g, u) P
  refine aw_al0 O_forgetTreeAndGoals_0 ?_
  refine aw_gr (wx_r3_1 hW) O_forgetTreeAndGoals_1 (wx_o3 hW) ?_
  refine aw_c O_forgetTreeAndGoals_4 ?_
  refine aw_pz O_forgetTreeAndGoals_5 (wx_o2 hW) (by first | exact Or.inl rfl | exact Or.inr rfl | assumption) ?_
  refine aw_al0 O_forgetTreeAndGoals_8 ?_
  refine aw_gr (wx_r3_2 hW) O_forgetTreeAndGoals_9 (wx_o3 hW) ?_
  refine aw_c O_forgetTreeAndGoals_12 ?_
  refine aw_pz O_forgetTreeAndGoals_13 (wx_o0 hW) (by first | exact Or.inl rfl | exact Or.inr rfl | assumption) ?_
  refine aw_retv O_forgetTreeAndGoals_16 rfl ?_
  exact hP
theorem c_returnToStart (hW : WX S Pn T) (h10 : g 1 0 = (Pn : Int)) (hd : 1 ≤ d) (hP : P (.inl none) (S, upA (cpA g (2 * T + 4) (2 * T + 268) Pn) 0 5 0, a, b, false)) : Sp l E O_returnToStart d [rV 0] (S, g, a, b, false) P := by
  show aw l E O_returnToStart d 0 [some (rV 0), none, none, none, none, none, none] [] (S, g, a, b, false) P
  refine aw_al0 O_returnToStart_0 ?_
  refine aw_gr (wx_r3_0 hW) O_returnToStart_1 (wx_o3 hW) ?_
  refine aw_gr (wx_r1_4 hW) O_returnToStart_4 (wx_o1 hW) ?_
  refine aw_c O_returnToStart_7 ?_
  refine aw_al0 O_returnToStart_8 ?_
  refine aw_gr (wx_r3_4 hW) O_returnToStart_9 (wx_o3 hW) ?_
  refine aw_c O_returnToStart_12 ?_
  refine aw_al0 O_returnToStart_13 ?_
  refine aw_gr (wx_r3_0 hW) O_returnToStart_14 (wx_o3 hW) ?_
  refine aw_gi O_returnToStart_17 (wx_o1 hW) ?_
  refine aw_cp O_returnToStart_20 (by omega) rfl (wx_a_first hW) (wx_a_xpre hW) h10 (Nat.le_refl _) (Nat.le_refl _) ?_
  refine aw_al0 O_returnToStart_23 ?_
  refine aw_c O_returnToStart_24 ?_
  refine aw_pi O_returnToStart_25 (wx_o3 hW) ?_
  refine aw_retv O_returnToStart_28 rfl ?_
  exact hP
theorem c_arc {t p nn ng : Int} (hW : WX S Pn T) (hX : XS Pn T g nd gv fs wn pr fi tm gm) (ha : 1 ≤ a) (hb : 6 ≤ b)
    (h0 : ∀ t' p' : Nat, t = (t' : Int) → p = (p' : Int) → t' < T → p' < Pn → 0 ≤ nn → nn ≤ 9 → 0 ≤ ng → ng ≤ 9 → ∀ g', XS Pn T g' (upA nd t' p' nn) (upA gv t' p' ng) fs wn pr fi False False → FX T g g' → P (.inl (some (iV (ng - nn)))) (S, g', a, b, false))
    (h1 : ¬ (0 ≤ t ∧ t < (T : Int)) ∨ ¬ (0 ≤ p ∧ p < (Pn : Int)) → P (.inr xIO) (S, g, a - 1, b - 6, false)) (h2 : (0 ≤ t ∧ t < (T : Int)) → (0 ≤ p ∧ p < (Pn : Int)) → ¬ (0 ≤ nn ∧ nn ≤ 9) ∨ ¬ (0 ≤ ng ∧ ng ≤ 9) → P (.inr xIA) (S, g, a - 1, b - 6, false)) : Sp l E O_arc 10 [rV 0, iV t, iV p, iV nn, iV ng] (S, g, a, b, false) P := by
  have hT8 := wx_T hW
  have hp6 := wx_P hW
  show aw l E O_arc 10 0 [some (rV 0), some (iV t), some (iV p), some (iV nn), some (iV ng), none, none] [] (S, g, a, b, false) P
  refine aw_al0 O_arc_0 ?_
  refine aw_il1 O_arc_1 ?_
  refine aw_V1 O_arc_2 rfl rfl rfl (wx_o3 hW) ?_
  refine c_checkTransition hW hX ha hb (by omega) (fun k1 k2 => ?_) (fun k => h1 (Or.inl k))
  show aw _ _ _ _ _ _ _ _ _
  refine aw_al0 O_arc_5 ?_
  refine aw_il2 O_arc_6 ?_
  refine aw_V1 O_arc_7 rfl rfl rfl (wx_o3 hW) ?_
  refine c_checkPlace hW hX ha hb (by omega) (fun k3 k4 => ?_) (fun k => h1 (Or.inr k))
  show aw _ _ _ _ _ _ _ _ _
  refine aw_il3 O_arc_10 ?_
  refine aw_c O_arc_11 ?_
  refine aw_S2 O_arc_13 rfl rfl rfl rfl ?_
  refine c_checkNumber (by omega) ha hb (fun k5 k6 => ?_) (fun k => h2 ⟨k1, k2⟩ ⟨k3, k4⟩ (Or.inl k))
  show aw _ _ _ _ _ _ _ _ _
  refine aw_il4 O_arc_16 ?_
  refine aw_c O_arc_18 ?_
  refine aw_S2 O_arc_20 rfl rfl rfl rfl ?_
  refine c_checkNumber (by omega) ha hb (fun k7 k8 => ?_) (fun k => h2 ⟨k1, k2⟩ ⟨k3, k4⟩ (Or.inr k))
  show aw _ _ _ _ _ _ _ _ _
  obtain ⟨t', rfl⟩ := Int.eq_ofNat_of_zero_le k1
  obtain ⟨p', rfl⟩ := Int.eq_ofNat_of_zero_le k3
  refine aw_al0 O_arc_23 ?_
  refine aw_gr (wx_r3_0 hW) O_arc_24 (wx_o3 hW) ?_
  refine aw_gr (wx_r1_2 hW) O_arc_27 (wx_o1 hW) ?_
  refine aw_il1 O_arc_30 ?_
  refine aw_aa O_arc_31 (wx_a_needs hW) (by first | rfl | assumption) (by omega) (wx_rr_needs hW (by omega)) ?_
  refine aw_il2 O_arc_32 ?_
  refine aw_il3 O_arc_33 ?_
  refine aw_iast O_arc_34 (wx_ra_needs hW (by omega)) (by first | rfl | assumption) (by omega) ?_
  refine aw_al0 O_arc_35 ?_
  refine aw_gr (wx_r3_0 hW) O_arc_36 (wx_o3 hW) ?_
  refine aw_gr (wx_r1_3 hW) O_arc_39 (wx_o1 hW) ?_
  refine aw_il1 O_arc_42 ?_
  refine aw_aa O_arc_43 (wx_a_gives hW) (by first | rfl | assumption) (by omega) (wx_rr_gives hW (by omega)) ?_
  refine aw_il2 O_arc_44 ?_
  refine aw_il4 O_arc_45 ?_
  refine aw_iast O_arc_47 (wx_ra_gives hW (by omega)) (by first | rfl | assumption) (by omega) ?_
  refine aw_al0 O_arc_48 ?_
  refine aw_V0 O_arc_49 rfl rfl (wx_o3 hW) ?_
  refine c_forget hW ?_
  show aw _ _ _ _ _ _ _ _ _
  refine aw_il4 O_arc_52 ?_
  refine aw_il3 O_arc_54 ?_
  refine aw_sub O_arc_55 (by constructor <;> omega) ?_
  refine aw_reti O_arc_56 (Or.inl rfl) ?_
  obtain ⟨x1, x2, x3, x4, x5, x6, x7, x8, x9⟩ := hX
  refine h0 t' p' rfl rfl (by omega) (by omega) k5 k6 k7 k8 _ ⟨⟨?_, ?_, fun s hs r hr => ?_, fun r hr => ?_⟩, ⟨fun s hs r hr => ?_, x2.2⟩, fun r hr => ?_, fun r hr => ?_, ?_, ?_, ?_, fun z => z.elim, fun z => z.elim⟩ (fun x y h => ?_)
  · rw [upA_ne (by omega), upA_ne (by omega), upA_ne (by omega), upA_ne (by omega)]; exact x1.1
  · rw [upA_ne (by omega), upA_ne (by omega), upA_ne (by omega), upA_ne (by omega)]; exact x1.2.1
  · obtain ⟨z1, z2⟩ := x1.2.2.1 s hs r hr
    by_cases e : s = t' ∧ r = p'
    · obtain ⟨rfl, rfl⟩ := e
      constructor
      · rw [upA_ne (by omega), upA_ne (by omega), upA_ne (by omega), upA_eq, upA_eq]
      · rw [upA_ne (by omega), upA_ne (by omega), upA_eq, upA_eq]
    · constructor
      · rw [upA_ne (by omega), upA_ne (by omega), upA_ne (by omega), upA_ne (by omega), upA_ne e]; exact z1
      · rw [upA_ne (by omega), upA_ne (by omega), upA_ne (by omega), upA_ne (by omega), upA_ne e]; exact z2
  · rw [upA_ne (by omega), upA_ne (by omega), upA_ne (by omega), upA_ne (by omega)]; exact x1.2.2.2 r hr
  · have z := x2.1 s hs r hr
    by_cases e : s = t' ∧ r = p'
    · obtain ⟨rfl, rfl⟩ := e
      rw [upA_eq, upA_eq]
      omega
    · rw [upA_ne e, upA_ne e]
      exact z
  · rw [upA_ne (by omega), upA_ne (by omega), upA_ne (by omega), upA_ne (by omega)]; exact x3 r hr
  · rw [upA_ne (by omega), upA_ne (by omega), upA_ne (by omega), upA_ne (by omega)]; exact x4 r hr
  · rw [upA_ne (by omega), upA_ne (by omega), upA_ne (by omega), upA_ne (by omega)]; exact x5
  · rw [upA_ne (by omega), upA_eq]; exact (cI_n id).symm
  · rw [upA_eq]; exact (cI_n id).symm
  · rw [upA_ne (by omega), upA_ne (by omega), upA_ne (by omega), upA_ne (by omega)]
end MO
end
