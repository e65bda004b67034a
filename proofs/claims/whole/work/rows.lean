section
/-- a private method of a class that the tables say can be made, by its rows of tables_1 -/
def lw_okq (q : MethodName × Nat) : Prop := (q.1.cls ≠ "java/lang/invoke/MethodHandle" ∧ q.1.cls ≠ "java/lang/invoke/VarHandle") ∧ Cond.instantiable q.1.cls q.2 ∈ tables_1 ∧ Cond.privateMethod q.1 ∈ tables_1 ∧ Cond.instanceMethod q.1 ∈ tables_1
theorem lw_p0 : lw_okq (⟨"OmegaNets", "returnToStart", "()V"⟩, 6) := ⟨⟨by decide +kernel, by decide +kernel⟩, List.mem_of_getElem? (i := 16) (by decide +kernel), List.mem_of_getElem? (i := 178) (by decide +kernel), List.mem_of_getElem? (i := 179) (by decide +kernel)⟩
theorem lw_p1 : lw_okq (⟨"OmegaNets", "checkTransition", "(I)V"⟩, 6) := ⟨⟨by decide +kernel, by decide +kernel⟩, List.mem_of_getElem? (i := 16) (by decide +kernel), List.mem_of_getElem? (i := 197) (by decide +kernel), List.mem_of_getElem? (i := 198) (by decide +kernel)⟩
theorem lw_p2 : lw_okq (⟨"java/lang/Throwable", "fillInStackTrace", "(I)Ljava/lang/Throwable;"⟩, 6) := ⟨⟨by decide +kernel, by decide +kernel⟩, List.mem_of_getElem? (i := 243) (by decide +kernel), List.mem_of_getElem? (i := 241) (by decide +kernel), List.mem_of_getElem? (i := 242) (by decide +kernel)⟩
theorem lw_p3 : lw_okq (⟨"OmegaNets", "checkPlace", "(I)V"⟩, 6) := ⟨⟨by decide +kernel, by decide +kernel⟩, List.mem_of_getElem? (i := 16) (by decide +kernel), List.mem_of_getElem? (i := 273) (by decide +kernel), List.mem_of_getElem? (i := 274) (by decide +kernel)⟩
theorem lw_p4 : lw_okq (⟨"OmegaNets", "forgetTreeAndGoals", "()V"⟩, 6) := ⟨⟨by decide +kernel, by decide +kernel⟩, List.mem_of_getElem? (i := 16) (by decide +kernel), List.mem_of_getElem? (i := 296) (by decide +kernel), List.mem_of_getElem? (i := 297) (by decide +kernel)⟩
theorem lw_p5 : lw_okq (⟨"OmegaNets$Tree", "plant", "()V"⟩, 10) := ⟨⟨by decide +kernel, by decide +kernel⟩, List.mem_of_getElem? (i := 69) (by decide +kernel), List.mem_of_getElem? (i := 352) (by decide +kernel), List.mem_of_getElem? (i := 353) (by decide +kernel)⟩
theorem lw_p6 : lw_okq (⟨"OmegaNets$Tree", "repeatsOneAbove", "(I)Z"⟩, 10) := ⟨⟨by decide +kernel, by decide +kernel⟩, List.mem_of_getElem? (i := 69) (by decide +kernel), List.mem_of_getElem? (i := 357) (by decide +kernel), List.mem_of_getElem? (i := 358) (by decide +kernel)⟩
theorem lw_p7 : lw_okq (⟨"OmegaNets$Tree", "branch", "(I)Z"⟩, 10) := ⟨⟨by decide +kernel, by decide +kernel⟩, List.mem_of_getElem? (i := 69) (by decide +kernel), List.mem_of_getElem? (i := 365) (by decide +kernel), List.mem_of_getElem? (i := 366) (by decide +kernel)⟩
theorem lw_p8 : lw_okq (⟨"OmegaNets$Tree", "addNode", "(II)V"⟩, 10) := ⟨⟨by decide +kernel, by decide +kernel⟩, List.mem_of_getElem? (i := 69) (by decide +kernel), List.mem_of_getElem? (i := 370) (by decide +kernel), List.mem_of_getElem? (i := 371) (by decide +kernel)⟩
theorem lw_p9 : lw_okq (⟨"OmegaNets$Tree", "lift", "(I)V"⟩, 10) := ⟨⟨by decide +kernel, by decide +kernel⟩, List.mem_of_getElem? (i := 69) (by decide +kernel), List.mem_of_getElem? (i := 375) (by decide +kernel), List.mem_of_getElem? (i := 376) (by decide +kernel)⟩
theorem lw_p10 : lw_okq (⟨"OmegaNets$Tree", "liftOver", "([I[I)Z"⟩, 10) := ⟨⟨by decide +kernel, by decide +kernel⟩, List.mem_of_getElem? (i := 69) (by decide +kernel), List.mem_of_getElem? (i := 379) (by decide +kernel), List.mem_of_getElem? (i := 380) (by decide +kernel)⟩
theorem lw_p11 : lw_okq (⟨"OmegaNets$Tree", "findPeaks", "()V"⟩, 10) := ⟨⟨by decide +kernel, by decide +kernel⟩, List.mem_of_getElem? (i := 69) (by decide +kernel), List.mem_of_getElem? (i := 385) (by decide +kernel), List.mem_of_getElem? (i := 386) (by decide +kernel)⟩
theorem lw_p12 : lw_okq (⟨"OmegaNets$Tree", "isPeak", "(I)Z"⟩, 10) := ⟨⟨by decide +kernel, by decide +kernel⟩, List.mem_of_getElem? (i := 69) (by decide +kernel), List.mem_of_getElem? (i := 389) (by decide +kernel), List.mem_of_getElem? (i := 390) (by decide +kernel)⟩
theorem lw_p13 : lw_okq (⟨"OmegaNets", "checkTree", "()V"⟩, 6) := ⟨⟨by decide +kernel, by decide +kernel⟩, List.mem_of_getElem? (i := 16) (by decide +kernel), List.mem_of_getElem? (i := 416) (by decide +kernel), List.mem_of_getElem? (i := 417) (by decide +kernel)⟩
theorem lw_p14 : lw_okq (⟨"OmegaNets", "checkNode", "(I)V"⟩, 6) := ⟨⟨by decide +kernel, by decide +kernel⟩, List.mem_of_getElem? (i := 16) (by decide +kernel), List.mem_of_getElem? (i := 421) (by decide +kernel), List.mem_of_getElem? (i := 422) (by decide +kernel)⟩
theorem lw_p15 : lw_okq (⟨"OmegaNets$Goals", "plant", "([I)V"⟩, 9) := ⟨⟨by decide +kernel, by decide +kernel⟩, List.mem_of_getElem? (i := 117) (by decide +kernel), List.mem_of_getElem? (i := 524) (by decide +kernel), List.mem_of_getElem? (i := 525) (by decide +kernel)⟩
def lw_privs_1 : List (MethodName × Nat) := [(⟨"OmegaNets", "returnToStart", "()V"⟩, 6), (⟨"OmegaNets", "checkTransition", "(I)V"⟩, 6), (⟨"java/lang/Throwable", "fillInStackTrace", "(I)Ljava/lang/Throwable;"⟩, 6), (⟨"OmegaNets", "checkPlace", "(I)V"⟩, 6), (⟨"OmegaNets", "forgetTreeAndGoals", "()V"⟩, 6), (⟨"OmegaNets$Tree", "plant", "()V"⟩, 10), (⟨"OmegaNets$Tree", "repeatsOneAbove", "(I)Z"⟩, 10), (⟨"OmegaNets$Tree", "branch", "(I)Z"⟩, 10), (⟨"OmegaNets$Tree", "addNode", "(II)V"⟩, 10), (⟨"OmegaNets$Tree", "lift", "(I)V"⟩, 10), (⟨"OmegaNets$Tree", "liftOver", "([I[I)Z"⟩, 10), (⟨"OmegaNets$Tree", "findPeaks", "()V"⟩, 10), (⟨"OmegaNets$Tree", "isPeak", "(I)Z"⟩, 10), (⟨"OmegaNets", "checkTree", "()V"⟩, 6), (⟨"OmegaNets", "checkNode", "(I)V"⟩, 6), (⟨"OmegaNets$Goals", "plant", "([I)V"⟩, 9)]
theorem lw_r1 : ∀ q ∈ lw_privs_1, lw_okq q := List.forall_mem_cons.mpr ⟨lw_p0, List.forall_mem_cons.mpr ⟨lw_p1, List.forall_mem_cons.mpr ⟨lw_p2, List.forall_mem_cons.mpr ⟨lw_p3, List.forall_mem_cons.mpr ⟨lw_p4, List.forall_mem_cons.mpr ⟨lw_p5, List.forall_mem_cons.mpr ⟨lw_p6, List.forall_mem_cons.mpr ⟨lw_p7, List.forall_mem_cons.mpr ⟨lw_p8, List.forall_mem_cons.mpr ⟨lw_p9, List.forall_mem_cons.mpr ⟨lw_p10, List.forall_mem_cons.mpr ⟨lw_p11, List.forall_mem_cons.mpr ⟨lw_p12, List.forall_mem_cons.mpr ⟨lw_p13, List.forall_mem_cons.mpr ⟨lw_p14, List.forall_mem_cons.mpr ⟨lw_p15, fun _ h => absurd h List.not_mem_nil⟩⟩⟩⟩⟩⟩⟩⟩⟩⟩⟩⟩⟩⟩⟩⟩
theorem lw_p16 : lw_okq (⟨"OmegaNets$Goals", "goBack", "(I)Z"⟩, 9) := ⟨⟨by decide +kernel, by decide +kernel⟩, List.mem_of_getElem? (i := 117) (by decide +kernel), List.mem_of_getElem? (i := 529) (by decide +kernel), List.mem_of_getElem? (i := 530) (by decide +kernel)⟩
theorem lw_p17 : lw_okq (⟨"OmegaNets$Goals", "isKnown", "([I)Z"⟩, 9) := ⟨⟨by decide +kernel, by decide +kernel⟩, List.mem_of_getElem? (i := 117) (by decide +kernel), List.mem_of_getElem? (i := 538) (by decide +kernel), List.mem_of_getElem? (i := 539) (by decide +kernel)⟩
theorem lw_p18 : lw_okq (⟨"OmegaNets$Goals", "addCandidate", "(II)V"⟩, 9) := ⟨⟨by decide +kernel, by decide +kernel⟩, List.mem_of_getElem? (i := 117) (by decide +kernel), List.mem_of_getElem? (i := 543) (by decide +kernel), List.mem_of_getElem? (i := 544) (by decide +kernel)⟩
theorem lw_p19 : lw_okq (⟨"OmegaNets", "checkGoals", "()V"⟩, 6) := ⟨⟨by decide +kernel, by decide +kernel⟩, List.mem_of_getElem? (i := 16) (by decide +kernel), List.mem_of_getElem? (i := 559) (by decide +kernel), List.mem_of_getElem? (i := 560) (by decide +kernel)⟩
theorem lw_p20 : lw_okq (⟨"OmegaNets", "goalBelowStart", "()I"⟩, 6) := ⟨⟨by decide +kernel, by decide +kernel⟩, List.mem_of_getElem? (i := 16) (by decide +kernel), List.mem_of_getElem? (i := 577) (by decide +kernel), List.mem_of_getElem? (i := 578) (by decide +kernel)⟩
theorem lw_p21 : lw_okq (⟨"OmegaNetsModel", "isTransition", "(I)Z"⟩, 21) := ⟨⟨by decide +kernel, by decide +kernel⟩, List.mem_of_getElem? (i := 612) (by decide +kernel), List.mem_of_getElem? (i := 690) (by decide +kernel), List.mem_of_getElem? (i := 691) (by decide +kernel)⟩
theorem lw_p22 : lw_okq (⟨"OmegaNetsModel", "isPlace", "(I)Z"⟩, 21) := ⟨⟨by decide +kernel, by decide +kernel⟩, List.mem_of_getElem? (i := 612) (by decide +kernel), List.mem_of_getElem? (i := 694) (by decide +kernel), List.mem_of_getElem? (i := 695) (by decide +kernel)⟩
theorem lw_p23 : lw_okq (⟨"OmegaNetsModel", "changed", "()V"⟩, 21) := ⟨⟨by decide +kernel, by decide +kernel⟩, List.mem_of_getElem? (i := 612) (by decide +kernel), List.mem_of_getElem? (i := 698) (by decide +kernel), List.mem_of_getElem? (i := 699) (by decide +kernel)⟩
theorem lw_p24 : lw_okq (⟨"OmegaNetsModel", "begin", "()V"⟩, 21) := ⟨⟨by decide +kernel, by decide +kernel⟩, List.mem_of_getElem? (i := 612) (by decide +kernel), List.mem_of_getElem? (i := 706) (by decide +kernel), List.mem_of_getElem? (i := 707) (by decide +kernel)⟩
theorem lw_p25 : lw_okq (⟨"OmegaNetsModel", "isLeaf", "(I)Z"⟩, 21) := ⟨⟨by decide +kernel, by decide +kernel⟩, List.mem_of_getElem? (i := 612) (by decide +kernel), List.mem_of_getElem? (i := 730) (by decide +kernel), List.mem_of_getElem? (i := 731) (by decide +kernel)⟩
theorem lw_p26 : lw_okq (⟨"OmegaNetsModel", "isSame", "(II)Z"⟩, 21) := ⟨⟨by decide +kernel, by decide +kernel⟩, List.mem_of_getElem? (i := 612) (by decide +kernel), List.mem_of_getElem? (i := 734) (by decide +kernel), List.mem_of_getElem? (i := 735) (by decide +kernel)⟩
theorem lw_p27 : lw_okq (⟨"OmegaNetsModel", "isBelow", "(II)Z"⟩, 21) := ⟨⟨by decide +kernel, by decide +kernel⟩, List.mem_of_getElem? (i := 612) (by decide +kernel), List.mem_of_getElem? (i := 738) (by decide +kernel), List.mem_of_getElem? (i := 739) (by decide +kernel)⟩
theorem lw_p28 : lw_okq (⟨"OmegaNetsModel", "isEnabled", "(II)Z"⟩, 21) := ⟨⟨by decide +kernel, by decide +kernel⟩, List.mem_of_getElem? (i := 612) (by decide +kernel), List.mem_of_getElem? (i := 742) (by decide +kernel), List.mem_of_getElem? (i := 743) (by decide +kernel)⟩
theorem lw_p29 : lw_okq (⟨"OmegaNetsModel", "grow", "(II)V"⟩, 21) := ⟨⟨by decide +kernel, by decide +kernel⟩, List.mem_of_getElem? (i := 612) (by decide +kernel), List.mem_of_getElem? (i := 746) (by decide +kernel), List.mem_of_getElem? (i := 747) (by decide +kernel)⟩
theorem lw_p30 : lw_okq (⟨"OmegaNetsModel", "raise", "(I)Z"⟩, 21) := ⟨⟨by decide +kernel, by decide +kernel⟩, List.mem_of_getElem? (i := 612) (by decide +kernel), List.mem_of_getElem? (i := 751) (by decide +kernel), List.mem_of_getElem? (i := 752) (by decide +kernel)⟩
theorem lw_p31 : lw_okq (⟨"OmegaNetsModel", "isNode", "(I)Z"⟩, 21) := ⟨⟨by decide +kernel, by decide +kernel⟩, List.mem_of_getElem? (i := 612) (by decide +kernel), List.mem_of_getElem? (i := 759) (by decide +kernel), List.mem_of_getElem? (i := 760) (by decide +kernel)⟩
def lw_privs_2 : List (MethodName × Nat) := [(⟨"OmegaNets$Goals", "goBack", "(I)Z"⟩, 9), (⟨"OmegaNets$Goals", "isKnown", "([I)Z"⟩, 9), (⟨"OmegaNets$Goals", "addCandidate", "(II)V"⟩, 9), (⟨"OmegaNets", "checkGoals", "()V"⟩, 6), (⟨"OmegaNets", "goalBelowStart", "()I"⟩, 6), (⟨"OmegaNetsModel", "isTransition", "(I)Z"⟩, 21), (⟨"OmegaNetsModel", "isPlace", "(I)Z"⟩, 21), (⟨"OmegaNetsModel", "changed", "()V"⟩, 21), (⟨"OmegaNetsModel", "begin", "()V"⟩, 21), (⟨"OmegaNetsModel", "isLeaf", "(I)Z"⟩, 21), (⟨"OmegaNetsModel", "isSame", "(II)Z"⟩, 21), (⟨"OmegaNetsModel", "isBelow", "(II)Z"⟩, 21), (⟨"OmegaNetsModel", "isEnabled", "(II)Z"⟩, 21), (⟨"OmegaNetsModel", "grow", "(II)V"⟩, 21), (⟨"OmegaNetsModel", "raise", "(I)Z"⟩, 21), (⟨"OmegaNetsModel", "isNode", "(I)Z"⟩, 21)]
theorem lw_r2 : ∀ q ∈ lw_privs_2, lw_okq q := List.forall_mem_cons.mpr ⟨lw_p16, List.forall_mem_cons.mpr ⟨lw_p17, List.forall_mem_cons.mpr ⟨lw_p18, List.forall_mem_cons.mpr ⟨lw_p19, List.forall_mem_cons.mpr ⟨lw_p20, List.forall_mem_cons.mpr ⟨lw_p21, List.forall_mem_cons.mpr ⟨lw_p22, List.forall_mem_cons.mpr ⟨lw_p23, List.forall_mem_cons.mpr ⟨lw_p24, List.forall_mem_cons.mpr ⟨lw_p25, List.forall_mem_cons.mpr ⟨lw_p26, List.forall_mem_cons.mpr ⟨lw_p27, List.forall_mem_cons.mpr ⟨lw_p28, List.forall_mem_cons.mpr ⟨lw_p29, List.forall_mem_cons.mpr ⟨lw_p30, List.forall_mem_cons.mpr ⟨lw_p31, fun _ h => absurd h List.not_mem_nil⟩⟩⟩⟩⟩⟩⟩⟩⟩⟩⟩⟩⟩⟩⟩⟩
theorem lw_p32 : lw_okq (⟨"OmegaNetsModel", "depth", "(I)I"⟩, 21) := ⟨⟨by decide +kernel, by decide +kernel⟩, List.mem_of_getElem? (i := 612) (by decide +kernel), List.mem_of_getElem? (i := 774) (by decide +kernel), List.mem_of_getElem? (i := 775) (by decide +kernel)⟩
theorem lw_p33 : lw_okq (⟨"OmegaNetsModel", "isTop", "(I)Z"⟩, 21) := ⟨⟨by decide +kernel, by decide +kernel⟩, List.mem_of_getElem? (i := 612) (by decide +kernel), List.mem_of_getElem? (i := 786) (by decide +kernel), List.mem_of_getElem? (i := 787) (by decide +kernel)⟩
theorem lw_p34 : lw_okq (⟨"OmegaNetsModel", "topAt", "(I)I"⟩, 21) := ⟨⟨by decide +kernel, by decide +kernel⟩, List.mem_of_getElem? (i := 612) (by decide +kernel), List.mem_of_getElem? (i := 794) (by decide +kernel), List.mem_of_getElem? (i := 795) (by decide +kernel)⟩
theorem lw_p35 : lw_okq (⟨"OmegaNetsModel", "makeGoal", "(II)Z"⟩, 21) := ⟨⟨by decide +kernel, by decide +kernel⟩, List.mem_of_getElem? (i := 612) (by decide +kernel), List.mem_of_getElem? (i := 814) (by decide +kernel), List.mem_of_getElem? (i := 815) (by decide +kernel)⟩
theorem lw_p36 : lw_okq (⟨"OmegaNetsModel", "isGoalBelow", "(II)Z"⟩, 21) := ⟨⟨by decide +kernel, by decide +kernel⟩, List.mem_of_getElem? (i := 612) (by decide +kernel), List.mem_of_getElem? (i := 818) (by decide +kernel), List.mem_of_getElem? (i := 819) (by decide +kernel)⟩
theorem lw_p37 : lw_okq (⟨"OmegaNetsModel", "firstGoal", "()I"⟩, 21) := ⟨⟨by decide +kernel, by decide +kernel⟩, List.mem_of_getElem? (i := 612) (by decide +kernel), List.mem_of_getElem? (i := 830) (by decide +kernel), List.mem_of_getElem? (i := 831) (by decide +kernel)⟩
def lw_privs_3 : List (MethodName × Nat) := [(⟨"OmegaNetsModel", "depth", "(I)I"⟩, 21), (⟨"OmegaNetsModel", "isTop", "(I)Z"⟩, 21), (⟨"OmegaNetsModel", "topAt", "(I)I"⟩, 21), (⟨"OmegaNetsModel", "makeGoal", "(II)Z"⟩, 21), (⟨"OmegaNetsModel", "isGoalBelow", "(II)Z"⟩, 21), (⟨"OmegaNetsModel", "firstGoal", "()I"⟩, 21)]
theorem lw_r3 : ∀ q ∈ lw_privs_3, lw_okq q := List.forall_mem_cons.mpr ⟨lw_p32, List.forall_mem_cons.mpr ⟨lw_p33, List.forall_mem_cons.mpr ⟨lw_p34, List.forall_mem_cons.mpr ⟨lw_p35, List.forall_mem_cons.mpr ⟨lw_p36, List.forall_mem_cons.mpr ⟨lw_p37, fun _ h => absurd h List.not_mem_nil⟩⟩⟩⟩⟩⟩
def lw_privs : List (MethodName × Nat) := lw_privs_1 ++ (lw_privs_2 ++ (lw_privs_3))
def lw_tbl : List Cond := k2_sels lw_privs ++ tables_1
theorem lw_privs_ok : ∀ q ∈ lw_privs, lw_okq q := by
  show ∀ q ∈ lw_privs_1 ++ (lw_privs_2 ++ (lw_privs_3)), lw_okq q
  exact List.forall_mem_append.mpr ⟨lw_r1, List.forall_mem_append.mpr ⟨lw_r2, lw_r3⟩⟩
end
section
/-! ===== BEGIN words of one list among another's, by their places ===== -/
theorem goodIn_r {big : List Cond} (ws : List Cond) (ps : List Nat) (hp : ws = ps.filterMap (fun i => big[i]?)) (h : ws.all goodWord = true) : GoodIn big ws := by
  intro w hw
  have h1 := List.all_eq_true.mp h w hw
  rw [hp] at hw
  obtain ⟨i, -, hi⟩ := List.mem_filterMap.mp hw
  have hm : w ∈ big := by first | exact List.mem_of_getElem? hi | exact List.getElem?_mem hi
  exact ⟨hm, good_of_word h1⟩
theorem goodIn_app {big a b : List Cond} (ha : GoodIn big a) (hb : GoodIn big b) : GoodIn big (a ++ b) := fun w h => (List.mem_append.mp h).elim (ha w) (hb w)
theorem goodIn_ca {big a b : List Cond} {c : Cond} (ha : GoodIn big (c :: a)) (hb : GoodIn big b) : GoodIn big (c :: (a ++ b)) := fun w h => (List.mem_cons.mp h).elim (fun e => ha w (List.mem_cons.mpr (Or.inl e))) (fun h => (List.mem_append.mp h).elim (fun h => ha w (List.mem_cons.mpr (Or.inr h))) (hb w))
theorem goodIn_sub {big ws : List Cond} (hm : ∀ w ∈ ws, w ∈ big) (h : ws.all goodWord = true) : GoodIn big ws := fun w hw => ⟨hm w hw, good_of_word (List.all_eq_true.mp h w hw)⟩
/-! ===== END ===== -/

/-! ===== BEGIN new T[n][m]: the outer array a place, the inner ones among the pooled ===== -/
/-- f, but v at every address of l -/
def vr_up {α : Type} (f : Nat → α) (l : List Nat) (v : α) : Nat → α := fun a => if a ∈ l then v else f a
theorem vr_up_in {α : Type} {f : Nat → α} {l : List Nat} {v : α} {a : Nat} (h : a ∈ l) : vr_up f l v a = v := if_pos h
theorem vr_up_ne {α : Type} {f : Nat → α} {l : List Nat} {v : α} {a : Nat} (h : a ∉ l) : vr_up f l v a = f a := if_neg h
theorem vr_rows {L l : List Nat} {f : Nat → va_E} {e : va_E} (h : ∀ a, a ∈ l → a ∉ L) : va_pl L f ++ l.map (fun a => (a, e)) = va_pl (L ++ l) (vr_up f l e) := by
  unfold va_pl
  rw [List.map_append]
  congr 1
  · apply List.map_congr_left
    intro a ha
    rw [vr_up_ne (fun q => h a q ha)]
  · apply List.map_congr_left
    intro a ha
    rw [vr_up_in ha]
theorem vr_lay {X rows : va_W} {x : Nat × va_E} {pl : va_W} {D : va_G} {cl : List vw_C} {H : Heap} (hP : va_P D cl (((X ++ pl) ++ [x]) ++ rows) H) : va_P D cl ((X ++ [x]) ++ (pl ++ rows)) H := by
  rw [List.append_assoc (X ++ pl)] at hP
  have h := va_P.swap hP
  rw [← List.append_assoc X] at h
  have h2 := va_P.swap h
  rw [List.append_assoc (X ++ [x])] at h2
  exact h2
theorem vr_layD {X rows : va_W} {x : Nat × va_E} {pl : va_W} {A : Nat → Prop} (hD : va_D A (((X ++ pl) ++ [x]) ++ rows)) : va_D A ((X ++ [x]) ++ (pl ++ rows)) := by
  rw [List.append_assoc (X ++ pl)] at hD
  have h := va_D.swap hD
  rw [← List.append_assoc X] at h
  have h2 := va_D.swap h
  rw [List.append_assoc (X ++ [x])] at h2
  exact h2
theorem vr_outer (c : ClassId) (N h0 : Nat) : ∀ i : Nat, Jvm.Free.Multi.outerC c N h0 i = arrV c N (fun j => va_rf (if j < i then some (h0 + 1 + j) else none))
  | 0 => by
    show ({ cls := c, slots := Array.replicate N .null, vm := .none } : Cell) = _
    rw [arrV_new]
    refine congrArg (arrV c N) (funext fun j => ?_)
    simp [va_rf]
  | i + 1 => by
    show (Jvm.Free.Multi.outerC c N h0 i).setSlot i (.ref (h0 + 1 + i)) = _
    rw [vr_outer c N h0 i, arrV_store]
    refine congrArg (arrV c N) (funext fun j => ?_)
    by_cases e : j = i
    · subst e
      simp [updV, va_rf]
    · by_cases h : j < i
      · simp [updV, e, h, Nat.lt_succ_of_lt h]
      · simp [updV, e, h, show ¬ j < i + 1 by omega]
section VGM
variable {p : Program} {l : Launch} {e : Env} {R : Room} {s : State} {m : MethodId} {args : Array Value} {below : List Frame} {meth : Method} {c : Code} {H : Heap} {locs : List Loc} {cells slots : Nat} {Q : State → Prop}
variable {cc : ByteArray} {pc : Nat} {ls : Array Slot} {rest : List Value} {D : va_G} {cl : List vw_C} {A : Nat → Prop} {a : Nat} {tys : List (ClassId × FieldType)} {ws : va_W} {H0 : Heap}
theorem va_mna {X : va_W} {L : List Nat} {f : Nat → va_E} {cc : ByteArray} (hexec : p.tables.exec = Jvm.exec) (hb : c.code = cc) {own : String} {index : Nat} {ty : FieldType} {cy : ClassId} (hown : s.vm.findClass own = some m.cls) (hclink : (Cond.classLink own index ("[" ++ (FieldType.array ty).toString)).before args s = true) (hover : (Cond.arrayOver (.array ty)).before args s = true) (harr : (Cond.arrayClass ty).before args s = true) (hcy : s.vm.findClass (FieldType.array ty).toString = some cy)
    (hK : va_K D cl tys s) (hP : va_P D cl (X ++ va_pl L f) H) (hD : va_D A (X ++ va_pl L f)) (hS : va_S A H0 H locs) (hA : ∀ q, H0.size ≤ q → A q) {n k : Int32} {N' K' : Nat} {z : vp_A} (hn : ¬ n < 0) (hk : ¬ k < 0) (hN : n.toNatClampNeg = N') (hM : k.toNatClampNeg = K')
    (hb1 : N' * 4 ≤ 536870912) (hb2 : K' * componentBytes ty ≤ 536870912) (hb3 : K' ≤ 536870912) (hdf : fits ty (defaultValue ty) = true) (hdd : (defaultValue ty).isDefault = true) (hcells : cells + (1 + N') ≤ R.cells) (hslots : slots + (N' + N' * K') ≤ R.slots) (hz : ∀ c : ClassId, Jvm.Free.Multi.innerC c K' (defaultValue ty) = vp_cell c z) (hdg : decode cc pc = .ok (.multianewarray index 2, 4))
    (kk : ∀ (q : Nat) (r : Nat → Nat) (cA : ClassId) (H1 : Heap), (∀ i j : Nat, i < N' → j < N' → r i = r j → i = j) → (∀ i : Nat, i < N' → r i ∉ L) → va_K D cl (tys ++ [(cA, .array ty)]) s →
      va_P D cl ((X ++ [(q, .inl (cA, N', .inr (.inr (.inr (.inr (fun i => if i < N' then some (r i) else none))))))]) ++ va_pl (L ++ (List.range N').map r) (vr_up f ((List.range N').map r) (.inl (cy, z)))) H1 → va_D A ((X ++ [(q, .inl (cA, N', .inr (.inr (.inr (.inr (fun i => if i < N' then some (r i) else none))))))]) ++ va_pl (L ++ (List.range N').map r) (vr_up f ((List.range N').map r) (.inl (cy, z)))) → va_S A H0 H1 locs →
      W p l e R s m args below meth c H1 locs (cells + 1 + N') (slots + N' + N' * K') Q (F0 m (pc + 4) ls (.ref q :: rest))) : W p l e R s m args below meth c H locs cells slots Q (F0 m pc ls (.int k :: .int n :: rest)) := by
  subst hN
  subst hM
  intro T hT Xs
  obtain ⟨vm₁, cA, comp, -, fA, fC, hO, -, X', step⟩ := Xs.multianewarray2F hexec hown hclink hover harr (g := F0 m pc ls (.int k :: .int n :: rest)) rfl (by rw [hb]; exact hdg) rfl hn hk hb1 hb2 hb3 hdf hdd hcells hslots
  have ec : some cy = some comp := hcy.symm.trans fC
  cases ec
  generalize hF : Jvm.Free.Multi.fill (T.setVm vm₁) cA cy n.toNatClampNeg k.toNatClampNeg (defaultValue ty) n.toNatClampNeg = F at X' step
  have hTh : (T.setVm vm₁).heap = H := hT
  obtain ⟨f1, f2, -, -⟩ := Jvm.Free.Multi.fill_facts (T.setVm vm₁) cA cy n.toNatClampNeg k.toNatClampNeg (defaultValue ty) n.toNatClampNeg
  rw [hF, hTh] at f1 f2
  have hold : ∀ x : Nat, x < H.size → F.heap[x]? = H[x]? := fun x hx => by
    have := Jvm.Free.Multi.fill_old (T.setVm vm₁) cA cy n.toNatClampNeg k.toNatClampNeg (defaultValue ty) (a := x) (by rw [hTh]; exact hx) n.toNatClampNeg
    rw [hF, hTh] at this
    exact this
  have hrow : ∀ j : Nat, j < n.toNatClampNeg → F.heap[H.size + 1 + j]? = some (vp_cell cy z) := fun j hj => by
    have := Jvm.Free.Multi.fill_inner (T.setVm vm₁) cA cy n.toNatClampNeg k.toNatClampNeg (defaultValue ty) n.toNatClampNeg j hj
    rw [hF, hTh, hz] at this
    exact this
  have hout : Jvm.Free.Multi.outerC cA n.toNatClampNeg H.size n.toNatClampNeg = vp_cell cA (n.toNatClampNeg, .inr (.inr (.inr (.inr (fun i => if i < n.toNatClampNeg then some (H.size + 1 + i) else none))))) := by
    rw [vp_cell_q]
    exact vr_outer cA n.toNatClampNeg H.size n.toNatClampNeg
  rw [hout] at f2
  have hlt : ∀ a, a ∈ L → a < H.size := fun a ha => by
    obtain ⟨k9, hk9⟩ := va_pl_get (X := X) (f := f) ha
    exact (hP k9 _ hk9).lt
  have hnl : ∀ i : Nat, i < n.toNatClampNeg → H.size + 1 + i ∉ L := fun i _ h => by
    have := hlt _ h
    omega
  have hnm : ∀ a, a ∈ (List.range n.toNatClampNeg).map (fun i => H.size + 1 + i) → a ∉ L := fun a ha h => by
    obtain ⟨i, -, rfl⟩ := List.mem_map.mp ha
    have := hlt _ h
    omega
  have hP0 : va_P D cl (X ++ va_pl L f) F.heap := hP.kept (fun k9 x hx => hold x.1 ((hP k9 x hx).lt))
  have hP1 : va_P D cl ((X ++ va_pl L f) ++ [(H.size, .inl (cA, n.toNatClampNeg, .inr (.inr (.inr (.inr (fun i => if i < n.toNatClampNeg then some (H.size + 1 + i) else none))))))]) F.heap := hP0.app (fun k9 x hx => by
    have h0 : k9 < 1 := (List.getElem?_eq_some_iff.mp hx).1
    rw [show k9 = 0 by omega] at hx
    cases hx
    exact f2)
  have hP2 : va_P D cl (((X ++ va_pl L f) ++ [(H.size, .inl (cA, n.toNatClampNeg, .inr (.inr (.inr (.inr (fun i => if i < n.toNatClampNeg then some (H.size + 1 + i) else none))))))]) ++ ((List.range n.toNatClampNeg).map (fun i => H.size + 1 + i)).map (fun a => (a, .inl (cy, z)))) F.heap := hP1.app (fun k9 x hx => by
    obtain ⟨a, ha, rfl⟩ := List.mem_map.mp (List.mem_of_getElem? hx)
    obtain ⟨i, hi, rfl⟩ := List.mem_map.mp ha
    exact hrow i (List.mem_range.mp hi))
  have hD2 : va_D A (((X ++ va_pl L f) ++ [(H.size, .inl (cA, n.toNatClampNeg, .inr (.inr (.inr (.inr (fun i => if i < n.toNatClampNeg then some (H.size + 1 + i) else none))))))]) ++ ((List.range n.toNatClampNeg).map (fun i => H.size + 1 + i)).map (fun a => (a, .inl (cy, z)))) := by
    have hD1 := hD.push (e := .inl (cA, n.toNatClampNeg, .inr (.inr (.inr (.inr (fun i => if i < n.toNatClampNeg then some (H.size + 1 + i) else none)))))) hP rfl (hA _ hS.1)
    generalize hW1 : (X ++ va_pl L f) ++ [(H.size, .inl (cA, n.toNatClampNeg, .inr (.inr (.inr (.inr (fun i => if i < n.toNatClampNeg then some (H.size + 1 + i) else none))))))] = W1 at hD1 hP1 ⊢
    have hle : ∀ (k9 : Nat) (x : Nat × va_E), W1[k9]? = some x → x.1 ≤ H.size := fun k9 x hx => by
      rw [← hW1] at hx
      by_cases hl : k9 < (X ++ va_pl L f).length
      · rw [List.getElem?_append_left hl] at hx
        exact Nat.le_of_lt ((hP k9 x hx).lt)
      · rw [List.getElem?_append_right (by omega)] at hx
        have h0 : k9 - (X ++ va_pl L f).length < 1 := (List.getElem?_eq_some_iff.mp hx).1
        rw [show k9 - (X ++ va_pl L f).length = 0 by omega] at hx
        cases hx
        exact Nat.le_refl _
    have hr : ∀ (k9 : Nat) (x : Nat × va_E), (((List.range n.toNatClampNeg).map (fun i => H.size + 1 + i)).map (fun a => ((a, .inl (cy, z)) : Nat × va_E)))[k9]? = some x → x.1 = H.size + 1 + k9 := fun k9 x hx => by
      rw [List.getElem?_map, List.getElem?_map] at hx
      by_cases h9 : k9 < n.toNatClampNeg
      · rw [List.getElem?_range h9] at hx
        cases hx
        rfl
      · have hn0 : (List.range n.toNatClampNeg)[k9]? = none := List.getElem?_eq_none (by rw [List.length_range]; omega)
        rw [hn0] at hx
        cases hx
    refine ⟨fun i j x y hi hj hxy => ?_, fun k9 x hx => ?_⟩
    · by_cases h1 : i < W1.length <;> by_cases h2 : j < W1.length
      · rw [List.getElem?_append_left h1] at hi
        rw [List.getElem?_append_left h2] at hj
        exact hD1.1 i j x y hi hj hxy
      · rw [List.getElem?_append_left h1] at hi
        rw [List.getElem?_append_right (by omega)] at hj
        have := hle _ _ hi
        have := hr _ _ hj
        omega
      · rw [List.getElem?_append_right (by omega)] at hi
        rw [List.getElem?_append_left h2] at hj
        have := hle _ _ hj
        have := hr _ _ hi
        omega
      · rw [List.getElem?_append_right (by omega)] at hi hj
        have := hr _ _ hi
        have := hr _ _ hj
        omega
    · by_cases h1 : k9 < W1.length
      · rw [List.getElem?_append_left h1] at hx
        exact hD1.2 k9 x hx
      · rw [List.getElem?_append_right (by omega)] at hx
        have := hr _ _ hx
        exact hA _ (by have := hS.1; omega)
  have hAr : ArrOfT s cA (.array ty) := fun N9 z9 => by
    obtain ⟨-, k9, hk9, cm9, hkk9⟩ := (hO 0 0 0).1
    exact ⟨(fun q hq => by cases hq), k9, hk9, cm9, hkk9⟩
  have hK2 : va_K D cl (tys ++ [(cA, .array ty)]) s := ⟨hK.1, fun k9 x hx => by
    by_cases hl : k9 < tys.length
    · rw [List.getElem?_append_left hl] at hx
      exact hK.2 k9 x hx
    · rw [List.getElem?_append_right (by omega)] at hx
      have h0 : k9 - tys.length < 1 := (List.getElem?_eq_some_iff.mp hx).1
      rw [show k9 - tys.length = 0 by omega] at hx
      cases hx
      exact ⟨hAr, fA⟩⟩
  obtain ⟨t, a1, b1⟩ := kk H.size (fun i => H.size + 1 + i) cA F.heap (fun i j _ _ h => by have h9 : H.size + 1 + i = H.size + 1 + j := h; omega) hnl hK2 (by rw [← vr_rows hnm]; exact vr_lay hP2) (by rw [← vr_rows hnm]; exact vr_layD hD2) ⟨by rw [f1]; have := hS.1; omega, fun x h1 h2 => (hold x (Nat.lt_of_lt_of_le h1 hS.1)).trans (hS.2.1 x h1 h2), hS.2.2⟩ F rfl X'
  refine ⟨t, step t ?_, b1⟩
  have e : T.heap.size = H.size := by rw [hT]
  rw [e]
  exact a1
end VGM
/-! ===== END ===== -/
section VXA
/-- where a method has thrown q: the class by its name, the cell, what was written, the world -/
def vx_T (XC : String → State → State → Prop) (st : State) (q : Addr) (t : State) (mc ms : Nat) (free : Addr → Prop) : Prop :=
  ∃ (E : String) (ce : Cell) (L : List Loc), XC E st t ∧ t.heap[q]? = some ce ∧ ce.vm = .none ∧ st.vm.findClass E = some ce.cls ∧ st.WarmedH t.vm ∧ st.sameButNew ({ t with vm := st.vm } : State) L mc ms ∧ ∀ z ∈ L, free z.base
def vx_Q (Qc : Array Value → State → Outcome → State → Prop) (XC : String → State → State → Prop) (mc ms : Nat) (free : Addr → Prop) : Array Value → State → Outcome → State → Prop := fun a st o t =>
  (Qc a st o t ∧ ∃ L, FrameEnd st o t L mc ms ∧ ∀ q ∈ L, free q.base) ∨ ∃ q, o = .threw q ∧ vx_T XC st q t mc ms free
/-- the method's frame g, with q thrown over it -/
def vx_W (p : Program) (l : Launch) (e : Env) (R : Room) (s : State) (m : MethodId) (args : Array Value) (below : List Frame) (meth : Method) (c : Code) (H : Heap) (locs : List Loc) (cells slots : Nat) (Q : State → Prop) (g : JFrame) (q : Addr) : Prop :=
  ∀ T : State, T.heap = H → Stand p l e R s m args below meth c T locs cells slots → ∃ t, Steps p.tables e below ((T.setTop g).pushFrame (.throwing q)) t ∧ Q t
section Rows
variable {p : Program} {l : Launch} {e : Env} {R : Room} {s : State} {m : MethodId} {args : Array Value} {below : List Frame} {meth : Method} {c : Code} {H : Heap} {locs : List Loc} {cells slots : Nat} {Q : State → Prop}
variable {mc ms : Nat} {free : Addr → Prop} {A0 A1 : Nat → Prop} {H0 : Heap} {a : Array Value} {pc : Nat} {ls : Array Slot} {st0 rest : List Value}
theorem vx_catch {own name : String} {E : String} {ce : Cell} {q : Addr} (hown : s.vm.findClass own = some m.cls) (pre : List ExceptionTableEntry) (x : ExceptionTableEntry) (suf : List ExceptionTableEntry) (hsplit : c.exceptionTable.toList = pre ++ x :: suf)
    (hpass : ∀ z ∈ pre, covers z pc = false ∨ (z.catchType ≠ 0 ∧ ∃ nm : String, (Cond.classLink own z.catchType nm).before args s = true ∧ va_Nc E nm s)) (hx : covers x pc = true) (h0 : x.catchType ≠ 0)
    (hlink : (Cond.classLink own x.catchType name).before args s = true) (hcast : (Cond.castable E name).before args s = true) (hcell : H[q]? = some ce) (hv : ce.vm = .none) (hcl : s.vm.findClass E = some ce.cls)
    (kk : W p l e R s m args below meth c H locs cells slots Q (F0 m x.handlerPc ls [.ref q])) : vx_W p l e R s m args below meth c H locs cells slots Q (F0 m pc ls rest) q := by
  intro T hT X
  have hpl : e.platform.magicAccessors = ({} : Platform).magicAccessors := by rw [X.admits.platform]
  obtain ⟨c3, c4, hc3, hc4, hasg⟩ := Cond.castable_spec hcast
  cases Option.some.inj (hc3.symm.trans hcl)
  obtain ⟨c5, hc5, hcl5⟩ := Cond.classLink_spec hown hlink e.platform hpl
  cases Option.some.inj (hc4.symm.trans hc5)
  obtain ⟨vm', X', st⟩ := X.thenCaughtThrough q (g := F0 m pc ls rest) rfl (Steps.refl _) (by rw [hT]; exact hcell) (by rw [hv]; rfl) (by obtain ⟨k9, h9, -⟩ := Vm.findClass_spec hcl; exact ⟨k9, h9⟩) pre x suf hsplit
    (fun z hz => by
      rcases hpass z hz with h | ⟨hz0, nm, hl1, hn1⟩
      · exact Or.inl h
      · obtain ⟨c6, hc6, hcl6⟩ := Cond.classLink_spec hown hl1 e.platform hpl
        obtain ⟨a8, b8, h1, h2, h3⟩ := hn1
        cases Option.some.inj (h1.symm.trans hcl)
        cases Option.some.inj (h2.symm.trans hc6)
        exact Or.inr ⟨hz0, _, hcl6, h3⟩) hx (Or.inr ⟨h0, c4, hcl5, hasg⟩)
  obtain ⟨t, a1, b1⟩ := kk (T.setVm vm') hT X'
  exact ⟨t, st.trans a1, b1⟩
end Rows
section Ends
variable {p : Program} {l : Launch} {e : Env} {R : Room} {s : State} {m : MethodId} {args : Array Value} {below : List Frame} {meth : Method} {c : Code} {H : Heap} {locs : List Loc} {cells slots : Nat} {Q : State → Prop}
variable {mc ms : Nat} {free : Addr → Prop} {A0 A1 : Nat → Prop} {H0 : Heap} {a : Array Value} {ls : Array Slot} {st0 rest : List Value}
variable {Qc : Array Value → State → Outcome → State → Prop} {XC : String → State → State → Prop}
/-- what a body that may throw owes at its end -/
def vx_MQ (below : List Frame) (Qc : Array Value → State → Outcome → State → Prop) (XC : String → State → State → Prop) (a : Array Value) (s : State) (mc ms : Nat) (free : Addr → Prop) : State → Prop := fun t =>
  ∃ o, t.status = .running ∧ Ended t below o ∧ vx_Q Qc XC mc ms free a s o t
theorem vx_frame {U : State} {k n : Nat} (h : s.sameButNew ({ U with vm := s.vm } : State) locs k n) : s.heap.size ≤ U.heap.size ∧ ∀ q : Nat, q < s.heap.size → (∀ z ∈ locs, z.base ≠ q) → U.heap[q]? = s.heap[q]? := by
  obtain ⟨-, h2, -, -, -, h6⟩ := h
  refine ⟨h2, fun q hq hz => ?_⟩
  obtain ⟨c9, e1, e2, e3, e4⟩ := h6 q _ (Array.getElem?_eq_getElem hq)
  have hs : c9.slots = (s.heap[q]).slots := Array.ext_getElem? fun i => e4 i fun hm => hz _ hm rfl
  have h9 : c9 = s.heap[q] := by
    rw [hs] at e2
    exact e2
  have e5 : U.heap[q]? = some c9 := e1
  rw [e5, h9, Array.getElem?_eq_getElem hq]
/-- the words of a throw but the four that speak of the heap -/
def vx_no (w : Cond) : Bool := decide (w ≠ .isRef (.static Bundle.tN "UNASSIGNED_STACK" Bundle.steD)) && decide (w ≠ .isRef (.static Bundle.tN "SUPPRESSED_SENTINEL" Bundle.listD)) && decide (w ≠ .laysStatic Bundle.tN "UNASSIGNED_STACK" Bundle.steD) && decide (w ≠ .laysStatic Bundle.tN "SUPPRESSED_SENTINEL" Bundle.listD)
def vx_at0 (own : String) (ic : Nat) (X : String) (names : List String) : List Cond := (Bundle.ownAtoms0 own ic X names).filter vx_no
def vx_atS (own : String) (ic : Nat) (X : String) (names : List String) : List Cond := (Bundle.ownAtoms own ic X names).filter vx_no
/-- a word that the tables alone decide, or a good one -/
def vx_ot (w : Cond) : Bool := w.onTables || goodWord w
theorem vx_ot_at {args a' : Array Value} {s U : State} {w : Cond} (hW : s.WarmedH U.vm) (hvm : s.vm = U.vm) (hg : vx_ot w = true) (h : w.before args s = true) : w.before a' U = true := by
  simp only [vx_ot, Bool.or_eq_true] at hg
  rcases hg with hg | hg
  · exact va_tabs hg hvm h
  · exact word_at hW (good_of_word hg) h
/-- a list's words: the good ones out of the method's own list, the others by premises of their own -/
theorem vx_hat {args : Array Value} {s : State} {L B : List Cond} (h1 : ∀ w ∈ L.filter goodWord, w.before args s = true) (h2 : ∀ w ∈ L.filter (fun w => !goodWord w), w ∈ B) (h3 : ∀ w ∈ B, w.before args s = true) : ∀ w ∈ L, w.before args s = true := by
  intro w hw
  by_cases g : goodWord w = true
  · exact h1 w (List.mem_filter.mpr ⟨hw, g⟩)
  · refine h3 w (h2 w (List.mem_filter.mpr ⟨hw, ?_⟩))
    show (!goodWord w) = true
    cases hgw : goodWord w
    · rfl
    · exact absurd hgw g
theorem vx_c {args : Array Value} {s : State} {w : Cond} {B : List Cond} (h : w.before args s = true) (t : ∀ w ∈ B, w.before args s = true) : ∀ w' ∈ w :: B, w'.before args s = true := fun w' h' => (List.mem_cons.mp h').elim (fun e => by rw [e]; exact h) (t w')
theorem vx_n {args : Array Value} {s : State} : ∀ w ∈ ([] : List Cond), w.before args s = true := fun _ h => nomatch h
theorem vx_own {args : Array Value} {s : State} {L : List Cond} (h1 : ∀ w ∈ L.filter vx_no, w.before args s = true)
    (hU : (Cond.isRef (.static Bundle.tN "UNASSIGNED_STACK" Bundle.steD)).before args s = true) (hN : (Cond.isRef (.static Bundle.tN "SUPPRESSED_SENTINEL" Bundle.listD)).before args s = true)
    (lU : (Cond.laysStatic Bundle.tN "UNASSIGNED_STACK" Bundle.steD).before args s = true) (lN : (Cond.laysStatic Bundle.tN "SUPPRESSED_SENTINEL" Bundle.listD).before args s = true) : ∀ w ∈ L, w.before args s = true := by
  intro w hw
  by_cases e1 : w = .isRef (.static Bundle.tN "UNASSIGNED_STACK" Bundle.steD)
  · rw [e1]; exact hU
  · by_cases e2 : w = .isRef (.static Bundle.tN "SUPPRESSED_SENTINEL" Bundle.listD)
    · rw [e2]; exact hN
    · by_cases e3 : w = .laysStatic Bundle.tN "UNASSIGNED_STACK" Bundle.steD
      · rw [e3]; exact lU
      · by_cases e4 : w = .laysStatic Bundle.tN "SUPPRESSED_SENTINEL" Bundle.listD
        · rw [e4]; exact lN
        · exact h1 w (List.mem_filter.mpr ⟨hw, by unfold vx_no; rw [decide_eq_true e1, decide_eq_true e2, decide_eq_true e3, decide_eq_true e4]; rfl⟩)
/-- where a static field lies, its class's statics cell in H -/
def vx_L (C n d : String) (A : Nat → Prop) (U : State) (H : Heap) : Prop := ∃ (c : ClassId) (k : Class) (i : Nat) (f : Field) (a : Nat) (cell : Cell), U.vm.findClass C = some c ∧ U.fieldFound? C n d = some (c, k, i, f) ∧ f.isStatic = true ∧ k.statics = some a ∧ H[a]? = some cell ∧ cell.vm.isStatics = true ∧ cell.cls = c ∧ f.slot < cell.slots.size ∧ k.staticTypes[f.slot]? = some f.type ∧ ¬ A a
theorem vx_L.moved {C n d : String} {A : Nat → Prop} {u U : State} {H : Heap} (hvm : u.vm.Alike U.vm) (h : vx_L C n d A u H) : vx_L C n d A U H := by
  obtain ⟨c, k, i, f, a, cell, h1, h2, h3, h4, h5, h6, h7, h8, h9, h10⟩ := h
  obtain ⟨k', hi', he⟩ := State.fieldFound?_setVm hvm h2
  exact ⟨c, k', i, f, a, cell, by rw [hvm.findClass]; exact h1, hi', h3, by rw [he]; exact h4, h5, h6, h7, h8, by rw [he]; exact h9, h10⟩
theorem vx_L.kept {C n d : String} {A : Nat → Prop} {U : State} {H H1 : Heap} (h : vx_L C n d A U H) (hq : ∀ a : Nat, a < H.size → ¬ A a → H1[a]? = H[a]?) : vx_L C n d A U H1 := by
  obtain ⟨c, k, i, f, a, cell, h1, h2, h3, h4, h5, h6, h7, h8, h9, h10⟩ := h
  exact ⟨c, k, i, f, a, cell, h1, h2, h3, h4, by rw [hq a (Array.getElem?_eq_some_iff.mp h5).1 h10]; exact h5, h6, h7, h8, h9, h10⟩
theorem vx_L.narrow {C n d : String} {A B : Nat → Prop} {U : State} {H : Heap} (h : vx_L C n d A U H) (hAB : ∀ q, B q → A q) : vx_L C n d B U H := by
  obtain ⟨c, k, i, f, a, cell, h1, h2, h3, h4, h5, h6, h7, h8, h9, h10⟩ := h
  exact ⟨c, k, i, f, a, cell, h1, h2, h3, h4, h5, h6, h7, h8, h9, fun z => h10 (hAB _ z)⟩
theorem vx_L.word {C n d : String} {A : Nat → Prop} {s : State} {args : Array Value} (h : vx_L C n d A s s.heap) : (Cond.laysStatic C n d).before args s = true := by
  obtain ⟨c, k, i, f, a, cell, h1, h2, h3, h4, h5, h6, h7, h8, h9, -⟩ := h
  show (Cond.laysStatic C n d).holds args s none s [] = true
  exact Cond.laysStatic_of h1 h2 h3 h4 h5 h6 h7 h8 h9
/-- .. and what it holds: null or some reference -/
def vx_Zq (C n d : String) (A : Nat → Prop) (U : State) (H : Heap) : Prop := va_Zq C n d A U H ∧ vx_L C n d A U H
theorem vx_Zq.moved {C n d : String} {A : Nat → Prop} {u U : State} {H : Heap} (hvm : u.vm.Alike U.vm) (h : vx_Zq C n d A u H) : vx_Zq C n d A U H := ⟨va_Zq.moved hvm h.1, vx_L.moved hvm h.2⟩
theorem vx_Zq.kept {C n d : String} {A : Nat → Prop} {U : State} {H H1 : Heap} (h : vx_Zq C n d A U H) (hq : ∀ a : Nat, a < H.size → ¬ A a → H1[a]? = H[a]?) : vx_Zq C n d A U H1 := ⟨va_Zq.kept h.1 hq, vx_L.kept h.2 hq⟩
theorem vx_Zq.narrow {C n d : String} {A B : Nat → Prop} {U : State} {H : Heap} (h : vx_Zq C n d A U H) (hAB : ∀ q, B q → A q) : vx_Zq C n d B U H := ⟨va_Zq.narrow h.1 hAB, vx_L.narrow h.2 hAB⟩
theorem vx_Zqof {args : Array Value} {s : State} {C n d : String} {A : Nat → Prop} (hl : (Cond.laysStatic C n d).before args s = true) (hini : (Cond.initialized C).before args s = true) (h : (Cond.isRef (.static C n d)).before args s = true) (hA : ∀ a : Nat, a < s.heap.size → ¬ A a) : vx_Zq C n d A s s.heap := by
  refine ⟨va_Zqof hl hini h hA, ?_⟩
  obtain ⟨c, k, i, f, a, cell, h1, h2, h3, h4, h5, h6, h7, h8, h9⟩ := Cond.laysStatic_spec hl
  exact ⟨c, k, i, f, a, cell, h1, h2, h3, h4, h5, h6, h7, h8, h9, hA a (Array.getElem?_eq_some_iff.mp h5).1⟩
theorem vx_isRef {C n d : String} {v : Value} {A : Nat → Prop} {s : State} {args : Array Value} (h : va_Z C n d v A s s.heap) (hv : v.isRef = true) : (Cond.isRef (.static C n d)).before args s = true := by
  obtain ⟨cf, kf, fi, f, a, cell, h1, h2, h3, h4, h5, h6, h7, -⟩ := h
  have he : (Term.static C n d).eval args s none [] s = some v := by
    simp [Term.eval, State.fieldNamed?, h1, h2, h4, h5, h6, h7]
  simp only [Cond.before, Cond.holds, Cond.value, he]
  cases v <;> simp_all [Value.isRef]
theorem vx_isRefq {C n d : String} {A : Nat → Prop} {s : State} {args : Array Value} (h : va_Zq C n d A s s.heap) : (Cond.isRef (.static C n d)).before args s = true := by
  rcases h with h | ⟨t, h⟩
  · exact vx_isRef h rfl
  · exact vx_isRef h rfl
/-- the same frame, seen from here: as if the method were called anew in this heap -/
theorem vx_rebase {T : State} (X : Stand p l e R s m args below meth c T locs cells slots) {R' : Room} (hf : R'.frames ≤ R.frames) (hl : R'.locals ≤ R.locals) (hc : cells + R'.cells ≤ R.cells) (hs : slots + R'.slots ≤ R.slots) :
    Stand p l e R' ((T.setVm s.vm).setFrames (.invoking m args :: below)) m args below meth c T [] 0 0 := by
  have htop : (T.setVm s.vm).topJava?.isSome := X.here.top
  have hF : ((T.setVm s.vm).setFrames (.invoking m args :: below)).frames = .invoking m args :: below := State.frames_setFrames _ (State.cur_lt_of_top htop)
  obtain ⟨g₀, hg0⟩ := Option.isSome_iff_exists.mp htop
  obtain ⟨r, hr⟩ := State.topJava?_eq_some.mp hg0
  have hl9 : e.platform.stackLimits (T.setVm s.vm).me = e.platform.stackLimits s.me := X.limits
  have hb9 : (T.setVm s.vm).me.stackBytes = s.me.stackBytes := X.bytes
  refine ⟨X.admits, X.cas, X.clock, hF, ?_, X.hears, X.method, X.code, X.here, X.tail, X.warmed, ?_, ?_, ?_⟩
  · have h := X.room
    have hU : ((T.setVm s.vm).setFrames (.invoking m args :: below)).localsInUse = s.localsInUse := by
      rw [State.localsInUse_invoking hF (meth := meth) (c := c) X.method X.code, State.localsInUse_invoking X.frames X.method X.code]
    simp only [State.hasRoom, Bool.and_eq_true, decide_eq_true_eq] at h ⊢
    obtain ⟨⟨⟨⟨h1, h2, h3, h4, h5, h6⟩, h7⟩, h8⟩, h9⟩ := h
    rw [X.frames, List.length_cons] at h2 h3
    have q1 := X.heapSize
    have q2 := X.used
    simp only [hF, hU, List.length_cons, State.stackLimits_setFrames, State.stackBytes_setFrames, hl9, hb9]
    refine ⟨⟨⟨⟨by omega, by omega, by omega, by omega, by omega, h6⟩, ?_⟩, ?_⟩, X.book⟩
    · show T.heap.size + R'.cells ≤ e.platform.maxCells
      omega
    · show T.slotsUsed + R'.slots ≤ e.platform.maxSlots
      omega
  · rw [State.stackLimits_setFrames]; rfl
  · rw [State.stackBytes_setFrames]; rfl
  · refine ⟨?_, Nat.le_refl _, Nat.le_refl _, ?_, ?_, fun a c9 h9 => ⟨c9, h9, rfl, rfl, fun _ _ => rfl⟩⟩
    · obtain ⟨t, ht, -⟩ := State.frames_cons hr
      show T.setVm s.vm = { ((T.setVm s.vm).setFrames (.invoking m args :: below)).setFrames (T.setVm s.vm).frames with heap := T.heap, slotsUsed := T.slotsUsed }
      rw [State.setFrames_setFrames, State.setFrames_self ht]
      rfl
    · show T.slotsUsed = T.slotsUsed + ((T.heap.toList.drop T.heap.size).map (·.slots.size)).sum
      rw [List.drop_eq_nil_of_le (Nat.le_of_eq Array.length_toList)]
      rfl
    · show ((T.heap.toList.drop T.heap.size).map (·.slots.size)).sum ≤ 0
      rw [List.drop_eq_nil_of_le (Nat.le_of_eq Array.length_toList)]
      exact Nat.le_refl _
/-- 'throw new E("text")': new; dup; ldc; invokespecial; athrow -/
theorem vx_throwS {cc : ByteArray} {pc : Nat} (hexec : p.tables.exec = Jvm.exec) (hb : c.code = cc) (hl : l.stackTraces = false) {own cls text : String} {names : List String} {ik is ic mc ms sa : Nat} {A : Nat → Prop}
    (hown : s.vm.findClass own = some m.cls) (hcls : Bundle.fit cls = true) (hnames : ∀ n ∈ names, Bundle.fit n = true)
    (hk : (Cond.classLink own ik cls).before args s = true) (hini : (Cond.initialized cls).before args s = true) (hstr : vk_R own is text sa s) (hat : ∀ w ∈ vx_atS own ic cls names, w.before args s = true)
    (hgood : ∀ w ∈ Cond.classLink own ik cls :: Cond.initialized cls :: vx_atS own ic cls names, vx_ot w = true)
    (hU : vx_Zq Bundle.tN "UNASSIGNED_STACK" Bundle.steD A s s.heap) (hN : vx_Zq Bundle.tN "SUPPRESSED_SENTINEL" Bundle.listD A s s.heap) (hS : va_S A s.heap H locs) (hsize : ls.size = c.maxLocals)
    (d0 : decode cc pc = .ok (.new ik, 3)) (d3 : decode cc (pc + 3) = .ok (.dup, 1)) (d4 : decode cc (pc + 4) = .ok (.ldc is, 2)) (d6 : decode cc (pc + 6) = .ok (.invokespecial ic, 3)) (d9 : decode cc (pc + 9) = .ok (.athrow, 1))
    (hout : ∀ x ∈ c.exceptionTable.toList, covers x (pc + 9) = false)
    (hRframes : names.length + 3 < R.frames) (hRlocals : (rest.map fun v => v.category).sum + (13 * (names.length + 1) + 43) ≤ R.locals) (hRcells : cells + 1 ≤ R.cells) (hRslots : slots + 6 ≤ R.slots) (hlocks : meth.locks = false)
    (hx : ∀ t : State, s.vm.Alike t.vm → H.size ≤ t.heap.size → (∀ q : Nat, q < H.size → t.heap[q]? = H[q]?) → XC cls s t)
    (hf : ∀ z ∈ locs, free z.base) (hc : cells + 1 ≤ mc) (hs : slots + 6 ≤ ms) :
    W p l e R s m args below meth c H locs cells slots (vx_MQ below Qc XC args s mc ms free) (F0 m pc ls rest) := by
  intro T hT X
  have htr : e.platform.stackTraces = false := (show e.platform.stackTraces = l.stackTraces by rw [X.admits.platform]).trans hl
  have Y := vx_rebase X (R' := { frames := R.frames, locals := R.locals, cells := 1, slots := 6 }) (Nat.le_refl _) (Nat.le_refl _) hRcells hRslots
  obtain ⟨s', hA⟩ : ∃ z, z = (T.setVm s.vm).setFrames (.invoking m args :: below) := ⟨_, rfl⟩
  rw [← hA] at Y
  have hvm : s'.vm = s.vm := by rw [hA]; rfl
  have hhp : s'.heap = H := by rw [hA]; exact hT
  have hW0 : s.WarmedH s'.vm := by rw [hvm]; exact State.WarmedH.refl s
  have hat' : ∀ w ∈ vx_atS own ic cls names, w.before args s' = true := fun w hw => vx_ot_at hW0 hvm.symm (hgood w (List.mem_cons_of_mem _ (List.mem_cons_of_mem _ hw))) (hat w hw)
  have hk' : (Cond.classLink own ik cls).before args s' = true := vx_ot_at hW0 hvm.symm (hgood _ List.mem_cons_self) hk
  have hini' : (Cond.initialized cls).before args s' = true := vx_ot_at hW0 hvm.symm (hgood _ (List.mem_cons_of_mem _ List.mem_cons_self)) hini
  have hU' : vx_Zq Bundle.tN "UNASSIGNED_STACK" Bundle.steD A s' s'.heap := by rw [hhp]; exact vx_Zq.moved hW0.alike (hU.kept hS.2.1)
  have hN' : vx_Zq Bundle.tN "SUPPRESSED_SENTINEL" Bundle.listD A s' s'.heap := by rw [hhp]; exact vx_Zq.moved hW0.alike (hN.kept hS.2.1)
  have h : ∀ w ∈ Bundle.ownAtoms own ic cls names, w.before args s' = true := vx_own hat' (vx_isRefq hU'.1) (vx_isRefq hN'.1) hU'.2.word hN'.2.word
  have hown' : s'.vm.findClass own = some m.cls := by rw [hvm]; exact hown
  have hins : (Cond.instantiable cls 6).before args s' = true := h _ (by simp [Bundle.ownAtoms])
  obtain ⟨vm₁, cX, kX, hfX, hkX, -, -, X₁, st1⟩ := Y.newCold hexec (own := own) (C := cls) (index := ik) (n := 6) hown' hk' hins hini'
    (g := F0 m pc ls rest) rfl (by rw [hb]; exact d0) (Nat.le_refl _) (Nat.le_refl _)
  generalize hT1 : (T.setVm vm₁).pushCell { cls := cX, slots := kX.instanceTypes.map defaultValue, vm := .none } = T1 at X₁ st1
  have hcat : (Value.ref T.heap.size).category = 1 := rfl
  have hcellA : T1.heap[T.heap.size]? = some (freshCell cX kX) := by rw [← hT1]; exact State.heap_pushCell_size _ _
  have d3' : decode c.code (pc + 3) = .ok (.dup, 1) := by rw [hb]; exact d3
  have d4' : decode c.code (pc + 4) = .ok (.ldc is, 2) := by rw [hb]; exact d4
  have hstr' : vk_R own is text sa s' := vk_R.warm hW0 hstr
  obtain ⟨U, hsteps, hrun, hend, hW, hsame, ce, hce, hO⟩ := X₁.ctorThrowS hexec htr (own := own) (cls := cls) (names := names) (ic := ic) hown' hcls hnames h (fun x hx => nomatch hx) hfX hkX hcellA (by rw [hhp, hT]; exact Nat.le_refl _) (msg := .ref sa) rfl
    (g := { method := m, pc := pc + 6, locals := ls, stack := .ref sa :: .ref T.heap.size :: .ref T.heap.size :: rest, locked := none }) rfl hsize rfl rfl (rest := rest) rfl
    (by rw [hb]; exact d6) (by rw [hb]; exact d9) hout hRframes (by simp only [List.map_cons, List.sum_cons, hcat]; omega) hlocks
  obtain ⟨f1, f2⟩ := vx_frame hsame
  rw [hhp] at f1 f2
  have hWs : s.WarmedH U.vm := State.WarmedH.trans hW0 hW
  have hcl : s.vm.findClass cls = some ce.cls := by
    have h9 := hO.cls
    rw [hvm] at h9
    exact h9
  have hall : s.sameButNew ({ U with vm := s.vm } : State) locs mc ms := by
    subst hA
    obtain ⟨e1, e2⟩ := hsame
    rw [State.setFrames_setFrames] at e1
    have h2 : (T.setVm s.vm).sameButNew ({ U with vm := s.vm } : State) [] (0 + 1) (0 + 6) := ⟨e1, e2⟩
    have h3 := X.same.trans h2
    rw [List.append_nil] at h3
    exact h3.mono hc hs
  refine ⟨U, ?_, .threw T.heap.size, hrun, hend, Or.inr ⟨T.heap.size, rfl, cls, ce, locs, hx U hWs.alike f1 (fun q hq => f2 q hq (fun z hz => nomatch hz)), hce, hO.vm, hcl, hWs, hall, hf⟩⟩
  refine st1 _ ?_
  show Steps p.tables e below (T1.setTop { method := m, pc := pc + 3, locals := ls, stack := .ref T.heap.size :: rest, locked := none }) _
  jvm_step X₁.here [X₁.here.top, hexec, d3', Value.category]
  exact X₁.ldcString hexec (own := own) (text := text) (index := is) (a := sa) hown' hstr'.1 hstr'.2
    (g := { method := m, pc := pc + 4, locals := ls, stack := .ref T.heap.size :: .ref T.heap.size :: rest, locked := none }) rfl d4' _ hsteps
end Ends
end VXA
end
section
def RX0 : String := "OmegaNets$Goals"
def TX0 : u_T := fun k => match k with
  | 0 => ("OmegaNets$Goals", "net", "LOmegaNets$Net;", true)
  | 1 => ("OmegaNets$Goals", "markings", "[[I", true)
  | 2 => ("OmegaNets$Goals", "nexts", "[I", true)
  | 3 => ("OmegaNets$Goals", "transitions", "[I", true)
  | 4 => ("OmegaNets$Goals", "depths", "[I", true)
  | 5 => ("OmegaNets$Goals", "givenUp", "[Z", true)
  | 6 => ("OmegaNets$Goals", "candidate", "[I", true)
  | 7 => ("OmegaNets$Goals", "size", "I", false)
  | _ => ("OmegaNets$Goals", "made", "Z", false)
def tyX0 : Nat → FieldType := fun k => match k with
  | 0 => .object "OmegaNets$Net"
  | 1 => .array (.array .int)
  | 2 => .array .int
  | 3 => .array .int
  | 4 => .array .int
  | 5 => .array .boolean
  | 6 => .array .int
  | 7 => .int
  | _ => .boolean
theorem nmX0 : ∀ a, a < 9 → ∀ b, b < 9 → a ≠ b → (TX0 a).2.1 ≠ (TX0 b).2.1 := by decide +kernel
theorem tyX0_ok : ∀ k, k < 9 → parseFieldDescriptor (TX0 k).2.2.1 = some (tyX0 k) := by decide +kernel
theorem inX0 : ∀ w ∈ u_ws RX0 TX0 9, w ∈ lw_tbl := fun w h => List.mem_append_right _ (goodIn_r (big := tables_1) (u_ws RX0 TX0 9) [135, 137, 139, 141, 143, 145, 147, 149, 151] (by decide +kernel) (by decide +kernel) w h).1
def rfX0 : List Bool := [true, true, true, true, true, true, true, false, false]
theorem isX0 : (Cond.instantiable RX0 9) ∈ lw_tbl := List.mem_append_right _ (List.mem_of_getElem? (i := 117) (by decide +kernel))
def RX1 : String := "OmegaNets$Net"
def TX1 : u_T := fun k => match k with
  | 0 => ("OmegaNets$Net", "places", "I", true)
  | 1 => ("OmegaNets$Net", "transitions", "I", true)
  | 2 => ("OmegaNets$Net", "needs", "[[I", true)
  | 3 => ("OmegaNets$Net", "gives", "[[I", true)
  | _ => ("OmegaNets$Net", "first", "[I", true)
def tyX1 : Nat → FieldType := fun k => match k with
  | 0 => .int
  | 1 => .int
  | 2 => .array (.array .int)
  | 3 => .array (.array .int)
  | _ => .array .int
theorem nmX1 : ∀ a, a < 5 → ∀ b, b < 5 → a ≠ b → (TX1 a).2.1 ≠ (TX1 b).2.1 := by decide +kernel
theorem tyX1_ok : ∀ k, k < 5 → parseFieldDescriptor (TX1 k).2.2.1 = some (tyX1 k) := by decide +kernel
theorem inX1 : ∀ w ∈ u_ws RX1 TX1 5, w ∈ lw_tbl := fun w h => List.mem_append_right _ (goodIn_r (big := tables_1) (u_ws RX1 TX1 5) [56, 58, 60, 62, 64] (by decide +kernel) (by decide +kernel) w h).1
def rfX1 : List Bool := [false, false, true, true, true]
theorem isX1 : (Cond.instantiable RX1 5) ∈ lw_tbl := List.mem_append_right _ (List.mem_of_getElem? (i := 24) (by decide +kernel))
def RX2 : String := "OmegaNets$Tree"
def TX2 : u_T := fun k => match k with
  | 0 => ("OmegaNets$Tree", "net", "LOmegaNets$Net;", true)
  | 1 => ("OmegaNets$Tree", "markings", "[[I", true)
  | 2 => ("OmegaNets$Tree", "parents", "[I", true)
  | 3 => ("OmegaNets$Tree", "transitions", "[I", true)
  | 4 => ("OmegaNets$Tree", "depths", "[I", true)
  | 5 => ("OmegaNets$Tree", "leaves", "[Z", true)
  | 6 => ("OmegaNets$Tree", "peaks", "[I", true)
  | 7 => ("OmegaNets$Tree", "size", "I", false)
  | 8 => ("OmegaNets$Tree", "peakCount", "I", false)
  | _ => ("OmegaNets$Tree", "made", "Z", false)
def tyX2 : Nat → FieldType := fun k => match k with
  | 0 => .object "OmegaNets$Net"
  | 1 => .array (.array .int)
  | 2 => .array .int
  | 3 => .array .int
  | 4 => .array .int
  | 5 => .array .boolean
  | 6 => .array .int
  | 7 => .int
  | 8 => .int
  | _ => .boolean
theorem nmX2 : ∀ a, a < 10 → ∀ b, b < 10 → a ≠ b → (TX2 a).2.1 ≠ (TX2 b).2.1 := by decide +kernel
theorem tyX2_ok : ∀ k, k < 10 → parseFieldDescriptor (TX2 k).2.2.1 = some (tyX2 k) := by decide +kernel
theorem inX2 : ∀ w ∈ u_ws RX2 TX2 10, w ∈ lw_tbl := fun w h => List.mem_append_right _ (goodIn_r (big := tables_1) (u_ws RX2 TX2 10) [94, 96, 98, 100, 102, 104, 106, 108, 110, 112] (by decide +kernel) (by decide +kernel) w h).1
def rfX2 : List Bool := [true, true, true, true, true, true, true, false, false, false]
theorem isX2 : (Cond.instantiable RX2 10) ∈ lw_tbl := List.mem_append_right _ (List.mem_of_getElem? (i := 69) (by decide +kernel))
def RX3 : String := "OmegaNets"
def TX3 : u_T := fun k => match k with
  | 0 => ("OmegaNets", "net", "LOmegaNets$Net;", true)
  | 1 => ("OmegaNets", "tree", "LOmegaNets$Tree;", true)
  | 2 => ("OmegaNets", "goals", "LOmegaNets$Goals;", true)
  | 3 => ("OmegaNets", "wanted", "[I", true)
  | 4 => ("OmegaNets", "present", "[I", true)
  | _ => ("OmegaNets", "firings", "I", false)
def tyX3 : Nat → FieldType := fun k => match k with
  | 0 => .object "OmegaNets$Net"
  | 1 => .object "OmegaNets$Tree"
  | 2 => .object "OmegaNets$Goals"
  | 3 => .array .int
  | 4 => .array .int
  | _ => .int
theorem nmX3 : ∀ a, a < 6 → ∀ b, b < 6 → a ≠ b → (TX3 a).2.1 ≠ (TX3 b).2.1 := by decide +kernel
theorem tyX3_ok : ∀ k, k < 6 → parseFieldDescriptor (TX3 k).2.2.1 = some (tyX3 k) := by decide +kernel
theorem inX3 : ∀ w ∈ u_ws RX3 TX3 6, w ∈ lw_tbl := fun w h => List.mem_append_right _ (goodIn_r (big := tables_1) (u_ws RX3 TX3 6) [160, 162, 164, 166, 168, 170] (by decide +kernel) (by decide +kernel) w h).1
def rfX3 : List Bool := [true, true, true, true, true, false]
theorem isX3 : (Cond.instantiable RX3 6) ∈ lw_tbl := List.mem_append_right _ (List.mem_of_getElem? (i := 16) (by decide +kernel))
def RX4 : String := "OmegaNetsModel"
def TX4 : u_T := fun k => match k with
  | 0 => ("OmegaNetsModel", "thrown", "I", false)
  | 1 => ("OmegaNetsModel", "places", "I", true)
  | 2 => ("OmegaNetsModel", "transitions", "I", true)
  | 3 => ("OmegaNetsModel", "needs", "[I", true)
  | 4 => ("OmegaNetsModel", "gives", "[I", true)
  | 5 => ("OmegaNetsModel", "starts", "[I", true)
  | 6 => ("OmegaNetsModel", "wanted", "[I", true)
  | 7 => ("OmegaNetsModel", "present", "[I", true)
  | 8 => ("OmegaNetsModel", "firings", "I", false)
  | 9 => ("OmegaNetsModel", "tree", "Z", false)
  | 10 => ("OmegaNetsModel", "nodes", "I", false)
  | 11 => ("OmegaNetsModel", "marks", "[I", true)
  | 12 => ("OmegaNetsModel", "parents", "[I", true)
  | 13 => ("OmegaNetsModel", "by", "[I", true)
  | 14 => ("OmegaNetsModel", "leaves", "[Z", true)
  | 15 => ("OmegaNetsModel", "asked", "Z", false)
  | 16 => ("OmegaNetsModel", "goals", "I", false)
  | 17 => ("OmegaNetsModel", "goalMarks", "[I", true)
  | 18 => ("OmegaNetsModel", "goalParents", "[I", true)
  | 19 => ("OmegaNetsModel", "goalBy", "[I", true)
  | _ => ("OmegaNetsModel", "given", "[Z", true)
def tyX4 : Nat → FieldType := fun k => match k with
  | 0 => .int
  | 1 => .int
  | 2 => .int
  | 3 => .array .int
  | 4 => .array .int
  | 5 => .array .int
  | 6 => .array .int
  | 7 => .array .int
  | 8 => .int
  | 9 => .boolean
  | 10 => .int
  | 11 => .array .int
  | 12 => .array .int
  | 13 => .array .int
  | 14 => .array .boolean
  | 15 => .boolean
  | 16 => .int
  | 17 => .array .int
  | 18 => .array .int
  | 19 => .array .int
  | _ => .array .boolean
theorem nmX4 : ∀ a, a < 21 → ∀ b, b < 21 → a ≠ b → (TX4 a).2.1 ≠ (TX4 b).2.1 := by decide +kernel
theorem tyX4_ok : ∀ k, k < 21 → parseFieldDescriptor (TX4 k).2.2.1 = some (tyX4 k) := by decide +kernel
theorem inX4 : ∀ w ∈ u_ws RX4 TX4 21, w ∈ lw_tbl := fun w h => List.mem_append_right _ (goodIn_r (big := tables_1) (u_ws RX4 TX4 21) [638, 640, 642, 644, 646, 648, 650, 652, 654, 656, 658, 660, 662, 664, 666, 668, 670, 672, 674, 676, 678] (by decide +kernel) (by decide +kernel) w h).1
def rfX4 : List Bool := [false, false, false, true, true, true, true, true, false, false, false, true, true, true, true, false, false, true, true, true, true]
theorem isX4 : (Cond.instantiable RX4 21) ∈ lw_tbl := List.mem_append_right _ (List.mem_of_getElem? (i := 612) (by decide +kernel))
def vwCl : List vw_C := [(RX0, TX0, 9), (RX1, TX1, 5), (RX2, TX2, 10), (RX3, TX3, 6), (RX4, TX4, 21)]
end
section
/-! ===== the judgement aw: a method's frame over a memory of numbers and references ===== -/
abbrev okI (x : Int) : Prop := -2147483648 ≤ x ∧ x ≤ 2147483647
abbrev aA : Type := Int ⊕ (Int ⊕ Option Nat)
abbrev iV (x : Int) : aA := .inl x
abbrev lV (x : Int) : aA := .inr (.inl x)
abbrev rV (i : Nat) : aA := .inr (.inr (some i))
abbrev sV : aA := .inr (.inr none)
abbrev aS : Type := Nat × (Nat → Nat × Nat) × (Nat → Nat → Option Nat)
abbrev aG : Type := Nat → Nat → Int
abbrev aU : Type := Nat × Nat × Bool
abbrev aM : Type := aS × aG × aU
abbrev aR : Type := Option aA ⊕ String
abbrev aP : Type := aR → aM → Prop
abbrev aK : Type := MethodName × ByteArray × Nat × Option FieldType × List (Nat × Nat × Nat × Nat)
abbrev aE : Type := (Nat × Nat × Nat × (Nat → Int32)) × va_G × (Nat → ClassId)
def okA (v : aA) : Prop := match v with
  | .inl x => okI x
  | .inr (.inl x) => okI x
  | .inr (.inr _) => True
def cvA (E : aE) (v : aA) : Value := match v with
  | .inl x => .int (Int32.ofInt x)
  | .inr (.inl x) => .long (Int64.ofInt x)
  | .inr (.inr (some i)) => .ref (E.1.2.1 + i)
  | .inr (.inr none) => .ref E.1.1
def rfX (c : Nat) : List Bool := match c with
  | 0 => rfX0
  | 1 => rfX1
  | 2 => rfX2
  | 3 => rfX3
  | _ => rfX4
def fsA (E : aE) (c : Nat) (rf : Nat → Option Nat) (sg : Nat → Int) : List Value := (rfX c).mapIdx (fun k b => if b then va_rf ((rf k).map (E.1.2.1 + ·)) else .int (Int32.ofInt (sg k)))
def picA (E : aE) (kn : Nat × Nat) (rf : Nat → Option Nat) (sg : Nat → Int) : va_E := match kn.1 with
  | 0 => .inl (E.2.2 0, kn.2, .inl (fun j => Int32.ofInt (sg j)))
  | 1 => .inl (E.2.2 1, kn.2, .inl (fun j => Int32.ofInt (sg j)))
  | 2 => .inl (E.2.2 2, kn.2, .inr (.inl (fun j => Int64.ofInt (sg j))))
  | 3 => .inl (E.2.2 3, kn.2, .inr (.inr (.inr (.inr (fun j => (rf j).map (E.1.2.1 + ·))))))
  | c + 4 => .inr (c, fsA E c rf sg)
def wsA (E : aE) (S : aS) (g : aG) : va_W := (List.range S.1).map (fun i => (E.1.2.1 + i, picA E (S.2.1 i) (S.2.2 i) (g i)))
def tysA (E : aE) : List (ClassId × FieldType) := [(E.2.2 0, .int), (E.2.2 1, .boolean), (E.2.2 2, .long), (E.2.2 3, .array .int)]
def rlA (E : aE) (M : aM) (H : Heap) : Prop := va_P E.2.1 vwCl (wsA E M.1 M.2.1) H ∧ (∀ i j, okI (M.2.1 i j)) ∧ (M.2.2.2.2 = true → H.size = E.1.2.1 + M.1.1)
/-- words that stay under warming -/
def stW (w : Cond) : Bool := goodWord w || (w.onTables && w.keepsCast) || (match w with | .methodLinkNest .. => true | .arrayOver (.array _) => true | _ => false)
def txA : List (Nat × String) := [(212, "there is none such"), (214, "the number is out of its range"), (96, "the tree would have too many nodes"), (208, "there is no tree"), (129, "a node is not asked for this"), (167, "there would be too many goals"), (210, "there are no goals"), (180, "no such goal"), (203, "the wanted marking can't be covered")]
def ncA : List (String × String) := [("java/lang/IllegalArgumentException", "java/lang/IndexOutOfBoundsException"), ("java/lang/IndexOutOfBoundsException", "java/lang/IllegalStateException"), ("java/lang/IllegalArgumentException", "java/lang/IllegalStateException"), ("java/lang/UnsupportedOperationException", "java/lang/IllegalStateException"), ("java/lang/IndexOutOfBoundsException", "java/lang/UnsupportedOperationException")]
def cxG (l : Launch) (E : aE) (s : State) : Prop :=
  l.stackTraces = false ∧ (∀ w ∈ lw_tbl, stW w = true → w.before #[] s = true) ∧ (∀ q ∈ txA, ∃ a, vk_R "OmegaNets" q.1 q.2 a s) ∧ (∀ q ∈ ncA, va_Nc q.1 q.2 s) ∧ va_K E.2.1 vwCl (tysA E) s ∧
  vx_Zq Bundle.tN "UNASSIGNED_STACK" Bundle.steD (fun a => E.1.2.1 ≤ a) s s.heap ∧ vx_Zq Bundle.tN "SUPPRESSED_SENTINEL" Bundle.listD (fun a => E.1.2.1 ≤ a) s s.heap ∧ va_X E.1.1 E.1.2.2.1 E.1.2.2.2 s s.heap ∧ E.1.1 < E.1.2.1 ∧ E.1.2.1 ≤ s.heap.size
def cxM (q : aK) (s : State) (m : MethodId) (meth : Method) (c : Code) : Prop :=
  s.methodNamed? q.1 = some m ∧ s.vm.method? m = some meth ∧ c.code = q.2.1 ∧ c.maxLocals = q.2.2.1 ∧ meth.sig.returnType = q.2.2.2.1 ∧ meth.locks = false ∧ c.exceptionTable.toList.map (fun h => (h.startPc, h.endPc, h.handlerPc, h.catchType)) = q.2.2.2.2
def lsA (E : aE) (n : Nat) (L : List (Option aA)) (ls : Array Slot) : Prop := ls.size = n ∧ lv_wf ls ∧ ∀ (k : Nat) (v : aA), L[k]? = some (some v) → ls[k]? = some (.val (cvA E v)) ∧ okA v ∧ (cvA E v).category = 1
def outA (E : aE) (s : State) (r : aR) (o : Outcome) (t : State) : Prop := match r with
  | .inl none => o = .returned none
  | .inl (some v) => o = .returned (some (cvA E v)) ∧ okA v
  | .inr C => ∃ (a : Addr) (ce : Cell), o = .threw a ∧ t.heap[a]? = some ce ∧ ce.vm = .none ∧ s.vm.findClass C = some ce.cls
def enA (E : aE) (P : aP) (below : List Frame) (s : State) (kc ks : Nat) : State → Prop := fun t =>
  ∃ (o : Outcome) (r : aR) (M : aM) (L : List Loc) (k n : Nat), t.status = .running ∧ Ended t below o ∧ P r M ∧ outA E s r o t ∧ s.WarmedH t.vm ∧ rlA E M t.heap ∧
    s.sameButNew ({ t with vm := s.vm } : State) L k n ∧ (∀ q ∈ L, E.1.2.1 ≤ q.base) ∧ k + M.2.2.1 ≤ kc ∧ n + M.2.2.2.1 ≤ ks
def aw (l : Launch) (E : aE) (q : aK) (d pc : Nat) (L : List (Option aA)) (st : List aA) (M : aM) (P : aP) : Prop :=
  ∀ (p : Program) (e : Env) (R : Room) (s : State) (m : MethodId) (args : Array Value) (below : List Frame) (meth : Method) (c : Code) (H : Heap) (locs : List Loc) (cells slots kc ks : Nat) (ls : Array Slot),
    p.tables.exec = Jvm.exec → cxG l E s → cxM q s m meth c → d ≤ R.frames → 36 * d ≤ R.locals → rlA E M H → va_S (fun a => E.1.2.1 ≤ a) s.heap H locs → lsA E q.2.2.1 L ls → (∀ v ∈ st, okA v) →
    cells + M.2.2.1 ≤ kc → kc ≤ R.cells → slots + M.2.2.2.1 ≤ ks → ks ≤ R.slots →
    W p l e R s m args below meth c H locs cells slots (enA E P below s kc ks) (F0 m pc ls (st.map (cvA E)))
/-- a method's contract: from its entry -/
def Sp (l : Launch) (E : aE) (q : aK) (d : Nat) (as : List aA) (M : aM) (P : aP) : Prop := aw l E q d 0 (as.map some ++ List.replicate (7 - as.length) none) [] M P
/-! numbers -/
theorem i32T {x : Int} (h : okI x) : (Int32.ofInt x).toInt = x := by
  rw [Int32.toInt_ofInt]
  have e : (Int32.size : Nat) = 4294967296 := by decide
  simp only [e, Int.bmod]
  split <;> omega
theorem i64T {x : Int} (h : okI x) : (Int64.ofInt x).toInt = x := by
  rw [Int64.toInt_ofInt]
  have e : (Int64.size : Nat) = 18446744073709551616 := by decide
  simp only [e, Int.bmod]
  split <;> omega
theorem i32L {x y : Int} (hx : okI x) (hy : okI y) : Int32.ofInt x < Int32.ofInt y ↔ x < y := by rw [Int32.lt_iff_toInt_lt, i32T hx, i32T hy]
theorem i32B {x y : Int} (hx : okI x) (hy : okI y) : Int32.ofInt x ≤ Int32.ofInt y ↔ x ≤ y := by rw [Int32.le_iff_toInt_le, i32T hx, i32T hy]
theorem i32E {x y : Int} (hx : okI x) (hy : okI y) : Int32.ofInt x = Int32.ofInt y ↔ x = y := by rw [← Int32.toInt_inj, i32T hx, i32T hy]
theorem ok0 : okI 0 := by decide
theorem i32Z : (Int32.ofInt 0) = (0 : Int32) := by decide
theorem i32N {x : Int} (h : okI x) : (Int32.ofInt x).toNatClampNeg = x.toNat := by
  show (Int32.ofInt x).toInt.toNat = _
  rw [i32T h]
theorem i32In {x : Int} {n : Nat} (h : okI x) (h0 : 0 ≤ x) (h1 : x < n) : vp_in (Int32.ofInt x) n := by
  rw [vp_in_iff, i32T h]
  exact ⟨h0, h1⟩
theorem okT (x : Int32) : okI x.toInt := by
  have a := x.le_toInt
  have b := x.toInt_lt
  constructor <;> omega
theorem i32R (x : Int32) : Int32.ofInt x.toInt = x := by
  apply Int32.toInt_inj.mp
  rw [i32T (okT x)]
/-! words, context -/
theorem stW_at {w : Cond} {s U : State} {a a' : Array Value} (hW : s.WarmedH U.vm) (h : stW w = true) (hb : w.before a s = true) : w.before a' U = true := by
  simp only [stW, Bool.or_eq_true, Bool.and_eq_true] at h
  rcases h with (h | h) | h
  · exact word_at hW (good_of_word h) hb
  · have h1 := Cond.before_shiftedCast (State.Shifted.of_warmed hW) w h.2 hb
    exact va_tabs h.1 (rfl : (s.setVm U.vm).vm = U.vm) h1
  · cases w with
    | methodLinkNest x i y z => exact va_Nw.use rfl (va_Nw.warmM hW (va_Nw.of rfl hb))
    | arrayOver ty =>
      cases ty with
      | array t => exact over_moved hW.alike hb
      | _ => cases h
    | _ => cases h
theorem cxW {l : Launch} {E : aE} {s : State} (hG : cxG l E s) {w : Cond} (hw : w ∈ lw_tbl) (h : stW w = true) (a : Array Value) : w.before a s = true := stW_at (State.WarmedH.refl s) h (hG.2.1 w hw h)
theorem cxG.move {l : Launch} {E : aE} {s U : State} {locs : List Loc} (hG : cxG l E s) (hW : s.WarmedH U.vm) (hS : va_S (fun a => E.1.2.1 ≤ a) s.heap U.heap locs) : cxG l E U := by
  obtain ⟨h1, h2, h3, h4, h5, h6, h7, h8, h9, h10⟩ := hG
  refine ⟨h1, fun w hw h => stW_at hW h (h2 w hw h), fun q hq => ?_, fun q hq => (h4 q hq).moved hW.alike, h5.moved hW.alike, vx_Zq.moved hW.alike (h6.kept hS.2.1), vx_Zq.moved hW.alike (h7.kept hS.2.1), (h8.kept (hS.2.1 _ (by omega) (by omega))).moved hW.alike, h9, Nat.le_trans h10 hS.1⟩
  obtain ⟨a, ha⟩ := h3 q hq
  exact ⟨a, ha.warm hW⟩
theorem wsA_get {E : aE} {S : aS} {g : aG} {i : Nat} (h : i < S.1) : (wsA E S g)[i]? = some (E.1.2.1 + i, picA E (S.2.1 i) (S.2.2 i) (g i)) := by
  simp [wsA, h]
theorem wsA_D (E : aE) (S : aS) (g : aG) : va_D (fun a => E.1.2.1 ≤ a) (wsA E S g) := by
  have key : ∀ (k : Nat) (x : Nat × va_E), (wsA E S g)[k]? = some x → x.1 = E.1.2.1 + k := by
    intro k x hx
    by_cases hk : k < S.1
    · rw [wsA_get hk] at hx
      cases hx
      rfl
    · rw [List.getElem?_eq_none (by simp [wsA]; omega)] at hx
      cases hx
  refine ⟨fun i j x y hi hj hxy => ?_, fun k x hx => ?_⟩
  · have := key i x hi
    have := key j y hj
    omega
  · show E.1.2.1 ≤ x.1
    rw [key k x hx]
    omega
/-- cell i's kind and length -/
abbrev hasA (S : aS) (i k n : Nat) : Prop := i < S.1 ∧ S.2.1 i = (k, n)
def upA (g : aG) (i j : Nat) (x : Int) : aG := fun a b => if a = i ∧ b = j then x else g a b
theorem upA_eq (g : aG) (i j : Nat) (x : Int) : upA g i j x i j = x := by simp [upA]
theorem upA_ne {g : aG} {i j a b : Nat} {x : Int} (h : ¬ (a = i ∧ b = j)) : upA g i j x a b = g a b := if_neg h
def upR (rf : Nat → Nat → Option Nat) (i j : Nat) (x : Option Nat) : Nat → Nat → Option Nat := fun a b => if a = i ∧ b = j then x else rf a b
theorem wsA_set {E : aE} {S S' : aS} {g g' : aG} {i : Nat} {e : va_E} (hi : i < S.1) (hn : S'.1 = S.1) (he : e = picA E (S'.2.1 i) (S'.2.2 i) (g' i)) (ho : ∀ a, a ≠ i → picA E (S'.2.1 a) (S'.2.2 a) (g' a) = picA E (S.2.1 a) (S.2.2 a) (g a)) : (wsA E S g).set i (E.1.2.1 + i, e) = wsA E S' g' := by
  apply List.ext_getElem?
  intro k
  by_cases hk : k < S.1
  · rw [wsA_get (S := S') (by rw [hn]; exact hk)]
    by_cases hki : k = i
    · subst hki
      rw [List.getElem?_set_self (by simp [wsA, hk]), he]
    · rw [List.getElem?_set_ne (Ne.symm hki), wsA_get hk, ho k hki]
  · rw [List.getElem?_eq_none (by simp [wsA]; omega), List.getElem?_eq_none (by simp [wsA, hn]; omega)]
theorem fsA_get {E : aE} {c k : Nat} {b : Bool} {rf : Nat → Option Nat} {sg : Nat → Int} (h : (rfX c)[k]? = some b) : (fsA E c rf sg)[k]? = some (if b then va_rf ((rf k).map (E.1.2.1 + ·)) else .int (Int32.ofInt (sg k))) := by
  simp [fsA, h]
theorem fsA_len (E : aE) (c : Nat) (rf : Nat → Option Nat) (sg : Nat → Int) : (fsA E c rf sg).length = (rfX c).length := by simp [fsA]
theorem fsA_set {E : aE} {c k : Nat} {b : Bool} {rf rf' : Nat → Option Nat} {sg sg' : Nat → Int} {v : Value} (h : (rfX c)[k]? = some b) (hv : v = if b then va_rf ((rf' k).map (E.1.2.1 + ·)) else .int (Int32.ofInt (sg' k))) (ho : ∀ j, j ≠ k → rf' j = rf j ∧ sg' j = sg j) : (fsA E c rf sg).set k v = fsA E c rf' sg' := by
  apply List.ext_getElem?
  intro j
  have hk : k < (rfX c).length := (List.getElem?_eq_some_iff.mp h).1
  by_cases hj : j = k
  · subst hj
    rw [List.getElem?_set_self (by rw [fsA_len]; exact hk), fsA_get h, hv]
  · rw [List.getElem?_set_ne (Ne.symm hj)]
    obtain ⟨e1, e2⟩ := ho j hj
    simp only [fsA, List.getElem?_mapIdx, e1, e2]
theorem ok_cons {v : aA} {st : List aA} (h : okA v) (hst : ∀ v ∈ st, okA v) : ∀ x ∈ v :: st, okA x := List.forall_mem_cons.mpr ⟨h, hst⟩
theorem ok_hd {v : aA} {st : List aA} (hst : ∀ x ∈ v :: st, okA x) : okA v := hst v List.mem_cons_self
theorem ok_tl {v : aA} {st : List aA} (hst : ∀ x ∈ v :: st, okA x) : ∀ x ∈ st, okA x := fun x h => hst x (List.mem_cons_of_mem _ h)

/-! ===== instructions, as rows speak of them ===== -/
abbrev Kc (q : aK) (pc : Nat) (n : Int) (nx : Nat) : Prop := okI n ∧ ((decode q.2.1 pc = .ok (.iconst n, 1) ∧ pc + 1 = nx) ∨ (decode q.2.1 pc = .ok (.bipush n, 2) ∧ pc + 2 = nx ∧ (Int8.ofInt n).toInt32 = Int32.ofInt n) ∨ (decode q.2.1 pc = .ok (.sipush n, 3) ∧ pc + 3 = nx ∧ (Int16.ofInt n).toInt32 = Int32.ofInt n) ∨ ∃ idx, decode q.2.1 pc = .ok (.ldc idx, 2) ∧ pc + 2 = nx ∧ Cond.constant q.1.cls idx (Int32.ofInt n) ∈ lw_tbl ∧ stW (Cond.constant q.1.cls idx (Int32.ofInt n)) = true)
abbrev Ki (q : aK) (pc k nx : Nat) : Prop := (decode q.2.1 pc = .ok (.iload k, 2) ∧ pc + 2 = nx) ∨ ∃ f : Fin 4, decode q.2.1 pc = .ok (.iload_n f, 1) ∧ (f : Nat) = k ∧ pc + 1 = nx
abbrev Ka (q : aK) (pc k nx : Nat) : Prop := (decode q.2.1 pc = .ok (.aload k, 2) ∧ pc + 2 = nx) ∨ ∃ f : Fin 4, decode q.2.1 pc = .ok (.aload_n f, 1) ∧ (f : Nat) = k ∧ pc + 1 = nx
abbrev Ks (q : aK) (pc k nx : Nat) : Prop := k < q.2.2.1 ∧ ((decode q.2.1 pc = .ok (.istore k, 2) ∧ pc + 2 = nx) ∨ ∃ f : Fin 4, decode q.2.1 pc = .ok (.istore_n f, 1) ∧ (f : Nat) = k ∧ pc + 1 = nx)
abbrev Kt (q : aK) (pc k nx : Nat) : Prop := k < q.2.2.1 ∧ ((decode q.2.1 pc = .ok (.astore k, 2) ∧ pc + 2 = nx) ∨ ∃ f : Fin 4, decode q.2.1 pc = .ok (.astore_n f, 1) ∧ (f : Nat) = k ∧ pc + 1 = nx)
abbrev Kn (q : aK) (pc k : Nat) (n : Int) (nx : Nat) : Prop := k < q.2.2.1 ∧ decode q.2.1 pc = .ok (.iinc k n, 3) ∧ pc + 3 = nx
abbrev K1 (q : aK) (pc : Nat) (i : Instr) (nx : Nat) : Prop := decode q.2.1 pc = .ok (i, 1) ∧ pc + 1 = nx
abbrev Kj (q : aK) (pc : Nat) (mk : Int → Instr) (tg nx : Nat) : Prop := ∃ off : Int, decode q.2.1 pc = .ok (mk off, 3) ∧ (pc : Int) + off = (tg : Int) ∧ pc + 3 = nx
/-- field k of class c, as the entry idx of class own names it -/
abbrev Kw (own : String) (idx c k : Nat) (b : Bool) : Prop := ∃ r : vw_C, vwCl[c]? = some r ∧ k < r.2.2 ∧ (r.2.1 k).1 = r.1 ∧ Cond.fieldLink own idx r.1 (r.2.1 k).2.1 (r.2.1 k).2.2.1 ∈ lw_tbl ∧ (∀ w ∈ u_ws r.1 r.2.1 r.2.2, w ∈ lw_tbl) ∧ (rfX c)[k]? = some b
abbrev Kg (q : aK) (pc c k : Nat) (b : Bool) (nx : Nat) : Prop := ∃ idx, decode q.2.1 pc = .ok (.getfield idx, 3) ∧ pc + 3 = nx ∧ Kw q.1.cls idx c k b
/-- what a store into field k of class c must know: its type, whether it is final -/
abbrev Ko (own : String) (c k : Nat) (ty : FieldType) (fin : Bool) : Prop := ∃ (r : vw_C) (t0 : Nat → FieldType), vwCl[c]? = some r ∧ (∀ j, j < r.2.2 → parseFieldDescriptor (r.2.1 j).2.2.1 = some (t0 j)) ∧ (∀ a, a < r.2.2 → ∀ b, b < r.2.2 → a ≠ b → (r.2.1 a).2.1 ≠ (r.2.1 b).2.1) ∧ t0 k = ty ∧ (r.2.1 k).2.2.2 = fin ∧ (fin = true → r.1 = own)
abbrev Kp (q : aK) (pc c k : Nat) (b : Bool) (ty : FieldType) (fin : Bool) (nx : Nat) : Prop := (∃ idx, decode q.2.1 pc = .ok (.putfield idx, 3) ∧ pc + 3 = nx ∧ Kw q.1.cls idx c k b) ∧ Ko q.1.cls c k ty fin ∧ (fin = true → q.1.name = "<init>")
section AW
variable {l : Launch} {E : aE} {q : aK} {d pc nx tg : Nat} {L : List (Option aA)} {st : List aA} {M : aM} {P : aP}
theorem aw_rng (k : (∀ i j, okI (M.2.1 i j)) → aw l E q d pc L st M P) : aw l E q d pc L st M P := by
  intro p e R s m args below meth cd H locs cells slots kc ks ls hx hG hM hd hl hR hS hL hst c1 c2 s1 s2
  exact k hR.2.1 p e R s m args below meth cd H locs cells slots kc ks ls hx hG hM hd hl hR hS hL hst c1 c2 s1 s2
theorem aw_lr {i : Nat} {x : Int} (h : L[i]? = some (some (iV x))) (k : okI x → aw l E q d pc L st M P) : aw l E q d pc L st M P := by
  intro p e R s m args below meth cd H locs cells slots kc ks ls hx hG hM hd hl hR hS hL hst c1 c2 s1 s2
  exact k (hL.2.2 i _ h).2.1 p e R s m args below meth cd H locs cells slots kc ks ls hx hG hM hd hl hR hS hL hst c1 c2 s1 s2
theorem aw_mono {P' : aP} (h : ∀ r M', P' r M' → P r M') (k : aw l E q d pc L st M P') : aw l E q d pc L st M P := by
  intro p e R s m args below meth cd H locs cells slots kc ks ls hx hG hM hd hl hR hS hL hst c1 c2 s1 s2
  intro T hT X
  obtain ⟨t, a, o, r, M', Lo, k', n', b1, b2, b3, b4⟩ := k p e R s m args below meth cd H locs cells slots kc ks ls hx hG hM hd hl hR hS hL hst c1 c2 s1 s2 T hT X
  exact ⟨t, a, o, r, M', Lo, k', n', b1, b2, h r M' b3, b4⟩
theorem aw_fr {S : aS} {g : aG} {a b : Nat} {f : Bool} (k : aw l E q d pc L st (S, g, a, b, false) P) : aw l E q d pc L st (S, g, a, b, f) P := by
  intro p e R s m args below meth cd H locs cells slots kc ks ls hx hG hM hd hl hR hS hL hst c1 c2 s1 s2
  exact k p e R s m args below meth cd H locs cells slots kc ks ls hx hG hM hd hl ⟨hR.1, hR.2.1, fun h => by cases h⟩ hS hL hst c1 c2 s1 s2
theorem aw_c {n : Int} (h : Kc q pc n nx) (k : aw l E q d nx L (iV n :: st) M P) : aw l E q d pc L st M P := by
  intro p e R s m args below meth cd H locs cells slots kc ks ls hx hG hM hd hl hR hS hL hst c1 c2 s1 s2
  have hb := hM.2.2.1
  have kk := k p e R s m args below meth cd H locs cells slots kc ks ls hx hG hM hd hl hR hS hL (ok_cons h.1 hst) c1 c2 s1 s2
  rcases h.2 with ⟨h1, h2⟩ | ⟨h1, h2, h3⟩ | ⟨h1, h2, h3⟩ | ⟨idx, h1, h2, h3, h4⟩
  · subst h2; exact lv_iconst hx hb h1 rfl kk
  · subst h2; exact lv_bipush hx hb h1 h3 kk
  · subst h2; exact lv_sipush hx hb h1 h3 kk
  · subst h2; exact lv_ldc hx hb (findClass_of_methodNamed hM.1) (cxW hG h3 h4 args) h1 kk
theorem aw_il {k : Nat} {x : Int} (h : Ki q pc k nx) (hk : L[k]? = some (some (iV x))) (kk : aw l E q d nx L (iV x :: st) M P) : aw l E q d pc L st M P := by
  intro p e R s m args below meth cd H locs cells slots kc ks ls hx hG hM hd hl hR hS hL hst c1 c2 s1 s2
  obtain ⟨g1, g2, g3⟩ := hL.2.2 k _ hk
  have kk := kk p e R s m args below meth cd H locs cells slots kc ks ls hx hG hM hd hl hR hS hL (ok_cons g2 hst) c1 c2 s1 s2
  rcases h with ⟨h1, h2⟩ | ⟨f, h1, h2, h3⟩
  · subst h2; exact lv_iload hx hM.2.2.1 h1 g1 kk
  · subst h3; exact lv_iload_n hx hM.2.2.1 h1 h2 g1 kk
theorem aw_al {k : Nat} {x : Nat} (h : Ka q pc k nx) (hk : L[k]? = some (some (rV x))) (kk : aw l E q d nx L (rV x :: st) M P) : aw l E q d pc L st M P := by
  intro p e R s m args below meth cd H locs cells slots kc ks ls hx hG hM hd hl hR hS hL hst c1 c2 s1 s2
  obtain ⟨g1, g2, g3⟩ := hL.2.2 k _ hk
  have kk := kk p e R s m args below meth cd H locs cells slots kc ks ls hx hG hM hd hl hR hS hL (ok_cons g2 hst) c1 c2 s1 s2
  rcases h with ⟨h1, h2⟩ | ⟨f, h1, h2, h3⟩
  · subst h2; exact lv_aload hx hM.2.2.1 h1 g1 kk
  · subst h3; exact lv_aload_n hx hM.2.2.1 h1 h2 g1 kk
theorem aw_sl {k : Nat} (h : Ka q pc k nx) (hk : L[k]? = some (some (sV))) (kk : aw l E q d nx L (sV :: st) M P) : aw l E q d pc L st M P := by
  intro p e R s m args below meth cd H locs cells slots kc ks ls hx hG hM hd hl hR hS hL hst c1 c2 s1 s2
  obtain ⟨g1, g2, g3⟩ := hL.2.2 k _ hk
  have kk := kk p e R s m args below meth cd H locs cells slots kc ks ls hx hG hM hd hl hR hS hL (ok_cons g2 hst) c1 c2 s1 s2
  rcases h with ⟨h1, h2⟩ | ⟨f, h1, h2, h3⟩
  · subst h2; exact lv_aload hx hM.2.2.1 h1 g1 kk
  · subst h3; exact lv_aload_n hx hM.2.2.1 h1 h2 g1 kk
theorem lsA_set {n k : Nat} {ls : Array Slot} {v : aA} (hL : lsA E n L ls) (hk : k < n) (hv : okA v) (hc : (cvA E v).category = 1) : ∃ lv, lv_has ls n lv ∧ ∀ ls', lv_has ls' n ((k, cvA E v) :: lv.filter (fun q => !(q.1 == k) && !(q.1 + 1 == k && q.2.category == 2))) → lsA E n (L.set k (some v)) ls' := by
  refine ⟨(List.range L.length).filterMap (fun j => (L[j]?).join.map (fun w => (j, cvA E w))), ⟨hL.1, hL.2.1, fun x hx => ?_⟩, fun ls' h' => ⟨h'.1, h'.2.1, fun j w hw => ?_⟩⟩
  · obtain ⟨j, -, hj⟩ := List.mem_filterMap.mp hx
    cases e : L[j]? with
    | none => rw [e] at hj; cases hj
    | some o =>
      cases o with
      | none => rw [e] at hj; cases hj
      | some w =>
        rw [e] at hj
        cases hj
        exact (hL.2.2 j w e).1
  · by_cases hj : j = k
    · subst hj
      have hlt : j < L.length := by
        have := (List.getElem?_eq_some_iff.mp hw).1
        simpa using this
      rw [List.getElem?_set_self hlt] at hw
      cases hw
      exact ⟨h'.2.2 (j, cvA E v) List.mem_cons_self, hv, hc⟩
    · rw [List.getElem?_set_ne (Ne.symm hj)] at hw
      obtain ⟨g1, g2, g3⟩ := hL.2.2 j w hw
      refine ⟨h'.2.2 (j, cvA E w) (List.mem_cons_of_mem _ (List.mem_filter.mpr ⟨List.mem_filterMap.mpr ⟨j, List.mem_range.mpr (List.getElem?_eq_some_iff.mp hw).1, by rw [hw]; rfl⟩, ?_⟩)), g2, g3⟩
      simp [hj, g3]
theorem aw_is {k : Nat} {x : Int} (h : Ks q pc k nx) (kk : aw l E q d nx (L.set k (some (iV x))) st M P) : aw l E q d pc L (iV x :: st) M P := by
  intro p e R s m args below meth cd H locs cells slots kc ks ls hx hG hM hd hl hR hS hL hst c1 c2 s1 s2
  obtain ⟨hk, h⟩ := h
  obtain ⟨lv, g1, g2⟩ := lsA_set hL hk (ok_hd hst) rfl
  rcases h with ⟨h1, h2⟩ | ⟨f, h1, h2, h3⟩
  · subst h2; exact lv_istore hx hM.2.2.1 h1 g1 hk rfl fun ls' h' => kk p e R s m args below meth cd H locs cells slots kc ks ls' hx hG hM hd hl hR hS (g2 ls' h') (ok_tl hst) c1 c2 s1 s2
  · subst h3; exact lv_istore_n hx hM.2.2.1 h1 h2 g1 hk rfl fun ls' h' => kk p e R s m args below meth cd H locs cells slots kc ks ls' hx hG hM hd hl hR hS (g2 ls' h') (ok_tl hst) c1 c2 s1 s2
theorem aw_as {k : Nat} {x : Nat} (h : Kt q pc k nx) (kk : aw l E q d nx (L.set k (some (rV x))) st M P) : aw l E q d pc L (rV x :: st) M P := by
  intro p e R s m args below meth cd H locs cells slots kc ks ls hx hG hM hd hl hR hS hL hst c1 c2 s1 s2
  obtain ⟨hk, h⟩ := h
  obtain ⟨lv, g1, g2⟩ := lsA_set hL hk (ok_hd hst) rfl
  rcases h with ⟨h1, h2⟩ | ⟨f, h1, h2, h3⟩
  · subst h2; exact lv_astore hx hM.2.2.1 h1 g1 hk rfl fun ls' h' => kk p e R s m args below meth cd H locs cells slots kc ks ls' hx hG hM hd hl hR hS (g2 ls' h') (ok_tl hst) c1 c2 s1 s2
  · subst h3; exact lv_astore_n hx hM.2.2.1 h1 h2 g1 hk rfl fun ls' h' => kk p e R s m args below meth cd H locs cells slots kc ks ls' hx hG hM hd hl hR hS (g2 ls' h') (ok_tl hst) c1 c2 s1 s2
theorem aw_in {k : Nat} {x n : Int} (h : Kn q pc k n nx) (hk : L[k]? = some (some (iV x))) (hr : okI (x + n)) (kk : aw l E q d nx (L.set k (some (iV (x + n)))) st M P) : aw l E q d pc L st M P := by
  intro p e R s m args below meth cd H locs cells slots kc ks ls hx hG hM hd hl hR hS hL hst c1 c2 s1 s2
  obtain ⟨hkn, h1, h2⟩ := h
  subst h2
  obtain ⟨lv, g1, g2⟩ := lsA_set (v := iV (x + n)) hL hkn hr rfl
  obtain ⟨g3, -, -⟩ := hL.2.2 k _ hk
  have g4 : lv_has ls q.2.2.1 ((k, Value.int (Int32.ofInt x)) :: lv) := ⟨g1.1, g1.2.1, fun y hy => (List.mem_cons.mp hy).elim (fun e => by rw [e]; exact g3) (g1.2.2 y)⟩
  refine lv_iinc (k := 0) (lv := (k, Value.int (Int32.ofInt x)) :: lv) hx hM.2.2.1 h1 g4 rfl (v := Int32.ofInt (x + n)) (Int32.ofInt_add ..).symm hkn rfl fun ls' h' => ?_
  have h'' : lv_has ls' q.2.2.1 ((k, cvA E (iV (x + n))) :: lv.filter (fun q => !(q.1 == k) && !(q.1 + 1 == k && q.2.category == 2))) := by
    have e : ((k, Value.int (Int32.ofInt x)) :: lv).filter (fun q => !(q.1 == k) && !(q.1 + 1 == k && q.2.category == 2)) = lv.filter (fun q => !(q.1 == k) && !(q.1 + 1 == k && q.2.category == 2)) := by
      rw [List.filter_cons_of_neg]
      simp
    rw [e] at h'
    exact h' 
  exact kk p e R s m args below meth cd H locs cells slots kc ks ls' hx hG hM hd hl hR hS (g2 ls' h'') hst c1 c2 s1 s2
theorem aw_il0 {x1 x2 x3 x4 x5 x6 : Option aA} {x : Int} (h : Ki q pc 0 nx) (kk : aw l E q d nx [some (iV x), x1, x2, x3, x4, x5, x6] (iV x :: st) M P) : aw l E q d pc [some (iV x), x1, x2, x3, x4, x5, x6] st M P := aw_il h rfl kk
theorem aw_al0 {x1 x2 x3 x4 x5 x6 : Option aA} {x : Nat} (h : Ka q pc 0 nx) (kk : aw l E q d nx [some (rV x), x1, x2, x3, x4, x5, x6] (rV x :: st) M P) : aw l E q d pc [some (rV x), x1, x2, x3, x4, x5, x6] st M P := aw_al h rfl kk
theorem aw_is0 {x0 x1 x2 x3 x4 x5 x6 : Option aA} {x : Int} (h : Ks q pc 0 nx) (kk : aw l E q d nx [some (iV x), x1, x2, x3, x4, x5, x6] st M P) : aw l E q d pc [x0, x1, x2, x3, x4, x5, x6] (iV x :: st) M P := aw_is h kk
theorem aw_as0 {x0 x1 x2 x3 x4 x5 x6 : Option aA} {x : Nat} (h : Kt q pc 0 nx) (kk : aw l E q d nx [some (rV x), x1, x2, x3, x4, x5, x6] st M P) : aw l E q d pc [x0, x1, x2, x3, x4, x5, x6] (rV x :: st) M P := aw_as h kk
theorem aw_in0 {x1 x2 x3 x4 x5 x6 : Option aA} {x n : Int} (h : Kn q pc 0 n nx) (hr : okI (x + n)) (kk : aw l E q d nx [some (iV (x + n)), x1, x2, x3, x4, x5, x6] st M P) : aw l E q d pc [some (iV x), x1, x2, x3, x4, x5, x6] st M P := aw_in h rfl hr kk
theorem aw_il1 {x0 x2 x3 x4 x5 x6 : Option aA} {x : Int} (h : Ki q pc 1 nx) (kk : aw l E q d nx [x0, some (iV x), x2, x3, x4, x5, x6] (iV x :: st) M P) : aw l E q d pc [x0, some (iV x), x2, x3, x4, x5, x6] st M P := aw_il h rfl kk
theorem aw_al1 {x0 x2 x3 x4 x5 x6 : Option aA} {x : Nat} (h : Ka q pc 1 nx) (kk : aw l E q d nx [x0, some (rV x), x2, x3, x4, x5, x6] (rV x :: st) M P) : aw l E q d pc [x0, some (rV x), x2, x3, x4, x5, x6] st M P := aw_al h rfl kk
theorem aw_is1 {x0 x1 x2 x3 x4 x5 x6 : Option aA} {x : Int} (h : Ks q pc 1 nx) (kk : aw l E q d nx [x0, some (iV x), x2, x3, x4, x5, x6] st M P) : aw l E q d pc [x0, x1, x2, x3, x4, x5, x6] (iV x :: st) M P := aw_is h kk
theorem aw_as1 {x0 x1 x2 x3 x4 x5 x6 : Option aA} {x : Nat} (h : Kt q pc 1 nx) (kk : aw l E q d nx [x0, some (rV x), x2, x3, x4, x5, x6] st M P) : aw l E q d pc [x0, x1, x2, x3, x4, x5, x6] (rV x :: st) M P := aw_as h kk
theorem aw_in1 {x0 x2 x3 x4 x5 x6 : Option aA} {x n : Int} (h : Kn q pc 1 n nx) (hr : okI (x + n)) (kk : aw l E q d nx [x0, some (iV (x + n)), x2, x3, x4, x5, x6] st M P) : aw l E q d pc [x0, some (iV x), x2, x3, x4, x5, x6] st M P := aw_in h rfl hr kk
theorem aw_il2 {x0 x1 x3 x4 x5 x6 : Option aA} {x : Int} (h : Ki q pc 2 nx) (kk : aw l E q d nx [x0, x1, some (iV x), x3, x4, x5, x6] (iV x :: st) M P) : aw l E q d pc [x0, x1, some (iV x), x3, x4, x5, x6] st M P := aw_il h rfl kk
theorem aw_al2 {x0 x1 x3 x4 x5 x6 : Option aA} {x : Nat} (h : Ka q pc 2 nx) (kk : aw l E q d nx [x0, x1, some (rV x), x3, x4, x5, x6] (rV x :: st) M P) : aw l E q d pc [x0, x1, some (rV x), x3, x4, x5, x6] st M P := aw_al h rfl kk
theorem aw_is2 {x0 x1 x2 x3 x4 x5 x6 : Option aA} {x : Int} (h : Ks q pc 2 nx) (kk : aw l E q d nx [x0, x1, some (iV x), x3, x4, x5, x6] st M P) : aw l E q d pc [x0, x1, x2, x3, x4, x5, x6] (iV x :: st) M P := aw_is h kk
theorem aw_as2 {x0 x1 x2 x3 x4 x5 x6 : Option aA} {x : Nat} (h : Kt q pc 2 nx) (kk : aw l E q d nx [x0, x1, some (rV x), x3, x4, x5, x6] st M P) : aw l E q d pc [x0, x1, x2, x3, x4, x5, x6] (rV x :: st) M P := aw_as h kk
theorem aw_in2 {x0 x1 x3 x4 x5 x6 : Option aA} {x n : Int} (h : Kn q pc 2 n nx) (hr : okI (x + n)) (kk : aw l E q d nx [x0, x1, some (iV (x + n)), x3, x4, x5, x6] st M P) : aw l E q d pc [x0, x1, some (iV x), x3, x4, x5, x6] st M P := aw_in h rfl hr kk
theorem aw_il3 {x0 x1 x2 x4 x5 x6 : Option aA} {x : Int} (h : Ki q pc 3 nx) (kk : aw l E q d nx [x0, x1, x2, some (iV x), x4, x5, x6] (iV x :: st) M P) : aw l E q d pc [x0, x1, x2, some (iV x), x4, x5, x6] st M P := aw_il h rfl kk
theorem aw_al3 {x0 x1 x2 x4 x5 x6 : Option aA} {x : Nat} (h : Ka q pc 3 nx) (kk : aw l E q d nx [x0, x1, x2, some (rV x), x4, x5, x6] (rV x :: st) M P) : aw l E q d pc [x0, x1, x2, some (rV x), x4, x5, x6] st M P := aw_al h rfl kk
theorem aw_is3 {x0 x1 x2 x3 x4 x5 x6 : Option aA} {x : Int} (h : Ks q pc 3 nx) (kk : aw l E q d nx [x0, x1, x2, some (iV x), x4, x5, x6] st M P) : aw l E q d pc [x0, x1, x2, x3, x4, x5, x6] (iV x :: st) M P := aw_is h kk
theorem aw_as3 {x0 x1 x2 x3 x4 x5 x6 : Option aA} {x : Nat} (h : Kt q pc 3 nx) (kk : aw l E q d nx [x0, x1, x2, some (rV x), x4, x5, x6] st M P) : aw l E q d pc [x0, x1, x2, x3, x4, x5, x6] (rV x :: st) M P := aw_as h kk
theorem aw_in3 {x0 x1 x2 x4 x5 x6 : Option aA} {x n : Int} (h : Kn q pc 3 n nx) (hr : okI (x + n)) (kk : aw l E q d nx [x0, x1, x2, some (iV (x + n)), x4, x5, x6] st M P) : aw l E q d pc [x0, x1, x2, some (iV x), x4, x5, x6] st M P := aw_in h rfl hr kk
theorem aw_il4 {x0 x1 x2 x3 x5 x6 : Option aA} {x : Int} (h : Ki q pc 4 nx) (kk : aw l E q d nx [x0, x1, x2, x3, some (iV x), x5, x6] (iV x :: st) M P) : aw l E q d pc [x0, x1, x2, x3, some (iV x), x5, x6] st M P := aw_il h rfl kk
theorem aw_al4 {x0 x1 x2 x3 x5 x6 : Option aA} {x : Nat} (h : Ka q pc 4 nx) (kk : aw l E q d nx [x0, x1, x2, x3, some (rV x), x5, x6] (rV x :: st) M P) : aw l E q d pc [x0, x1, x2, x3, some (rV x), x5, x6] st M P := aw_al h rfl kk
theorem aw_is4 {x0 x1 x2 x3 x4 x5 x6 : Option aA} {x : Int} (h : Ks q pc 4 nx) (kk : aw l E q d nx [x0, x1, x2, x3, some (iV x), x5, x6] st M P) : aw l E q d pc [x0, x1, x2, x3, x4, x5, x6] (iV x :: st) M P := aw_is h kk
theorem aw_as4 {x0 x1 x2 x3 x4 x5 x6 : Option aA} {x : Nat} (h : Kt q pc 4 nx) (kk : aw l E q d nx [x0, x1, x2, x3, some (rV x), x5, x6] st M P) : aw l E q d pc [x0, x1, x2, x3, x4, x5, x6] (rV x :: st) M P := aw_as h kk
theorem aw_in4 {x0 x1 x2 x3 x5 x6 : Option aA} {x n : Int} (h : Kn q pc 4 n nx) (hr : okI (x + n)) (kk : aw l E q d nx [x0, x1, x2, x3, some (iV (x + n)), x5, x6] st M P) : aw l E q d pc [x0, x1, x2, x3, some (iV x), x5, x6] st M P := aw_in h rfl hr kk
theorem aw_il5 {x0 x1 x2 x3 x4 x6 : Option aA} {x : Int} (h : Ki q pc 5 nx) (kk : aw l E q d nx [x0, x1, x2, x3, x4, some (iV x), x6] (iV x :: st) M P) : aw l E q d pc [x0, x1, x2, x3, x4, some (iV x), x6] st M P := aw_il h rfl kk
theorem aw_al5 {x0 x1 x2 x3 x4 x6 : Option aA} {x : Nat} (h : Ka q pc 5 nx) (kk : aw l E q d nx [x0, x1, x2, x3, x4, some (rV x), x6] (rV x :: st) M P) : aw l E q d pc [x0, x1, x2, x3, x4, some (rV x), x6] st M P := aw_al h rfl kk
theorem aw_is5 {x0 x1 x2 x3 x4 x5 x6 : Option aA} {x : Int} (h : Ks q pc 5 nx) (kk : aw l E q d nx [x0, x1, x2, x3, x4, some (iV x), x6] st M P) : aw l E q d pc [x0, x1, x2, x3, x4, x5, x6] (iV x :: st) M P := aw_is h kk
theorem aw_as5 {x0 x1 x2 x3 x4 x5 x6 : Option aA} {x : Nat} (h : Kt q pc 5 nx) (kk : aw l E q d nx [x0, x1, x2, x3, x4, some (rV x), x6] st M P) : aw l E q d pc [x0, x1, x2, x3, x4, x5, x6] (rV x :: st) M P := aw_as h kk
theorem aw_in5 {x0 x1 x2 x3 x4 x6 : Option aA} {x n : Int} (h : Kn q pc 5 n nx) (hr : okI (x + n)) (kk : aw l E q d nx [x0, x1, x2, x3, x4, some (iV (x + n)), x6] st M P) : aw l E q d pc [x0, x1, x2, x3, x4, some (iV x), x6] st M P := aw_in h rfl hr kk
theorem aw_il6 {x0 x1 x2 x3 x4 x5 : Option aA} {x : Int} (h : Ki q pc 6 nx) (kk : aw l E q d nx [x0, x1, x2, x3, x4, x5, some (iV x)] (iV x :: st) M P) : aw l E q d pc [x0, x1, x2, x3, x4, x5, some (iV x)] st M P := aw_il h rfl kk
theorem aw_al6 {x0 x1 x2 x3 x4 x5 : Option aA} {x : Nat} (h : Ka q pc 6 nx) (kk : aw l E q d nx [x0, x1, x2, x3, x4, x5, some (rV x)] (rV x :: st) M P) : aw l E q d pc [x0, x1, x2, x3, x4, x5, some (rV x)] st M P := aw_al h rfl kk
theorem aw_is6 {x0 x1 x2 x3 x4 x5 x6 : Option aA} {x : Int} (h : Ks q pc 6 nx) (kk : aw l E q d nx [x0, x1, x2, x3, x4, x5, some (iV x)] st M P) : aw l E q d pc [x0, x1, x2, x3, x4, x5, x6] (iV x :: st) M P := aw_is h kk
theorem aw_as6 {x0 x1 x2 x3 x4 x5 x6 : Option aA} {x : Nat} (h : Kt q pc 6 nx) (kk : aw l E q d nx [x0, x1, x2, x3, x4, x5, some (rV x)] st M P) : aw l E q d pc [x0, x1, x2, x3, x4, x5, x6] (rV x :: st) M P := aw_as h kk
theorem aw_in6 {x0 x1 x2 x3 x4 x5 : Option aA} {x n : Int} (h : Kn q pc 6 n nx) (hr : okI (x + n)) (kk : aw l E q d nx [x0, x1, x2, x3, x4, x5, some (iV (x + n))] st M P) : aw l E q d pc [x0, x1, x2, x3, x4, x5, some (iV x)] st M P := aw_in h rfl hr kk
theorem aw_sl0 {x1 x2 x3 x4 x5 x6 : Option aA} (h : Ka q pc 0 nx) (kk : aw l E q d nx [some sV, x1, x2, x3, x4, x5, x6] (sV :: st) M P) : aw l E q d pc [some sV, x1, x2, x3, x4, x5, x6] st M P := aw_sl h rfl kk
theorem aw_add {x y : Int} (h : K1 q pc .iadd nx) (hr : okI (x + y)) (kk : aw l E q d nx L (iV (x + y) :: st) M P) : aw l E q d pc L (iV y :: iV x :: st) M P := by
  intro p e R s m args below meth cd H locs cells slots kc ks ls hx hG hM hd hl hR hS hL hst c1 c2 s1 s2
  obtain ⟨h1, h2⟩ := h
  subst h2
  refine lv_iadd hx hM.2.2.1 h1 ?_
  rw [← Int32.ofInt_add]
  exact kk p e R s m args below meth cd H locs cells slots kc ks ls hx hG hM hd hl hR hS hL (ok_cons hr (ok_tl (ok_tl hst))) c1 c2 s1 s2
theorem aw_sub {x y : Int} (h : K1 q pc .isub nx) (hr : okI (x - y)) (kk : aw l E q d nx L (iV (x - y) :: st) M P) : aw l E q d pc L (iV y :: iV x :: st) M P := by
  intro p e R s m args below meth cd H locs cells slots kc ks ls hx hG hM hd hl hR hS hL hst c1 c2 s1 s2
  obtain ⟨h1, h2⟩ := h
  subst h2
  refine lv_isub hx hM.2.2.1 h1 ?_
  rw [← Int32.ofInt_sub]
  exact kk p e R s m args below meth cd H locs cells slots kc ks ls hx hG hM hd hl hR hS hL (ok_cons hr (ok_tl (ok_tl hst))) c1 c2 s1 s2
theorem aw_mul {x y : Int} (h : K1 q pc .imul nx) (hr : okI (x * y)) (kk : aw l E q d nx L (iV (x * y) :: st) M P) : aw l E q d pc L (iV y :: iV x :: st) M P := by
  intro p e R s m args below meth cd H locs cells slots kc ks ls hx hG hM hd hl hR hS hL hst c1 c2 s1 s2
  obtain ⟨h1, h2⟩ := h
  subst h2
  refine lv_imul hx hM.2.2.1 h1 ?_
  rw [← Int32.ofInt_mul]
  exact kk p e R s m args below meth cd H locs cells slots kc ks ls hx hG hM hd hl hR hS hL (ok_cons hr (ok_tl (ok_tl hst))) c1 c2 s1 s2
theorem aw_wsub {x y z : Int} (h : K1 q pc .isub nx) (hr : okI z) (hz : Int32.ofInt z = Int32.ofInt x - Int32.ofInt y) (kk : aw l E q d nx L (iV z :: st) M P) : aw l E q d pc L (iV y :: iV x :: st) M P := by
  intro p e R s m args below meth cd H locs cells slots kc ks ls hx hG hM hd hl hR hS hL hst c1 c2 s1 s2
  obtain ⟨h1, h2⟩ := h
  subst h2
  refine lv_isub hx hM.2.2.1 h1 ?_
  rw [← hz]
  exact kk p e R s m args below meth cd H locs cells slots kc ks ls hx hG hM hd hl hR hS hL (ok_cons hr (ok_tl (ok_tl hst))) c1 c2 s1 s2
theorem aw_iand {x y z : Int} (h : K1 q pc .iand nx) (hr : okI z) (hz : Int32.ofInt z = Int32.ofInt x &&& Int32.ofInt y) (kk : aw l E q d nx L (iV z :: st) M P) : aw l E q d pc L (iV y :: iV x :: st) M P := by
  intro p e R s m args below meth cd H locs cells slots kc ks ls hx hG hM hd hl hR hS hL hst c1 c2 s1 s2
  obtain ⟨h1, h2⟩ := h
  subst h2
  refine lv_iand hx hM.2.2.1 h1 ?_
  rw [← hz]
  exact kk p e R s m args below meth cd H locs cells slots kc ks ls hx hG hM hd hl hR hS hL (ok_cons hr (ok_tl (ok_tl hst))) c1 c2 s1 s2
theorem aw_ior {x y z : Int} (h : K1 q pc .ior nx) (hr : okI z) (hz : Int32.ofInt z = Int32.ofInt x ||| Int32.ofInt y) (kk : aw l E q d nx L (iV z :: st) M P) : aw l E q d pc L (iV y :: iV x :: st) M P := by
  intro p e R s m args below meth cd H locs cells slots kc ks ls hx hG hM hd hl hR hS hL hst c1 c2 s1 s2
  obtain ⟨h1, h2⟩ := h
  subst h2
  refine lv_ior hx hM.2.2.1 h1 ?_
  rw [← hz]
  exact kk p e R s m args below meth cd H locs cells slots kc ks ls hx hG hM hd hl hR hS hL (ok_cons hr (ok_tl (ok_tl hst))) c1 c2 s1 s2
theorem aw_i2l {x : Int} (h : K1 q pc .i2l nx) (kk : aw l E q d nx L (lV x :: st) M P) : aw l E q d pc L (iV x :: st) M P := by
  intro p e R s m args below meth cd H locs cells slots kc ks ls hx hG hM hd hl hR hS hL hst c1 c2 s1 s2
  obtain ⟨h1, h2⟩ := h
  subst h2
  have hr : okI x := ok_hd hst
  refine lv_i2l hx hM.2.2.1 h1 (v := Int64.ofInt x) ?_ ?_
  · apply Int64.toInt_inj.mp
    rw [Jvm.Kit.i64_of_i32, i32T hr, i64T hr]
  · exact kk p e R s m args below meth cd H locs cells slots kc ks ls hx hG hM hd hl hR hS hL (ok_cons (v := lV x) hr (ok_tl hst)) c1 c2 s1 s2
theorem aw_lc {n : Nat} (h : ∃ f : Fin 2, K1 q pc (.lconst f) nx ∧ (f : Nat) = n) (kk : aw l E q d nx L (lV (n : Int) :: st) M P) : aw l E q d pc L st M P := by
  intro p e R s m args below meth cd H locs cells slots kc ks ls hx hG hM hd hl hR hS hL hst c1 c2 s1 s2
  obtain ⟨f, ⟨h1, h2⟩, h3⟩ := h
  subst h2
  have hn : okI (n : Int) := by have := f.isLt; constructor <;> omega
  refine lv_lconst hx hM.2.2.1 h1 (v := Int64.ofInt (n : Int)) ?_ ?_
  · rw [h3]; exact (Int64.ofInt_eq_ofNat ..).symm
  · exact kk p e R s m args below meth cd H locs cells slots kc ks ls hx hG hM hd hl hR hS hL (ok_cons (v := lV (n : Int)) hn hst) c1 c2 s1 s2
theorem aw_lcmp {x y : Int} (h : K1 q pc .lcmp nx) (kt : x = y → aw l E q d nx L (iV 0 :: st) M P) (kf : ∀ z, z ≠ 0 → x ≠ y → aw l E q d nx L (iV z :: st) M P) : aw l E q d pc L (lV y :: lV x :: st) M P := by
  intro p e R s m args below meth cd H locs cells slots kc ks ls hx hG hM hd hl hR hS hL hst c1 c2 s1 s2
  obtain ⟨h1, h2⟩ := h
  subst h2
  have hy : okI y := ok_hd hst
  have hx2 : okI x := ok_hd (ok_tl hst)
  refine W.lcmp hx hM.2.2.1 h1 ?_
  unfold lg_cmp
  split
  · next h3 =>
    have h4 : y < x := by have := Int64.lt_iff_toInt_lt.mp h3; rw [i64T hy, i64T hx2] at this; exact this
    exact kf 1 (by decide) (by omega) p e R s m args below meth cd H locs cells slots kc ks ls hx hG hM hd hl hR hS hL (ok_cons (v := iV 1) (by decide : okI 1) (ok_tl (ok_tl hst))) c1 c2 s1 s2
  · next h3 =>
    split
    · next h4 =>
      have h5 : x = y := by have := Int64.toInt_inj.mpr h4; rw [i64T hx2, i64T hy] at this; exact this
      exact kt h5 p e R s m args below meth cd H locs cells slots kc ks ls hx hG hM hd hl hR hS hL (ok_cons (v := iV 0) ok0 (ok_tl (ok_tl hst))) c1 c2 s1 s2
    · next h4 =>
      have h5 : x ≠ y := fun e => h4 (by rw [e])
      exact kf (-1) (by decide) h5 p e R s m args below meth cd H locs cells slots kc ks ls hx hG hM hd hl hR hS hL (ok_cons (v := iV (-1)) (by decide : okI (-1)) (ok_tl (ok_tl hst))) c1 c2 s1 s2
theorem aw_dup {i : Nat} (h : K1 q pc .dup nx) (kk : aw l E q d nx L (rV i :: rV i :: st) M P) : aw l E q d pc L (rV i :: st) M P := by
  intro p e R s m args below meth cd H locs cells slots kc ks ls hx hG hM hd hl hR hS hL hst c1 c2 s1 s2
  obtain ⟨h1, h2⟩ := h
  subst h2
  exact lv_dup hx hM.2.2.1 h1 rfl (kk p e R s m args below meth cd H locs cells slots kc ks ls hx hG hM hd hl hR hS hL (ok_cons (ok_hd hst) hst) c1 c2 s1 s2)
theorem aw_ceq {x y : Int} (h : Kj q pc (.if_icmp .eq) tg nx) (kt : x = y → aw l E q d tg L st M P) (kf : ¬ x = y → aw l E q d nx L st M P) : aw l E q d pc L (iV y :: iV x :: st) M P := by
  intro p e R s m args below meth cd H locs cells slots kc ks ls hx hG hM hd hl hR hS hL hst c1 c2 s1 s2
  obtain ⟨off, h1, h2, h3⟩ := h
  subst h3
  have hy : okI y := ok_hd hst
  have hx2 : okI x := ok_hd (ok_tl hst)
  exact lv_icmp_eq hx hM.2.2.1 h1 h2 (fun hz => kt ((i32E hx2 hy).mp hz) p e R s m args below meth cd H locs cells slots kc ks ls hx hG hM hd hl hR hS hL (ok_tl (ok_tl hst)) c1 c2 s1 s2) (fun hz => kf (mt (i32E hx2 hy).mpr hz) p e R s m args below meth cd H locs cells slots kc ks ls hx hG hM hd hl hR hS hL (ok_tl (ok_tl hst)) c1 c2 s1 s2)
theorem aw_cne {x y : Int} (h : Kj q pc (.if_icmp .ne) tg nx) (kt : ¬ x = y → aw l E q d tg L st M P) (kf : x = y → aw l E q d nx L st M P) : aw l E q d pc L (iV y :: iV x :: st) M P := by
  intro p e R s m args below meth cd H locs cells slots kc ks ls hx hG hM hd hl hR hS hL hst c1 c2 s1 s2
  obtain ⟨off, h1, h2, h3⟩ := h
  subst h3
  have hy : okI y := ok_hd hst
  have hx2 : okI x := ok_hd (ok_tl hst)
  exact lv_icmp_ne hx hM.2.2.1 h1 h2 (fun hz => kt (mt (i32E hx2 hy).mpr hz) p e R s m args below meth cd H locs cells slots kc ks ls hx hG hM hd hl hR hS hL (ok_tl (ok_tl hst)) c1 c2 s1 s2) (fun hz => kf ((i32E hx2 hy).mp hz) p e R s m args below meth cd H locs cells slots kc ks ls hx hG hM hd hl hR hS hL (ok_tl (ok_tl hst)) c1 c2 s1 s2)
theorem aw_clt {x y : Int} (h : Kj q pc (.if_icmp .lt) tg nx) (kt : x < y → aw l E q d tg L st M P) (kf : y ≤ x → aw l E q d nx L st M P) : aw l E q d pc L (iV y :: iV x :: st) M P := by
  intro p e R s m args below meth cd H locs cells slots kc ks ls hx hG hM hd hl hR hS hL hst c1 c2 s1 s2
  obtain ⟨off, h1, h2, h3⟩ := h
  subst h3
  have hy : okI y := ok_hd hst
  have hx2 : okI x := ok_hd (ok_tl hst)
  exact lv_icmp_lt hx hM.2.2.1 h1 h2 (fun hz => kt ((i32L hx2 hy).mp hz) p e R s m args below meth cd H locs cells slots kc ks ls hx hG hM hd hl hR hS hL (ok_tl (ok_tl hst)) c1 c2 s1 s2) (fun hz => kf (by have := mt (i32L hx2 hy).mpr hz; omega) p e R s m args below meth cd H locs cells slots kc ks ls hx hG hM hd hl hR hS hL (ok_tl (ok_tl hst)) c1 c2 s1 s2)
theorem aw_cge {x y : Int} (h : Kj q pc (.if_icmp .ge) tg nx) (kt : y ≤ x → aw l E q d tg L st M P) (kf : x < y → aw l E q d nx L st M P) : aw l E q d pc L (iV y :: iV x :: st) M P := by
  intro p e R s m args below meth cd H locs cells slots kc ks ls hx hG hM hd hl hR hS hL hst c1 c2 s1 s2
  obtain ⟨off, h1, h2, h3⟩ := h
  subst h3
  have hy : okI y := ok_hd hst
  have hx2 : okI x := ok_hd (ok_tl hst)
  exact lv_icmp_ge hx hM.2.2.1 h1 h2 (fun hz => kt ((i32B hy hx2).mp hz) p e R s m args below meth cd H locs cells slots kc ks ls hx hG hM hd hl hR hS hL (ok_tl (ok_tl hst)) c1 c2 s1 s2) (fun hz => kf (by have := mt (i32B hy hx2).mpr hz; omega) p e R s m args below meth cd H locs cells slots kc ks ls hx hG hM hd hl hR hS hL (ok_tl (ok_tl hst)) c1 c2 s1 s2)
theorem aw_cgt {x y : Int} (h : Kj q pc (.if_icmp .gt) tg nx) (kt : y < x → aw l E q d tg L st M P) (kf : x ≤ y → aw l E q d nx L st M P) : aw l E q d pc L (iV y :: iV x :: st) M P := by
  intro p e R s m args below meth cd H locs cells slots kc ks ls hx hG hM hd hl hR hS hL hst c1 c2 s1 s2
  obtain ⟨off, h1, h2, h3⟩ := h
  subst h3
  have hy : okI y := ok_hd hst
  have hx2 : okI x := ok_hd (ok_tl hst)
  exact lv_icmp_gt hx hM.2.2.1 h1 h2 (fun hz => kt ((i32L hy hx2).mp hz) p e R s m args below meth cd H locs cells slots kc ks ls hx hG hM hd hl hR hS hL (ok_tl (ok_tl hst)) c1 c2 s1 s2) (fun hz => kf (by have := mt (i32L hy hx2).mpr hz; omega) p e R s m args below meth cd H locs cells slots kc ks ls hx hG hM hd hl hR hS hL (ok_tl (ok_tl hst)) c1 c2 s1 s2)
theorem aw_cle {x y : Int} (h : Kj q pc (.if_icmp .le) tg nx) (kt : x ≤ y → aw l E q d tg L st M P) (kf : y < x → aw l E q d nx L st M P) : aw l E q d pc L (iV y :: iV x :: st) M P := by
  intro p e R s m args below meth cd H locs cells slots kc ks ls hx hG hM hd hl hR hS hL hst c1 c2 s1 s2
  obtain ⟨off, h1, h2, h3⟩ := h
  subst h3
  have hy : okI y := ok_hd hst
  have hx2 : okI x := ok_hd (ok_tl hst)
  exact lv_icmp_le hx hM.2.2.1 h1 h2 (fun hz => kt ((i32B hx2 hy).mp hz) p e R s m args below meth cd H locs cells slots kc ks ls hx hG hM hd hl hR hS hL (ok_tl (ok_tl hst)) c1 c2 s1 s2) (fun hz => kf (by have := mt (i32B hx2 hy).mpr hz; omega) p e R s m args below meth cd H locs cells slots kc ks ls hx hG hM hd hl hR hS hL (ok_tl (ok_tl hst)) c1 c2 s1 s2)
theorem aw_zeq {x : Int} (h : Kj q pc (.ifCond .eq) tg nx) (kt : x = 0 → aw l E q d tg L st M P) (kf : ¬ x = 0 → aw l E q d nx L st M P) : aw l E q d pc L (iV x :: st) M P := by
  intro p e R s m args below meth cd H locs cells slots kc ks ls hx hG hM hd hl hR hS hL hst c1 c2 s1 s2
  obtain ⟨off, h1, h2, h3⟩ := h
  subst h3
  have hx2 : okI x := ok_hd hst
  exact lv_if_eq hx hM.2.2.1 h1 h2 (fun hz => kt ((i32E hx2 ok0).mp hz) p e R s m args below meth cd H locs cells slots kc ks ls hx hG hM hd hl hR hS hL (ok_tl hst) c1 c2 s1 s2) (fun hz => kf (by have := mt (i32E hx2 ok0).mpr hz; omega) p e R s m args below meth cd H locs cells slots kc ks ls hx hG hM hd hl hR hS hL (ok_tl hst) c1 c2 s1 s2)
theorem aw_zne {x : Int} (h : Kj q pc (.ifCond .ne) tg nx) (kt : ¬ x = 0 → aw l E q d tg L st M P) (kf : x = 0 → aw l E q d nx L st M P) : aw l E q d pc L (iV x :: st) M P := by
  intro p e R s m args below meth cd H locs cells slots kc ks ls hx hG hM hd hl hR hS hL hst c1 c2 s1 s2
  obtain ⟨off, h1, h2, h3⟩ := h
  subst h3
  have hx2 : okI x := ok_hd hst
  exact lv_if_ne hx hM.2.2.1 h1 h2 (fun hz => kt (mt (i32E hx2 ok0).mpr hz) p e R s m args below meth cd H locs cells slots kc ks ls hx hG hM hd hl hR hS hL (ok_tl hst) c1 c2 s1 s2) (fun hz => kf ((i32E hx2 ok0).mp hz) p e R s m args below meth cd H locs cells slots kc ks ls hx hG hM hd hl hR hS hL (ok_tl hst) c1 c2 s1 s2)
theorem aw_zlt {x : Int} (h : Kj q pc (.ifCond .lt) tg nx) (kt : x < 0 → aw l E q d tg L st M P) (kf : 0 ≤ x → aw l E q d nx L st M P) : aw l E q d pc L (iV x :: st) M P := by
  intro p e R s m args below meth cd H locs cells slots kc ks ls hx hG hM hd hl hR hS hL hst c1 c2 s1 s2
  obtain ⟨off, h1, h2, h3⟩ := h
  subst h3
  have hx2 : okI x := ok_hd hst
  exact lv_if_lt hx hM.2.2.1 h1 h2 (fun hz => kt ((i32L hx2 ok0).mp hz) p e R s m args below meth cd H locs cells slots kc ks ls hx hG hM hd hl hR hS hL (ok_tl hst) c1 c2 s1 s2) (fun hz => kf (by have := mt (i32L hx2 ok0).mpr hz; omega) p e R s m args below meth cd H locs cells slots kc ks ls hx hG hM hd hl hR hS hL (ok_tl hst) c1 c2 s1 s2)
theorem aw_zge {x : Int} (h : Kj q pc (.ifCond .ge) tg nx) (kt : 0 ≤ x → aw l E q d tg L st M P) (kf : x < 0 → aw l E q d nx L st M P) : aw l E q d pc L (iV x :: st) M P := by
  intro p e R s m args below meth cd H locs cells slots kc ks ls hx hG hM hd hl hR hS hL hst c1 c2 s1 s2
  obtain ⟨off, h1, h2, h3⟩ := h
  subst h3
  have hx2 : okI x := ok_hd hst
  exact lv_if_ge hx hM.2.2.1 h1 h2 (fun hz => kt ((i32B ok0 hx2).mp hz) p e R s m args below meth cd H locs cells slots kc ks ls hx hG hM hd hl hR hS hL (ok_tl hst) c1 c2 s1 s2) (fun hz => kf (by have := mt (i32B ok0 hx2).mpr hz; omega) p e R s m args below meth cd H locs cells slots kc ks ls hx hG hM hd hl hR hS hL (ok_tl hst) c1 c2 s1 s2)
theorem aw_zgt {x : Int} (h : Kj q pc (.ifCond .gt) tg nx) (kt : 0 < x → aw l E q d tg L st M P) (kf : x ≤ 0 → aw l E q d nx L st M P) : aw l E q d pc L (iV x :: st) M P := by
  intro p e R s m args below meth cd H locs cells slots kc ks ls hx hG hM hd hl hR hS hL hst c1 c2 s1 s2
  obtain ⟨off, h1, h2, h3⟩ := h
  subst h3
  have hx2 : okI x := ok_hd hst
  exact lv_if_gt hx hM.2.2.1 h1 h2 (fun hz => kt ((i32L ok0 hx2).mp hz) p e R s m args below meth cd H locs cells slots kc ks ls hx hG hM hd hl hR hS hL (ok_tl hst) c1 c2 s1 s2) (fun hz => kf (by have := mt (i32L ok0 hx2).mpr hz; omega) p e R s m args below meth cd H locs cells slots kc ks ls hx hG hM hd hl hR hS hL (ok_tl hst) c1 c2 s1 s2)
theorem aw_zle {x : Int} (h : Kj q pc (.ifCond .le) tg nx) (kt : x ≤ 0 → aw l E q d tg L st M P) (kf : 0 < x → aw l E q d nx L st M P) : aw l E q d pc L (iV x :: st) M P := by
  intro p e R s m args below meth cd H locs cells slots kc ks ls hx hG hM hd hl hR hS hL hst c1 c2 s1 s2
  obtain ⟨off, h1, h2, h3⟩ := h
  subst h3
  have hx2 : okI x := ok_hd hst
  exact lv_if_le hx hM.2.2.1 h1 h2 (fun hz => kt ((i32B hx2 ok0).mp hz) p e R s m args below meth cd H locs cells slots kc ks ls hx hG hM hd hl hR hS hL (ok_tl hst) c1 c2 s1 s2) (fun hz => kf (by have := mt (i32B hx2 ok0).mpr hz; omega) p e R s m args below meth cd H locs cells slots kc ks ls hx hG hM hd hl hR hS hL (ok_tl hst) c1 c2 s1 s2)
theorem aw_go (h : Kj q pc .goto tg nx) (k : aw l E q d tg L st M P) : aw l E q d pc L st M P := by
  intro p e R s m args below meth cd H locs cells slots kc ks ls hx hG hM hd hl hR hS hL hst c1 c2 s1 s2
  obtain ⟨off, h1, h2, h3⟩ := h
  exact lv_goto hx hM.2.2.1 h1 h2 (k p e R s m args below meth cd H locs cells slots kc ks ls hx hG hM hd hl hR hS hL hst c1 c2 s1 s2)
end AW
end
section
section AW2
variable {l : Launch} {E : aE} {q : aK} {d pc nx tg : Nat} {L : List (Option aA)} {st : List aA} {M : aM} {P : aP} {S : aS} {g : aG} {u : aU}
theorem u_stW {C : String} {T : u_T} {N : Nat} : ∀ w ∈ u_ws C T N, stW w = true := by
  intro w hw
  obtain ⟨k, -, rfl⟩ := List.mem_map.mp hw
  unfold u_lay
  split <;> rfl
theorem aw_gi {c k i n : Nat} (h : Kg q pc c k false nx) (hh : hasA S i (c + 4) n) (kk : aw l E q d nx L (iV (g i k) :: st) (S, g, u) P) : aw l E q d pc L (rV i :: st) (S, g, u) P := by
  intro p e R s m args below meth cd H locs cells slots kc ks ls hx hG hM hd hl hR hS hL hst c1 c2 s1 s2
  obtain ⟨idx, h1, h2, ⟨C, T, N⟩, r1, r2, r3, r4, r5, r6⟩ := h
  subst h2
  have he : (wsA E S g)[i]? = some (E.1.2.1 + i, .inr (c, fsA E c (S.2.2 i) (g i))) := by rw [wsA_get hh.1, hh.2]; rfl
  exact va_get (ref := C) hx hM.2.2.1 (Ts := u_ws C T N) (fun w hw => cxW hG (r5 w hw) (u_stW w hw) args) (fun w hw => hw) (findClass_of_methodNamed hM.1) hG.2.2.2.2.1 hR.1 i he r1 k r2 (cxW hG r4 rfl args) (fun x hx => by rw [r3] at hx; exact hx) (fsA_get r6) h1 (kk p e R s m args below meth cd H locs cells slots kc ks ls hx hG hM hd hl hR hS hL (ok_cons (v := iV (g i k)) (hR.2.1 i k) (ok_tl hst)) c1 c2 s1 s2)
theorem aw_gr {c k i n : Nat} {j : Nat} (hr : S.2.2 i k = some j) (h : Kg q pc c k true nx) (hh : hasA S i (c + 4) n) (kk : aw l E q d nx L (rV j :: st) (S, g, u) P) : aw l E q d pc L (rV i :: st) (S, g, u) P := by
  intro p e R s m args below meth cd H locs cells slots kc ks ls hx hG hM hd hl hR hS hL hst c1 c2 s1 s2
  obtain ⟨idx, h1, h2, ⟨C, T, N⟩, r1, r2, r3, r4, r5, r6⟩ := h
  subst h2
  have he : (wsA E S g)[i]? = some (E.1.2.1 + i, .inr (c, fsA E c (S.2.2 i) (g i))) := by rw [wsA_get hh.1, hh.2]; rfl
  have hv := fsA_get (E := E) (rf := S.2.2 i) (sg := g i) r6
  rw [hr] at hv
  exact va_get (ref := C) hx hM.2.2.1 (Ts := u_ws C T N) (fun w hw => cxW hG (r5 w hw) (u_stW w hw) args) (fun w hw => hw) (findClass_of_methodNamed hM.1) hG.2.2.2.2.1 hR.1 i he r1 k r2 (cxW hG r4 rfl args) (fun x hx => by rw [r3] at hx; exact hx) hv h1 (kk p e R s m args below meth cd H locs cells slots kc ks ls hx hG hM hd hl hR hS hL (ok_cons (v := rV j) trivial (ok_tl hst)) c1 c2 s1 s2)
theorem w_put {p : Program} {e : Env} {R : Room} {s : State} {m : MethodId} {args : Array Value} {below : List Frame} {meth : Method} {c0 : Code} {H : Heap} {locs : List Loc} {cells slots : Nat} {Q : State → Prop} {ls : Array Slot} {rest : List Value} {c k i n : Nat} {b : Bool} {ty : FieldType} {fin : Bool} {v : Value}
    (hx : p.tables.exec = Jvm.exec) (hG : cxG l E s) (hM : cxM q s m meth c0) (hP : va_P E.2.1 vwCl (wsA E S g) H) (hS : va_S (fun a => E.1.2.1 ≤ a) s.heap H locs) (h : Kp q pc c k b ty fin nx) (hh : hasA S i (c + 4) n) (hn : narrow ty v = v) (hfit : fits ty v = true)
    (kk : ∀ (H1 : Heap) (locs1 : List Loc), va_P E.2.1 vwCl ((wsA E S g).set i (E.1.2.1 + i, .inr (c, (fsA E c (S.2.2 i) (g i)).set k v))) H1 → va_S (fun a => E.1.2.1 ≤ a) s.heap H1 locs1 → H1.size = H.size → W p l e R s m args below meth c0 H1 locs1 cells slots Q (F0 m nx ls rest)) :
    W p l e R s m args below meth c0 H locs cells slots Q (F0 m pc ls (v :: .ref (E.1.2.1 + i) :: rest)) := by
  obtain ⟨⟨idx, d1, d2, ⟨C, T, N⟩, r1, r2, r3, r4, r5, r6⟩, ⟨r', t0, o1, o2, o3, o4, o5, o6⟩, o7⟩ := h
  cases r1.symm.trans o1
  subst d2
  have he : (wsA E S g)[i]? = some (E.1.2.1 + i, .inr (c, fsA E c (S.2.2 i) (g i))) := by rw [wsA_get hh.1, hh.2]; rfl
  have hK := hG.2.2.2.2.1
  have hown : s.vm.findClass q.1.cls = some m.cls := findClass_of_methodNamed hM.1
  have hts : ∀ w ∈ u_ws C T N, w.before args s = true := fun w hw => cxW hG (r5 w hw) (u_stW w hw) args
  have hin : ∀ w ∈ u_ws C T N, w ∈ u_ws C T N := fun w hw => hw
  have hlink : (Cond.fieldLink q.1.cls idx C (T k).2.1 (T k).2.2.1).before args s = true := cxW hG r4 rfl args
  have hl : k < (fsA E c (S.2.2 i) (g i)).length := by rw [fsA_len]; exact (List.getElem?_eq_some_iff.mp r6).1
  have hD := wsA_D E S g
  have hd : parseFieldDescriptor (T k).2.2.1 = some ty := by rw [← o4]; exact o2 k r2
  have hap := va_apart (own := q.1.cls) hts hin t0 o2 o3 hK r1
  obtain ⟨r, h1, cell, q1, q2, q3, q4⟩ := hP i _ he
  have hr : r = (C, T, N) := Option.some.inj (h1.symm.trans r1)
  subst hr
  obtain ⟨hSl, hfc, kC, hkC, hkind⟩ := hK.1 c _ r1
  obtain ⟨cf, kf, fi, f, hi, hsl⟩ := hSl k r2
  have hi' : s.fieldFound? C (T k).2.1 (T k).2.2.1 = some (cf, kf, fi, f) := by rw [r3] at hi; exact hi
  have hlay := hts _ (hin _ (u_in_lay r2))
  unfold u_lay at hlay
  have hst := (u_facts hfc hkC (u_lays hts hin r2) hi).1
  cases fin with
  | false =>
    rw [if_neg (by rw [o5]; decide)] at hlay
    have h6 := u_store hfc hkC hkind hlay hi hd hn hfit
    refine W.putK hx hM.2.2.1 (f := f) ⟨hown, hlink, ⟨_, _, _, hi'⟩, hst⟩ (by rw [q2]; exact h6) q1 q3 (by rw [hsl]; exact k2_hasslot (q4 k r2)) rfl rfl d1 fun H' e1 e2 e3 => ?_
    rw [hsl] at e1 ⊢
    exact kk H' _ (hP.set hD he ⟨_, r1, t_OB.to (V := updV (vp_V (fsA E c (S.2.2 i) (g i))) k v) ⟨_, e1, q2, q3, t_set q4 hap r2 v⟩ (fun j _ => vp_updV_set hl v j)⟩ e3) (hS.put e2 e3 (hD.2 i _ he)) e2
  | true =>
    rw [if_pos o5] at hlay
    have hin2 : meth.name = "<init>" := ((name_of_methodNamed hM.1 hM.2.1).1).trans (o7 rfl)
    have hdecl : (T k).1 = q.1.cls := r3.trans (o6 rfl)
    have hcf : m.cls = cf := by
      obtain ⟨_, _, c', _, _, _, -, -, hf', -, -, -, hown2, -⟩ := Cond.laysFinal_spec hlay
      have e1 : c' = cf := by have := hi.symm.trans hf'; simp at this; exact this.1.symm
      rw [hdecl] at hown2
      rw [← e1]; exact Option.some.inj (hown.symm.trans hown2)
    have h6 := u_fits hfc hkC hkind (Or.inr hlay) hi hd hn hfit
    refine W.putFinK hx hM.2.2.1 hown hlink hi' hst hcf hin2 (by rw [q2]; exact h6) q1 q3 (by rw [hsl]; exact k2_hasslot (q4 k r2)) rfl rfl d1 fun H' e1 e2 e3 => ?_
    rw [hsl] at e1 ⊢
    exact kk H' _ (hP.set hD he ⟨_, r1, t_OB.to (V := updV (vp_V (fsA E c (S.2.2 i) (g i))) k v) ⟨_, e1, q2, q3, t_set q4 hap r2 v⟩ (fun j _ => vp_updV_set hl v j)⟩ e3) (hS.put e2 e3 (hD.2 i _ he)) e2
theorem nbz {x : Int} (h : x = 0 ∨ x = 1) : narrow .boolean (.int (Int32.ofInt x)) = .int (Int32.ofInt x) ∧ fits .boolean (.int (Int32.ofInt x)) = true := by
  rcases h with rfl | rfl <;> decide
theorem okG {g : aG} {i j : Nat} {x : Int} (h : ∀ a b, okI (g a b)) (hx : okI x) : ∀ a b, okI (upA g i j x a b) := by
  intro a b
  unfold upA
  split
  · exact hx
  · exact h a b
theorem pic_ne {E : aE} {S : aS} {g : aG} {i j : Nat} {x : Int} : ∀ a, a ≠ i → picA E (S.2.1 a) (S.2.2 a) (upA g i j x a) = picA E (S.2.1 a) (S.2.2 a) (g a) := by
  intro a ha
  have e : upA g i j x a = g a := by funext b; exact upA_ne (fun z => ha z.1)
  rw [e]
theorem aw_pi {c k i n : Nat} {x : Int} {fin : Bool} (h : Kp q pc c k false .int fin nx) (hh : hasA S i (c + 4) n) (kk : aw l E q d nx L st (S, upA g i k x, u) P) : aw l E q d pc L (iV x :: rV i :: st) (S, g, u) P := by
  intro p e R s m args below meth cd H locs cells slots kc ks ls hx hG hM hd hl hR hS hL hst c1 c2 s1 s2
  refine w_put hx hG hM hR.1 hS h hh rfl rfl fun H1 locs1 k1 k2 k3 => ?_
  have ew : (wsA E S g).set i (E.1.2.1 + i, .inr (c, (fsA E c (S.2.2 i) (g i)).set k (.int (Int32.ofInt x)))) = wsA E S (upA g i k x) := wsA_set hh.1 rfl (by rw [hh.2]; show _ = Sum.inr (c, fsA E c (S.2.2 i) (upA g i k x i)); rw [fsA_set (rf' := S.2.2 i) (sg' := upA g i k x i) h.1.choose_spec.2.2.choose_spec.2.2.2.2.2 (by simp [upA]) (fun j hj => ⟨rfl, upA_ne (fun z => hj z.2)⟩)]) pic_ne
  have k1 : va_P E.2.1 vwCl (wsA E S (upA g i k x)) H1 := by rw [← ew]; exact k1
  exact kk p e R s m args below meth cd H1 locs1 cells slots kc ks ls hx hG hM hd hl ⟨k1, okG hR.2.1 (ok_hd hst), fun z => k3.trans (hR.2.2 z)⟩ k2 hL (ok_tl (ok_tl hst)) c1 c2 s1 s2
theorem aw_pz {c k i n : Nat} {x : Int} {fin : Bool} (h : Kp q pc c k false .boolean fin nx) (hh : hasA S i (c + 4) n) (hz : x = 0 ∨ x = 1) (kk : aw l E q d nx L st (S, upA g i k x, u) P) : aw l E q d pc L (iV x :: rV i :: st) (S, g, u) P := by
  intro p e R s m args below meth cd H locs cells slots kc ks ls hx hG hM hd hl hR hS hL hst c1 c2 s1 s2
  refine w_put hx hG hM hR.1 hS h hh (nbz hz).1 (nbz hz).2 fun H1 locs1 k1 k2 k3 => ?_
  have ew : (wsA E S g).set i (E.1.2.1 + i, .inr (c, (fsA E c (S.2.2 i) (g i)).set k (.int (Int32.ofInt x)))) = wsA E S (upA g i k x) := wsA_set hh.1 rfl (by rw [hh.2]; show _ = Sum.inr (c, fsA E c (S.2.2 i) (upA g i k x i)); rw [fsA_set (rf' := S.2.2 i) (sg' := upA g i k x i) h.1.choose_spec.2.2.choose_spec.2.2.2.2.2 (by simp [upA]) (fun j hj => ⟨rfl, upA_ne (fun z => hj z.2)⟩)]) pic_ne
  have k1 : va_P E.2.1 vwCl (wsA E S (upA g i k x)) H1 := by rw [← ew]; exact k1
  exact kk p e R s m args below meth cd H1 locs1 cells slots kc ks ls hx hG hM hd hl ⟨k1, okG hR.2.1 (ok_hd hst), fun z => k3.trans (hR.2.2 z)⟩ k2 hL (ok_tl (ok_tl hst)) c1 c2 s1 s2
theorem aw_pr {c k i n j : Nat} {ty : FieldType} {fin : Bool} (h : Kp q pc c k true ty fin nx) (hh : hasA S i (c + 4) n) (hty : ∀ a, narrow ty (.ref a) = .ref a ∧ fits ty (.ref a) = true) (kk : aw l E q d nx L st ((S.1, S.2.1, upR S.2.2 i k (some j)), g, u) P) : aw l E q d pc L (rV j :: rV i :: st) (S, g, u) P := by
  intro p e R s m args below meth cd H locs cells slots kc ks ls hx hG hM hd hl hR hS hL hst c1 c2 s1 s2
  refine w_put hx hG hM hR.1 hS h hh (hty _).1 (hty _).2 fun H1 locs1 k1 k2 k3 => ?_
  have ew : (wsA E S g).set i (E.1.2.1 + i, .inr (c, (fsA E c (S.2.2 i) (g i)).set k (.ref (E.1.2.1 + j)))) = wsA E (S.1, S.2.1, upR S.2.2 i k (some j)) g := wsA_set (S' := (S.1, S.2.1, upR S.2.2 i k (some j))) hh.1 rfl (by show _ = picA E (S.2.1 i) (upR S.2.2 i k (some j) i) (g i); rw [hh.2]; show _ = Sum.inr (c, fsA E c (upR S.2.2 i k (some j) i) (g i)); rw [fsA_set (rf' := upR S.2.2 i k (some j) i) (sg' := g i) h.1.choose_spec.2.2.choose_spec.2.2.2.2.2 (by simp [upR, va_rf]) (fun j' hj => ⟨if_neg (fun z => hj z.2), rfl⟩)]) (fun a ha => by
    show picA E (S.2.1 a) (upR S.2.2 i k (some j) a) (g a) = _
    have e : upR S.2.2 i k (some j) a = S.2.2 a := by funext b; exact if_neg (fun z => ha z.1)
    rw [e])
  have k1 : va_P E.2.1 vwCl (wsA E (S.1, S.2.1, upR S.2.2 i k (some j)) g) H1 := by rw [← ew]; exact k1
  exact kk p e R s m args below meth cd H1 locs1 cells slots kc ks ls hx hG hM hd hl ⟨k1, hR.2.1, fun z => k3.trans (hR.2.2 z)⟩ k2 hL (ok_tl (ok_tl hst)) c1 c2 s1 s2
theorem aw_ia {i n j : Nat} {x : Int} (h : K1 q pc .iaload nx) (hh : hasA S i 0 n) (hj : x = (j : Int)) (hn : j < n) (kk : aw l E q d nx L (iV (g i j) :: st) (S, g, u) P) : aw l E q d pc L (iV x :: rV i :: st) (S, g, u) P := by
  intro p e R s m args below meth cd H locs cells slots kc ks ls hx hG hM hd hl hR hS hL hst c1 c2 s1 s2
  obtain ⟨h1, h2⟩ := h
  subst h2
  have hxo : okI x := ok_hd hst
  have he : (wsA E S g)[i]? = some (E.1.2.1 + i, .inl (E.2.2 0, n, .inl (fun j => Int32.ofInt (g i j)))) := by rw [wsA_get hh.1, hh.2]; rfl
  refine va_iald hx hM.2.2.1 hG.2.2.2.2.1 hR.1 i 0 he rfl (i32In hxo (by omega) (by omega)) h1 ?_
  rw [i32N hxo, show x.toNat = j by omega]
  exact kk p e R s m args below meth cd H locs cells slots kc ks ls hx hG hM hd hl hR hS hL (ok_cons (v := iV (g i j)) (hR.2.1 i j) (ok_tl (ok_tl hst))) c1 c2 s1 s2
theorem aw_za {i n j : Nat} {x : Int} (h : K1 q pc .baload nx) (hh : hasA S i 1 n) (hj : x = (j : Int)) (hn : j < n) (kk : aw l E q d nx L (iV (g i j) :: st) (S, g, u) P) : aw l E q d pc L (iV x :: rV i :: st) (S, g, u) P := by
  intro p e R s m args below meth cd H locs cells slots kc ks ls hx hG hM hd hl hR hS hL hst c1 c2 s1 s2
  obtain ⟨h1, h2⟩ := h
  subst h2
  have hxo : okI x := ok_hd hst
  have he : (wsA E S g)[i]? = some (E.1.2.1 + i, .inl (E.2.2 1, n, .inl (fun j => Int32.ofInt (g i j)))) := by rw [wsA_get hh.1, hh.2]; rfl
  refine va_zald hx hM.2.2.1 hG.2.2.2.2.1 hR.1 i 1 he rfl (i32In hxo (by omega) (by omega)) h1 ?_
  rw [i32N hxo, show x.toNat = j by omega]
  exact kk p e R s m args below meth cd H locs cells slots kc ks ls hx hG hM hd hl hR hS hL (ok_cons (v := iV (g i j)) (hR.2.1 i j) (ok_tl (ok_tl hst))) c1 c2 s1 s2
theorem aw_la {i n j : Nat} {x : Int} (h : K1 q pc .laload nx) (hh : hasA S i 2 n) (hj : x = (j : Int)) (hn : j < n) (kk : aw l E q d nx L (lV (g i j) :: st) (S, g, u) P) : aw l E q d pc L (iV x :: rV i :: st) (S, g, u) P := by
  intro p e R s m args below meth cd H locs cells slots kc ks ls hx hG hM hd hl hR hS hL hst c1 c2 s1 s2
  obtain ⟨h1, h2⟩ := h
  subst h2
  have hxo : okI x := ok_hd hst
  have he : (wsA E S g)[i]? = some (E.1.2.1 + i, .inl (E.2.2 2, n, .inr (.inl (fun j => Int64.ofInt (g i j))))) := by rw [wsA_get hh.1, hh.2]; rfl
  refine va_lald hx hM.2.2.1 hG.2.2.2.2.1 hR.1 i 2 he rfl (i32In hxo (by omega) (by omega)) h1 ?_
  rw [i32N hxo, show x.toNat = j by omega]
  exact kk p e R s m args below meth cd H locs cells slots kc ks ls hx hG hM hd hl hR hS hL (ok_cons (v := lV (g i j)) (hR.2.1 i j) (ok_tl (ok_tl hst))) c1 c2 s1 s2
theorem aw_aa {i n j i2 : Nat} {x : Int} (h : K1 q pc .aaload nx) (hh : hasA S i 3 n) (hj : x = (j : Int)) (hn : j < n) (hr : S.2.2 i j = some i2) (kk : aw l E q d nx L (rV i2 :: st) (S, g, u) P) : aw l E q d pc L (iV x :: rV i :: st) (S, g, u) P := by
  intro p e R s m args below meth cd H locs cells slots kc ks ls hx hG hM hd hl hR hS hL hst c1 c2 s1 s2
  obtain ⟨h1, h2⟩ := h
  subst h2
  have hxo : okI x := ok_hd hst
  have he : (wsA E S g)[i]? = some (E.1.2.1 + i, .inl (E.2.2 3, n, .inr (.inr (.inr (.inr (fun j => (S.2.2 i j).map (E.1.2.1 + ·))))))) := by rw [wsA_get hh.1, hh.2]; rfl
  have hc : H[E.1.2.1 + i]? = some (arrV (E.2.2 3) n (fun j => va_rf ((S.2.2 i j).map (E.1.2.1 + ·)))) := hR.1 i _ he
  refine W.aald (v := .ref (E.1.2.1 + i2)) hx hM.2.2.1 hc ((hG.2.2.2.2.1.2 3 (E.2.2 3, .array .int) rfl).1 n _) rfl (fun z => by cases z) (by rw [arrV_size]; exact i32In hxo (by omega) (by omega)) ?_ rfl rfl h1 ?_
  · rw [i32N hxo, show x.toNat = j by omega, arrV_read _ _ hn, hr]
    rfl
  · exact kk p e R s m args below meth cd H locs cells slots kc ks ls hx hG hM hd hl hR hS hL (ok_cons (v := rV i2) trivial (ok_tl (ok_tl hst))) c1 c2 s1 s2
theorem aw_len {i n : Nat} (h : K1 q pc .arraylength nx) (hh : hasA S i 0 n) (hn : okI (n : Int)) (kk : aw l E q d nx L (iV (n : Int) :: st) (S, g, u) P) : aw l E q d pc L (rV i :: st) (S, g, u) P := by
  intro p e R s m args below meth cd H locs cells slots kc ks ls hx hG hM hd hl hR hS hL hst c1 c2 s1 s2
  obtain ⟨h1, h2⟩ := h
  subst h2
  have he : (wsA E S g)[i]? = some (E.1.2.1 + i, .inl (E.2.2 0, n, .inl (fun j => Int32.ofInt (g i j)))) := by rw [wsA_get hh.1, hh.2]; rfl
  refine va_alen hx hM.2.2.1 hG.2.2.2.2.1 hR.1 i 0 he rfl (v := Int32.ofInt (n : Int)) (Int32.ofInt_eq_ofNat ..).symm h1 ?_
  exact kk p e R s m args below meth cd H locs cells slots kc ks ls hx hG hM hd hl hR hS hL (ok_cons (v := iV (n : Int)) hn (ok_tl hst)) c1 c2 s1 s2
theorem aw_slen (h : K1 q pc .arraylength nx) (hn : okI (E.1.2.2.1 : Int)) (kk : aw l E q d nx L (iV (E.1.2.2.1 : Int) :: st) M P) : aw l E q d pc L (sV :: st) M P := by
  intro p e R s m args below meth cd H locs cells slots kc ks ls hx hG hM hd hl hR hS hL hst c1 c2 s1 s2
  obtain ⟨h1, h2⟩ := h
  subst h2
  have g8 := hG.2.2.2.2.2.2.2.1
  have g9 := hG.2.2.2.2.2.2.2.2.1
  have g10 := hG.2.2.2.2.2.2.2.2.2
  refine va_slen hx hM.2.2.1 g8 (by omega) (by omega) hS h1 ?_
  rw [show Int32.ofNat E.1.2.2.1 = Int32.ofInt (E.1.2.2.1 : Int) from (Int32.ofInt_eq_ofNat ..).symm]
  exact kk p e R s m args below meth cd H locs cells slots kc ks ls hx hG hM hd hl hR hS hL (ok_cons (v := iV (E.1.2.2.1 : Int)) hn (ok_tl hst)) c1 c2 s1 s2
theorem aw_sld {j : Nat} {x : Int} (h : K1 q pc .iaload nx) (hj : x = (j : Int)) (hn : j < E.1.2.2.1) (kk : aw l E q d nx L (iV (E.1.2.2.2 j).toInt :: st) M P) : aw l E q d pc L (iV x :: sV :: st) M P := by
  intro p e R s m args below meth cd H locs cells slots kc ks ls hx hG hM hd hl hR hS hL hst c1 c2 s1 s2
  obtain ⟨h1, h2⟩ := h
  subst h2
  have hxo : okI x := ok_hd hst
  have g8 := hG.2.2.2.2.2.2.2.1
  have g9 := hG.2.2.2.2.2.2.2.2.1
  have g10 := hG.2.2.2.2.2.2.2.2.2
  refine va_sld hx hM.2.2.1 g8 (by omega) (by omega) hS (i32In hxo (by omega) (by omega)) h1 ?_
  rw [i32N hxo, show x.toNat = j by omega, ← i32R (E.1.2.2.2 j)]
  exact kk p e R s m args below meth cd H locs cells slots kc ks ls hx hG hM hd hl hR hS hL (ok_cons (v := iV (E.1.2.2.2 j).toInt) (okT _) (ok_tl (ok_tl hst))) c1 c2 s1 s2
theorem aw_iast {i n j : Nat} {x v : Int} (h : K1 q pc .iastore nx) (hh : hasA S i 0 n) (hj : x = (j : Int)) (hn : j < n) (kk : aw l E q d nx L st (S, upA g i j v, u) P) : aw l E q d pc L (iV v :: iV x :: rV i :: st) (S, g, u) P := by
  intro p e R s m args below meth cd H locs cells slots kc ks ls hx hG hM hd hl hR hS hL hst c1 c2 s1 s2
  obtain ⟨h1, h2⟩ := h
  subst h2
  have hvo : okI v := ok_hd hst
  have hxo : okI x := ok_hd (ok_tl hst)
  have hD := wsA_D E S g
  have he : (wsA E S g)[i]? = some (E.1.2.1 + i, .inl (E.2.2 0, n, .inl (fun b => Int32.ofInt ((g i) b)))) := by rw [wsA_get hh.1, hh.2]; rfl
  have hc : H[E.1.2.1 + i]? = some (arrV (E.2.2 0) n (fun j => Value.int (Int32.ofInt (g i j)))) := hR.1 i _ he
  refine W.iast hx hM.2.2.1 hc ((hG.2.2.2.2.1.2 0 (E.2.2 0, .int) rfl).1 n _) (fun z => by cases z) (by rw [arrV_size]; exact i32In hxo (by omega) (by omega)) rfl rfl h1 fun H1 e1 e2 e3 => ?_
  rw [i32N hxo, show x.toNat = j by omega, arrV_store] at e1
  have e4 : H1[E.1.2.1 + i]? = some (arrV (E.2.2 0) n (fun b => Value.int (Int32.ofInt (upA g i j v i b)))) := by
    rw [e1]; refine congrArg (fun z => some (arrV (E.2.2 0) n z)) (funext fun b => ?_)
    by_cases hb : b = j
    · subst hb; simp [updV, upA]
    · simp [updV, upA, hb]
  have k1 : va_P E.2.1 vwCl (wsA E S (upA g i j v)) H1 := by
    rw [← wsA_set (S := S) (S' := S) (g := g) (g' := upA g i j v) (e := .inl (E.2.2 0, n, .inl (fun b => Int32.ofInt ((upA g i j v i) b)))) hh.1 rfl (by rw [hh.2]; rfl) pic_ne]
    exact hR.1.set hD he e4 e3
  exact kk p e R s m args below meth cd H1 _ cells slots kc ks ls hx hG hM hd hl ⟨k1, okG hR.2.1 hvo, fun z => e2.trans (hR.2.2 z)⟩ (hS.put e2 e3 (hD.2 i _ he)) hL (ok_tl (ok_tl (ok_tl hst))) c1 c2 s1 s2
theorem aw_zast {i n j : Nat} {x v : Int} (h : K1 q pc .bastore nx) (hh : hasA S i 1 n) (hj : x = (j : Int)) (hn : j < n) (hz : v = 0 ∨ v = 1) (kk : aw l E q d nx L st (S, upA g i j v, u) P) : aw l E q d pc L (iV v :: iV x :: rV i :: st) (S, g, u) P := by
  intro p e R s m args below meth cd H locs cells slots kc ks ls hx hG hM hd hl hR hS hL hst c1 c2 s1 s2
  obtain ⟨h1, h2⟩ := h
  subst h2
  have hvo : okI v := ok_hd hst
  have hxo : okI x := ok_hd (ok_tl hst)
  have hnr : narrow .boolean (.int (Int32.ofInt v)) = .int (Int32.ofInt v) := by rcases hz with rfl | rfl <;> decide
  have hD := wsA_D E S g
  have he : (wsA E S g)[i]? = some (E.1.2.1 + i, .inl (E.2.2 1, n, .inl (fun b => Int32.ofInt ((g i) b)))) := by rw [wsA_get hh.1, hh.2]; rfl
  have hc : H[E.1.2.1 + i]? = some (arrV (E.2.2 1) n (fun j => Value.int (Int32.ofInt (g i j)))) := hR.1 i _ he
  refine W.zast hx hM.2.2.1 hc ((hG.2.2.2.2.1.2 1 (E.2.2 1, .boolean) rfl).1 n _) (fun z => by cases z) (by rw [arrV_size]; exact i32In hxo (by omega) (by omega)) rfl rfl h1 fun H1 e1 e2 e3 => ?_
  rw [hnr] at e1
  rw [i32N hxo, show x.toNat = j by omega, arrV_store] at e1
  have e4 : H1[E.1.2.1 + i]? = some (arrV (E.2.2 1) n (fun b => Value.int (Int32.ofInt (upA g i j v i b)))) := by
    rw [e1]; refine congrArg (fun z => some (arrV (E.2.2 1) n z)) (funext fun b => ?_)
    by_cases hb : b = j
    · subst hb; simp [updV, upA]
    · simp [updV, upA, hb]
  have k1 : va_P E.2.1 vwCl (wsA E S (upA g i j v)) H1 := by
    rw [← wsA_set (S := S) (S' := S) (g := g) (g' := upA g i j v) (e := .inl (E.2.2 1, n, .inl (fun b => Int32.ofInt ((upA g i j v i) b)))) hh.1 rfl (by rw [hh.2]; rfl) pic_ne]
    exact hR.1.set hD he e4 e3
  exact kk p e R s m args below meth cd H1 _ cells slots kc ks ls hx hG hM hd hl ⟨k1, okG hR.2.1 hvo, fun z => e2.trans (hR.2.2 z)⟩ (hS.put e2 e3 (hD.2 i _ he)) hL (ok_tl (ok_tl (ok_tl hst))) c1 c2 s1 s2
theorem aw_last {i n j : Nat} {x v : Int} (h : K1 q pc .lastore nx) (hh : hasA S i 2 n) (hj : x = (j : Int)) (hn : j < n) (kk : aw l E q d nx L st (S, upA g i j v, u) P) : aw l E q d pc L (lV v :: iV x :: rV i :: st) (S, g, u) P := by
  intro p e R s m args below meth cd H locs cells slots kc ks ls hx hG hM hd hl hR hS hL hst c1 c2 s1 s2
  obtain ⟨h1, h2⟩ := h
  subst h2
  have hvo : okI v := ok_hd hst
  have hxo : okI x := ok_hd (ok_tl hst)
  have hD := wsA_D E S g
  have he : (wsA E S g)[i]? = some (E.1.2.1 + i, .inl (E.2.2 2, n, .inr (.inl (fun b => Int64.ofInt ((g i) b))))) := by rw [wsA_get hh.1, hh.2]; rfl
  have hc : H[E.1.2.1 + i]? = some (arrV (E.2.2 2) n (fun j => Value.long (Int64.ofInt (g i j)))) := hR.1 i _ he
  refine W.last hx hM.2.2.1 hc ((hG.2.2.2.2.1.2 2 (E.2.2 2, .long) rfl).1 n _) (fun z => by cases z) (by rw [arrV_size]; exact i32In hxo (by omega) (by omega)) rfl rfl h1 fun H1 e1 e2 e3 => ?_
  rw [i32N hxo, show x.toNat = j by omega, arrV_store] at e1
  have e4 : H1[E.1.2.1 + i]? = some (arrV (E.2.2 2) n (fun b => Value.long (Int64.ofInt (upA g i j v i b)))) := by
    rw [e1]; refine congrArg (fun z => some (arrV (E.2.2 2) n z)) (funext fun b => ?_)
    by_cases hb : b = j
    · subst hb; simp [updV, upA]
    · simp [updV, upA, hb]
  have k1 : va_P E.2.1 vwCl (wsA E S (upA g i j v)) H1 := by
    rw [← wsA_set (S := S) (S' := S) (g := g) (g' := upA g i j v) (e := .inl (E.2.2 2, n, .inr (.inl (fun b => Int64.ofInt ((upA g i j v i) b))))) hh.1 rfl (by rw [hh.2]; rfl) pic_ne]
    exact hR.1.set hD he e4 e3
  exact kk p e R s m args below meth cd H1 _ cells slots kc ks ls hx hG hM hd hl ⟨k1, okG hR.2.1 hvo, fun z => e2.trans (hR.2.2 z)⟩ (hS.put e2 e3 (hD.2 i _ he)) hL (ok_tl (ok_tl (ok_tl hst))) c1 c2 s1 s2
theorem aw_reti {x : Int} (h : K1 q pc .ireturn nx) (ht : q.2.2.2.1 = some .int ∨ (q.2.2.2.1 = some .boolean ∧ (x = 0 ∨ x = 1))) (hp : P (.inl (some (iV x))) M) : aw l E q d pc L [iV x] M P := by
  intro p e R s m args below meth cd H locs cells slots kc ks ls hx hG hM hd hl hR hS hL hst c1 c2 s1 s2
  obtain ⟨h1, h2⟩ := h
  have key : ∃ ty, meth.sig.returnType = some ty ∧ narrow ty (.int (Int32.ofInt x)) = .int (Int32.ofInt x) := by
    rcases ht with ht | ⟨ht, hz⟩
    · exact ⟨_, hM.2.2.2.2.1.trans ht, rfl⟩
    · exact ⟨_, hM.2.2.2.2.1.trans ht, by rcases hz with rfl | rfl <;> decide⟩
  obtain ⟨ty, t1, t2⟩ := key
  have k := W.zret (p := p) (l := l) (e := e) (R := R) (s := s) (m := m) (args := args) (below := below) (meth := meth) (c := cd) (H := H) (locs := locs) (cells := cells) (slots := slots) (ls := ls) (Qc := fun _ _ o t => o = .returned (some (.int (Int32.ofInt x))) ∧ t.heap = H) (free := fun a => E.1.2.1 ≤ a) hx hM.2.2.1 t1 t2 (fun t e1 _ => ⟨rfl, e1⟩) hS.2.2 h1 hM.2.2.2.2.2.1
  intro T hT X
  obtain ⟨t, a1, o, b1, b2, ⟨b3, b4⟩, Lo, ⟨-, b5, b6⟩, b7⟩ := k T hT X
  exact ⟨t, a1, o, _, M, Lo, cells, slots, b1, b2, hp, ⟨b3, ok_hd hst⟩, b5, by rw [b4]; exact hR, b6, b7, c1, s1⟩
theorem aw_retv (h : K1 q pc .return_ nx) (ht : q.2.2.2.1 = none) (hp : P (.inl none) M) : aw l E q d pc L [] M P := by
  intro p e R s m args below meth cd H locs cells slots kc ks ls hx hG hM hd hl hR hS hL hst c1 c2 s1 s2
  obtain ⟨h1, h2⟩ := h
  have k := W.vret (p := p) (l := l) (e := e) (R := R) (s := s) (m := m) (args := args) (below := below) (meth := meth) (c := cd) (H := H) (locs := locs) (cells := cells) (slots := slots) (ls := ls) (Qc := fun _ _ o t => o = .returned none ∧ t.heap = H) (free := fun a => E.1.2.1 ≤ a) hx hM.2.2.1 (hM.2.2.2.2.1.trans ht) (fun t e1 _ => ⟨rfl, e1⟩) hS.2.2 h1 hM.2.2.2.2.2.1
  intro T hT X
  obtain ⟨t, a1, o, b1, b2, ⟨b3, b4⟩, Lo, ⟨-, b5, b6⟩, b7⟩ := k T hT X
  exact ⟨t, a1, o, _, M, Lo, cells, slots, b1, b2, hp, b3, b5, by rw [b4]; exact hR, b6, b7, c1, s1⟩
end AW2
end
section
section AW3
variable {l : Launch} {E : aE} {q : aK} {d pc nx tg : Nat} {L : List (Option aA)} {st : List aA} {M : aM} {P : aP} {S : aS} {g : aG} {u : aU}
/-- a method that the tables hold -/
abbrev Kq (q : aK) : Prop := plainName q.1.cls = true ∧ (q.1.cls ≠ "java/lang/invoke/MethodHandle" ∧ q.1.cls ≠ "java/lang/invoke/VarHandle") ∧ q.2.2.1 ≤ 7 ∧ ((q.2.2.2.2 = [] ∧ Cond.code q.1 q.2.1 q.2.2.1 q.2.2.2.1 ∈ lw_tbl) ∨ Cond.codeWith q.1 q.2.1 q.2.2.1 q.2.2.2.1 q.2.2.2.2 ∈ lw_tbl) ∧ Cond.initialized q.1.cls ∈ lw_tbl
theorem cxM_of {s : State} (hG : cxG l E s) (h : Kq q) : ∃ m meth c, cxM q s m meth c ∧ meth.code = some c ∧ parseMethodDescriptor q.1.desc = some meth.sig := by
  obtain ⟨-, -, -, h | h, -⟩ := h
  · have hw : (Cond.code q.1 q.2.1 q.2.2.1 q.2.2.2.1).before #[] s = true := cxW hG h.2 rfl #[]
    obtain ⟨m, hn⟩ := Cond.code_named hw
    obtain ⟨meth, c, h1, h2, h3, h4, h5, h6, h7, h8⟩ := Cond.code_spec hn hw
    refine ⟨m, meth, c, ⟨hn, h1, h3, h4, h5, h6, ?_⟩, h2, h8⟩
    rw [h.1]
    have h9 : c.exceptionTable.toList = [] := by simpa using h7
    rw [h9]; rfl
  · have hw : (Cond.codeWith q.1 q.2.1 q.2.2.1 q.2.2.2.1 q.2.2.2.2).before #[] s = true := cxW hG h rfl #[]
    obtain ⟨m, meth, c, hn, h1, h2, h3, h4, h5, h6, h7, h8⟩ := Cond.codeWith_spec hw
    exact ⟨m, meth, c, ⟨hn, h1, h3, h4, h6, h7, h5⟩, h2, h8⟩
theorem lg_sl1 : ∀ {vs : List Value}, (∀ v ∈ vs, v.category = 1) → lg_sl vs = vs.map Slot.val
  | [], _ => rfl
  | v :: vs, h => by
    have h1 : v.category = 1 := h v List.mem_cons_self
    have h2 := lg_sl1 (vs := vs) fun w hw => h w (List.mem_cons_of_mem _ hw)
    show (if v.category = 2 then [Slot.val v, Slot.second] else [Slot.val v]) ++ lg_sl vs = _
    rw [h2, h1]
    rfl
theorem lvA_mem : ∀ (vs : List Value) (n : Nat), (∀ v ∈ vs, v.category = 1) → ∀ (k : Nat) (v : Value), vs[k]? = some v → (n + k, v) ∈ lv_args n vs
  | [], _, _, _, _, h => by simp at h
  | w :: vs, n, hc, 0, v, h => by
    have : w = v := by simpa using h
    subst this
    exact List.mem_cons_self
  | w :: vs, n, hc, k + 1, v, h => by
    have h1 : w.category = 1 := hc w List.mem_cons_self
    have h2 := lvA_mem vs (n + 1) (fun x hx => hc x (List.mem_cons_of_mem _ hx)) k v (by simpa using h)
    have e : lv_args n (w :: vs) = (n, w) :: lv_args (n + 1) vs := by
      show (n, w) :: lv_args (if w.category = 2 then n + 2 else n + 1) vs = _
      rw [h1]
      rfl
    rw [e, show n + (k + 1) = n + 1 + k by omega]
    exact List.mem_cons_of_mem _ h2
theorem lsA_entry {as : List aA} {n : Nat} (has : ∀ v ∈ as, okA v ∧ (cvA E v).category = 1) (hn : as.length ≤ n) : lsA E n (as.map some ++ List.replicate (7 - as.length) none) ((lg_sl (as.map (cvA E)) ++ List.replicate (n - (lg_sl (as.map (cvA E))).length) Slot.unset).toArray) := by
  have hc : ∀ v ∈ as.map (cvA E), v.category = 1 := by
    intro v hv
    obtain ⟨x, hx, rfl⟩ := List.mem_map.mp hv
    exact (has x hx).2
  have hl : (lg_sl (as.map (cvA E))).length ≤ n := by rw [lg_sl1 hc]; simpa using hn
  obtain ⟨e1, e2, e3⟩ := lv_entry (as.map (cvA E)) hl
  refine ⟨e1, e2, fun k v hk => ?_⟩
  by_cases hka : k < as.length
  · rw [List.getElem?_append_left (by simpa using hka)] at hk
    have h1 : as[k]? = some v := by simpa using hk
    refine ⟨?_, has v (List.mem_of_getElem? h1)⟩
    have h2 := e3 (0 + k, cvA E v) (lvA_mem _ 0 hc k _ (by simp [h1]))
    rw [Nat.zero_add] at h2
    exact h2
  · rw [List.getElem?_append_right (by simpa using Nat.not_lt.mp hka), List.getElem?_replicate] at hk
    split at hk <;> cases hk
theorem aw_call0 {p : Program} {e : Env} {R : Room} {s : State} {m : MethodId} {args : Array Value} {below : List Frame} {meth : Method} {c : Code} {U : State} {locs : List Loc} {cells slots : Nat} {q' : aK} {as : List aA} {P' : aP} {mk : MethodId} {methk : Method} {ck : Code}
    (X : Stand p l e R s m args below meth c U locs cells slots) (hx : p.tables.exec = Jvm.exec) (hG : cxG l E s) (hd : d + 1 ≤ R.frames) (hl : 36 * (d + 1) ≤ R.locals) (hR : rlA E M U.heap) (hS : va_S (fun a => E.1.2.1 ≤ a) s.heap U.heap locs) (hc : cells + M.2.2.1 ≤ R.cells) (hs : slots + M.2.2.2.1 ≤ R.slots)
    {g : JFrame} (hg : g.method = m) (hsize : g.locals.size = c.maxLocals) {ig : Instr} (hdg : decode c.code g.pc = .ok (ig, 3)) (hroom : 2 * g.monitorRoom + (g.stack.map fun v => v.category).sum + q'.2.2.1 ≤ 25)
    (hM' : cxM q' s mk methk ck) (hck : methk.code = some ck) (hpl : plainName q'.1.cls = true) (has : ∀ v ∈ as, okA v ∧ (cvA E v).category = 1) (hlen : as.length ≤ q'.2.2.1) (k : Sp l E q' d as M P') :
    ∃ (r : aR) (M' : aM) (B : State) (lo : List Loc) (kc ks : Nat), P' r M' ∧ Stand p l e R s m args below meth c B lo kc ks ∧ rlA E M' B.heap ∧ va_S (fun a => E.1.2.1 ≤ a) s.heap B.heap lo ∧ kc + M'.2.2.1 ≤ cells + M.2.2.1 ∧ ks + M'.2.2.2.1 ≤ slots + M.2.2.2.1 ∧
      ((∃ v : Option aA, r = .inl v ∧ (∀ w, v = some w → okA w) ∧ Steps p.tables e below (doInvoke e (U.setTop g) [] mk (as.map (cvA E)).toArray).1 (B.setTop { g with pc := g.pc + 3, stack := (v.map (cvA E)).toList ++ g.stack })) ∨
        ∃ (C : String) (a : Addr) (ce : Cell), r = .inr C ∧ B.heap[a]? = some ce ∧ ce.vm = .none ∧ s.vm.findClass C = some ce.cls ∧ Steps p.tables e below (doInvoke e (U.setTop g) [] mk (as.map (cvA E)).toArray).1 ((B.setTop g).pushFrame (.throwing a))) := by
  have hvm : (U.calling g mk (as.map (cvA E)).toArray).vm = U.vm := Stand.throwing_vm U g 0
  have hheap : (U.calling g mk (as.map (cvA E)).toArray).heap = U.heap := Stand.throwing_heap U g 0
  have hnU : U.methodNamed? q'.1 = some mk := X.named hM'.1
  have hmU : U.vm.method? mk = some methk := by rw [X.warmed.alike.method?]; exact hM'.2.1
  have hpk : U.plainMethod mk := by
    intro kx hkx
    obtain ⟨k2, h1, h2⟩ := className_of_methodNamed hnU
    cases h1.symm.trans hkx
    rw [h2, hpl]; rfl
  obtain ⟨Y, hdo⟩ := X.into hg hsize hdg (as.map (cvA E)).toArray (R' := { frames := d, locals := 36 * d, cells := M.2.2.1, slots := M.2.2.2.1 }) hmU hck hM'.2.2.2.2.2.1 hpk (by show d + 1 ≤ R.frames; omega) (by rw [hM'.2.2.2.1]; show _ + 36 * d ≤ R.locals; omega) hc hs
  have hW : s.WarmedH (U.calling g mk (as.map (cvA E)).toArray).vm := by rw [hvm]; exact X.warmed
  have hSc : va_S (fun a => E.1.2.1 ≤ a) s.heap (U.calling g mk (as.map (cvA E)).toArray).heap locs := by rw [hheap]; exact hS
  have hG' := hG.move hW hSc
  have hn' : (U.calling g mk (as.map (cvA E)).toArray).methodNamed? q'.1 = some mk := by
    have h1 : (s.setVm (U.calling g mk (as.map (cvA E)).toArray).vm).methodNamed? q'.1 = some mk := by rw [State.methodNamed?_setVm hW.alike]; exact hM'.1
    exact h1
  have hMc : cxM q' (U.calling g mk (as.map (cvA E)).toArray) mk methk ck := ⟨hn', by rw [hvm]; exact hmU, hM'.2.2⟩
  have kW := k p e { frames := d, locals := 36 * d, cells := M.2.2.1, slots := M.2.2.2.1 } (U.calling g mk (as.map (cvA E)).toArray) mk (as.map (cvA E)).toArray (.java g :: below) methk ck U.heap [] 0 0 M.2.2.1 M.2.2.2.1 _ hx hG' hMc (Nat.le_refl _) (Nat.le_refl _) hR (by rw [hheap]; exact va_S.rf) (lsA_entry has hlen) (fun v hv => nomatch hv) (by omega) (Nat.le_refl _) (by omega) (Nat.le_refl _)
  have he : entryFrame mk (as.map (cvA E)).toArray ck.maxLocals = F0 mk 0 ((lg_sl (as.map (cvA E)) ++ List.replicate (q'.2.2.1 - (lg_sl (as.map (cvA E))).length) Slot.unset).toArray) [] := by rw [lg_entry_eq, hM'.2.2.2.1]
  have hT0 : ((U.setTop g).pushFrame (.java (entryFrame mk (as.map (cvA E)).toArray ck.maxLocals))).heap = U.heap := by
    simp [State.pushFrame, State.setFrames, State.setTop, State.modifyTopJava]
  obtain ⟨t, a1, o, r, M', Lo, k', n', b1, b2, b3, b4, b5, b6, b7, b8, b9, b10⟩ := kW _ hT0 Y
  have a2 : Steps p.tables e below (doInvoke e (U.setTop g) [] mk (as.map (cvA E)).toArray).1 t := by
    rw [hdo [], he]
    rw [he] at a1
    exact Steps.weaken (mid := [.java g]) a1
  have hfr := vx_frame b7
  rw [hheap] at hfr
  have hSt : va_S (fun a => E.1.2.1 ≤ a) s.heap t.heap (locs ++ Lo) := ⟨Nat.le_trans hS.1 hfr.1, fun a h1 h2 => (hfr.2 a (Nat.lt_of_lt_of_le h1 hS.1) (fun z hz e => h2 (by rw [← e]; exact b8 z hz))).trans (hS.2.1 a h1 h2), fun z hz => (List.mem_append.mp hz).elim (hS.2.2 z) (b8 z)⟩
  match r, b4 with
  | .inl none, b4 =>
    have b4' : o = .returned none := b4
    subst b4'
    obtain ⟨B, XB, -, -, hB⟩ := X.outOf hg hdg b2 b5 b7
    have hBh : B.heap = t.heap := by rw [hB]; simp [State.setTop, State.modifyTopJava, State.setFrames]
    exact ⟨.inl none, M', B, locs ++ Lo, cells + k', slots + n', b3, XB, by rw [hBh]; exact b6, by rw [hBh]; exact hSt, by omega, by omega, Or.inl ⟨none, rfl, fun w hw => (by cases hw), by rw [hB] at a2; exact a2⟩⟩
  | .inl (some v), b4 =>
    have b4' : o = .returned (some (cvA E v)) ∧ okA v := b4
    obtain ⟨rfl, hv⟩ := b4'
    obtain ⟨B, XB, -, -, hB⟩ := X.outOf hg hdg b2 b5 b7
    have hBh : B.heap = t.heap := by rw [hB]; simp [State.setTop, State.modifyTopJava, State.setFrames]
    exact ⟨.inl (some v), M', B, locs ++ Lo, cells + k', slots + n', b3, XB, by rw [hBh]; exact b6, by rw [hBh]; exact hSt, by omega, by omega, Or.inl ⟨some v, rfl, fun w hw => (by cases hw; exact hv), by rw [hB] at a2; exact a2⟩⟩
  | .inr C, b4 =>
    obtain ⟨a, ce, rfl, f1, f2, f3⟩ := (b4 : ∃ (a : Addr) (ce : Cell), o = .threw a ∧ t.heap[a]? = some ce ∧ ce.vm = .none ∧ (U.calling g mk (as.map (cvA E)).toArray).vm.findClass C = some ce.cls)
    obtain ⟨B, XB, -, -, hB⟩ := X.outOfThrown hg b2 b5 b7
    have hBh : B.heap = t.heap := by rw [hB]; exact (Stand.throwing_heap B g a).symm
    exact ⟨.inr C, M', B, locs ++ Lo, cells + k', slots + n', b3, XB, by rw [hBh]; exact b6, by rw [hBh]; exact hSt, by omega, by omega, Or.inr ⟨C, a, ce, rfl, by rw [hBh]; exact f1, f2, by rw [← hW.alike.findClass]; exact f3, by rw [hB] at a2; exact a2⟩⟩
/-- what is owed behind a call -/
def cnA (l : Launch) (E : aE) (q : aK) (d nx : Nat) (L : List (Option aA)) (st : List aA) (P : aP) : aP := fun r M => match r with
  | .inl none => aw l E q d nx L st M P
  | .inl (some v) => aw l E q d nx L (v :: st) M P
  | .inr C => P (.inr C) M
theorem covN {c : Code} (h : c.exceptionTable.toList.map (fun h => (h.startPc, h.endPc, h.handlerPc, h.catchType)) = []) (pc : Nat) : ∀ x ∈ c.exceptionTable.toList, covers x pc = false := by
  intro x hx
  rw [List.map_eq_nil_iff.mp h] at hx
  cases hx
/-- the end of a call in a method without handlers -/
theorem aw_back {p : Program} {e : Env} {R : Room} {s : State} {m : MethodId} {args : Array Value} {below : List Frame} {meth : Method} {c : Code} {kc ks : Nat} {ls : Array Slot}
    (hx : p.tables.exec = Jvm.exec) (hG : cxG l E s) (hM : cxM q s m meth c) (hd : d ≤ R.frames) (hl : 36 * d ≤ R.locals) (hL : lsA E q.2.2.1 L ls) (hst : ∀ v ∈ st, okA v) (h0 : q.2.2.2.2 = []) (c2 : kc ≤ R.cells) (s2 : ks ≤ R.slots) {lo : List Loc} {c0 s0 : Nat} {B : State} {r : aR} {M' : aM} {D : State}
    (b1 : cnA l E q d (pc + 3) L st P r M') (b2 : Stand p l e R s m args below meth c B lo c0 s0) (b3 : rlA E M' B.heap) (b4 : va_S (fun a => E.1.2.1 ≤ a) s.heap B.heap lo) (b5 : c0 + M'.2.2.1 ≤ kc) (b6 : s0 + M'.2.2.2.1 ≤ ks)
    (b7 : (∃ v : Option aA, r = .inl v ∧ (∀ w, v = some w → okA w) ∧ Steps p.tables e below D (B.setTop { F0 m pc ls (st.map (cvA E)) with pc := pc + 3, stack := (v.map (cvA E)).toList ++ st.map (cvA E) })) ∨
        ∃ (C : String) (a : Addr) (ce : Cell), r = .inr C ∧ B.heap[a]? = some ce ∧ ce.vm = .none ∧ s.vm.findClass C = some ce.cls ∧ Steps p.tables e below D ((B.setTop (F0 m pc ls (st.map (cvA E)))).pushFrame (.throwing a))) :
    ∃ t, Steps p.tables e below D t ∧ enA E P below s kc ks t := by
  rcases b7 with ⟨v, rfl, hv, hsteps⟩ | ⟨C, a, ce, rfl, f1, f2, f3, hsteps⟩
  · cases v with
    | none =>
      have k1 : aw l E q d (pc + 3) L st M' P := b1
      obtain ⟨t, a1, a2⟩ := k1 p e R s m args below meth c B.heap lo c0 s0 kc ks ls hx hG hM hd hl b3 b4 hL hst b5 c2 b6 s2 B rfl b2
      exact ⟨t, hsteps.trans a1, a2⟩
    | some v =>
      have k1 : aw l E q d (pc + 3) L (v :: st) M' P := b1
      obtain ⟨t, a1, a2⟩ := k1 p e R s m args below meth c B.heap lo c0 s0 kc ks ls hx hG hM hd hl b3 b4 hL (ok_cons (hv v rfl) hst) b5 c2 b6 s2 B rfl b2
      exact ⟨t, hsteps.trans a1, a2⟩
  · have hex : c.exceptionTable.toList.map (fun h => (h.startPc, h.endPc, h.handlerPc, h.catchType)) = [] := by rw [hM.2.2.2.2.2.2, h0]
    obtain ⟨st1, hrun, hend, hW, hsm⟩ := b2.leaveThrown a (g := F0 m pc ls (st.map (cvA E))) rfl rfl rfl (covN hex pc) hM.2.2.2.2.2.1
    exact ⟨_, hsteps.trans st1, .threw a, .inr C, M', lo, c0, s0, hrun, hend, b1, ⟨a, ce, rfl, f1, f2, f3⟩, hW, b3, hsm, b4.2.2, b5, b6⟩
abbrev KS (q : aK) (pc : Nat) (q' : aK) (n nx : Nat) : Prop := Kq q' ∧ n ≤ q'.2.2.1 ∧ Cond.static q'.1 ∈ lw_tbl ∧ pc + 3 = nx ∧ (parseMethodDescriptor q'.1.desc).map (fun d => d.parameters.length) = some n ∧ ∃ idx, decode q.2.1 pc = .ok (.invokestatic idx, 3) ∧ (Cond.methodLink q.1.cls idx q'.1 ∈ lw_tbl ∨ ∃ host, Cond.methodLinkNest q.1.cls idx q'.1 host ∈ lw_tbl)
abbrev KV (q : aK) (pc : Nat) (q' : aK) (ci n nx : Nat) : Prop := Kq q' ∧ n + 1 ≤ q'.2.2.1 ∧ Cond.instanceMethod q'.1 ∈ lw_tbl ∧ Cond.selects q'.1.cls q'.1 q'.1 ∈ lw_tbl ∧ pc + 3 = nx ∧ (parseMethodDescriptor q'.1.desc).map (fun d => d.parameters.length) = some n ∧ (∃ r, vwCl[ci]? = some r ∧ r.1 = q'.1.cls) ∧ ∃ idx, decode q.2.1 pc = .ok (.invokevirtual idx, 3) ∧ Cond.methodLink q.1.cls idx q'.1 ∈ lw_tbl
abbrev KI (q : aK) (pc : Nat) (q' : aK) (n nx : Nat) : Prop := Kq q' ∧ n + 1 ≤ q'.2.2.1 ∧ q'.2.2.2.2 = [] ∧ q'.2.2.2.1 = none ∧ Cond.code q'.1 q'.2.1 q'.2.2.1 none ∈ lw_tbl ∧ q'.1.name = "<init>" ∧ Cond.instanceMethod q'.1 ∈ lw_tbl ∧ pc + 3 = nx ∧ (parseMethodDescriptor q'.1.desc).map (fun d => d.parameters.length) = some n ∧ ∃ idx, decode q.2.1 pc = .ok (.invokespecial idx, 3) ∧ Cond.methodLink q.1.cls idx q'.1 ∈ lw_tbl
theorem sumC (E : aE) : ∀ st : List aA, ((st.map (cvA E)).map fun v => v.category).sum ≤ 2 * st.length
  | [] => Nat.le_refl _
  | v :: st => by
    have h := sumC E st
    have h1 : (cvA E v).category ≤ 2 := by rcases lv_cat (cvA E v) with h | h <;> omega
    simp only [List.map_cons, List.sum_cons, List.length_cons] at h ⊢
    omega
theorem ok_as {i : Nat} {as : List aA} (h1 : ∀ v ∈ as, okA v) (h2 : ∀ v ∈ as, (cvA E v).category = 1) : ∀ v ∈ rV i :: as, okA v ∧ (cvA E v).category = 1 := List.forall_mem_cons.mpr ⟨⟨trivial, rfl⟩, fun v hv => ⟨h1 v hv, h2 v hv⟩⟩
theorem nparams {q' : aK} {n : Nat} (h : (parseMethodDescriptor q'.1.desc).map (fun d => d.parameters.length) = some n) {sig : MethodDescriptor} (hs : parseMethodDescriptor q'.1.desc = some sig) : n = sig.parameters.length := by
  rw [hs] at h
  exact (Option.some.inj h).symm
theorem aw_S {q' : aK} {n : Nat} {as : List aA} (h : KS q pc q' n nx) (h0 : q.2.2.2.2 = []) (hn : as.length = n) (hrm : 2 * st.length + q'.2.2.1 ≤ 25) (has : ∀ v ∈ as, (cvA E v).category = 1) (k : Sp l E q' d as M (cnA l E q (d + 1) nx L st P)) : aw l E q (d + 1) pc L (as.reverse ++ st) M P := by
  intro p e R s m args below meth cd H locs cells slots kc ks ls hx hG hM hd hl hR hS hL hst c1 c2 s1 s2
  obtain ⟨hq, hmx, hstat, h2, hnp, idx, h1, hlk⟩ := h
  subst h2
  obtain ⟨mk, methk, ck, hM', hck, hsig⟩ := cxM_of hG hq
  obtain ⟨kP, hkP, -⟩ := className_of_methodNamed hM'.1
  have hinitP : kP.init = .initialized := Cond.initialized_spec (findClass_of_methodNamed hM'.1) hkP (cxW hG hq.2.2.2.2 rfl args)
  have hstatic : methk.isStatic = true := Cond.static_spec hM'.1 hM'.2.1 (cxW hG hstat rfl args)
  have hst1 : ∀ v ∈ as, okA v := fun v hv => hst v (List.mem_append_left _ (List.mem_reverse.mpr hv))
  have hst2 : ∀ v ∈ st, okA v := fun v hv => hst v (List.mem_append_right _ hv)
  intro T hT X
  have hstk : (F0 m pc ls ((as.reverse ++ st).map (cvA E))).stack = (as.map (cvA E)).reverse ++ st.map (cvA E) := by
    show (as.reverse ++ st).map (cvA E) = _
    rw [List.map_append, List.map_reverse]
  have hdg : decode cd.code (F0 m pc ls ((as.reverse ++ st).map (cvA E))).pc = .ok (.invokestatic idx, 3) := by rw [hM.2.2.1]; exact h1
  have hl1 : (as.map (cvA E)).length = methk.sig.parameters.length := by rw [List.length_map, hn]; exact nparams hnp hsig
  have key : ∃ vm', Stand p l e R s m args below meth cd (T.setVm vm') locs cells slots ∧ ∀ target, (∀ acts, Steps p.tables e below (doInvoke e ((T.setVm vm').setTop { F0 m pc ls ((as.reverse ++ st).map (cvA E)) with stack := st.map (cvA E) }) acts mk (as.map (cvA E)).toArray).1 target) → Steps p.tables e below (T.setTop (F0 m pc ls ((as.reverse ++ st).map (cvA E)))) target := by
    rcases hlk with hlk | ⟨host, hlk⟩
    · exact X.invokestatic hx (findClass_of_methodNamed hM.1) (cxW hG hlk rfl args) hM'.1 hM'.2.1 hstatic hkP hinitP hq.2.1 (g := F0 m pc ls ((as.reverse ++ st).map (cvA E))) rfl hl1 hstk hdg
    · exact X.invokestaticNest hx (findClass_of_methodNamed hM.1) (cxW hG hlk rfl args) hM'.1 hM'.2.1 hstatic hkP hinitP hq.2.1 (g := F0 m pc ls ((as.reverse ++ st).map (cvA E))) rfl hl1 hstk hdg
  obtain ⟨vm', X', hstep⟩ := key
  obtain ⟨r, M', B, lo, c0, s0, b1, b2, b3, b4, b5, b6, b7⟩ := aw_call0 X' hx hG hd hl (by show rlA E M T.heap; rw [hT]; exact hR) (by show va_S _ _ T.heap _; rw [hT]; exact hS) (by omega) (by omega) (g := F0 m pc ls (st.map (cvA E))) rfl (by show ls.size = _; rw [hL.1, hM.2.2.2.1]) (ig := .invokestatic idx) (by rw [hM.2.2.1]; exact h1) (by have := sumC E st; show 2 * 0 + ((st.map (cvA E)).map fun v => v.category).sum + q'.2.2.1 ≤ 25; omega) hM' hck hq.1 (fun v hv => ⟨hst1 v hv, has v hv⟩) (by omega) k
  obtain ⟨t, a1, a2⟩ := aw_back hx hG hM hd hl hL hst2 h0 c2 s2 b1 b2 b3 b4 (by omega) (by omega) b7
  exact ⟨t, hstep t (fun acts => by rw [doInvoke_state]; exact a1), a2⟩
theorem aw_V {q' : aK} {ci n i nn : Nat} {S : aS} {g : aG} {u : aU} {as : List aA} (h : KV q pc q' ci n nx) (h0 : q.2.2.2.2 = []) (hn : as.length = n) (hrm : 2 * st.length + q'.2.2.1 ≤ 25) (has : ∀ v ∈ as, (cvA E v).category = 1) (hh : hasA S i (ci + 4) nn) (k : Sp l E q' d (rV i :: as) (S, g, u) (cnA l E q (d + 1) nx L st P)) : aw l E q (d + 1) pc L (as.reverse ++ rV i :: st) (S, g, u) P := by
  intro p e R s m args below meth cd H locs cells slots kc ks ls hx hG hM hd hl hR hS hL hst c1 c2 s1 s2
  obtain ⟨hq, hmx, hins, hsel, h2, hnp, ⟨rr, hr1, hr2⟩, idx, h1, hlk⟩ := h
  subst h2
  obtain ⟨mk, methk, ck, hM', hck, hsig⟩ := cxM_of hG hq
  obtain ⟨mk2, methM, hnamed, hmethM, hstM, habM⟩ := Cond.instanceMethod_spec (cxW hG hins rfl args)
  cases hM'.1.symm.trans hnamed
  cases hM'.2.1.symm.trans hmethM
  have he : (wsA E S g)[i]? = some (E.1.2.1 + i, .inr (ci, fsA E ci (S.2.2 i) (g i))) := by rw [wsA_get hh.1, hh.2]; rfl
  obtain ⟨cell, hcell, hobj, hcls⟩ := va_recv hG.2.2.2.2.1 hR.1 hr1 he
  rw [hr2] at hcls
  obtain ⟨c2', r2, m2, q1, q2, q3, q4, kP, hkP, hkPi⟩ := Cond.selects_spec (cxW hG hsel rfl args)
  cases hcls.symm.trans q1
  cases (State.methodFound?_of_named hnamed hq.2.1).symm.trans q2
  cases hnamed.symm.trans q3
  have hst1 : ∀ v ∈ as, okA v := fun v hv => hst v (List.mem_append_left _ (List.mem_reverse.mpr hv))
  have hst2 : ∀ v ∈ st, okA v := fun v hv => hst v (List.mem_append_right _ (List.mem_cons_of_mem _ hv))
  intro T hT X
  have hselP : selectMethod e.platform s.vm cell.cls mk = .method mk := by rw [Launch.admits_selectMethod X.admits]; exact q4
  have hstk : (F0 m pc ls ((as.reverse ++ rV i :: st).map (cvA E))).stack = (as.map (cvA E)).reverse ++ .ref (E.1.2.1 + i) :: st.map (cvA E) := by
    show (as.reverse ++ rV i :: st).map (cvA E) = _
    rw [List.map_append, List.map_reverse]
    rfl
  have hdg : decode cd.code (F0 m pc ls ((as.reverse ++ rV i :: st).map (cvA E))).pc = .ok (.invokevirtual idx, 3) := by rw [hM.2.2.1]; exact h1
  have hl1 : (as.map (cvA E)).length = methk.sig.parameters.length := by rw [List.length_map, hn]; exact nparams hnp hsig
  obtain ⟨vm', X', hstep⟩ := X.invokevirtual hx (findClass_of_methodNamed hM.1) (cxW hG hlk rfl args) hnamed hmethM hstM hkP hkPi hq.2.1 (a := E.1.2.1 + i) (cell := cell) (by rw [hT]; exact hcell) (fun z h => by rw [h] at hobj; cases hobj) hselP hmethM habM hkP hkPi (g := F0 m pc ls ((as.reverse ++ rV i :: st).map (cvA E))) rfl hl1 hstk hdg
  obtain ⟨r, M', B, lo, c0, s0, b1, b2, b3, b4, b5, b6, b7⟩ := aw_call0 X' hx hG hd hl (by show rlA E (S, g, u) T.heap; rw [hT]; exact hR) (by show va_S _ _ T.heap _; rw [hT]; exact hS) (by omega) (by omega) (g := F0 m pc ls (st.map (cvA E))) rfl (by show ls.size = _; rw [hL.1, hM.2.2.2.1]) (ig := .invokevirtual idx) (by rw [hM.2.2.1]; exact h1) (by have := sumC E st; show 2 * 0 + ((st.map (cvA E)).map fun v => v.category).sum + q'.2.2.1 ≤ 25; omega) hM' hck hq.1 (ok_as hst1 has) (by simp only [List.length_cons]; omega) k
  obtain ⟨t, a1, a2⟩ := aw_back hx hG hM hd hl hL hst2 h0 c2 s2 b1 b2 b3 b4 (by omega) (by omega) b7
  exact ⟨t, hstep t (fun acts => by rw [doInvoke_state]; exact a1), a2⟩
theorem aw_I {q' : aK} {n i : Nat} {as : List aA} (h : KI q pc q' n nx) (h0 : q.2.2.2.2 = []) (hn : as.length = n) (hrm : 2 * st.length + q'.2.2.1 ≤ 25) (has : ∀ v ∈ as, (cvA E v).category = 1) (k : Sp l E q' d (rV i :: as) M (cnA l E q (d + 1) nx L st P)) : aw l E q (d + 1) pc L (as.reverse ++ rV i :: st) M P := by
  intro p e R s m args below meth cd H locs cells slots kc ks ls hx hG hM hd hl hR hS hL hst c1 c2 s1 s2
  obtain ⟨hq, hmx, hq0, hq1, hcw, hnm, hins, h2, hnp, idx, h1, hlk⟩ := h
  subst h2
  obtain ⟨mk, methk, ck, hM', hck, hsig⟩ := cxM_of hG hq
  have hst1 : ∀ v ∈ as, okA v := fun v hv => hst v (List.mem_append_left _ (List.mem_reverse.mpr hv))
  have hst2 : ∀ v ∈ st, okA v := fun v hv => hst v (List.mem_append_right _ (List.mem_cons_of_mem _ hv))
  intro T hT X
  have hpl : e.platform.magicAccessors = ({} : Platform).magicAccessors := by rw [X.admits.platform]
  have hstk : (F0 m pc ls ((as.reverse ++ rV i :: st).map (cvA E))).stack = (as.map (cvA E)).reverse ++ .ref (E.1.2.1 + i) :: st.map (cvA E) := by
    show (as.reverse ++ rV i :: st).map (cvA E) = _
    rw [List.map_append, List.map_reverse]
    rfl
  obtain ⟨tm, methM, cM, kP, vm₁, hnamed, hmethM, hcodeM, -, hlocalsM, -, hkP, -, hW₁, hstep⟩ := Steps.initColdArgs (e := e) X.here hx X.warmed hpl (findClass_of_methodNamed hM.1) hnm hq.2.1 (cxW hG hlk rfl args) (cxW hG hins rfl args) (cxW hG hcw rfl args) (f := F0 m pc ls ((as.reverse ++ rV i :: st).map (cvA E))) rfl (fun sig hs => by rw [List.length_map, hn]; exact nparams hnp hs) hstk (by rw [hM.2.2.1]; exact h1)
  have hmk : tm = mk := Option.some.inj (hnamed.symm.trans hM'.1)
  subst hmk
  have X' := X.noted hW₁
  obtain ⟨r, M', B, lo, c0, s0, b1, b2, b3, b4, b5, b6, b7⟩ := aw_call0 X' hx hG hd hl (by show rlA E M T.heap; rw [hT]; exact hR) (by show va_S _ _ T.heap _; rw [hT]; exact hS) (by omega) (by omega) (g := F0 m pc ls (st.map (cvA E))) rfl (by show ls.size = _; rw [hL.1, hM.2.2.2.1]) (ig := .invokespecial idx) (by rw [hM.2.2.1]; exact h1) (by have := sumC E st; show 2 * 0 + ((st.map (cvA E)).map fun v => v.category).sum + q'.2.2.1 ≤ 25; omega) hM' hck hq.1 (ok_as hst1 has) (by simp only [List.length_cons]; omega) k
  obtain ⟨t, a1, a2⟩ := aw_back hx hG hM hd hl hL hst2 h0 c2 s2 b1 b2 b3 b4 (by omega) (by omega) b7
  exact ⟨t, hstep t (fun acts => by rw [doInvoke_state]; exact a1), a2⟩
/-- where an exception C, thrown at pc, is caught; there it is stored away -/
abbrev Kh (q : aK) (pc : Nat) (C : String) (k nx : Nat) : Prop := ∃ (pre suf : List (Nat × Nat × Nat × Nat)) (h : Nat × Nat × Nat × Nat), q.2.2.2.2 = pre ++ h :: suf ∧ (∀ z ∈ pre, z.2.2.2 ≠ 0 ∧ ∃ nm, Cond.classLink q.1.cls z.2.2.2 nm ∈ lw_tbl ∧ (C, nm) ∈ ncA) ∧ h.1 ≤ pc ∧ pc < h.2.1 ∧ h.2.2.2 ≠ 0 ∧ Cond.classLink q.1.cls h.2.2.2 C ∈ lw_tbl ∧ Cond.castable C C ∈ lw_tbl ∧ Kt q h.2.2.1 k nx
def cnH (l : Launch) (E : aE) (q : aK) (d pc nx : Nat) (L : List (Option aA)) (st : List aA) (P : aP) : aP := fun r M => match r with
  | .inl none => aw l E q d nx L st M P
  | .inl (some v) => aw l E q d nx L (v :: st) M P
  | .inr C => ∃ k nx', Kh q pc C k nx' ∧ aw l E q d nx' (L.set k none) [] M P
theorem lsA_setN {n k : Nat} {ls : Array Slot} {v : Value} (hL : lsA E n L ls) : ∃ lv, lv_has ls n lv ∧ ∀ ls', lv_has ls' n ((k, v) :: lv.filter (fun q => !(q.1 == k) && !(q.1 + 1 == k && q.2.category == 2))) → lsA E n (L.set k none) ls' := by
  refine ⟨(List.range L.length).filterMap (fun j => (L[j]?).join.map (fun w => (j, cvA E w))), ⟨hL.1, hL.2.1, fun x hx => ?_⟩, fun ls' h' => ⟨h'.1, h'.2.1, fun j w hw => ?_⟩⟩
  · obtain ⟨j, -, hj⟩ := List.mem_filterMap.mp hx
    cases e : L[j]? with
    | none => rw [e] at hj; cases hj
    | some o =>
      cases o with
      | none => rw [e] at hj; cases hj
      | some w =>
        rw [e] at hj
        cases hj
        exact (hL.2.2 j w e).1
  · by_cases hj : j = k
    · subst hj
      have hlt : j < L.length := by
        have := (List.getElem?_eq_some_iff.mp hw).1
        simpa using this
      rw [List.getElem?_set_self hlt] at hw
      cases hw
    · rw [List.getElem?_set_ne (Ne.symm hj)] at hw
      obtain ⟨g1, g2, g3⟩ := hL.2.2 j w hw
      refine ⟨h'.2.2 (j, cvA E w) (List.mem_cons_of_mem _ (List.mem_filter.mpr ⟨List.mem_filterMap.mpr ⟨j, List.mem_range.mpr (List.getElem?_eq_some_iff.mp hw).1, by rw [hw]; rfl⟩, ?_⟩)), g2, g3⟩
      simp [hj, g3]
theorem aw_caught {p : Program} {e : Env} {R : Room} {s : State} {m : MethodId} {args : Array Value} {below : List Frame} {meth : Method} {c : Code} {H : Heap} {locs : List Loc} {cells slots kc ks : Nat} {ls : Array Slot} {rest : List Value} {C : String} {k : Nat} {a : Addr} {ce : Cell}
    (hx : p.tables.exec = Jvm.exec) (hG : cxG l E s) (hM : cxM q s m meth c) (hd : d ≤ R.frames) (hl : 36 * d ≤ R.locals) (hR : rlA E M H) (hS : va_S (fun a => E.1.2.1 ≤ a) s.heap H locs) (hL : lsA E q.2.2.1 L ls) (c1 : cells + M.2.2.1 ≤ kc) (c2 : kc ≤ R.cells) (s1 : slots + M.2.2.2.1 ≤ ks) (s2 : ks ≤ R.slots)
    (h : Kh q pc C k nx) (hce : H[a]? = some ce) (hcv : ce.vm = .none) (hcl : s.vm.findClass C = some ce.cls) (kk : aw l E q d nx (L.set k none) [] M P) : vx_W p l e R s m args below meth c H locs cells slots (enA E P below s kc ks) (F0 m pc ls rest) a := by
  obtain ⟨pre, suf, h9, e1, e2, e3, e4, e5, e6, e7, hkn, h8⟩ := h
  have hown : s.vm.findClass q.1.cls = some m.cls := findClass_of_methodNamed hM.1
  have hex := hM.2.2.2.2.2.2
  rw [e1] at hex
  obtain ⟨l1, l2, m1, m2, m3⟩ := List.map_eq_append_iff.mp hex
  obtain ⟨x, l3, n1, n2, n3⟩ := List.map_eq_cons_iff.mp m3
  obtain ⟨lv, g1, g2⟩ := lsA_setN (k := k) (v := .ref a) hL
  refine vx_catch (own := q.1.cls) (name := C) (E := C) hown l1 x l3 (by rw [m1, n1]) (fun z hz => Or.inr ?_) ?_ ?_ ?_ (cxW hG e7 rfl args) hce hcv hcl ?_
  · have hz2 : (z.startPc, z.endPc, z.handlerPc, z.catchType) ∈ pre := by rw [← m2]; exact List.mem_map.mpr ⟨z, hz, rfl⟩
    obtain ⟨f1, nm, f2, f3⟩ := e2 _ hz2
    exact ⟨f1, nm, cxW hG f2 rfl args, hG.2.2.2.1 _ f3⟩
  · rw [← n2] at e3 e4
    simp only [covers, Bool.and_eq_true, decide_eq_true_eq]
    exact ⟨e3, e4⟩
  · rw [← n2] at e5; exact e5
  · rw [← n2] at e6; exact cxW hG e6 rfl args
  · have hh : x.handlerPc = h9.2.2.1 := by rw [← n2]
    rw [hh]
    rcases h8 with ⟨f1, f2⟩ | ⟨f, f1, f2, f3⟩
    · subst f2; exact lv_astore hx hM.2.2.1 f1 g1 hkn rfl fun ls' h' => kk p e R s m args below meth c H locs cells slots kc ks ls' hx hG hM hd hl hR hS (g2 ls' h') (fun v hv => nomatch hv) c1 c2 s1 s2
    · subst f3; exact lv_astore_n hx hM.2.2.1 f1 f2 g1 hkn rfl fun ls' h' => kk p e R s m args below meth c H locs cells slots kc ks ls' hx hG hM hd hl hR hS (g2 ls' h') (fun v hv => nomatch hv) c1 c2 s1 s2
theorem aw_VH {q' : aK} {ci n i nn : Nat} {S : aS} {g : aG} {u : aU} {as : List aA} (h : KV q pc q' ci n nx) (hn : as.length = n) (hrm : 2 * st.length + q'.2.2.1 ≤ 25) (has : ∀ v ∈ as, (cvA E v).category = 1) (hh : hasA S i (ci + 4) nn) (k : Sp l E q' d (rV i :: as) (S, g, u) (cnH l E q (d + 1) pc nx L st P)) : aw l E q (d + 1) pc L (as.reverse ++ rV i :: st) (S, g, u) P := by
  intro p e R s m args below meth cd H locs cells slots kc ks ls hx hG hM hd hl hR hS hL hst c1 c2 s1 s2
  obtain ⟨hq, hmx, hins, hsel, h2, hnp, ⟨rr, hr1, hr2⟩, idx, h1, hlk⟩ := h
  subst h2
  obtain ⟨mk, methk, ck, hM', hck, hsig⟩ := cxM_of hG hq
  obtain ⟨mk2, methM, hnamed, hmethM, hstM, habM⟩ := Cond.instanceMethod_spec (cxW hG hins rfl args)
  cases hM'.1.symm.trans hnamed
  cases hM'.2.1.symm.trans hmethM
  have he : (wsA E S g)[i]? = some (E.1.2.1 + i, .inr (ci, fsA E ci (S.2.2 i) (g i))) := by rw [wsA_get hh.1, hh.2]; rfl
  obtain ⟨cell, hcell, hobj, hcls⟩ := va_recv hG.2.2.2.2.1 hR.1 hr1 he
  rw [hr2] at hcls
  obtain ⟨c2', r2, m2, q1, q2, q3, q4, kP, hkP, hkPi⟩ := Cond.selects_spec (cxW hG hsel rfl args)
  cases hcls.symm.trans q1
  cases (State.methodFound?_of_named hnamed hq.2.1).symm.trans q2
  cases hnamed.symm.trans q3
  have hst1 : ∀ v ∈ as, okA v := fun v hv => hst v (List.mem_append_left _ (List.mem_reverse.mpr hv))
  have hst2 : ∀ v ∈ st, okA v := fun v hv => hst v (List.mem_append_right _ (List.mem_cons_of_mem _ hv))
  intro T hT X
  have hselP : selectMethod e.platform s.vm cell.cls mk = .method mk := by rw [Launch.admits_selectMethod X.admits]; exact q4
  have hstk : (F0 m pc ls ((as.reverse ++ rV i :: st).map (cvA E))).stack = (as.map (cvA E)).reverse ++ .ref (E.1.2.1 + i) :: st.map (cvA E) := by
    show (as.reverse ++ rV i :: st).map (cvA E) = _
    rw [List.map_append, List.map_reverse]
    rfl
  have hdg : decode cd.code (F0 m pc ls ((as.reverse ++ rV i :: st).map (cvA E))).pc = .ok (.invokevirtual idx, 3) := by rw [hM.2.2.1]; exact h1
  have hl1 : (as.map (cvA E)).length = methk.sig.parameters.length := by rw [List.length_map, hn]; exact nparams hnp hsig
  obtain ⟨vm', X', hstep⟩ := X.invokevirtual hx (findClass_of_methodNamed hM.1) (cxW hG hlk rfl args) hnamed hmethM hstM hkP hkPi hq.2.1 (a := E.1.2.1 + i) (cell := cell) (by rw [hT]; exact hcell) (fun z h => by rw [h] at hobj; cases hobj) hselP hmethM habM hkP hkPi (g := F0 m pc ls ((as.reverse ++ rV i :: st).map (cvA E))) rfl hl1 hstk hdg
  obtain ⟨r, M', B, lo, c0, s0, b1, b2, b3, b4, b5, b6, b7⟩ := aw_call0 X' hx hG hd hl (by show rlA E (S, g, u) T.heap; rw [hT]; exact hR) (by show va_S _ _ T.heap _; rw [hT]; exact hS) (by omega) (by omega) (g := F0 m pc ls (st.map (cvA E))) rfl (by show ls.size = _; rw [hL.1, hM.2.2.2.1]) (ig := .invokevirtual idx) (by rw [hM.2.2.1]; exact h1) (by have := sumC E st; show 2 * 0 + ((st.map (cvA E)).map fun v => v.category).sum + q'.2.2.1 ≤ 25; omega) hM' hck hq.1 (ok_as hst1 has) (by simp only [List.length_cons]; omega) k
  have key : ∃ t, Steps p.tables e below (doInvoke e ((T.setVm vm').setTop (F0 m pc ls (st.map (cvA E)))) [] mk ((rV i :: as).map (cvA E)).toArray).1 t ∧ enA E P below s kc ks t := by
    rcases b7 with ⟨v, rfl, hv, hsteps⟩ | ⟨C, a, ce, rfl, f1, f2, f3, hsteps⟩
    · cases v with
      | none =>
        have k1 : aw l E q (d + 1) (pc + 3) L st M' P := b1
        obtain ⟨t, a1, a2⟩ := k1 p e R s m args below meth cd B.heap lo c0 s0 kc ks ls hx hG hM hd hl b3 b4 hL hst2 (by omega) c2 (by omega) s2 B rfl b2
        exact ⟨t, hsteps.trans a1, a2⟩
      | some v =>
        have k1 : aw l E q (d + 1) (pc + 3) L (v :: st) M' P := b1
        obtain ⟨t, a1, a2⟩ := k1 p e R s m args below meth cd B.heap lo c0 s0 kc ks ls hx hG hM hd hl b3 b4 hL (ok_cons (hv v rfl) hst2) (by omega) c2 (by omega) s2 B rfl b2
        exact ⟨t, hsteps.trans a1, a2⟩
    · obtain ⟨k', nx', hk', hw'⟩ := (b1 : ∃ k nx', Kh q pc C k nx' ∧ aw l E q (d + 1) nx' (L.set k none) [] M' P)
      obtain ⟨t, a1, a2⟩ := aw_caught (kc := kc) (ks := ks) (rest := st.map (cvA E)) hx hG hM hd hl b3 b4 hL (by omega) c2 (by omega) s2 hk' f1 f2 f3 hw' B rfl b2
      exact ⟨t, hsteps.trans a1, a2⟩
  obtain ⟨t, a1, a2⟩ := key
  exact ⟨t, hstep t (fun acts => by rw [doInvoke_state]; exact a1), a2⟩
def nmE : List String := ["java/lang/RuntimeException", "java/lang/Exception"]
abbrev KT (q : aK) (pc : Nat) (C : String) : Prop := ∃ (ik is ic : Nat) (tx : String), decode q.2.1 pc = .ok (.new ik, 3) ∧ decode q.2.1 (pc + 3) = .ok (.dup, 1) ∧ decode q.2.1 (pc + 4) = .ok (.ldc is, 2) ∧ decode q.2.1 (pc + 6) = .ok (.invokespecial ic, 3) ∧ decode q.2.1 (pc + 9) = .ok (.athrow, 1) ∧ q.1.cls = "OmegaNets" ∧ q.2.2.2.2 = [] ∧ (is, tx) ∈ txA ∧ Cond.classLink "OmegaNets" ik C ∈ lw_tbl ∧ Cond.initialized C ∈ lw_tbl ∧ Bundle.fit C = true ∧ ∀ w ∈ vx_atS "OmegaNets" ic C nmE, w ∈ lw_tbl ∧ (stW w && vx_ot w) = true
theorem aw_throw {C : String} {a b : Nat} {f : Bool} (h : KT q pc C) (hd6 : 6 ≤ d) (hrm : st.length ≤ 8) (ha : 1 ≤ a) (hb : 6 ≤ b) (hp : P (.inr C) (S, g, a - 1, b - 6, false)) : aw l E q d pc L st (S, g, a, b, f) P := by
  intro p e R s m args below meth cd H locs cells slots kc ks ls hx hG hM hd hl hR hS hL hst c1 c2 s1 s2
  obtain ⟨ik, is, ic, tx, d0, d3, d4, d6, d9, ho, hno, htx, hk, hini, hfit, hat⟩ := h
  obtain ⟨sa, hstr⟩ := hG.2.2.1 _ htx
  have hown : s.vm.findClass "OmegaNets" = some m.cls := by rw [← ho]; exact findClass_of_methodNamed hM.1
  have hex : cd.exceptionTable.toList.map (fun h => (h.startPc, h.endPc, h.handlerPc, h.catchType)) = [] := by rw [hM.2.2.2.2.2.2, hno]
  have c1' : cells + a ≤ kc := c1
  have s1' : slots + b ≤ ks := s1
  have hsum := sumC E st
  have kk := vx_throwS (p := p) (e := e) (R := R) (s := s) (m := m) (args := args) (below := below) (meth := meth) (c := cd) (H := H) (locs := locs) (cells := cells) (slots := slots) (ls := ls) (rest := st.map (cvA E)) (free := fun a => E.1.2.1 ≤ a) (mc := cells + 1) (ms := slots + 6) (Qc := fun _ _ _ _ => False)
    (XC := fun C' _ t => C' = C ∧ rlA E (S, g, a - 1, b - 6, false) t.heap) hx hM.2.2.1 hG.1 (own := "OmegaNets") (cls := C) (text := tx) (names := nmE) (ik := ik) (is := is) (ic := ic) (sa := sa) (A := fun a => E.1.2.1 ≤ a) hown hfit (by decide +kernel)
    (cxW hG hk rfl args) (cxW hG hini rfl args) hstr (fun w hw => cxW hG (hat w hw).1 ((Bool.and_eq_true _ _).mp (hat w hw).2).1 args)
    (List.forall_mem_cons.mpr ⟨rfl, List.forall_mem_cons.mpr ⟨rfl, fun w hw => ((Bool.and_eq_true _ _).mp (hat w hw).2).2⟩⟩) hG.2.2.2.2.2.1 hG.2.2.2.2.2.2.1 hS (by rw [hL.1, hM.2.2.2.1]) d0 d3 d4 d6 d9 (covN hex _) (by show 2 + 3 < _; omega) (by show _ + (13 * (2 + 1) + 43) ≤ _; omega) (by omega) (by omega) hM.2.2.2.2.2.1
    (fun t _ h1 h2 => ⟨rfl, hR.1.kept (fun k x hx => h2 _ (hR.1 k x hx).lt), hR.2.1, fun z => by cases z⟩) hS.2.2 (Nat.le_refl _) (Nat.le_refl _)
  intro T hT X
  obtain ⟨t, a1, o, b1, b2, b3⟩ := kk T hT X
  rcases b3 with ⟨hf, -⟩ | ⟨qa, rfl, C', ce, Lo, ⟨rfl, hr1⟩, hce, hcv, hcl, hW, hsm, hfree⟩
  · exact hf.elim
  · exact ⟨t, a1, _, .inr C', (S, g, a - 1, b - 6, false), Lo, cells + 1, slots + 6, b1, b2, hp, ⟨qa, ce, rfl, hce, hcv, hcl⟩, hW, hr1, hsm, hfree, by show cells + 1 + (a - 1) ≤ kc; omega, by show slots + 6 + (b - 6) ≤ ks; omega⟩
end AW3
end
section
section AW4
variable {l : Launch} {E : aE} {q : aK} {d pc nx tg : Nat} {L : List (Option aA)} {st : List aA} {M : aM} {P : aP} {S : aS} {g : aG} {u : aU}
theorem i32nn {x : Int} (h : okI x) (h0 : 0 ≤ x) : ¬ Int32.ofInt x < 0 := fun hz => by
  have := (i32L h ok0).mp hz
  omega
/-- a new cell of kind kn behind S's -/
def nwA (S : aS) (kn : Nat × Nat) : aS := (S.1 + 1, fun a => if a = S.1 then kn else S.2.1 a, fun a b => if a = S.1 then none else S.2.2 a b)
def nwG (S : aS) (g : aG) : aG := fun a b => if a = S.1 then 0 else g a b
theorem nwG_ok (h : ∀ i j, okI (g i j)) : ∀ i j, okI (nwG S g i j) := by
  intro i j
  unfold nwG
  split
  · exact ok0
  · exact h i j
theorem wsA_new (E : aE) (S : aS) (g : aG) (kn : Nat × Nat) : wsA E (nwA S kn) (nwG S g) = wsA E S g ++ [(E.1.2.1 + S.1, picA E kn (fun _ => none) (fun _ => 0))] := by
  unfold wsA
  show (List.range (S.1 + 1)).map _ = _
  rw [List.range_succ, List.map_append]
  congr 1
  · apply List.map_congr_left
    intro a ha
    have hne : a ≠ S.1 := by have := List.mem_range.mp ha; omega
    have e1 : (nwA S kn).2.1 a = S.2.1 a := if_neg hne
    have e2 : (nwA S kn).2.2 a = S.2.2 a := by funext b; exact if_neg hne
    have e3 : nwG S g a = g a := by funext b; exact if_neg hne
    rw [e1, e2, e3]
  · have e1 : (nwA S kn).2.1 S.1 = kn := if_pos rfl
    have e2 : (nwA S kn).2.2 S.1 = fun _ => none := by funext b; exact if_pos rfl
    have e3 : nwG S g S.1 = fun _ => 0 := by funext b; exact if_pos rfl
    rw [List.map_cons, List.map_nil, e1, e2, e3]
theorem rlA_new {E : aE} {S : aS} {g : aG} {a b a' b' : Nat} {H H1 : Heap} {kn : Nat × Nat} (hR : rlA E (S, g, a, b, true) H) (z : H1.size = H.size + 1) (o : ∀ q, q < H.size → H1[q]? = H[q]?) (hn : va_at E.2.1 vwCl (E.1.2.1 + S.1, picA E kn (fun _ => none) (fun _ => 0)) H1) : rlA E (nwA S kn, nwG S g, a', b', true) H1 := by
  have hz : H.size = E.1.2.1 + S.1 := hR.2.2 rfl
  refine ⟨?_, nwG_ok hR.2.1, fun _ => by show H1.size = E.1.2.1 + (S.1 + 1); omega⟩
  show va_P E.2.1 vwCl (wsA E (nwA S kn) (nwG S g)) H1
  rw [wsA_new]
  refine (hR.1.kept (fun k x hx => o x.1 (hR.1 k x hx).lt)).app (fun k x hx => ?_)
  have hk : k < 1 := (List.getElem?_eq_some_iff.mp hx).1
  rw [show k = 0 by omega] at hx
  cases hx
  exact hn
theorem vaS_new {A : Nat → Prop} {H0 H H1 : Heap} {locs : List Loc} (hS : va_S A H0 H locs) (z : H.size ≤ H1.size) (o : ∀ q, q < H.size → H1[q]? = H[q]?) : va_S A H0 H1 locs :=
  ⟨Nat.le_trans hS.1 z, fun x h1 h2 => (o x (Nat.lt_of_lt_of_le h1 hS.1)).trans (hS.2.1 x h1 h2), hS.2.2⟩
/-- new: an object of class c -/
abbrev KN (q : aK) (pc c N nx : Nat) : Prop := ∃ (idx : Nat) (r : vw_C) (t0 : Nat → FieldType), decode q.2.1 pc = .ok (.new idx, 3) ∧ pc + 3 = nx ∧ vwCl[c]? = some r ∧ r.2.2 = N ∧ Cond.classLink q.1.cls idx r.1 ∈ lw_tbl ∧ Cond.instantiable r.1 N ∈ lw_tbl ∧ Cond.initialized r.1 ∈ lw_tbl ∧ (∀ w ∈ u_ws r.1 r.2.1 r.2.2, w ∈ lw_tbl) ∧ (∀ j, j < r.2.2 → parseFieldDescriptor (r.2.1 j).2.2.1 = some (t0 j)) ∧ ∀ j, j < r.2.2 → ∃ b, (rfX c)[j]? = some b ∧ defaultValue (t0 j) = if b then .null else .int 0
theorem aw_new {c N a b : Nat} (h : KN q pc c N nx) (ha : 1 ≤ a) (hb : N ≤ b) (kk : aw l E q d nx L (rV S.1 :: st) (nwA S (c + 4, 0), nwG S g, a - 1, b - N, true) P) : aw l E q d pc L st (S, g, a, b, true) P := by
  intro p e R s m args below meth cd H locs cells slots kc ks ls hx hG hM hd hl hR hS hL hst c1 c2 s1 s2
  obtain ⟨idx, ⟨C, T, N'⟩, t0, h1, h2, r1, r2, r3, r4, r5, r6, r7, r8⟩ := h
  subst h2
  have c1' : cells + a ≤ kc := c1
  have s1' : slots + b ≤ ks := s1
  have hz : H.size = E.1.2.1 + S.1 := hR.2.2 rfl
  have hKn := hG.2.2.2.2.1.1 c _ r1
  have hts : ∀ w ∈ u_ws C T N', w.before args s = true := fun w hw => cxW hG (r6 w hw) (u_stW w hw) args
  have hcN : (Cond.instantiable C N).before args s = true := cxW hG r4 rfl args
  refine W.newcK hx hM.2.2.1 (findClass_of_methodNamed hM.1) (cxW hG r3 rfl args) hcN (cxW hG r5 rfl args) rfl h1 (by omega) (by omega) hKn.2.1 hz fun H1 kC hkC e1 z1 o1 => ?_
  rw [← hz] at z1 o1 
  have hnew : va_at E.2.1 vwCl (E.1.2.1 + S.1, picA E (c + 4, 0) (fun _ => none) (fun _ => 0)) H1 := by
    refine ⟨_, r1, (u_born t0 hts (fun w hw => hw) hKn hkC e1 r7).to (fun j hj => ?_)⟩
    obtain ⟨b', hb1, hb2⟩ := r8 j hj
    show defaultValue (t0 j) = (fsA E c (fun _ => none) (fun _ => 0)).getD j .null
    rw [hb2, List.getD_eq_getElem?_getD, fsA_get hb1]
    cases b' <;> rfl
  exact kk p e R s m args below meth cd H1 locs (cells + 1) (slots + N) kc ks ls hx hG hM hd hl (rlA_new hR z1 o1 hnew) (vaS_new hS (by omega) o1) hL (ok_cons (v := rV S.1) trivial hst) (by show cells + 1 + (a - 1) ≤ kc; omega) c2 (by show slots + N + (b - N) ≤ ks; omega) s2
abbrev KA (q : aK) (pc : Nat) (t : ArrayType) (nx : Nat) : Prop := decode q.2.1 pc = .ok (.newarray t, 2) ∧ pc + 2 = nx ∧ Cond.arrayClass (newarray.typeOf t) ∈ lw_tbl
theorem aw_na {x : Int} {k a b : Nat} (h : KA q pc .int nx) (hk : x = (k : Int)) (hk2 : k ≤ 100000) (ha : 1 ≤ a) (hb : k ≤ b) (kk : aw l E q d nx L (rV S.1 :: st) (nwA S (0, k), nwG S g, a - 1, b - k, true) P) : aw l E q d pc L (iV x :: st) (S, g, a, b, true) P := by
  intro p e R s m args below meth cd H locs cells slots kc ks ls hx hG hM hd hl hR hS hL hst c1 c2 s1 s2
  obtain ⟨h1, h2, h3⟩ := h
  subst h2
  have c1' : cells + a ≤ kc := c1
  have s1' : slots + b ≤ ks := s1
  have hxo : okI x := ok_hd hst
  have hz : H.size = E.1.2.1 + S.1 := hR.2.2 rfl
  refine va_newaK hx hM.2.2.1 (cxW hG h3 rfl args) rfl h1 (n := Int32.ofInt x) (N := k) rfl (i32nn hxo (by omega)) (by rw [i32N hxo]; omega) (by show k * _ ≤ 536870912; simp [componentBytes, newarray.typeOf]; omega) (by omega) (by omega) hz fun H1 cA e1 z1 o1 hA hf => ?_
  rw [← hz] at z1 o1
  have hcA : cA = E.2.2 0 := Option.some.inj (hf.symm.trans (hG.2.2.2.2.1.2 0 (E.2.2 0, .int) rfl).2)
  subst hcA
  have hnew : va_at E.2.1 vwCl (E.1.2.1 + S.1, picA E (0, k) (fun _ => none) (fun _ => 0)) H1 := e1
  exact kk p e R s m args below meth cd H1 locs (cells + 1) (slots + k) kc ks ls hx hG hM hd hl (rlA_new hR z1 o1 hnew) (vaS_new hS (by omega) o1) hL (ok_cons (v := rV S.1) trivial (ok_tl hst)) (by show cells + 1 + (a - 1) ≤ kc; omega) c2 (by show slots + k + (b - k) ≤ ks; omega) s2
theorem aw_nz {x : Int} {k a b : Nat} (h : KA q pc .boolean nx) (hk : x = (k : Int)) (hk2 : k ≤ 100000) (ha : 1 ≤ a) (hb : k ≤ b) (kk : aw l E q d nx L (rV S.1 :: st) (nwA S (1, k), nwG S g, a - 1, b - k, true) P) : aw l E q d pc L (iV x :: st) (S, g, a, b, true) P := by
  intro p e R s m args below meth cd H locs cells slots kc ks ls hx hG hM hd hl hR hS hL hst c1 c2 s1 s2
  obtain ⟨h1, h2, h3⟩ := h
  subst h2
  have c1' : cells + a ≤ kc := c1
  have s1' : slots + b ≤ ks := s1
  have hxo : okI x := ok_hd hst
  have hz : H.size = E.1.2.1 + S.1 := hR.2.2 rfl
  refine va_newaK hx hM.2.2.1 (cxW hG h3 rfl args) rfl h1 (n := Int32.ofInt x) (N := k) rfl (i32nn hxo (by omega)) (by rw [i32N hxo]; omega) (by show k * _ ≤ 536870912; simp [componentBytes, newarray.typeOf]; omega) (by omega) (by omega) hz fun H1 cA e1 z1 o1 hA hf => ?_
  rw [← hz] at z1 o1
  have hcA : cA = E.2.2 1 := Option.some.inj (hf.symm.trans (hG.2.2.2.2.1.2 1 (E.2.2 1, .boolean) rfl).2)
  subst hcA
  have hnew : va_at E.2.1 vwCl (E.1.2.1 + S.1, picA E (1, k) (fun _ => none) (fun _ => 0)) H1 := e1
  exact kk p e R s m args below meth cd H1 locs (cells + 1) (slots + k) kc ks ls hx hG hM hd hl (rlA_new hR z1 o1 hnew) (vaS_new hS (by omega) o1) hL (ok_cons (v := rV S.1) trivial (ok_tl hst)) (by show cells + 1 + (a - 1) ≤ kc; omega) c2 (by show slots + k + (b - k) ≤ ks; omega) s2
theorem aw_nl {x : Int} {k a b : Nat} (h : KA q pc .long nx) (hk : x = (k : Int)) (hk2 : k ≤ 100000) (ha : 1 ≤ a) (hb : k ≤ b) (kk : aw l E q d nx L (rV S.1 :: st) (nwA S (2, k), nwG S g, a - 1, b - k, true) P) : aw l E q d pc L (iV x :: st) (S, g, a, b, true) P := by
  intro p e R s m args below meth cd H locs cells slots kc ks ls hx hG hM hd hl hR hS hL hst c1 c2 s1 s2
  obtain ⟨h1, h2, h3⟩ := h
  subst h2
  have c1' : cells + a ≤ kc := c1
  have s1' : slots + b ≤ ks := s1
  have hxo : okI x := ok_hd hst
  have hz : H.size = E.1.2.1 + S.1 := hR.2.2 rfl
  refine va_newaK hx hM.2.2.1 (cxW hG h3 rfl args) rfl h1 (n := Int32.ofInt x) (N := k) rfl (i32nn hxo (by omega)) (by rw [i32N hxo]; omega) (by show k * _ ≤ 536870912; simp [componentBytes, newarray.typeOf]; omega) (by omega) (by omega) hz fun H1 cA e1 z1 o1 hA hf => ?_
  rw [← hz] at z1 o1
  have hcA : cA = E.2.2 2 := Option.some.inj (hf.symm.trans (hG.2.2.2.2.1.2 2 (E.2.2 2, .long) rfl).2)
  subst hcA
  have hnew : va_at E.2.1 vwCl (E.1.2.1 + S.1, picA E (2, k) (fun _ => none) (fun _ => 0)) H1 := e1
  exact kk p e R s m args below meth cd H1 locs (cells + 1) (slots + k) kc ks ls hx hG hM hd hl (rlA_new hR z1 o1 hnew) (vaS_new hS (by omega) o1) hL (ok_cons (v := rV S.1) trivial (ok_tl hst)) (by show cells + 1 + (a - 1) ≤ kc; omega) c2 (by show slots + k + (b - k) ≤ ks; omega) s2
/-- int[n][m]: the outer array, its n rows behind it -/
def nmA (S : aS) (n m : Nat) : aS := (S.1 + 1 + n, fun a => if a = S.1 then (3, n) else if S.1 < a ∧ a ≤ S.1 + n then (0, m) else S.2.1 a, fun a b => if a = S.1 then (if b < n then some (S.1 + 1 + b) else none) else if S.1 < a ∧ a ≤ S.1 + n then none else S.2.2 a b)
def nmG (S : aS) (n : Nat) (g : aG) : aG := fun a b => if S.1 ≤ a ∧ a ≤ S.1 + n then 0 else g a b
abbrev KM (q : aK) (pc nx : Nat) : Prop := ∃ idx, decode q.2.1 pc = .ok (.multianewarray idx 2, 4) ∧ pc + 4 = nx ∧ Cond.classLink q.1.cls idx "[[I" ∈ lw_tbl ∧ Cond.arrayOver (.array .int) ∈ lw_tbl ∧ Cond.arrayClass .int ∈ lw_tbl
theorem aw_nm {x y : Int} {n m a b : Nat} (h : KM q pc nx) (hx1 : x = (n : Int)) (hy1 : y = (m : Int)) (hn : n ≤ 10000) (hm : m ≤ 10000) (ha : 1 + n ≤ a) (hb : n + n * m ≤ b) (kk : aw l E q d nx L (rV S.1 :: st) (nmA S n m, nmG S n g, a - (1 + n), b - (n + n * m), true) P) : aw l E q d pc L (iV y :: iV x :: st) (S, g, a, b, true) P := by
  intro p e R s mi args below meth cd H locs cells slots kc ks ls hx hG hM hd hl hR hS hL hst c1 c2 s1 s2
  obtain ⟨idx, h1, h2, h3, h4, h5⟩ := h
  subst h2
  have c1' : cells + a ≤ kc := c1
  have s1' : slots + b ≤ ks := s1
  have hyo : okI y := ok_hd hst
  have hxo : okI x := ok_hd (ok_tl hst)
  have hz : H.size = E.1.2.1 + S.1 := hR.2.2 rfl
  have hnx : (Int32.ofInt x).toNatClampNeg = n := by rw [i32N hxo]; omega
  have hny : (Int32.ofInt y).toNatClampNeg = m := by rw [i32N hyo]; omega
  intro T hT Xs
  obtain ⟨vm₁, cA, comp, -, fA, fC, hO, -, X', step⟩ := Xs.multianewarray2F (ty := .int) hx (findClass_of_methodNamed hM.1) (cxW hG h3 rfl args) (cxW hG h4 rfl args) (cxW hG h5 rfl args) (g := F0 mi pc ls (.int (Int32.ofInt y) :: .int (Int32.ofInt x) :: st.map (cvA E))) rfl (by rw [hM.2.2.1]; exact h1) rfl (i32nn hxo (by omega)) (i32nn hyo (by omega)) (by rw [hnx]; omega) (by rw [hny]; simp [componentBytes]; omega) (by rw [hny]; omega) rfl rfl (by rw [hnx]; omega) (by rw [hnx, hny]; omega)
  rw [hnx, hny] at X' step
  have hcA : cA = E.2.2 3 := Option.some.inj (fA.symm.trans (hG.2.2.2.2.1.2 3 (E.2.2 3, .array .int) rfl).2)
  have hcI : comp = E.2.2 0 := Option.some.inj (fC.symm.trans (hG.2.2.2.2.1.2 0 (E.2.2 0, .int) rfl).2)
  subst hcA
  subst hcI
  generalize hF : Jvm.Free.Multi.fill (T.setVm vm₁) (E.2.2 3) (E.2.2 0) n m (defaultValue .int) n = F at X' step
  have hTh : (T.setVm vm₁).heap = H := hT
  obtain ⟨f1, f2, -, -⟩ := Jvm.Free.Multi.fill_facts (T.setVm vm₁) (E.2.2 3) (E.2.2 0) n m (defaultValue .int) n
  rw [hF, hTh] at f1 f2
  have hold : ∀ z : Nat, z < H.size → F.heap[z]? = H[z]? := fun z hz9 => by
    have := Jvm.Free.Multi.fill_old (T.setVm vm₁) (E.2.2 3) (E.2.2 0) n m (defaultValue .int) (a := z) (by rw [hTh]; exact hz9) n
    rw [hF, hTh] at this
    exact this
  have hrow : ∀ j : Nat, j < n → F.heap[H.size + 1 + j]? = some (Jvm.Free.Multi.innerC (E.2.2 0) m (defaultValue .int)) := fun j hj => by
    have := Jvm.Free.Multi.fill_inner (T.setVm vm₁) (E.2.2 3) (E.2.2 0) n m (defaultValue .int) n j hj
    rw [hF, hTh] at this
    exact this
  rw [vr_outer] at f2
  have hin : Jvm.Free.Multi.innerC (E.2.2 0) m (defaultValue .int) = vp_cell (E.2.2 0) (m, .inl (fun _ => Int32.ofInt 0)) := by
    rw [vp_cell_i]
    exact arrV_new (E.2.2 0) m (defaultValue .int)
  have hR' : rlA E (nmA S n m, nmG S n g, a - (1 + n), b - (n + n * m), true) F.heap := by
    refine ⟨fun k z hk => ?_, fun i j => ?_, fun _ => ?_⟩
    · have hkl : k < S.1 + 1 + n := by
        have := (List.getElem?_eq_some_iff.mp hk).1
        simpa [wsA, nmA] using this
      have hk2 := wsA_get (E := E) (S := nmA S n m) (g := nmG S n g) (i := k) hkl
      rw [hk2] at hk
      cases hk
      by_cases e1 : k < S.1
      · have e2 : picA E ((nmA S n m).2.1 k) ((nmA S n m).2.2 k) (nmG S n g k) = picA E (S.2.1 k) (S.2.2 k) (g k) := by
          have n1 : ¬ k = S.1 := by omega
          have n2 : ¬ (S.1 < k ∧ k ≤ S.1 + n) := by omega
          have n3 : ¬ (S.1 ≤ k ∧ k ≤ S.1 + n) := by omega
          have a1 : (nmA S n m).2.1 k = S.2.1 k := by simp only [nmA, if_neg n1, if_neg n2]
          have a2 : (nmA S n m).2.2 k = S.2.2 k := by funext j; simp only [nmA, if_neg n1, if_neg n2]
          have a3 : nmG S n g k = g k := by funext j; simp only [nmG, if_neg n3]
          rw [a1, a2, a3]
        rw [e2]
        exact (hR.1 k _ (wsA_get e1)).kept (hold _ (by omega))
      · by_cases e2 : k = S.1
        · subst e2
          have a1 : (nmA S n m).2.1 S.1 = (3, n) := by simp [nmA]
          have a2 : (nmA S n m).2.2 S.1 = fun j => if j < n then some (S.1 + 1 + j) else none := by funext j; simp [nmA]
          rw [a1, a2]
          show F.heap[E.1.2.1 + S.1]? = some (arrV (E.2.2 3) n (fun j => va_rf ((if j < n then some (S.1 + 1 + j) else none).map (E.1.2.1 + ·))))
          rw [← hz, f2]
          refine congrArg (fun z => some (arrV (E.2.2 3) n z)) (funext fun j => ?_)
          by_cases hj : j < n
          · simp only [if_pos hj, Option.map_some, va_rf]
            rw [hz, show E.1.2.1 + S.1 + 1 + j = E.1.2.1 + (S.1 + 1 + j) by omega]
          · simp only [if_neg hj, Option.map_none, va_rf]
        · have n1 : ¬ k = S.1 := e2
          have n2 : S.1 < k ∧ k ≤ S.1 + n := by omega
          have n3 : S.1 ≤ k ∧ k ≤ S.1 + n := by omega
          have a1 : (nmA S n m).2.1 k = (0, m) := by simp only [nmA, if_neg n1, if_pos n2]
          have a3 : nmG S n g k = fun _ => 0 := by funext j; simp only [nmG, if_pos n3]
          rw [a1, a3]
          show F.heap[E.1.2.1 + k]? = some (vp_cell (E.2.2 0) (m, .inl (fun _ => Int32.ofInt 0)))
          rw [← hin, ← hrow (k - S.1 - 1) (by omega), hz, show E.1.2.1 + S.1 + 1 + (k - S.1 - 1) = E.1.2.1 + k by omega]
    · show okI (nmG S n g i j)
      unfold nmG
      split
      · exact ok0
      · exact hR.2.1 i j
    · show F.heap.size = E.1.2.1 + (S.1 + 1 + n)
      rw [f1]; omega
  have hTz : T.heap.size = E.1.2.1 + S.1 := by rw [hT]; exact hz
  rw [hTz] at step
  obtain ⟨t, a1, b1⟩ := kk p e R s mi args below meth cd F.heap locs (cells + 1 + n) (slots + n + n * m) kc ks ls hx hG hM hd hl hR' (vaS_new hS (by rw [f1]; omega) hold) hL (ok_cons (v := rV S.1) trivial (ok_tl (ok_tl hst))) (by show cells + 1 + n + (a - (1 + n)) ≤ kc; omega) c2 (by show slots + n + n * m + (b - (n + n * m)) ≤ ks; omega) s2 F rfl X'
  exact ⟨t, step t a1, b1⟩
abbrev KO (q : aK) (pc nx : Nat) : Prop := ∃ idx, decode q.2.1 pc = .ok (.invokespecial idx, 3) ∧ pc + 3 = nx ∧ Cond.methodLink q.1.cls idx Lib.objectInit ∈ lw_tbl ∧ Cond.instanceMethod Lib.objectInit ∈ lw_tbl ∧ Cond.code Lib.objectInit ⟨#[0xb1]⟩ 1 none ∈ lw_tbl
theorem aw_oi {i : Nat} (h : KO q pc nx) (hd1 : 1 ≤ d) (hrm : Nat.ble st.length 12 = true) (kk : aw l E q d nx L st M P) : aw l E q d pc L (rV i :: st) M P := by
  intro p e R s m args below meth cd H locs cells slots kc ks ls hx hG hM hd hl hR hS hL hst c1 c2 s1 s2
  obtain ⟨idx, h1, h2, h3, h4, h5⟩ := h
  subst h2
  have hsum := sumC E st
  have hrm := Nat.le_of_ble_eq_true hrm
  have hlc : 2 * 0 + ((st.map (cvA E)).map fun v => v.category).sum + 12 ≤ R.locals := by omega
  exact W.objInit hx hM.2.2.1 (findClass_of_methodNamed hM.1) (cxW hG h3 rfl args) (cxW hG h4 rfl args) (cxW hG h5 rfl args) (g := F0 m pc ls (.ref (E.1.2.1 + i) :: st.map (cvA E))) rfl (by show ls.size = _; rw [hL.1, hM.2.2.2.1]) rfl h1 (by omega) hlc (kk p e R s m args below meth cd H locs cells slots kc ks ls hx hG hM hd hl hR hS hL (ok_tl hst) c1 c2 s1 s2)
abbrev KX (q : aK) (pc : Nat) (y : MethodName) (nx : Nat) : Prop := ∃ idx, decode q.2.1 pc = .ok (.invokestatic idx, 3) ∧ pc + 3 = nx ∧ Cond.methodLink q.1.cls idx y ∈ lw_tbl
theorem mxW : Cond.static Lib.Math.max.name ∈ lw_tbl ∧ Cond.initialized "java/lang/Math" ∈ lw_tbl ∧ Cond.code Lib.Math.max.name Lib.Math.max.code 2 (some .int) ∈ lw_tbl := ⟨List.mem_append_right _ (List.mem_of_getElem? (i := 32) (by decide +kernel)), List.mem_append_right _ (List.mem_of_getElem? (i := 3) (by decide +kernel)), List.mem_append_right _ (List.mem_of_getElem? (i := 33) (by decide +kernel))⟩
theorem mnW : Cond.static Lib.Math.min.name ∈ lw_tbl ∧ Cond.initialized "java/lang/Math" ∈ lw_tbl ∧ Cond.code Lib.Math.min.name Lib.Math.min.code 2 (some .int) ∈ lw_tbl := ⟨List.mem_append_right _ (List.mem_of_getElem? (i := 29) (by decide +kernel)), List.mem_append_right _ (List.mem_of_getElem? (i := 3) (by decide +kernel)), List.mem_append_right _ (List.mem_of_getElem? (i := 30) (by decide +kernel))⟩
theorem aw_max {x y : Int} (h : KX q pc Lib.Math.max.name nx) (hd1 : 1 ≤ d) (hrm : Nat.ble st.length 11 = true) (kk : aw l E q d nx L (iV (if x < y then y else x) :: st) M P) : aw l E q d pc L (iV y :: iV x :: st) M P := by
  intro p e R s m args below meth cd H locs cells slots kc ks ls hx hG hM hd hl hR hS hL hst c1 c2 s1 s2
  obtain ⟨idx, h1, h2, h3⟩ := h
  subst h2
  have hyo : okI y := ok_hd hst
  have hxo : okI x := ok_hd (ok_tl hst)
  have hsum := sumC E st
  have hrm := Nat.le_of_ble_eq_true hrm
  refine va_mmax hx hM.2.2.1 (by rw [hL.1, hM.2.2.2.1]) (findClass_of_methodNamed hM.1) (cxW hG h3 rfl args) (cxW hG mxW.1 rfl args) (cxW hG mxW.2.1 rfl args) (cxW hG mxW.2.2 rfl args) (by omega) (by omega) (by omega) (by omega) h1 ?_
  have e9 : (if Int32.ofInt x < Int32.ofInt y then Int32.ofInt y else Int32.ofInt x) = Int32.ofInt (if x < y then y else x) := by
    by_cases hc : x < y
    · rw [if_pos hc, if_pos ((i32L hxo hyo).mpr hc)]
    · rw [if_neg hc, if_neg (fun z => hc ((i32L hxo hyo).mp z))]
  rw [e9]
  have hro : okI (if x < y then y else x) := by split <;> assumption
  exact kk p e R s m args below meth cd H locs cells slots kc ks ls hx hG hM hd hl hR hS hL (ok_cons (v := iV (if x < y then y else x)) hro (ok_tl (ok_tl hst))) c1 c2 s1 s2
theorem aw_min {x y : Int} (h : KX q pc Lib.Math.min.name nx) (hd1 : 1 ≤ d) (hrm : Nat.ble st.length 11 = true) (kk : aw l E q d nx L (iV (if y < x then y else x) :: st) M P) : aw l E q d pc L (iV y :: iV x :: st) M P := by
  intro p e R s m args below meth cd H locs cells slots kc ks ls hx hG hM hd hl hR hS hL hst c1 c2 s1 s2
  obtain ⟨idx, h1, h2, h3⟩ := h
  subst h2
  have hyo : okI y := ok_hd hst
  have hxo : okI x := ok_hd (ok_tl hst)
  have hsum := sumC E st
  have hrm := Nat.le_of_ble_eq_true hrm
  refine va_mmin hx hM.2.2.1 (by rw [hL.1, hM.2.2.2.1]) (findClass_of_methodNamed hM.1) (cxW hG h3 rfl args) (cxW hG mnW.1 rfl args) (cxW hG mnW.2.1 rfl args) (cxW hG mnW.2.2 rfl args) (by omega) (by omega) (by omega) (by omega) h1 ?_
  have e9 : (if Int32.ofInt y < Int32.ofInt x then Int32.ofInt y else Int32.ofInt x) = Int32.ofInt (if y < x then y else x) := by
    by_cases hc : y < x
    · rw [if_pos hc, if_pos ((i32L hyo hxo).mpr hc)]
    · rw [if_neg hc, if_neg (fun z => hc ((i32L hyo hxo).mp z))]
  rw [e9]
  have hro : okI (if y < x then y else x) := by split <;> assumption
  exact kk p e R s m args below meth cd H locs cells slots kc ks ls hx hG hM hd hl hR hS hL (ok_cons (v := iV (if y < x then y else x)) hro (ok_tl (ok_tl hst))) c1 c2 s1 s2
/-- cell j's first k numbers are cell i's -/
def cpA (g : aG) (i j k : Nat) : aG := fun a b => if a = j ∧ b < k then g i b else g a b
theorem nfw : nativeFrameWords "java/lang/System" "arraycopy" 5 = 7 := by decide
theorem cyW : Cond.native arraycopyName ∈ lw_tbl ∧ Cond.static arraycopyName ∈ lw_tbl ∧ Cond.initialized "java/lang/System" ∈ lw_tbl := by
  refine ⟨List.mem_append_right _ (List.mem_of_getElem? (i := 183) (by decide +kernel)), ?_, List.mem_append_right _ (List.mem_of_getElem? (i := 12) (by decide +kernel))⟩
  exact List.mem_append_right _ (List.mem_of_getElem? (i := 182) (by decide +kernel))
theorem aw_cp {i j n0 n1 k a b : Nat} {x : Int} (h : KX q pc arraycopyName nx) (hd1 : 1 ≤ d) (hrm : Nat.ble st.length 9 = true) (hi : hasA S i 0 n0) (hj : hasA S j 0 n1) (hx1 : x = (k : Int)) (hk0 : k ≤ n0) (hk1 : k ≤ n1) (kk : aw l E q d nx L st (S, cpA g i j k, a, b, false) P) : aw l E q d pc L (iV x :: iV 0 :: rV j :: iV 0 :: rV i :: st) (S, g, a, b, false) P := by
  intro p e R s m args below meth cd H locs cells slots kc ks ls hx hG hM hd hl hR hS hL hst c1 c2 s1 s2
  obtain ⟨idx, h1, h2, h3⟩ := h
  subst h2
  have hxo : okI x := ok_hd hst
  have hsum := sumC E st
  have hrm := Nat.le_of_ble_eq_true hrm
  have he0 : (wsA E S g)[i]? = some (E.1.2.1 + i, .inl (E.2.2 0, n0, .inl (fun b => Int32.ofInt (g i b)))) := by rw [wsA_get hi.1, hi.2]; rfl
  have he1 : (wsA E S g)[j]? = some (E.1.2.1 + j, .inl (E.2.2 0, n1, .inl (fun b => Int32.ofInt (g j b)))) := by rw [wsA_get hj.1, hj.2]; rfl
  have hkx : (Int32.ofInt x).toNatClampNeg = k := by rw [i32N hxo]; omega
  have h00 : (Int32.ofInt 0).toNatClampNeg = 0 := by decide
  refine va_copyi hx hM.2.2.1 (by rw [hL.1, hM.2.2.2.1]) (findClass_of_methodNamed hM.1) (cxW hG h3 rfl args) (cxW hG cyW.1 rfl args) (cxW hG cyW.2.1 rfl args) (cxW hG cyW.2.2 rfl args) hG.2.2.2.2.1 hR.1 (wsA_D E S g) hS i j 0 0 (sp := Int32.ofInt 0) (dp := Int32.ofInt 0) (n := Int32.ofInt x) (ty := .int) he0 he1 rfl rfl rfl (by decide) (by decide) (i32nn hxo (by omega)) (by rw [hkx, h00]; omega) (by rw [hkx, h00]; omega) (fun b hb => rfl) (by omega) (by rw [nfw]; omega) h1 fun H1 locs1 k1 k2 k3 => ?_
  rw [hkx, h00] at k1
  have ew : (wsA E S g).set j (E.1.2.1 + j, .inl (E.2.2 0, n1, .inl (va_cpy (fun b => Int32.ofInt (g i b)) (fun b => Int32.ofInt (g j b)) 0 0 k))) = wsA E S (cpA g i j k) := by
    refine wsA_set hj.1 rfl ?_ (fun z hz => ?_)
    · rw [hj.2]
      show Sum.inl (E.2.2 0, n1, Sum.inl _) = Sum.inl (E.2.2 0, n1, Sum.inl _)
      refine congrArg (fun f => Sum.inl (E.2.2 0, n1, Sum.inl f)) (funext fun b => ?_)
      show va_cpy _ _ 0 0 k b = Int32.ofInt (cpA g i j k j b)
      unfold va_cpy cpA
      by_cases hb : b < k
      · rw [if_pos ⟨Nat.zero_le _, by omega⟩, if_pos ⟨rfl, hb⟩]
        simp
      · rw [if_neg (by omega), if_neg (by omega)]
    · have e : cpA g i j k z = g z := by funext b; exact if_neg (fun w => hz w.1)
      rw [e]
  have k1 : va_P E.2.1 vwCl (wsA E S (cpA g i j k)) H1 := by rw [← ew]; exact k1
  have hok : ∀ c b, okI (cpA g i j k c b) := by
    intro c b
    unfold cpA
    split
    · exact hR.2.1 i b
    · exact hR.2.1 c b
  exact kk p e R s m args below meth cd H1 locs1 cells slots kc ks ls hx hG hM hd hl ⟨k1, hok, fun z => by cases z⟩ k3 hL (fun v hv => hst v (by simp [hv])) c1 c2 s1 s2
abbrev Kz (q : aK) (pc : Nat) (lo hi : Int) (dt : Nat) (tgs : List Nat) : Prop := ∃ (df : Int) (offs : Array Int) (len : Nat), decode q.2.1 pc = .ok (.tableswitch df lo hi offs, len) ∧ (pc : Int) + df = (dt : Int) ∧ offs.toList.map (fun o => (pc : Int) + o) = tgs.map (fun t : Nat => (t : Int))
theorem aw_swi {lo hi x : Int} {dt : Nat} {tgs : List Nat} (h : Kz q pc lo hi dt tgs) (k : Nat) (hx1 : x = lo + k) (hx2 : x ≤ hi) (ht : tgs[k]? = some tg) (kk : aw l E q d tg L st M P) : aw l E q d pc L (iV x :: st) M P := by
  intro p e R s m args below meth cd H locs cells slots kc ks ls hx hG hM hd hl hR hS hL hst c1 c2 s1 s2
  obtain ⟨df, offs, len, h1, h2, h3⟩ := h
  have hxo : okI x := ok_hd hst
  have h4 : (offs.toList.map (fun o => (pc : Int) + o))[k]? = some (tg : Int) := by rw [h3]; simp [ht]
  obtain ⟨off, h5, h6⟩ : ∃ off, offs.toList[k]? = some off ∧ (pc : Int) + off = (tg : Int) := by
    rw [List.getElem?_map] at h4
    cases ho : offs.toList[k]? with
    | none => rw [ho] at h4; cases h4
    | some o => rw [ho] at h4; exact ⟨o, rfl, Option.some.inj h4⟩
  exact lv_tableIn hx hM.2.2.1 h1 (by rw [i32T hxo]; omega) (by rw [i32T hxo]; omega) (by rw [i32T hxo, show (x - lo).toNat = k by omega, ← Array.getElem?_toList]; exact h5) h6 (kk p e R s m args below meth cd H locs cells slots kc ks ls hx hG hM hd hl hR hS hL (ok_tl hst) c1 c2 s1 s2)
theorem aw_swo {lo hi x : Int} {dt : Nat} {tgs : List Nat} (h : Kz q pc lo hi dt tgs) (hx1 : x < lo ∨ hi < x) (kk : aw l E q d dt L st M P) : aw l E q d pc L (iV x :: st) M P := by
  intro p e R s m args below meth cd H locs cells slots kc ks ls hx hG hM hd hl hR hS hL hst c1 c2 s1 s2
  obtain ⟨df, offs, len, h1, h2, h3⟩ := h
  have hxo : okI x := ok_hd hst
  exact lv_tableOut hx hM.2.2.1 h1 (by rw [i32T hxo]; exact hx1) h2 (kk p e R s m args below meth cd H locs cells slots kc ks ls hx hG hM hd hl hR hS hL (ok_tl hst) c1 c2 s1 s2)
theorem aw_V0 {q' : aK} {ci i nn : Nat} (h : KV q pc q' ci 0 nx) (h0 : q.2.2.2.2 = []) (hrm : Nat.ble (2 * st.length + q'.2.2.1) 25 = true) (hh : hasA S i (ci + 4) nn) (k : Sp l E q' d [rV i] (S, g, u) (cnA l E q (d + 1) nx L st P)) : aw l E q (d + 1) pc L (rV i :: st) (S, g, u) P := aw_V (as := []) h h0 rfl (Nat.le_of_ble_eq_true hrm) (fun v hv => nomatch hv) hh k
theorem aw_H0 {q' : aK} {ci i nn : Nat} (h : KV q pc q' ci 0 nx) (hrm : Nat.ble (2 * st.length + q'.2.2.1) 25 = true) (hh : hasA S i (ci + 4) nn) (k : Sp l E q' d [rV i] (S, g, u) (cnH l E q (d + 1) pc nx L st P)) : aw l E q (d + 1) pc L (rV i :: st) (S, g, u) P := aw_VH (as := []) h rfl (Nat.le_of_ble_eq_true hrm) (fun v hv => nomatch hv) hh k
theorem aw_I0 {q' : aK} {i : Nat} (h : KI q pc q' 0 nx) (h0 : q.2.2.2.2 = []) (hrm : Nat.ble (2 * st.length + q'.2.2.1) 25 = true) (k : Sp l E q' d [rV i] M (cnA l E q (d + 1) nx L st P)) : aw l E q (d + 1) pc L (rV i :: st) M P := aw_I (as := []) h h0 rfl (Nat.le_of_ble_eq_true hrm) (fun v hv => nomatch hv) k
theorem aw_S1 {q' : aK} {v0 : aA} (h : KS q pc q' 1 nx) (h0 : q.2.2.2.2 = []) (hrm : Nat.ble (2 * st.length + q'.2.2.1) 25 = true) (hv0 : (cvA E v0).category = 1) (k : Sp l E q' d [v0] M (cnA l E q (d + 1) nx L st P)) : aw l E q (d + 1) pc L (v0 :: st) M P := aw_S (as := [v0]) h h0 rfl (Nat.le_of_ble_eq_true hrm) (by intro v hv; simp only [List.mem_cons, List.not_mem_nil, or_false] at hv; rcases hv with rfl <;> assumption) k
theorem aw_V1 {q' : aK} {ci i nn : Nat} {v0 : aA} (h : KV q pc q' ci 1 nx) (h0 : q.2.2.2.2 = []) (hrm : Nat.ble (2 * st.length + q'.2.2.1) 25 = true) (hv0 : (cvA E v0).category = 1) (hh : hasA S i (ci + 4) nn) (k : Sp l E q' d [rV i, v0] (S, g, u) (cnA l E q (d + 1) nx L st P)) : aw l E q (d + 1) pc L (v0 :: rV i :: st) (S, g, u) P := aw_V (as := [v0]) h h0 rfl (Nat.le_of_ble_eq_true hrm) (by intro v hv; simp only [List.mem_cons, List.not_mem_nil, or_false] at hv; rcases hv with rfl <;> assumption) hh k
theorem aw_H1 {q' : aK} {ci i nn : Nat} {v0 : aA} (h : KV q pc q' ci 1 nx) (hrm : Nat.ble (2 * st.length + q'.2.2.1) 25 = true) (hv0 : (cvA E v0).category = 1) (hh : hasA S i (ci + 4) nn) (k : Sp l E q' d [rV i, v0] (S, g, u) (cnH l E q (d + 1) pc nx L st P)) : aw l E q (d + 1) pc L (v0 :: rV i :: st) (S, g, u) P := aw_VH (as := [v0]) h rfl (Nat.le_of_ble_eq_true hrm) (by intro v hv; simp only [List.mem_cons, List.not_mem_nil, or_false] at hv; rcases hv with rfl <;> assumption) hh k
theorem aw_I1 {q' : aK} {i : Nat} {v0 : aA} (h : KI q pc q' 1 nx) (h0 : q.2.2.2.2 = []) (hrm : Nat.ble (2 * st.length + q'.2.2.1) 25 = true) (hv0 : (cvA E v0).category = 1) (k : Sp l E q' d [rV i, v0] M (cnA l E q (d + 1) nx L st P)) : aw l E q (d + 1) pc L (v0 :: rV i :: st) M P := aw_I (as := [v0]) h h0 rfl (Nat.le_of_ble_eq_true hrm) (by intro v hv; simp only [List.mem_cons, List.not_mem_nil, or_false] at hv; rcases hv with rfl <;> assumption) k
theorem aw_S2 {q' : aK} {v0 v1 : aA} (h : KS q pc q' 2 nx) (h0 : q.2.2.2.2 = []) (hrm : Nat.ble (2 * st.length + q'.2.2.1) 25 = true) (hv0 : (cvA E v0).category = 1) (hv1 : (cvA E v1).category = 1) (k : Sp l E q' d [v0, v1] M (cnA l E q (d + 1) nx L st P)) : aw l E q (d + 1) pc L (v1 :: v0 :: st) M P := aw_S (as := [v0, v1]) h h0 rfl (Nat.le_of_ble_eq_true hrm) (by intro v hv; simp only [List.mem_cons, List.not_mem_nil, or_false] at hv; rcases hv with rfl | rfl <;> assumption) k
theorem aw_V2 {q' : aK} {ci i nn : Nat} {v0 v1 : aA} (h : KV q pc q' ci 2 nx) (h0 : q.2.2.2.2 = []) (hrm : Nat.ble (2 * st.length + q'.2.2.1) 25 = true) (hv0 : (cvA E v0).category = 1) (hv1 : (cvA E v1).category = 1) (hh : hasA S i (ci + 4) nn) (k : Sp l E q' d [rV i, v0, v1] (S, g, u) (cnA l E q (d + 1) nx L st P)) : aw l E q (d + 1) pc L (v1 :: v0 :: rV i :: st) (S, g, u) P := aw_V (as := [v0, v1]) h h0 rfl (Nat.le_of_ble_eq_true hrm) (by intro v hv; simp only [List.mem_cons, List.not_mem_nil, or_false] at hv; rcases hv with rfl | rfl <;> assumption) hh k
theorem aw_H2 {q' : aK} {ci i nn : Nat} {v0 v1 : aA} (h : KV q pc q' ci 2 nx) (hrm : Nat.ble (2 * st.length + q'.2.2.1) 25 = true) (hv0 : (cvA E v0).category = 1) (hv1 : (cvA E v1).category = 1) (hh : hasA S i (ci + 4) nn) (k : Sp l E q' d [rV i, v0, v1] (S, g, u) (cnH l E q (d + 1) pc nx L st P)) : aw l E q (d + 1) pc L (v1 :: v0 :: rV i :: st) (S, g, u) P := aw_VH (as := [v0, v1]) h rfl (Nat.le_of_ble_eq_true hrm) (by intro v hv; simp only [List.mem_cons, List.not_mem_nil, or_false] at hv; rcases hv with rfl | rfl <;> assumption) hh k
theorem aw_I2 {q' : aK} {i : Nat} {v0 v1 : aA} (h : KI q pc q' 2 nx) (h0 : q.2.2.2.2 = []) (hrm : Nat.ble (2 * st.length + q'.2.2.1) 25 = true) (hv0 : (cvA E v0).category = 1) (hv1 : (cvA E v1).category = 1) (k : Sp l E q' d [rV i, v0, v1] M (cnA l E q (d + 1) nx L st P)) : aw l E q (d + 1) pc L (v1 :: v0 :: rV i :: st) M P := aw_I (as := [v0, v1]) h h0 rfl (Nat.le_of_ble_eq_true hrm) (by intro v hv; simp only [List.mem_cons, List.not_mem_nil, or_false] at hv; rcases hv with rfl | rfl <;> assumption) k
theorem aw_S3 {q' : aK} {v0 v1 v2 : aA} (h : KS q pc q' 3 nx) (h0 : q.2.2.2.2 = []) (hrm : Nat.ble (2 * st.length + q'.2.2.1) 25 = true) (hv0 : (cvA E v0).category = 1) (hv1 : (cvA E v1).category = 1) (hv2 : (cvA E v2).category = 1) (k : Sp l E q' d [v0, v1, v2] M (cnA l E q (d + 1) nx L st P)) : aw l E q (d + 1) pc L (v2 :: v1 :: v0 :: st) M P := aw_S (as := [v0, v1, v2]) h h0 rfl (Nat.le_of_ble_eq_true hrm) (by intro v hv; simp only [List.mem_cons, List.not_mem_nil, or_false] at hv; rcases hv with rfl | rfl | rfl <;> assumption) k
theorem aw_V3 {q' : aK} {ci i nn : Nat} {v0 v1 v2 : aA} (h : KV q pc q' ci 3 nx) (h0 : q.2.2.2.2 = []) (hrm : Nat.ble (2 * st.length + q'.2.2.1) 25 = true) (hv0 : (cvA E v0).category = 1) (hv1 : (cvA E v1).category = 1) (hv2 : (cvA E v2).category = 1) (hh : hasA S i (ci + 4) nn) (k : Sp l E q' d [rV i, v0, v1, v2] (S, g, u) (cnA l E q (d + 1) nx L st P)) : aw l E q (d + 1) pc L (v2 :: v1 :: v0 :: rV i :: st) (S, g, u) P := aw_V (as := [v0, v1, v2]) h h0 rfl (Nat.le_of_ble_eq_true hrm) (by intro v hv; simp only [List.mem_cons, List.not_mem_nil, or_false] at hv; rcases hv with rfl | rfl | rfl <;> assumption) hh k
theorem aw_H3 {q' : aK} {ci i nn : Nat} {v0 v1 v2 : aA} (h : KV q pc q' ci 3 nx) (hrm : Nat.ble (2 * st.length + q'.2.2.1) 25 = true) (hv0 : (cvA E v0).category = 1) (hv1 : (cvA E v1).category = 1) (hv2 : (cvA E v2).category = 1) (hh : hasA S i (ci + 4) nn) (k : Sp l E q' d [rV i, v0, v1, v2] (S, g, u) (cnH l E q (d + 1) pc nx L st P)) : aw l E q (d + 1) pc L (v2 :: v1 :: v0 :: rV i :: st) (S, g, u) P := aw_VH (as := [v0, v1, v2]) h rfl (Nat.le_of_ble_eq_true hrm) (by intro v hv; simp only [List.mem_cons, List.not_mem_nil, or_false] at hv; rcases hv with rfl | rfl | rfl <;> assumption) hh k
theorem aw_S4 {q' : aK} {v0 v1 v2 v3 : aA} (h : KS q pc q' 4 nx) (h0 : q.2.2.2.2 = []) (hrm : Nat.ble (2 * st.length + q'.2.2.1) 25 = true) (hv0 : (cvA E v0).category = 1) (hv1 : (cvA E v1).category = 1) (hv2 : (cvA E v2).category = 1) (hv3 : (cvA E v3).category = 1) (k : Sp l E q' d [v0, v1, v2, v3] M (cnA l E q (d + 1) nx L st P)) : aw l E q (d + 1) pc L (v3 :: v2 :: v1 :: v0 :: st) M P := aw_S (as := [v0, v1, v2, v3]) h h0 rfl (Nat.le_of_ble_eq_true hrm) (by intro v hv; simp only [List.mem_cons, List.not_mem_nil, or_false] at hv; rcases hv with rfl | rfl | rfl | rfl <;> assumption) k
theorem aw_V4 {q' : aK} {ci i nn : Nat} {v0 v1 v2 v3 : aA} (h : KV q pc q' ci 4 nx) (h0 : q.2.2.2.2 = []) (hrm : Nat.ble (2 * st.length + q'.2.2.1) 25 = true) (hv0 : (cvA E v0).category = 1) (hv1 : (cvA E v1).category = 1) (hv2 : (cvA E v2).category = 1) (hv3 : (cvA E v3).category = 1) (hh : hasA S i (ci + 4) nn) (k : Sp l E q' d [rV i, v0, v1, v2, v3] (S, g, u) (cnA l E q (d + 1) nx L st P)) : aw l E q (d + 1) pc L (v3 :: v2 :: v1 :: v0 :: rV i :: st) (S, g, u) P := aw_V (as := [v0, v1, v2, v3]) h h0 rfl (Nat.le_of_ble_eq_true hrm) (by intro v hv; simp only [List.mem_cons, List.not_mem_nil, or_false] at hv; rcases hv with rfl | rfl | rfl | rfl <;> assumption) hh k
theorem aw_H4 {q' : aK} {ci i nn : Nat} {v0 v1 v2 v3 : aA} (h : KV q pc q' ci 4 nx) (hrm : Nat.ble (2 * st.length + q'.2.2.1) 25 = true) (hv0 : (cvA E v0).category = 1) (hv1 : (cvA E v1).category = 1) (hv2 : (cvA E v2).category = 1) (hv3 : (cvA E v3).category = 1) (hh : hasA S i (ci + 4) nn) (k : Sp l E q' d [rV i, v0, v1, v2, v3] (S, g, u) (cnH l E q (d + 1) pc nx L st P)) : aw l E q (d + 1) pc L (v3 :: v2 :: v1 :: v0 :: rV i :: st) (S, g, u) P := aw_VH (as := [v0, v1, v2, v3]) h rfl (Nat.le_of_ble_eq_true hrm) (by intro v hv; simp only [List.mem_cons, List.not_mem_nil, or_false] at hv; rcases hv with rfl | rfl | rfl | rfl <;> assumption) hh k
theorem aw_S5 {q' : aK} {v0 v1 v2 v3 v4 : aA} (h : KS q pc q' 5 nx) (h0 : q.2.2.2.2 = []) (hrm : Nat.ble (2 * st.length + q'.2.2.1) 25 = true) (hv0 : (cvA E v0).category = 1) (hv1 : (cvA E v1).category = 1) (hv2 : (cvA E v2).category = 1) (hv3 : (cvA E v3).category = 1) (hv4 : (cvA E v4).category = 1) (k : Sp l E q' d [v0, v1, v2, v3, v4] M (cnA l E q (d + 1) nx L st P)) : aw l E q (d + 1) pc L (v4 :: v3 :: v2 :: v1 :: v0 :: st) M P := aw_S (as := [v0, v1, v2, v3, v4]) h h0 rfl (Nat.le_of_ble_eq_true hrm) (by intro v hv; simp only [List.mem_cons, List.not_mem_nil, or_false] at hv; rcases hv with rfl | rfl | rfl | rfl | rfl <;> assumption) k
theorem aw_S6 {q' : aK} {v0 v1 v2 v3 v4 v5 : aA} (h : KS q pc q' 6 nx) (h0 : q.2.2.2.2 = []) (hrm : Nat.ble (2 * st.length + q'.2.2.1) 25 = true) (hv0 : (cvA E v0).category = 1) (hv1 : (cvA E v1).category = 1) (hv2 : (cvA E v2).category = 1) (hv3 : (cvA E v3).category = 1) (hv4 : (cvA E v4).category = 1) (hv5 : (cvA E v5).category = 1) (k : Sp l E q' d [v0, v1, v2, v3, v4, v5] M (cnA l E q (d + 1) nx L st P)) : aw l E q (d + 1) pc L (v5 :: v4 :: v3 :: v2 :: v1 :: v0 :: st) M P := aw_S (as := [v0, v1, v2, v3, v4, v5]) h h0 rfl (Nat.le_of_ble_eq_true hrm) (by intro v hv; simp only [List.mem_cons, List.not_mem_nil, or_false] at hv; rcases hv with rfl | rfl | rfl | rfl | rfl | rfl <;> assumption) k
end AW4
end
