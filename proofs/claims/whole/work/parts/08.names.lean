theorem bnX0 : ∀ j, j < 9 → ∃ b, (rfX 0)[j]? = some b ∧ defaultValue (tyX0 j) = if b then .null else .int 0 := by
  intro j hj
  have h : ∀ j, j < 9 → ((rfX 0)[j]?).isSome = true ∧ defaultValue (tyX0 j) = if ((rfX 0)[j]?).getD false then .null else .int 0 := by decide +kernel
  obtain ⟨h1, h2⟩ := h j hj
  obtain ⟨b, hb⟩ := Option.isSome_iff_exists.mp h1
  exact ⟨b, hb, by rw [hb] at h2; exact h2⟩
theorem bnX1 : ∀ j, j < 5 → ∃ b, (rfX 1)[j]? = some b ∧ defaultValue (tyX1 j) = if b then .null else .int 0 := by
  intro j hj
  have h : ∀ j, j < 5 → ((rfX 1)[j]?).isSome = true ∧ defaultValue (tyX1 j) = if ((rfX 1)[j]?).getD false then .null else .int 0 := by decide +kernel
  obtain ⟨h1, h2⟩ := h j hj
  obtain ⟨b, hb⟩ := Option.isSome_iff_exists.mp h1
  exact ⟨b, hb, by rw [hb] at h2; exact h2⟩
theorem bnX2 : ∀ j, j < 10 → ∃ b, (rfX 2)[j]? = some b ∧ defaultValue (tyX2 j) = if b then .null else .int 0 := by
  intro j hj
  have h : ∀ j, j < 10 → ((rfX 2)[j]?).isSome = true ∧ defaultValue (tyX2 j) = if ((rfX 2)[j]?).getD false then .null else .int 0 := by decide +kernel
  obtain ⟨h1, h2⟩ := h j hj
  obtain ⟨b, hb⟩ := Option.isSome_iff_exists.mp h1
  exact ⟨b, hb, by rw [hb] at h2; exact h2⟩
theorem bnX3 : ∀ j, j < 6 → ∃ b, (rfX 3)[j]? = some b ∧ defaultValue (tyX3 j) = if b then .null else .int 0 := by
  intro j hj
  have h : ∀ j, j < 6 → ((rfX 3)[j]?).isSome = true ∧ defaultValue (tyX3 j) = if ((rfX 3)[j]?).getD false then .null else .int 0 := by decide +kernel
  obtain ⟨h1, h2⟩ := h j hj
  obtain ⟨b, hb⟩ := Option.isSome_iff_exists.mp h1
  exact ⟨b, hb, by rw [hb] at h2; exact h2⟩
theorem bnX4 : ∀ j, j < 21 → ∃ b, (rfX 4)[j]? = some b ∧ defaultValue (tyX4 j) = if b then .null else .int 0 := by
  intro j hj
  have h : ∀ j, j < 21 → ((rfX 4)[j]?).isSome = true ∧ defaultValue (tyX4 j) = if ((rfX 4)[j]?).getD false then .null else .int 0 := by decide +kernel
  obtain ⟨h1, h2⟩ := h j hj
  obtain ⟨b, hb⟩ := Option.isSome_iff_exists.mp h1
  exact ⟨b, hb, by rw [hb] at h2; exact h2⟩
def O_init : aK := (⟨"OmegaNets", "<init>", "(II)V"⟩, prog_1_method_1_code, 3, none, [])
def O_within : aK := (⟨"OmegaNets", "within", "(III)I"⟩, prog_1_method_32_code, 3, (some .int), [])
def N_init : aK := (⟨"OmegaNets$Net", "<init>", "(II)V"⟩, prog_3_method_1_code, 3, none, [])
def T_init : aK := (⟨"OmegaNets$Tree", "<init>", "(LOmegaNets$Net;)V"⟩, prog_4_method_1_code, 2, none, [])
def G_init : aK := (⟨"OmegaNets$Goals", "<init>", "(LOmegaNets$Net;)V"⟩, prog_2_method_1_code, 2, none, [])
def O_reset : aK := (⟨"OmegaNets", "reset", "()I"⟩, prog_1_method_7_code, 2, (some .int), [])
def O_returnToStart : aK := (⟨"OmegaNets", "returnToStart", "()V"⟩, prog_1_method_22_code, 1, none, [])
def L_cell : aK := (⟨"OmegaNetsLaw", "cell", "([II)I"⟩, method_2_code, 2, (some .int), [])
def L_arc : aK := (⟨"OmegaNetsLaw", "arc", "(LOmegaNets;IIII[J)I"⟩, method_3_code, 7, (some .int), [(0, 14, 17, 13), (0, 14, 21, 15)])
def O_arc : aK := (⟨"OmegaNets", "arc", "(IIII)I"⟩, prog_1_method_2_code, 5, (some .int), [])
def O_checkTransition : aK := (⟨"OmegaNets", "checkTransition", "(I)V"⟩, prog_1_method_25_code, 2, none, [])
def O_checkIndex : aK := (⟨"OmegaNets", "checkIndex", "(II)V"⟩, prog_1_method_30_code, 2, none, [])
def O_checkPlace : aK := (⟨"OmegaNets", "checkPlace", "(I)V"⟩, prog_1_method_26_code, 2, none, [])
def O_checkNumber : aK := (⟨"OmegaNets", "checkNumber", "(II)V"⟩, prog_1_method_31_code, 2, none, [])
def O_forgetTreeAndGoals : aK := (⟨"OmegaNets", "forgetTreeAndGoals", "()V"⟩, prog_1_method_23_code, 1, none, [])
def L_start : aK := (⟨"OmegaNetsLaw", "start", "(LOmegaNets;II[J)I"⟩, method_4_code, 5, (some .int), [(0, 10, 13, 13), (0, 10, 17, 15)])
def O_start : aK := (⟨"OmegaNets", "start", "(II)I"⟩, prog_1_method_3_code, 4, (some .int), [])
def L_want : aK := (⟨"OmegaNetsLaw", "want", "(LOmegaNets;II[J)I"⟩, method_5_code, 5, (some .int), [(0, 10, 13, 13), (0, 10, 17, 15)])
def O_want : aK := (⟨"OmegaNets", "want", "(II)I"⟩, prog_1_method_4_code, 4, (some .int), [])
def L_fire : aK := (⟨"OmegaNetsLaw", "fire", "(LOmegaNets;I[J)I"⟩, method_6_code, 4, (some .int), [(0, 16, 19, 13)])
def O_fire : aK := (⟨"OmegaNets", "fire", "(I)Z"⟩, prog_1_method_5_code, 2, (some .boolean), [])
def N_enables : aK := (⟨"OmegaNets$Net", "enables", "([II)Z"⟩, prog_3_method_2_code, 3, (some .boolean), [])
def O_isBelow : aK := (⟨"OmegaNets", "isBelow", "([I[I)Z"⟩, prog_1_method_34_code, 3, (some .boolean), [])
def N_move : aK := (⟨"OmegaNets$Net", "move", "([II[I)V"⟩, prog_3_method_4_code, 5, none, [])
def L_at : aK := (⟨"OmegaNetsLaw", "at", "(LOmegaNets;I[J)I"⟩, method_7_code, 4, (some .int), [(0, 9, 12, 13)])
def O_at : aK := (⟨"OmegaNets", "at", "(I)I"⟩, prog_1_method_6_code, 2, (some .int), [])
def L_explore : aK := (⟨"OmegaNetsLaw", "explore", "(LOmegaNets;[J)I"⟩, method_8_code, 3, (some .int), [(0, 8, 11, 36)])
def O_explore : aK := (⟨"OmegaNets", "explore", "()I"⟩, prog_1_method_8_code, 1, (some .int), [])
def T_grow : aK := (⟨"OmegaNets$Tree", "grow", "()V"⟩, prog_4_method_2_code, 3, none, [])
def T_plant : aK := (⟨"OmegaNets$Tree", "plant", "()V"⟩, prog_4_method_3_code, 1, none, [])
def T_repeatsOneAbove : aK := (⟨"OmegaNets$Tree", "repeatsOneAbove", "(I)Z"⟩, prog_4_method_4_code, 4, (some .boolean), [])
def O_isSame : aK := (⟨"OmegaNets", "isSame", "([I[I)Z"⟩, prog_1_method_35_code, 2, (some .boolean), [])
def T_branch : aK := (⟨"OmegaNets$Tree", "branch", "(I)Z"⟩, prog_4_method_5_code, 3, (some .boolean), [])
def T_addNode : aK := (⟨"OmegaNets$Tree", "addNode", "(II)V"⟩, prog_4_method_6_code, 4, none, [])
def T_lift : aK := (⟨"OmegaNets$Tree", "lift", "(I)V"⟩, prog_4_method_7_code, 6, none, [])
def T_liftOver : aK := (⟨"OmegaNets$Tree", "liftOver", "([I[I)Z"⟩, prog_4_method_8_code, 5, (some .boolean), [])
def T_findPeaks : aK := (⟨"OmegaNets$Tree", "findPeaks", "()V"⟩, prog_4_method_9_code, 2, none, [])
def T_isPeak : aK := (⟨"OmegaNets$Tree", "isPeak", "(I)Z"⟩, prog_4_method_10_code, 4, (some .boolean), [])
def L_count : aK := (⟨"OmegaNetsLaw", "count", "(LOmegaNets;II[J)I"⟩, method_9_code, 5, (some .int), [(0, 10, 13, 36), (0, 10, 17, 13)])
def O_count : aK := (⟨"OmegaNets", "count", "(II)I"⟩, prog_1_method_9_code, 3, (some .int), [])
def O_checkTree : aK := (⟨"OmegaNets", "checkTree", "()V"⟩, prog_1_method_28_code, 1, none, [])
def O_checkNode : aK := (⟨"OmegaNets", "checkNode", "(I)V"⟩, prog_1_method_27_code, 2, none, [])
def O_shown : aK := (⟨"OmegaNets", "shown", "(I)I"⟩, prog_1_method_33_code, 1, (some .int), [])
def L_node : aK := (⟨"OmegaNetsLaw", "node", "(LOmegaNets;II[J)I"⟩, method_10_code, 5, (some .int), [(0, 10, 13, 36), (0, 10, 17, 13), (0, 10, 21, 15)])
def O_node : aK := (⟨"OmegaNets", "node", "(II)I"⟩, prog_1_method_10_code, 3, (some .int), [])
def L_path : aK := (⟨"OmegaNetsLaw", "path", "(LOmegaNets;II[J)I"⟩, method_11_code, 5, (some .int), [(0, 10, 13, 36), (0, 10, 17, 13)])
def O_path : aK := (⟨"OmegaNets", "path", "(II)I"⟩, prog_1_method_11_code, 3, (some .int), [])
def T_stepTo : aK := (⟨"OmegaNets$Tree", "stepTo", "(II)I"⟩, prog_4_method_11_code, 5, (some .int), [])
def L_bound : aK := (⟨"OmegaNetsLaw", "bound", "(LOmegaNets;I[J)I"⟩, method_12_code, 4, (some .int), [(0, 9, 12, 36), (0, 9, 15, 13)])
def O_bound : aK := (⟨"OmegaNets", "bound", "(I)I"⟩, prog_1_method_12_code, 2, (some .int), [])
def T_greatest : aK := (⟨"OmegaNets$Tree", "greatest", "(I)I"⟩, prog_4_method_12_code, 4, (some .int), [])
def L_tops : aK := (⟨"OmegaNetsLaw", "tops", "(LOmegaNets;[J)I"⟩, method_13_code, 3, (some .int), [(0, 8, 11, 36)])
def O_tops : aK := (⟨"OmegaNets", "tops", "()I"⟩, prog_1_method_13_code, 1, (some .int), [])
def L_top : aK := (⟨"OmegaNetsLaw", "top", "(LOmegaNets;I[J)I"⟩, method_14_code, 4, (some .int), [(0, 9, 12, 36), (0, 9, 15, 13)])
def O_top : aK := (⟨"OmegaNets", "top", "(I)I"⟩, prog_1_method_14_code, 2, (some .int), [])
def L_covered : aK := (⟨"OmegaNetsLaw", "covered", "(LOmegaNets;[J)I"⟩, method_15_code, 3, (some .int), [(0, 15, 18, 36)])
def O_covered : aK := (⟨"OmegaNets", "covered", "()Z"⟩, prog_1_method_15_code, 1, (some .boolean), [])
def T_reachesAbove : aK := (⟨"OmegaNets$Tree", "reachesAbove", "([I)Z"⟩, prog_4_method_13_code, 3, (some .boolean), [])
def L_lives : aK := (⟨"OmegaNetsLaw", "lives", "(LOmegaNets;I[J)I"⟩, method_16_code, 4, (some .int), [(0, 16, 19, 36), (0, 16, 22, 13)])
def O_lives : aK := (⟨"OmegaNets", "lives", "(I)Z"⟩, prog_1_method_16_code, 2, (some .boolean), [])
def T_everEnables : aK := (⟨"OmegaNets$Tree", "everEnables", "(I)Z"⟩, prog_4_method_14_code, 2, (some .boolean), [])
def L_dead : aK := (⟨"OmegaNetsLaw", "dead", "(LOmegaNets;[J)I"⟩, method_17_code, 3, (some .int), [(0, 8, 11, 36)])
def O_dead : aK := (⟨"OmegaNets", "dead", "()I"⟩, prog_1_method_17_code, 1, (some .int), [])
def T_firstStuck : aK := (⟨"OmegaNets$Tree", "firstStuck", "()I"⟩, prog_4_method_15_code, 2, (some .int), [])
def N_isStuck : aK := (⟨"OmegaNets$Net", "isStuck", "([I)Z"⟩, prog_3_method_3_code, 3, (some .boolean), [])
def L_back : aK := (⟨"OmegaNetsLaw", "back", "(LOmegaNets;[J)I"⟩, method_18_code, 3, (some .int), [(0, 8, 11, 36)])
def O_back : aK := (⟨"OmegaNets", "back", "()I"⟩, prog_1_method_18_code, 1, (some .int), [])
def G_gather : aK := (⟨"OmegaNets$Goals", "gather", "([I)V"⟩, prog_2_method_2_code, 4, none, [])
def G_plant : aK := (⟨"OmegaNets$Goals", "plant", "([I)V"⟩, prog_2_method_3_code, 2, none, [])
def G_goBack : aK := (⟨"OmegaNets$Goals", "goBack", "(I)Z"⟩, prog_2_method_4_code, 3, (some .boolean), [])
def N_moveBack : aK := (⟨"OmegaNets$Net", "moveBack", "([II[I)V"⟩, prog_3_method_5_code, 5, none, [])
def G_isKnown : aK := (⟨"OmegaNets$Goals", "isKnown", "([I)Z"⟩, prog_2_method_5_code, 3, (some .boolean), [])
def G_addCandidate : aK := (⟨"OmegaNets$Goals", "addCandidate", "(II)V"⟩, prog_2_method_6_code, 4, none, [])
def G_keptCount : aK := (⟨"OmegaNets$Goals", "keptCount", "()I"⟩, prog_2_method_7_code, 3, (some .int), [])
def L_goal : aK := (⟨"OmegaNetsLaw", "goal", "(LOmegaNets;II[J)I"⟩, method_19_code, 5, (some .int), [(0, 10, 13, 36), (0, 10, 17, 13)])
def O_goal : aK := (⟨"OmegaNets", "goal", "(II)I"⟩, prog_1_method_19_code, 4, (some .int), [])
def O_checkGoals : aK := (⟨"OmegaNets", "checkGoals", "()V"⟩, prog_1_method_29_code, 1, none, [])
def G_kept : aK := (⟨"OmegaNets$Goals", "kept", "(I)I"⟩, prog_2_method_8_code, 4, (some .int), [])
def L_length : aK := (⟨"OmegaNetsLaw", "length", "(LOmegaNets;[J)I"⟩, method_20_code, 3, (some .int), [(0, 8, 11, 36), (0, 8, 14, 75)])
def O_length : aK := (⟨"OmegaNets", "length", "()I"⟩, prog_1_method_20_code, 1, (some .int), [])
def O_goalBelowStart : aK := (⟨"OmegaNets", "goalBelowStart", "()I"⟩, prog_1_method_24_code, 2, (some .int), [])
def G_firstBelow : aK := (⟨"OmegaNets$Goals", "firstBelow", "([I)I"⟩, prog_2_method_9_code, 3, (some .int), [])
def L_way : aK := (⟨"OmegaNetsLaw", "way", "(LOmegaNets;I[J)I"⟩, method_21_code, 4, (some .int), [(0, 9, 12, 36), (0, 9, 15, 75), (0, 9, 18, 13)])
def O_way : aK := (⟨"OmegaNets", "way", "(I)I"⟩, prog_1_method_21_code, 3, (some .int), [])
def G_stepFrom : aK := (⟨"OmegaNets$Goals", "stepFrom", "(II)I"⟩, prog_2_method_10_code, 5, (some .int), [])
def M_init : aK := (⟨"OmegaNetsModel", "<init>", "(II)V"⟩, prog_6_method_1_code, 3, none, [])
def M_thrown : aK := (⟨"OmegaNetsModel", "thrown", "()I"⟩, prog_6_method_2_code, 1, (some .int), [])
def M_arc : aK := (⟨"OmegaNetsModel", "arc", "(IIII)I"⟩, prog_6_method_6_code, 6, (some .int), [])
def M_isTransition : aK := (⟨"OmegaNetsModel", "isTransition", "(I)Z"⟩, prog_6_method_4_code, 2, (some .boolean), [])
def M_isPlace : aK := (⟨"OmegaNetsModel", "isPlace", "(I)Z"⟩, prog_6_method_3_code, 2, (some .boolean), [])
def M_changed : aK := (⟨"OmegaNetsModel", "changed", "()V"⟩, prog_6_method_5_code, 1, none, [])
def M_start : aK := (⟨"OmegaNetsModel", "start", "(II)I"⟩, prog_6_method_8_code, 4, (some .int), [])
def M_begin : aK := (⟨"OmegaNetsModel", "begin", "()V"⟩, prog_6_method_7_code, 2, none, [])
def M_want : aK := (⟨"OmegaNetsModel", "want", "(II)I"⟩, prog_6_method_9_code, 4, (some .int), [])
def M_fire : aK := (⟨"OmegaNetsModel", "fire", "(I)Z"⟩, prog_6_method_10_code, 4, (some .boolean), [])
def M_at : aK := (⟨"OmegaNetsModel", "at", "(I)I"⟩, prog_6_method_11_code, 2, (some .int), [])
def M_reset : aK := (⟨"OmegaNetsModel", "reset", "()I"⟩, prog_6_method_12_code, 2, (some .int), [])
def M_explore : aK := (⟨"OmegaNetsModel", "explore", "()I"⟩, prog_6_method_19_code, 3, (some .int), [])
def M_isLeaf : aK := (⟨"OmegaNetsModel", "isLeaf", "(I)Z"⟩, prog_6_method_16_code, 4, (some .boolean), [])
def M_isSame : aK := (⟨"OmegaNetsModel", "isSame", "(II)Z"⟩, prog_6_method_14_code, 3, (some .boolean), [])
def M_isBelow : aK := (⟨"OmegaNetsModel", "isBelow", "(II)Z"⟩, prog_6_method_13_code, 5, (some .boolean), [])
def M_isEnabled : aK := (⟨"OmegaNetsModel", "isEnabled", "(II)Z"⟩, prog_6_method_15_code, 5, (some .boolean), [])
def M_grow : aK := (⟨"OmegaNetsModel", "grow", "(II)V"⟩, prog_6_method_18_code, 6, none, [])
def M_raise : aK := (⟨"OmegaNetsModel", "raise", "(I)Z"⟩, prog_6_method_17_code, 6, (some .boolean), [])
def M_count : aK := (⟨"OmegaNetsModel", "count", "(II)I"⟩, prog_6_method_22_code, 3, (some .int), [])
def M_isNode : aK := (⟨"OmegaNetsModel", "isNode", "(I)Z"⟩, prog_6_method_20_code, 2, (some .boolean), [])
def M_told : aK := (⟨"OmegaNetsModel", "told", "(I)I"⟩, prog_6_method_21_code, 1, (some .int), [])
def M_node : aK := (⟨"OmegaNetsModel", "node", "(II)I"⟩, prog_6_method_23_code, 3, (some .int), [])
def M_path : aK := (⟨"OmegaNetsModel", "path", "(II)I"⟩, prog_6_method_25_code, 6, (some .int), [])
def M_depth : aK := (⟨"OmegaNetsModel", "depth", "(I)I"⟩, prog_6_method_24_code, 4, (some .int), [])
def M_bound : aK := (⟨"OmegaNetsModel", "bound", "(I)I"⟩, prog_6_method_26_code, 4, (some .int), [])
def M_tops : aK := (⟨"OmegaNetsModel", "tops", "()I"⟩, prog_6_method_29_code, 3, (some .int), [])
def M_isTop : aK := (⟨"OmegaNetsModel", "isTop", "(I)Z"⟩, prog_6_method_27_code, 5, (some .boolean), [])
def M_top : aK := (⟨"OmegaNetsModel", "top", "(I)I"⟩, prog_6_method_30_code, 3, (some .int), [])
def M_topAt : aK := (⟨"OmegaNetsModel", "topAt", "(I)I"⟩, prog_6_method_28_code, 4, (some .int), [])
def M_covered : aK := (⟨"OmegaNetsModel", "covered", "()Z"⟩, prog_6_method_31_code, 5, (some .boolean), [])
def M_lives : aK := (⟨"OmegaNetsModel", "lives", "(I)Z"⟩, prog_6_method_32_code, 4, (some .boolean), [])
def M_dead : aK := (⟨"OmegaNetsModel", "dead", "()I"⟩, prog_6_method_33_code, 4, (some .int), [])
def M_back : aK := (⟨"OmegaNetsModel", "back", "()I"⟩, prog_6_method_36_code, 5, (some .int), [])
def M_makeGoal : aK := (⟨"OmegaNetsModel", "makeGoal", "(II)Z"⟩, prog_6_method_35_code, 6, (some .boolean), [])
def M_isGoalBelow : aK := (⟨"OmegaNetsModel", "isGoalBelow", "(II)Z"⟩, prog_6_method_34_code, 5, (some .boolean), [])
def M_goal : aK := (⟨"OmegaNetsModel", "goal", "(II)I"⟩, prog_6_method_37_code, 6, (some .int), [])
def M_length : aK := (⟨"OmegaNetsModel", "length", "()I"⟩, prog_6_method_39_code, 4, (some .int), [])
def M_firstGoal : aK := (⟨"OmegaNetsModel", "firstGoal", "()I"⟩, prog_6_method_38_code, 4, (some .int), [])
def M_way : aK := (⟨"OmegaNetsModel", "way", "(I)I"⟩, prog_6_method_40_code, 5, (some .int), [])
def L_law : aK := (⟨"OmegaNetsLaw", "law", "([I)Z"⟩, code, 7, (some .boolean), [])
theorem w_0 : Cond.initialized "OmegaNetsLaw" ∈ lw_tbl := List.mem_append_right _ (List.mem_of_getElem? (i := 0) (by decide +kernel))
theorem w_1 : Cond.initialized "OmegaNets" ∈ lw_tbl := List.mem_append_right _ (List.mem_of_getElem? (i := 1) (by decide +kernel))
theorem w_2 : Cond.initialized "OmegaNets$Net" ∈ lw_tbl := List.mem_append_right _ (List.mem_of_getElem? (i := 2) (by decide +kernel))
theorem w_4 : Cond.initialized "OmegaNets$Tree" ∈ lw_tbl := List.mem_append_right _ (List.mem_of_getElem? (i := 4) (by decide +kernel))
theorem w_5 : Cond.initialized "OmegaNets$Goals" ∈ lw_tbl := List.mem_append_right _ (List.mem_of_getElem? (i := 5) (by decide +kernel))
theorem w_6 : Cond.initialized "OmegaNetsModel" ∈ lw_tbl := List.mem_append_right _ (List.mem_of_getElem? (i := 6) (by decide +kernel))
theorem w_10 : Cond.initialized "java/lang/IndexOutOfBoundsException" ∈ lw_tbl := List.mem_append_right _ (List.mem_of_getElem? (i := 10) (by decide +kernel))
theorem w_11 : Cond.initialized "java/lang/IllegalArgumentException" ∈ lw_tbl := List.mem_append_right _ (List.mem_of_getElem? (i := 11) (by decide +kernel))
theorem w_13 : Cond.initialized "java/lang/IllegalStateException" ∈ lw_tbl := List.mem_append_right _ (List.mem_of_getElem? (i := 13) (by decide +kernel))
theorem w_14 : Cond.initialized "java/lang/UnsupportedOperationException" ∈ lw_tbl := List.mem_append_right _ (List.mem_of_getElem? (i := 14) (by decide +kernel))
theorem w_15 : Cond.classLink "OmegaNetsLaw" 8 "OmegaNets" ∈ lw_tbl := List.mem_append_right _ (List.mem_of_getElem? (i := 15) (by decide +kernel))
theorem w_17 : Cond.methodLink "OmegaNetsLaw" 86 ⟨"OmegaNets", "<init>", "(II)V"⟩ ∈ lw_tbl := List.mem_append_right _ (List.mem_of_getElem? (i := 17) (by decide +kernel))
theorem w_18 : Cond.instanceMethod ⟨"OmegaNets", "<init>", "(II)V"⟩ ∈ lw_tbl := List.mem_append_right _ (List.mem_of_getElem? (i := 18) (by decide +kernel))
theorem w_19 : Cond.code ⟨"OmegaNets", "<init>", "(II)V"⟩ prog_1_method_1_code 3 none ∈ lw_tbl := List.mem_append_right _ (List.mem_of_getElem? (i := 19) (by decide +kernel))
theorem w_20 : Cond.methodLink "OmegaNets" 1 ⟨"java/lang/Object", "<init>", "()V"⟩ ∈ lw_tbl := List.mem_append_right _ (List.mem_of_getElem? (i := 20) (by decide +kernel))
theorem w_21 : Cond.instanceMethod ⟨"java/lang/Object", "<init>", "()V"⟩ ∈ lw_tbl := List.mem_append_right _ (List.mem_of_getElem? (i := 21) (by decide +kernel))
theorem w_22 : Cond.code ⟨"java/lang/Object", "<init>", "()V"⟩ object_method_1_code 1 none ∈ lw_tbl := List.mem_append_right _ (List.mem_of_getElem? (i := 22) (by decide +kernel))
theorem w_23 : Cond.classLink "OmegaNets" 7 "OmegaNets$Net" ∈ lw_tbl := List.mem_append_right _ (List.mem_of_getElem? (i := 23) (by decide +kernel))
theorem w_25 : Cond.methodLink "OmegaNets" 11 ⟨"OmegaNets", "within", "(III)I"⟩ ∈ lw_tbl := List.mem_append_right _ (List.mem_of_getElem? (i := 25) (by decide +kernel))
theorem w_26 : Cond.static ⟨"OmegaNets", "within", "(III)I"⟩ ∈ lw_tbl := List.mem_append_right _ (List.mem_of_getElem? (i := 26) (by decide +kernel))
theorem w_27 : Cond.code ⟨"OmegaNets", "within", "(III)I"⟩ prog_1_method_32_code 3 (some .int) ∈ lw_tbl := List.mem_append_right _ (List.mem_of_getElem? (i := 27) (by decide +kernel))
theorem w_28 : Cond.methodLink "OmegaNets" 216 ⟨"java/lang/Math", "min", "(II)I"⟩ ∈ lw_tbl := List.mem_append_right _ (List.mem_of_getElem? (i := 28) (by decide +kernel))
theorem w_31 : Cond.methodLink "OmegaNets" 221 ⟨"java/lang/Math", "max", "(II)I"⟩ ∈ lw_tbl := List.mem_append_right _ (List.mem_of_getElem? (i := 31) (by decide +kernel))
theorem w_34 : Cond.methodLink "OmegaNets" 15 ⟨"OmegaNets$Net", "<init>", "(II)V"⟩ ∈ lw_tbl := List.mem_append_right _ (List.mem_of_getElem? (i := 34) (by decide +kernel))
theorem w_35 : Cond.instanceMethod ⟨"OmegaNets$Net", "<init>", "(II)V"⟩ ∈ lw_tbl := List.mem_append_right _ (List.mem_of_getElem? (i := 35) (by decide +kernel))
theorem w_36 : Cond.code ⟨"OmegaNets$Net", "<init>", "(II)V"⟩ prog_3_method_1_code 3 none ∈ lw_tbl := List.mem_append_right _ (List.mem_of_getElem? (i := 36) (by decide +kernel))
theorem w_37 : Cond.methodLink "OmegaNets$Net" 3 ⟨"java/lang/Object", "<init>", "()V"⟩ ∈ lw_tbl := List.mem_append_right _ (List.mem_of_getElem? (i := 37) (by decide +kernel))
theorem w_38 : Cond.classLink "OmegaNets$Net" 18 "[[I" ∈ lw_tbl := List.mem_append_right _ (List.mem_of_getElem? (i := 38) (by decide +kernel))
theorem w_39 : Cond.arrayOver (.array .int) ∈ lw_tbl := List.mem_append_right _ (List.mem_of_getElem? (i := 39) (by decide +kernel))
theorem w_40 : Cond.fieldLink "OmegaNets$Net" 9 "OmegaNets$Net" "places" "I" ∈ lw_tbl := List.mem_append_right _ (List.mem_of_getElem? (i := 40) (by decide +kernel))
theorem w_41 : Cond.fieldLink "OmegaNets$Goals" 29 "OmegaNets$Net" "places" "I" ∈ lw_tbl := List.mem_append_right _ (List.mem_of_getElem? (i := 41) (by decide +kernel))
theorem w_42 : Cond.fieldLink "OmegaNets$Tree" 32 "OmegaNets$Net" "places" "I" ∈ lw_tbl := List.mem_append_right _ (List.mem_of_getElem? (i := 42) (by decide +kernel))
theorem w_43 : Cond.fieldLink "OmegaNets" 38 "OmegaNets$Net" "places" "I" ∈ lw_tbl := List.mem_append_right _ (List.mem_of_getElem? (i := 43) (by decide +kernel))
theorem w_44 : Cond.fieldLink "OmegaNets$Net" 15 "OmegaNets$Net" "transitions" "I" ∈ lw_tbl := List.mem_append_right _ (List.mem_of_getElem? (i := 44) (by decide +kernel))
theorem w_45 : Cond.fieldLink "OmegaNets$Goals" 64 "OmegaNets$Net" "transitions" "I" ∈ lw_tbl := List.mem_append_right _ (List.mem_of_getElem? (i := 45) (by decide +kernel))
theorem w_46 : Cond.fieldLink "OmegaNets$Tree" 76 "OmegaNets$Net" "transitions" "I" ∈ lw_tbl := List.mem_append_right _ (List.mem_of_getElem? (i := 46) (by decide +kernel))
theorem w_47 : Cond.fieldLink "OmegaNets" 206 "OmegaNets$Net" "transitions" "I" ∈ lw_tbl := List.mem_append_right _ (List.mem_of_getElem? (i := 47) (by decide +kernel))
theorem w_48 : Cond.fieldLink "OmegaNets$Net" 20 "OmegaNets$Net" "needs" "[[I" ∈ lw_tbl := List.mem_append_right _ (List.mem_of_getElem? (i := 48) (by decide +kernel))
theorem w_49 : Cond.fieldLink "OmegaNets" 62 "OmegaNets$Net" "needs" "[[I" ∈ lw_tbl := List.mem_append_right _ (List.mem_of_getElem? (i := 49) (by decide +kernel))
theorem w_50 : Cond.fieldLink "OmegaNets$Tree" 113 "OmegaNets$Net" "needs" "[[I" ∈ lw_tbl := List.mem_append_right _ (List.mem_of_getElem? (i := 50) (by decide +kernel))
theorem w_51 : Cond.fieldLink "OmegaNets$Net" 23 "OmegaNets$Net" "gives" "[[I" ∈ lw_tbl := List.mem_append_right _ (List.mem_of_getElem? (i := 51) (by decide +kernel))
theorem w_52 : Cond.fieldLink "OmegaNets" 66 "OmegaNets$Net" "gives" "[[I" ∈ lw_tbl := List.mem_append_right _ (List.mem_of_getElem? (i := 52) (by decide +kernel))
theorem w_53 : Cond.fieldLink "OmegaNets$Net" 26 "OmegaNets$Net" "first" "[I" ∈ lw_tbl := List.mem_append_right _ (List.mem_of_getElem? (i := 53) (by decide +kernel))
theorem w_54 : Cond.fieldLink "OmegaNets$Tree" 63 "OmegaNets$Net" "first" "[I" ∈ lw_tbl := List.mem_append_right _ (List.mem_of_getElem? (i := 54) (by decide +kernel))
theorem w_55 : Cond.fieldLink "OmegaNets" 72 "OmegaNets$Net" "first" "[I" ∈ lw_tbl := List.mem_append_right _ (List.mem_of_getElem? (i := 55) (by decide +kernel))
theorem w_67 : Cond.arrayClass .int ∈ lw_tbl := List.mem_append_right _ (List.mem_of_getElem? (i := 67) (by decide +kernel))
theorem w_68 : Cond.classLink "OmegaNets" 22 "OmegaNets$Tree" ∈ lw_tbl := List.mem_append_right _ (List.mem_of_getElem? (i := 68) (by decide +kernel))
theorem w_70 : Cond.methodLink "OmegaNets" 24 ⟨"OmegaNets$Tree", "<init>", "(LOmegaNets$Net;)V"⟩ ∈ lw_tbl := List.mem_append_right _ (List.mem_of_getElem? (i := 70) (by decide +kernel))
theorem w_71 : Cond.instanceMethod ⟨"OmegaNets$Tree", "<init>", "(LOmegaNets$Net;)V"⟩ ∈ lw_tbl := List.mem_append_right _ (List.mem_of_getElem? (i := 71) (by decide +kernel))
theorem w_72 : Cond.code ⟨"OmegaNets$Tree", "<init>", "(LOmegaNets$Net;)V"⟩ prog_4_method_1_code 2 none ∈ lw_tbl := List.mem_append_right _ (List.mem_of_getElem? (i := 72) (by decide +kernel))
theorem w_73 : Cond.methodLink "OmegaNets$Tree" 3 ⟨"java/lang/Object", "<init>", "()V"⟩ ∈ lw_tbl := List.mem_append_right _ (List.mem_of_getElem? (i := 73) (by decide +kernel))
theorem w_74 : Cond.classLink "OmegaNets$Tree" 38 "[[I" ∈ lw_tbl := List.mem_append_right _ (List.mem_of_getElem? (i := 74) (by decide +kernel))
theorem w_75 : Cond.fieldLink "OmegaNets$Tree" 28 "OmegaNets$Tree" "net" "LOmegaNets$Net;" ∈ lw_tbl := List.mem_append_right _ (List.mem_of_getElem? (i := 75) (by decide +kernel))
theorem w_76 : Cond.fieldLink "OmegaNets$Tree" 40 "OmegaNets$Tree" "markings" "[[I" ∈ lw_tbl := List.mem_append_right _ (List.mem_of_getElem? (i := 76) (by decide +kernel))
theorem w_77 : Cond.fieldLink "OmegaNets" 110 "OmegaNets$Tree" "markings" "[[I" ∈ lw_tbl := List.mem_append_right _ (List.mem_of_getElem? (i := 77) (by decide +kernel))
theorem w_78 : Cond.fieldLink "OmegaNets$Tree" 9 "OmegaNets$Tree" "parents" "[I" ∈ lw_tbl := List.mem_append_right _ (List.mem_of_getElem? (i := 78) (by decide +kernel))
theorem w_79 : Cond.fieldLink "OmegaNets" 117 "OmegaNets$Tree" "parents" "[I" ∈ lw_tbl := List.mem_append_right _ (List.mem_of_getElem? (i := 79) (by decide +kernel))
theorem w_80 : Cond.fieldLink "OmegaNets$Tree" 15 "OmegaNets$Tree" "transitions" "[I" ∈ lw_tbl := List.mem_append_right _ (List.mem_of_getElem? (i := 80) (by decide +kernel))
theorem w_81 : Cond.fieldLink "OmegaNets" 120 "OmegaNets$Tree" "transitions" "[I" ∈ lw_tbl := List.mem_append_right _ (List.mem_of_getElem? (i := 81) (by decide +kernel))
theorem w_82 : Cond.fieldLink "OmegaNets$Tree" 18 "OmegaNets$Tree" "depths" "[I" ∈ lw_tbl := List.mem_append_right _ (List.mem_of_getElem? (i := 82) (by decide +kernel))
theorem w_83 : Cond.fieldLink "OmegaNets" 132 "OmegaNets$Tree" "depths" "[I" ∈ lw_tbl := List.mem_append_right _ (List.mem_of_getElem? (i := 83) (by decide +kernel))
theorem w_84 : Cond.fieldLink "OmegaNets$Tree" 21 "OmegaNets$Tree" "leaves" "[Z" ∈ lw_tbl := List.mem_append_right _ (List.mem_of_getElem? (i := 84) (by decide +kernel))
theorem w_85 : Cond.fieldLink "OmegaNets" 123 "OmegaNets$Tree" "leaves" "[Z" ∈ lw_tbl := List.mem_append_right _ (List.mem_of_getElem? (i := 85) (by decide +kernel))
theorem w_86 : Cond.fieldLink "OmegaNets$Tree" 25 "OmegaNets$Tree" "peaks" "[I" ∈ lw_tbl := List.mem_append_right _ (List.mem_of_getElem? (i := 86) (by decide +kernel))
theorem w_87 : Cond.fieldLink "OmegaNets" 148 "OmegaNets$Tree" "peaks" "[I" ∈ lw_tbl := List.mem_append_right _ (List.mem_of_getElem? (i := 87) (by decide +kernel))
theorem w_88 : Cond.fieldLink "OmegaNets$Tree" 50 "OmegaNets$Tree" "size" "I" ∈ lw_tbl := List.mem_append_right _ (List.mem_of_getElem? (i := 88) (by decide +kernel))
theorem w_89 : Cond.fieldLink "OmegaNets" 101 "OmegaNets$Tree" "size" "I" ∈ lw_tbl := List.mem_append_right _ (List.mem_of_getElem? (i := 89) (by decide +kernel))
theorem w_90 : Cond.fieldLink "OmegaNets$Tree" 101 "OmegaNets$Tree" "peakCount" "I" ∈ lw_tbl := List.mem_append_right _ (List.mem_of_getElem? (i := 90) (by decide +kernel))
theorem w_91 : Cond.fieldLink "OmegaNets" 145 "OmegaNets$Tree" "peakCount" "I" ∈ lw_tbl := List.mem_append_right _ (List.mem_of_getElem? (i := 91) (by decide +kernel))
theorem w_92 : Cond.fieldLink "OmegaNets$Tree" 43 "OmegaNets$Tree" "made" "Z" ∈ lw_tbl := List.mem_append_right _ (List.mem_of_getElem? (i := 92) (by decide +kernel))
theorem w_93 : Cond.fieldLink "OmegaNets" 93 "OmegaNets$Tree" "made" "Z" ∈ lw_tbl := List.mem_append_right _ (List.mem_of_getElem? (i := 93) (by decide +kernel))
theorem w_115 : Cond.arrayClass .boolean ∈ lw_tbl := List.mem_append_right _ (List.mem_of_getElem? (i := 115) (by decide +kernel))
theorem w_116 : Cond.classLink "OmegaNets" 31 "OmegaNets$Goals" ∈ lw_tbl := List.mem_append_right _ (List.mem_of_getElem? (i := 116) (by decide +kernel))
theorem w_118 : Cond.methodLink "OmegaNets" 33 ⟨"OmegaNets$Goals", "<init>", "(LOmegaNets$Net;)V"⟩ ∈ lw_tbl := List.mem_append_right _ (List.mem_of_getElem? (i := 118) (by decide +kernel))
theorem w_119 : Cond.instanceMethod ⟨"OmegaNets$Goals", "<init>", "(LOmegaNets$Net;)V"⟩ ∈ lw_tbl := List.mem_append_right _ (List.mem_of_getElem? (i := 119) (by decide +kernel))
theorem w_120 : Cond.code ⟨"OmegaNets$Goals", "<init>", "(LOmegaNets$Net;)V"⟩ prog_2_method_1_code 2 none ∈ lw_tbl := List.mem_append_right _ (List.mem_of_getElem? (i := 120) (by decide +kernel))
theorem w_121 : Cond.methodLink "OmegaNets$Goals" 3 ⟨"java/lang/Object", "<init>", "()V"⟩ ∈ lw_tbl := List.mem_append_right _ (List.mem_of_getElem? (i := 121) (by decide +kernel))
theorem w_122 : Cond.classLink "OmegaNets$Goals" 35 "[[I" ∈ lw_tbl := List.mem_append_right _ (List.mem_of_getElem? (i := 122) (by decide +kernel))
theorem w_123 : Cond.fieldLink "OmegaNets$Goals" 25 "OmegaNets$Goals" "net" "LOmegaNets$Net;" ∈ lw_tbl := List.mem_append_right _ (List.mem_of_getElem? (i := 123) (by decide +kernel))
theorem w_124 : Cond.fieldLink "OmegaNets$Goals" 37 "OmegaNets$Goals" "markings" "[[I" ∈ lw_tbl := List.mem_append_right _ (List.mem_of_getElem? (i := 124) (by decide +kernel))
theorem w_125 : Cond.fieldLink "OmegaNets" 183 "OmegaNets$Goals" "markings" "[[I" ∈ lw_tbl := List.mem_append_right _ (List.mem_of_getElem? (i := 125) (by decide +kernel))
theorem w_126 : Cond.fieldLink "OmegaNets$Goals" 9 "OmegaNets$Goals" "nexts" "[I" ∈ lw_tbl := List.mem_append_right _ (List.mem_of_getElem? (i := 126) (by decide +kernel))
theorem w_127 : Cond.fieldLink "OmegaNets$Goals" 15 "OmegaNets$Goals" "transitions" "[I" ∈ lw_tbl := List.mem_append_right _ (List.mem_of_getElem? (i := 127) (by decide +kernel))
theorem w_128 : Cond.fieldLink "OmegaNets$Goals" 18 "OmegaNets$Goals" "depths" "[I" ∈ lw_tbl := List.mem_append_right _ (List.mem_of_getElem? (i := 128) (by decide +kernel))
theorem w_129 : Cond.fieldLink "OmegaNets" 184 "OmegaNets$Goals" "depths" "[I" ∈ lw_tbl := List.mem_append_right _ (List.mem_of_getElem? (i := 129) (by decide +kernel))
theorem w_130 : Cond.fieldLink "OmegaNets$Goals" 21 "OmegaNets$Goals" "givenUp" "[Z" ∈ lw_tbl := List.mem_append_right _ (List.mem_of_getElem? (i := 130) (by decide +kernel))
theorem w_131 : Cond.fieldLink "OmegaNets$Goals" 40 "OmegaNets$Goals" "candidate" "[I" ∈ lw_tbl := List.mem_append_right _ (List.mem_of_getElem? (i := 131) (by decide +kernel))
theorem w_132 : Cond.fieldLink "OmegaNets$Goals" 51 "OmegaNets$Goals" "size" "I" ∈ lw_tbl := List.mem_append_right _ (List.mem_of_getElem? (i := 132) (by decide +kernel))
theorem w_133 : Cond.fieldLink "OmegaNets$Goals" 43 "OmegaNets$Goals" "made" "Z" ∈ lw_tbl := List.mem_append_right _ (List.mem_of_getElem? (i := 133) (by decide +kernel))
theorem w_134 : Cond.fieldLink "OmegaNets" 78 "OmegaNets$Goals" "made" "Z" ∈ lw_tbl := List.mem_append_right _ (List.mem_of_getElem? (i := 134) (by decide +kernel))
theorem w_154 : Cond.fieldLink "OmegaNets" 18 "OmegaNets" "net" "LOmegaNets$Net;" ∈ lw_tbl := List.mem_append_right _ (List.mem_of_getElem? (i := 154) (by decide +kernel))
theorem w_155 : Cond.fieldLink "OmegaNets" 27 "OmegaNets" "tree" "LOmegaNets$Tree;" ∈ lw_tbl := List.mem_append_right _ (List.mem_of_getElem? (i := 155) (by decide +kernel))
theorem w_156 : Cond.fieldLink "OmegaNets" 34 "OmegaNets" "goals" "LOmegaNets$Goals;" ∈ lw_tbl := List.mem_append_right _ (List.mem_of_getElem? (i := 156) (by decide +kernel))
theorem w_157 : Cond.fieldLink "OmegaNets" 42 "OmegaNets" "wanted" "[I" ∈ lw_tbl := List.mem_append_right _ (List.mem_of_getElem? (i := 157) (by decide +kernel))
theorem w_158 : Cond.fieldLink "OmegaNets" 46 "OmegaNets" "present" "[I" ∈ lw_tbl := List.mem_append_right _ (List.mem_of_getElem? (i := 158) (by decide +kernel))
theorem w_159 : Cond.fieldLink "OmegaNets" 49 "OmegaNets" "firings" "I" ∈ lw_tbl := List.mem_append_right _ (List.mem_of_getElem? (i := 159) (by decide +kernel))
theorem w_173 : Cond.methodLink "OmegaNetsLaw" 113 ⟨"OmegaNets", "reset", "()I"⟩ ∈ lw_tbl := List.mem_append_right _ (List.mem_of_getElem? (i := 173) (by decide +kernel))
theorem w_174 : Cond.instanceMethod ⟨"OmegaNets", "reset", "()I"⟩ ∈ lw_tbl := List.mem_append_right _ (List.mem_of_getElem? (i := 174) (by decide +kernel))
theorem w_175 : Cond.selects "OmegaNets" ⟨"OmegaNets", "reset", "()I"⟩ ⟨"OmegaNets", "reset", "()I"⟩ ∈ lw_tbl := List.mem_append_right _ (List.mem_of_getElem? (i := 175) (by decide +kernel))
theorem w_176 : Cond.code ⟨"OmegaNets", "reset", "()I"⟩ prog_1_method_7_code 2 (some .int) ∈ lw_tbl := List.mem_append_right _ (List.mem_of_getElem? (i := 176) (by decide +kernel))
theorem w_177 : Cond.methodLink "OmegaNets" 75 ⟨"OmegaNets", "returnToStart", "()V"⟩ ∈ lw_tbl := List.mem_append_right _ (List.mem_of_getElem? (i := 177) (by decide +kernel))
theorem w_179 : Cond.instanceMethod ⟨"OmegaNets", "returnToStart", "()V"⟩ ∈ lw_tbl := List.mem_append_right _ (List.mem_of_getElem? (i := 179) (by decide +kernel))
theorem w_180 : Cond.code ⟨"OmegaNets", "returnToStart", "()V"⟩ prog_1_method_22_code 1 none ∈ lw_tbl := List.mem_append_right _ (List.mem_of_getElem? (i := 180) (by decide +kernel))
theorem w_181 : Cond.methodLink "OmegaNets" 191 ⟨"java/lang/System", "arraycopy", "(Ljava/lang/Object;ILjava/lang/Object;II)V"⟩ ∈ lw_tbl := List.mem_append_right _ (List.mem_of_getElem? (i := 181) (by decide +kernel))
theorem w_184 : Cond.methodLink "OmegaNetsLaw" 80 ⟨"OmegaNetsLaw", "cell", "([II)I"⟩ ∈ lw_tbl := List.mem_append_right _ (List.mem_of_getElem? (i := 184) (by decide +kernel))
theorem w_185 : Cond.static ⟨"OmegaNetsLaw", "cell", "([II)I"⟩ ∈ lw_tbl := List.mem_append_right _ (List.mem_of_getElem? (i := 185) (by decide +kernel))
theorem w_186 : Cond.code ⟨"OmegaNetsLaw", "cell", "([II)I"⟩ method_2_code 2 (some .int) ∈ lw_tbl := List.mem_append_right _ (List.mem_of_getElem? (i := 186) (by decide +kernel))
theorem w_187 : Cond.methodLink "OmegaNetsLaw" 92 ⟨"OmegaNetsLaw", "arc", "(LOmegaNets;IIII[J)I"⟩ ∈ lw_tbl := List.mem_append_right _ (List.mem_of_getElem? (i := 187) (by decide +kernel))
theorem w_188 : Cond.static ⟨"OmegaNetsLaw", "arc", "(LOmegaNets;IIII[J)I"⟩ ∈ lw_tbl := List.mem_append_right _ (List.mem_of_getElem? (i := 188) (by decide +kernel))
theorem w_189 : Cond.codeWith ⟨"OmegaNetsLaw", "arc", "(LOmegaNets;IIII[J)I"⟩ method_3_code 7 (some .int) [(0, 14, 17, 13), (0, 14, 21, 15)] ∈ lw_tbl := List.mem_append_right _ (List.mem_of_getElem? (i := 189) (by decide +kernel))
theorem w_190 : Cond.classLink "OmegaNetsLaw" 13 "java/lang/IndexOutOfBoundsException" ∈ lw_tbl := List.mem_append_right _ (List.mem_of_getElem? (i := 190) (by decide +kernel))
theorem w_191 : Cond.classLink "OmegaNetsLaw" 15 "java/lang/IllegalArgumentException" ∈ lw_tbl := List.mem_append_right _ (List.mem_of_getElem? (i := 191) (by decide +kernel))
theorem w_192 : Cond.methodLink "OmegaNetsLaw" 7 ⟨"OmegaNets", "arc", "(IIII)I"⟩ ∈ lw_tbl := List.mem_append_right _ (List.mem_of_getElem? (i := 192) (by decide +kernel))
theorem w_193 : Cond.instanceMethod ⟨"OmegaNets", "arc", "(IIII)I"⟩ ∈ lw_tbl := List.mem_append_right _ (List.mem_of_getElem? (i := 193) (by decide +kernel))
theorem w_194 : Cond.selects "OmegaNets" ⟨"OmegaNets", "arc", "(IIII)I"⟩ ⟨"OmegaNets", "arc", "(IIII)I"⟩ ∈ lw_tbl := List.mem_append_right _ (List.mem_of_getElem? (i := 194) (by decide +kernel))
theorem w_195 : Cond.code ⟨"OmegaNets", "arc", "(IIII)I"⟩ prog_1_method_2_code 5 (some .int) ∈ lw_tbl := List.mem_append_right _ (List.mem_of_getElem? (i := 195) (by decide +kernel))
theorem w_196 : Cond.methodLink "OmegaNets" 52 ⟨"OmegaNets", "checkTransition", "(I)V"⟩ ∈ lw_tbl := List.mem_append_right _ (List.mem_of_getElem? (i := 196) (by decide +kernel))
theorem w_198 : Cond.instanceMethod ⟨"OmegaNets", "checkTransition", "(I)V"⟩ ∈ lw_tbl := List.mem_append_right _ (List.mem_of_getElem? (i := 198) (by decide +kernel))
theorem w_199 : Cond.code ⟨"OmegaNets", "checkTransition", "(I)V"⟩ prog_1_method_25_code 2 none ∈ lw_tbl := List.mem_append_right _ (List.mem_of_getElem? (i := 199) (by decide +kernel))
theorem w_200 : Cond.methodLink "OmegaNets" 135 ⟨"OmegaNets", "checkIndex", "(II)V"⟩ ∈ lw_tbl := List.mem_append_right _ (List.mem_of_getElem? (i := 200) (by decide +kernel))
theorem w_201 : Cond.static ⟨"OmegaNets", "checkIndex", "(II)V"⟩ ∈ lw_tbl := List.mem_append_right _ (List.mem_of_getElem? (i := 201) (by decide +kernel))
theorem w_202 : Cond.code ⟨"OmegaNets", "checkIndex", "(II)V"⟩ prog_1_method_30_code 2 none ∈ lw_tbl := List.mem_append_right _ (List.mem_of_getElem? (i := 202) (by decide +kernel))
theorem w_203 : Cond.classLink "OmegaNets" 178 "java/lang/IndexOutOfBoundsException" ∈ lw_tbl := List.mem_append_right _ (List.mem_of_getElem? (i := 203) (by decide +kernel))
theorem w_205 : Cond.castable "java/lang/IndexOutOfBoundsException" "java/lang/IndexOutOfBoundsException" ∈ lw_tbl := List.mem_append_right _ (List.mem_of_getElem? (i := 205) (by decide +kernel))
theorem w_272 : Cond.methodLink "OmegaNets" 56 ⟨"OmegaNets", "checkPlace", "(I)V"⟩ ∈ lw_tbl := List.mem_append_right _ (List.mem_of_getElem? (i := 272) (by decide +kernel))
theorem w_274 : Cond.instanceMethod ⟨"OmegaNets", "checkPlace", "(I)V"⟩ ∈ lw_tbl := List.mem_append_right _ (List.mem_of_getElem? (i := 274) (by decide +kernel))
theorem w_275 : Cond.code ⟨"OmegaNets", "checkPlace", "(I)V"⟩ prog_1_method_26_code 2 none ∈ lw_tbl := List.mem_append_right _ (List.mem_of_getElem? (i := 275) (by decide +kernel))
theorem w_276 : Cond.methodLink "OmegaNets" 59 ⟨"OmegaNets", "checkNumber", "(II)V"⟩ ∈ lw_tbl := List.mem_append_right _ (List.mem_of_getElem? (i := 276) (by decide +kernel))
theorem w_277 : Cond.static ⟨"OmegaNets", "checkNumber", "(II)V"⟩ ∈ lw_tbl := List.mem_append_right _ (List.mem_of_getElem? (i := 277) (by decide +kernel))
theorem w_278 : Cond.code ⟨"OmegaNets", "checkNumber", "(II)V"⟩ prog_1_method_31_code 2 none ∈ lw_tbl := List.mem_append_right _ (List.mem_of_getElem? (i := 278) (by decide +kernel))
theorem w_279 : Cond.classLink "OmegaNets" 127 "java/lang/IllegalArgumentException" ∈ lw_tbl := List.mem_append_right _ (List.mem_of_getElem? (i := 279) (by decide +kernel))
theorem w_281 : Cond.castable "java/lang/IllegalArgumentException" "java/lang/IllegalArgumentException" ∈ lw_tbl := List.mem_append_right _ (List.mem_of_getElem? (i := 281) (by decide +kernel))
theorem w_295 : Cond.methodLink "OmegaNets" 69 ⟨"OmegaNets", "forgetTreeAndGoals", "()V"⟩ ∈ lw_tbl := List.mem_append_right _ (List.mem_of_getElem? (i := 295) (by decide +kernel))
theorem w_297 : Cond.instanceMethod ⟨"OmegaNets", "forgetTreeAndGoals", "()V"⟩ ∈ lw_tbl := List.mem_append_right _ (List.mem_of_getElem? (i := 297) (by decide +kernel))
theorem w_298 : Cond.code ⟨"OmegaNets", "forgetTreeAndGoals", "()V"⟩ prog_1_method_23_code 1 none ∈ lw_tbl := List.mem_append_right _ (List.mem_of_getElem? (i := 298) (by decide +kernel))
theorem w_299 : Cond.methodLink "OmegaNetsLaw" 99 ⟨"OmegaNetsLaw", "start", "(LOmegaNets;II[J)I"⟩ ∈ lw_tbl := List.mem_append_right _ (List.mem_of_getElem? (i := 299) (by decide +kernel))
theorem w_300 : Cond.static ⟨"OmegaNetsLaw", "start", "(LOmegaNets;II[J)I"⟩ ∈ lw_tbl := List.mem_append_right _ (List.mem_of_getElem? (i := 300) (by decide +kernel))
theorem w_301 : Cond.codeWith ⟨"OmegaNetsLaw", "start", "(LOmegaNets;II[J)I"⟩ method_4_code 5 (some .int) [(0, 10, 13, 13), (0, 10, 17, 15)] ∈ lw_tbl := List.mem_append_right _ (List.mem_of_getElem? (i := 301) (by decide +kernel))
theorem w_302 : Cond.methodLink "OmegaNetsLaw" 17 ⟨"OmegaNets", "start", "(II)I"⟩ ∈ lw_tbl := List.mem_append_right _ (List.mem_of_getElem? (i := 302) (by decide +kernel))
theorem w_303 : Cond.instanceMethod ⟨"OmegaNets", "start", "(II)I"⟩ ∈ lw_tbl := List.mem_append_right _ (List.mem_of_getElem? (i := 303) (by decide +kernel))
theorem w_304 : Cond.selects "OmegaNets" ⟨"OmegaNets", "start", "(II)I"⟩ ⟨"OmegaNets", "start", "(II)I"⟩ ∈ lw_tbl := List.mem_append_right _ (List.mem_of_getElem? (i := 304) (by decide +kernel))
theorem w_305 : Cond.code ⟨"OmegaNets", "start", "(II)I"⟩ prog_1_method_3_code 4 (some .int) ∈ lw_tbl := List.mem_append_right _ (List.mem_of_getElem? (i := 305) (by decide +kernel))
theorem w_306 : Cond.methodLink "OmegaNetsLaw" 103 ⟨"OmegaNetsLaw", "want", "(LOmegaNets;II[J)I"⟩ ∈ lw_tbl := List.mem_append_right _ (List.mem_of_getElem? (i := 306) (by decide +kernel))
theorem w_307 : Cond.static ⟨"OmegaNetsLaw", "want", "(LOmegaNets;II[J)I"⟩ ∈ lw_tbl := List.mem_append_right _ (List.mem_of_getElem? (i := 307) (by decide +kernel))
theorem w_308 : Cond.codeWith ⟨"OmegaNetsLaw", "want", "(LOmegaNets;II[J)I"⟩ method_5_code 5 (some .int) [(0, 10, 13, 13), (0, 10, 17, 15)] ∈ lw_tbl := List.mem_append_right _ (List.mem_of_getElem? (i := 308) (by decide +kernel))
theorem w_309 : Cond.methodLink "OmegaNetsLaw" 21 ⟨"OmegaNets", "want", "(II)I"⟩ ∈ lw_tbl := List.mem_append_right _ (List.mem_of_getElem? (i := 309) (by decide +kernel))
theorem w_310 : Cond.instanceMethod ⟨"OmegaNets", "want", "(II)I"⟩ ∈ lw_tbl := List.mem_append_right _ (List.mem_of_getElem? (i := 310) (by decide +kernel))
theorem w_311 : Cond.selects "OmegaNets" ⟨"OmegaNets", "want", "(II)I"⟩ ⟨"OmegaNets", "want", "(II)I"⟩ ∈ lw_tbl := List.mem_append_right _ (List.mem_of_getElem? (i := 311) (by decide +kernel))
theorem w_312 : Cond.code ⟨"OmegaNets", "want", "(II)I"⟩ prog_1_method_4_code 4 (some .int) ∈ lw_tbl := List.mem_append_right _ (List.mem_of_getElem? (i := 312) (by decide +kernel))
theorem w_313 : Cond.methodLink "OmegaNetsLaw" 106 ⟨"OmegaNetsLaw", "fire", "(LOmegaNets;I[J)I"⟩ ∈ lw_tbl := List.mem_append_right _ (List.mem_of_getElem? (i := 313) (by decide +kernel))
theorem w_314 : Cond.static ⟨"OmegaNetsLaw", "fire", "(LOmegaNets;I[J)I"⟩ ∈ lw_tbl := List.mem_append_right _ (List.mem_of_getElem? (i := 314) (by decide +kernel))
theorem w_315 : Cond.codeWith ⟨"OmegaNetsLaw", "fire", "(LOmegaNets;I[J)I"⟩ method_6_code 4 (some .int) [(0, 16, 19, 13)] ∈ lw_tbl := List.mem_append_right _ (List.mem_of_getElem? (i := 315) (by decide +kernel))
theorem w_316 : Cond.methodLink "OmegaNetsLaw" 24 ⟨"OmegaNets", "fire", "(I)Z"⟩ ∈ lw_tbl := List.mem_append_right _ (List.mem_of_getElem? (i := 316) (by decide +kernel))
theorem w_317 : Cond.instanceMethod ⟨"OmegaNets", "fire", "(I)Z"⟩ ∈ lw_tbl := List.mem_append_right _ (List.mem_of_getElem? (i := 317) (by decide +kernel))
theorem w_318 : Cond.selects "OmegaNets" ⟨"OmegaNets", "fire", "(I)Z"⟩ ⟨"OmegaNets", "fire", "(I)Z"⟩ ∈ lw_tbl := List.mem_append_right _ (List.mem_of_getElem? (i := 318) (by decide +kernel))
theorem w_319 : Cond.code ⟨"OmegaNets", "fire", "(I)Z"⟩ prog_1_method_5_code 2 (some .boolean) ∈ lw_tbl := List.mem_append_right _ (List.mem_of_getElem? (i := 319) (by decide +kernel))
theorem w_320 : Cond.methodLink "OmegaNets" 82 ⟨"OmegaNets$Net", "enables", "([II)Z"⟩ ∈ lw_tbl := List.mem_append_right _ (List.mem_of_getElem? (i := 320) (by decide +kernel))
theorem w_321 : Cond.instanceMethod ⟨"OmegaNets$Net", "enables", "([II)Z"⟩ ∈ lw_tbl := List.mem_append_right _ (List.mem_of_getElem? (i := 321) (by decide +kernel))
theorem w_322 : Cond.selects "OmegaNets$Net" ⟨"OmegaNets$Net", "enables", "([II)Z"⟩ ⟨"OmegaNets$Net", "enables", "([II)Z"⟩ ∈ lw_tbl := List.mem_append_right _ (List.mem_of_getElem? (i := 322) (by decide +kernel))
theorem w_323 : Cond.code ⟨"OmegaNets$Net", "enables", "([II)Z"⟩ prog_3_method_2_code 3 (some .boolean) ∈ lw_tbl := List.mem_append_right _ (List.mem_of_getElem? (i := 323) (by decide +kernel))
theorem w_324 : Cond.methodLinkNest "OmegaNets$Net" 30 ⟨"OmegaNets", "isBelow", "([I[I)Z"⟩ "OmegaNets" ∈ lw_tbl := List.mem_append_right _ (List.mem_of_getElem? (i := 324) (by decide +kernel))
theorem w_325 : Cond.static ⟨"OmegaNets", "isBelow", "([I[I)Z"⟩ ∈ lw_tbl := List.mem_append_right _ (List.mem_of_getElem? (i := 325) (by decide +kernel))
theorem w_326 : Cond.code ⟨"OmegaNets", "isBelow", "([I[I)Z"⟩ prog_1_method_34_code 3 (some .boolean) ∈ lw_tbl := List.mem_append_right _ (List.mem_of_getElem? (i := 326) (by decide +kernel))
theorem w_327 : Cond.methodLink "OmegaNets" 86 ⟨"OmegaNets$Net", "move", "([II[I)V"⟩ ∈ lw_tbl := List.mem_append_right _ (List.mem_of_getElem? (i := 327) (by decide +kernel))
theorem w_328 : Cond.instanceMethod ⟨"OmegaNets$Net", "move", "([II[I)V"⟩ ∈ lw_tbl := List.mem_append_right _ (List.mem_of_getElem? (i := 328) (by decide +kernel))
theorem w_329 : Cond.selects "OmegaNets$Net" ⟨"OmegaNets$Net", "move", "([II[I)V"⟩ ⟨"OmegaNets$Net", "move", "([II[I)V"⟩ ∈ lw_tbl := List.mem_append_right _ (List.mem_of_getElem? (i := 329) (by decide +kernel))
theorem w_330 : Cond.code ⟨"OmegaNets$Net", "move", "([II[I)V"⟩ prog_3_method_4_code 5 none ∈ lw_tbl := List.mem_append_right _ (List.mem_of_getElem? (i := 330) (by decide +kernel))
theorem w_331 : Cond.constant "OmegaNets$Net" 38 1000000000 ∈ lw_tbl := List.mem_append_right _ (List.mem_of_getElem? (i := 331) (by decide +kernel))
theorem w_332 : Cond.methodLink "OmegaNetsLaw" 110 ⟨"OmegaNetsLaw", "at", "(LOmegaNets;I[J)I"⟩ ∈ lw_tbl := List.mem_append_right _ (List.mem_of_getElem? (i := 332) (by decide +kernel))
theorem w_333 : Cond.static ⟨"OmegaNetsLaw", "at", "(LOmegaNets;I[J)I"⟩ ∈ lw_tbl := List.mem_append_right _ (List.mem_of_getElem? (i := 333) (by decide +kernel))
theorem w_334 : Cond.codeWith ⟨"OmegaNetsLaw", "at", "(LOmegaNets;I[J)I"⟩ method_7_code 4 (some .int) [(0, 9, 12, 13)] ∈ lw_tbl := List.mem_append_right _ (List.mem_of_getElem? (i := 334) (by decide +kernel))
theorem w_335 : Cond.methodLink "OmegaNetsLaw" 28 ⟨"OmegaNets", "at", "(I)I"⟩ ∈ lw_tbl := List.mem_append_right _ (List.mem_of_getElem? (i := 335) (by decide +kernel))
theorem w_336 : Cond.instanceMethod ⟨"OmegaNets", "at", "(I)I"⟩ ∈ lw_tbl := List.mem_append_right _ (List.mem_of_getElem? (i := 336) (by decide +kernel))
theorem w_337 : Cond.selects "OmegaNets" ⟨"OmegaNets", "at", "(I)I"⟩ ⟨"OmegaNets", "at", "(I)I"⟩ ∈ lw_tbl := List.mem_append_right _ (List.mem_of_getElem? (i := 337) (by decide +kernel))
theorem w_338 : Cond.code ⟨"OmegaNets", "at", "(I)I"⟩ prog_1_method_6_code 2 (some .int) ∈ lw_tbl := List.mem_append_right _ (List.mem_of_getElem? (i := 338) (by decide +kernel))
theorem w_339 : Cond.methodLink "OmegaNetsLaw" 117 ⟨"OmegaNetsLaw", "explore", "(LOmegaNets;[J)I"⟩ ∈ lw_tbl := List.mem_append_right _ (List.mem_of_getElem? (i := 339) (by decide +kernel))
theorem w_340 : Cond.static ⟨"OmegaNetsLaw", "explore", "(LOmegaNets;[J)I"⟩ ∈ lw_tbl := List.mem_append_right _ (List.mem_of_getElem? (i := 340) (by decide +kernel))
theorem w_341 : Cond.codeWith ⟨"OmegaNetsLaw", "explore", "(LOmegaNets;[J)I"⟩ method_8_code 3 (some .int) [(0, 8, 11, 36)] ∈ lw_tbl := List.mem_append_right _ (List.mem_of_getElem? (i := 341) (by decide +kernel))
theorem w_342 : Cond.classLink "OmegaNetsLaw" 36 "java/lang/IllegalStateException" ∈ lw_tbl := List.mem_append_right _ (List.mem_of_getElem? (i := 342) (by decide +kernel))
theorem w_343 : Cond.methodLink "OmegaNetsLaw" 32 ⟨"OmegaNets", "explore", "()I"⟩ ∈ lw_tbl := List.mem_append_right _ (List.mem_of_getElem? (i := 343) (by decide +kernel))
theorem w_344 : Cond.instanceMethod ⟨"OmegaNets", "explore", "()I"⟩ ∈ lw_tbl := List.mem_append_right _ (List.mem_of_getElem? (i := 344) (by decide +kernel))
theorem w_345 : Cond.selects "OmegaNets" ⟨"OmegaNets", "explore", "()I"⟩ ⟨"OmegaNets", "explore", "()I"⟩ ∈ lw_tbl := List.mem_append_right _ (List.mem_of_getElem? (i := 345) (by decide +kernel))
theorem w_346 : Cond.code ⟨"OmegaNets", "explore", "()I"⟩ prog_1_method_8_code 1 (some .int) ∈ lw_tbl := List.mem_append_right _ (List.mem_of_getElem? (i := 346) (by decide +kernel))
theorem w_347 : Cond.methodLink "OmegaNets" 90 ⟨"OmegaNets$Tree", "grow", "()V"⟩ ∈ lw_tbl := List.mem_append_right _ (List.mem_of_getElem? (i := 347) (by decide +kernel))
theorem w_348 : Cond.instanceMethod ⟨"OmegaNets$Tree", "grow", "()V"⟩ ∈ lw_tbl := List.mem_append_right _ (List.mem_of_getElem? (i := 348) (by decide +kernel))
theorem w_349 : Cond.selects "OmegaNets$Tree" ⟨"OmegaNets$Tree", "grow", "()V"⟩ ⟨"OmegaNets$Tree", "grow", "()V"⟩ ∈ lw_tbl := List.mem_append_right _ (List.mem_of_getElem? (i := 349) (by decide +kernel))
theorem w_350 : Cond.code ⟨"OmegaNets$Tree", "grow", "()V"⟩ prog_4_method_2_code 3 none ∈ lw_tbl := List.mem_append_right _ (List.mem_of_getElem? (i := 350) (by decide +kernel))
theorem w_351 : Cond.methodLink "OmegaNets$Tree" 47 ⟨"OmegaNets$Tree", "plant", "()V"⟩ ∈ lw_tbl := List.mem_append_right _ (List.mem_of_getElem? (i := 351) (by decide +kernel))
theorem w_353 : Cond.instanceMethod ⟨"OmegaNets$Tree", "plant", "()V"⟩ ∈ lw_tbl := List.mem_append_right _ (List.mem_of_getElem? (i := 353) (by decide +kernel))
theorem w_354 : Cond.code ⟨"OmegaNets$Tree", "plant", "()V"⟩ prog_4_method_3_code 1 none ∈ lw_tbl := List.mem_append_right _ (List.mem_of_getElem? (i := 354) (by decide +kernel))
theorem w_355 : Cond.methodLink "OmegaNets$Tree" 66 ⟨"java/lang/System", "arraycopy", "(Ljava/lang/Object;ILjava/lang/Object;II)V"⟩ ∈ lw_tbl := List.mem_append_right _ (List.mem_of_getElem? (i := 355) (by decide +kernel))
theorem w_356 : Cond.methodLink "OmegaNets$Tree" 53 ⟨"OmegaNets$Tree", "repeatsOneAbove", "(I)Z"⟩ ∈ lw_tbl := List.mem_append_right _ (List.mem_of_getElem? (i := 356) (by decide +kernel))
theorem w_358 : Cond.instanceMethod ⟨"OmegaNets$Tree", "repeatsOneAbove", "(I)Z"⟩ ∈ lw_tbl := List.mem_append_right _ (List.mem_of_getElem? (i := 358) (by decide +kernel))
theorem w_359 : Cond.code ⟨"OmegaNets$Tree", "repeatsOneAbove", "(I)Z"⟩ prog_4_method_4_code 4 (some .boolean) ∈ lw_tbl := List.mem_append_right _ (List.mem_of_getElem? (i := 359) (by decide +kernel))
theorem w_360 : Cond.methodLinkNest "OmegaNets$Tree" 72 ⟨"OmegaNets", "isSame", "([I[I)Z"⟩ "OmegaNets" ∈ lw_tbl := List.mem_append_right _ (List.mem_of_getElem? (i := 360) (by decide +kernel))
theorem w_361 : Cond.static ⟨"OmegaNets", "isSame", "([I[I)Z"⟩ ∈ lw_tbl := List.mem_append_right _ (List.mem_of_getElem? (i := 361) (by decide +kernel))
theorem w_362 : Cond.code ⟨"OmegaNets", "isSame", "([I[I)Z"⟩ prog_1_method_35_code 2 (some .boolean) ∈ lw_tbl := List.mem_append_right _ (List.mem_of_getElem? (i := 362) (by decide +kernel))
theorem w_363 : Cond.methodLink "OmegaNets" 225 ⟨"OmegaNets", "isBelow", "([I[I)Z"⟩ ∈ lw_tbl := List.mem_append_right _ (List.mem_of_getElem? (i := 363) (by decide +kernel))
theorem w_364 : Cond.methodLink "OmegaNets$Tree" 57 ⟨"OmegaNets$Tree", "branch", "(I)Z"⟩ ∈ lw_tbl := List.mem_append_right _ (List.mem_of_getElem? (i := 364) (by decide +kernel))
theorem w_366 : Cond.instanceMethod ⟨"OmegaNets$Tree", "branch", "(I)Z"⟩ ∈ lw_tbl := List.mem_append_right _ (List.mem_of_getElem? (i := 366) (by decide +kernel))
theorem w_367 : Cond.code ⟨"OmegaNets$Tree", "branch", "(I)Z"⟩ prog_4_method_5_code 3 (some .boolean) ∈ lw_tbl := List.mem_append_right _ (List.mem_of_getElem? (i := 367) (by decide +kernel))
theorem w_368 : Cond.methodLink "OmegaNets$Tree" 78 ⟨"OmegaNets$Net", "enables", "([II)Z"⟩ ∈ lw_tbl := List.mem_append_right _ (List.mem_of_getElem? (i := 368) (by decide +kernel))
theorem w_369 : Cond.methodLink "OmegaNets$Tree" 82 ⟨"OmegaNets$Tree", "addNode", "(II)V"⟩ ∈ lw_tbl := List.mem_append_right _ (List.mem_of_getElem? (i := 369) (by decide +kernel))
theorem w_371 : Cond.instanceMethod ⟨"OmegaNets$Tree", "addNode", "(II)V"⟩ ∈ lw_tbl := List.mem_append_right _ (List.mem_of_getElem? (i := 371) (by decide +kernel))
theorem w_372 : Cond.code ⟨"OmegaNets$Tree", "addNode", "(II)V"⟩ prog_4_method_6_code 4 none ∈ lw_tbl := List.mem_append_right _ (List.mem_of_getElem? (i := 372) (by decide +kernel))
theorem w_373 : Cond.methodLink "OmegaNets$Tree" 86 ⟨"OmegaNets$Net", "move", "([II[I)V"⟩ ∈ lw_tbl := List.mem_append_right _ (List.mem_of_getElem? (i := 373) (by decide +kernel))
theorem w_374 : Cond.methodLink "OmegaNets$Tree" 90 ⟨"OmegaNets$Tree", "lift", "(I)V"⟩ ∈ lw_tbl := List.mem_append_right _ (List.mem_of_getElem? (i := 374) (by decide +kernel))
theorem w_376 : Cond.instanceMethod ⟨"OmegaNets$Tree", "lift", "(I)V"⟩ ∈ lw_tbl := List.mem_append_right _ (List.mem_of_getElem? (i := 376) (by decide +kernel))
theorem w_377 : Cond.code ⟨"OmegaNets$Tree", "lift", "(I)V"⟩ prog_4_method_7_code 6 none ∈ lw_tbl := List.mem_append_right _ (List.mem_of_getElem? (i := 377) (by decide +kernel))
theorem w_378 : Cond.methodLink "OmegaNets$Tree" 94 ⟨"OmegaNets$Tree", "liftOver", "([I[I)Z"⟩ ∈ lw_tbl := List.mem_append_right _ (List.mem_of_getElem? (i := 378) (by decide +kernel))
theorem w_380 : Cond.instanceMethod ⟨"OmegaNets$Tree", "liftOver", "([I[I)Z"⟩ ∈ lw_tbl := List.mem_append_right _ (List.mem_of_getElem? (i := 380) (by decide +kernel))
theorem w_381 : Cond.code ⟨"OmegaNets$Tree", "liftOver", "([I[I)Z"⟩ prog_4_method_8_code 5 (some .boolean) ∈ lw_tbl := List.mem_append_right _ (List.mem_of_getElem? (i := 381) (by decide +kernel))
theorem w_382 : Cond.methodLinkNest "OmegaNets$Tree" 97 ⟨"OmegaNets", "isBelow", "([I[I)Z"⟩ "OmegaNets" ∈ lw_tbl := List.mem_append_right _ (List.mem_of_getElem? (i := 382) (by decide +kernel))
theorem w_383 : Cond.constant "OmegaNets$Tree" 100 1000000000 ∈ lw_tbl := List.mem_append_right _ (List.mem_of_getElem? (i := 383) (by decide +kernel))
theorem w_384 : Cond.methodLink "OmegaNets$Tree" 60 ⟨"OmegaNets$Tree", "findPeaks", "()V"⟩ ∈ lw_tbl := List.mem_append_right _ (List.mem_of_getElem? (i := 384) (by decide +kernel))
theorem w_386 : Cond.instanceMethod ⟨"OmegaNets$Tree", "findPeaks", "()V"⟩ ∈ lw_tbl := List.mem_append_right _ (List.mem_of_getElem? (i := 386) (by decide +kernel))
theorem w_387 : Cond.code ⟨"OmegaNets$Tree", "findPeaks", "()V"⟩ prog_4_method_9_code 2 none ∈ lw_tbl := List.mem_append_right _ (List.mem_of_getElem? (i := 387) (by decide +kernel))
theorem w_388 : Cond.methodLink "OmegaNets$Tree" 104 ⟨"OmegaNets$Tree", "isPeak", "(I)Z"⟩ ∈ lw_tbl := List.mem_append_right _ (List.mem_of_getElem? (i := 388) (by decide +kernel))
theorem w_390 : Cond.instanceMethod ⟨"OmegaNets$Tree", "isPeak", "(I)Z"⟩ ∈ lw_tbl := List.mem_append_right _ (List.mem_of_getElem? (i := 390) (by decide +kernel))
theorem w_391 : Cond.code ⟨"OmegaNets$Tree", "isPeak", "(I)Z"⟩ prog_4_method_10_code 4 (some .boolean) ∈ lw_tbl := List.mem_append_right _ (List.mem_of_getElem? (i := 391) (by decide +kernel))
theorem w_392 : Cond.classLink "OmegaNets" 94 "java/lang/IllegalStateException" ∈ lw_tbl := List.mem_append_right _ (List.mem_of_getElem? (i := 392) (by decide +kernel))
theorem w_394 : Cond.castable "java/lang/IllegalStateException" "java/lang/IllegalStateException" ∈ lw_tbl := List.mem_append_right _ (List.mem_of_getElem? (i := 394) (by decide +kernel))
theorem w_408 : Cond.methodLink "OmegaNetsLaw" 121 ⟨"OmegaNetsLaw", "count", "(LOmegaNets;II[J)I"⟩ ∈ lw_tbl := List.mem_append_right _ (List.mem_of_getElem? (i := 408) (by decide +kernel))
theorem w_409 : Cond.static ⟨"OmegaNetsLaw", "count", "(LOmegaNets;II[J)I"⟩ ∈ lw_tbl := List.mem_append_right _ (List.mem_of_getElem? (i := 409) (by decide +kernel))
theorem w_410 : Cond.codeWith ⟨"OmegaNetsLaw", "count", "(LOmegaNets;II[J)I"⟩ method_9_code 5 (some .int) [(0, 10, 13, 36), (0, 10, 17, 13)] ∈ lw_tbl := List.mem_append_right _ (List.mem_of_getElem? (i := 410) (by decide +kernel))
theorem w_411 : Cond.methodLink "OmegaNetsLaw" 38 ⟨"OmegaNets", "count", "(II)I"⟩ ∈ lw_tbl := List.mem_append_right _ (List.mem_of_getElem? (i := 411) (by decide +kernel))
theorem w_412 : Cond.instanceMethod ⟨"OmegaNets", "count", "(II)I"⟩ ∈ lw_tbl := List.mem_append_right _ (List.mem_of_getElem? (i := 412) (by decide +kernel))
theorem w_413 : Cond.selects "OmegaNets" ⟨"OmegaNets", "count", "(II)I"⟩ ⟨"OmegaNets", "count", "(II)I"⟩ ∈ lw_tbl := List.mem_append_right _ (List.mem_of_getElem? (i := 413) (by decide +kernel))
theorem w_414 : Cond.code ⟨"OmegaNets", "count", "(II)I"⟩ prog_1_method_9_code 3 (some .int) ∈ lw_tbl := List.mem_append_right _ (List.mem_of_getElem? (i := 414) (by decide +kernel))
theorem w_415 : Cond.methodLink "OmegaNets" 104 ⟨"OmegaNets", "checkTree", "()V"⟩ ∈ lw_tbl := List.mem_append_right _ (List.mem_of_getElem? (i := 415) (by decide +kernel))
theorem w_417 : Cond.instanceMethod ⟨"OmegaNets", "checkTree", "()V"⟩ ∈ lw_tbl := List.mem_append_right _ (List.mem_of_getElem? (i := 417) (by decide +kernel))
theorem w_418 : Cond.code ⟨"OmegaNets", "checkTree", "()V"⟩ prog_1_method_28_code 1 none ∈ lw_tbl := List.mem_append_right _ (List.mem_of_getElem? (i := 418) (by decide +kernel))
theorem w_420 : Cond.methodLink "OmegaNets" 107 ⟨"OmegaNets", "checkNode", "(I)V"⟩ ∈ lw_tbl := List.mem_append_right _ (List.mem_of_getElem? (i := 420) (by decide +kernel))
theorem w_422 : Cond.instanceMethod ⟨"OmegaNets", "checkNode", "(I)V"⟩ ∈ lw_tbl := List.mem_append_right _ (List.mem_of_getElem? (i := 422) (by decide +kernel))
theorem w_423 : Cond.code ⟨"OmegaNets", "checkNode", "(I)V"⟩ prog_1_method_27_code 2 none ∈ lw_tbl := List.mem_append_right _ (List.mem_of_getElem? (i := 423) (by decide +kernel))
theorem w_424 : Cond.methodLink "OmegaNets" 113 ⟨"OmegaNets", "shown", "(I)I"⟩ ∈ lw_tbl := List.mem_append_right _ (List.mem_of_getElem? (i := 424) (by decide +kernel))
theorem w_425 : Cond.static ⟨"OmegaNets", "shown", "(I)I"⟩ ∈ lw_tbl := List.mem_append_right _ (List.mem_of_getElem? (i := 425) (by decide +kernel))
theorem w_426 : Cond.code ⟨"OmegaNets", "shown", "(I)I"⟩ prog_1_method_33_code 1 (some .int) ∈ lw_tbl := List.mem_append_right _ (List.mem_of_getElem? (i := 426) (by decide +kernel))
theorem w_427 : Cond.constant "OmegaNets" 224 1000000000 ∈ lw_tbl := List.mem_append_right _ (List.mem_of_getElem? (i := 427) (by decide +kernel))
theorem w_428 : Cond.methodLink "OmegaNetsLaw" 124 ⟨"OmegaNetsLaw", "node", "(LOmegaNets;II[J)I"⟩ ∈ lw_tbl := List.mem_append_right _ (List.mem_of_getElem? (i := 428) (by decide +kernel))
theorem w_429 : Cond.static ⟨"OmegaNetsLaw", "node", "(LOmegaNets;II[J)I"⟩ ∈ lw_tbl := List.mem_append_right _ (List.mem_of_getElem? (i := 429) (by decide +kernel))
theorem w_430 : Cond.codeWith ⟨"OmegaNetsLaw", "node", "(LOmegaNets;II[J)I"⟩ method_10_code 5 (some .int) [(0, 10, 13, 36), (0, 10, 17, 13), (0, 10, 21, 15)] ∈ lw_tbl := List.mem_append_right _ (List.mem_of_getElem? (i := 430) (by decide +kernel))
theorem w_431 : Cond.methodLink "OmegaNetsLaw" 41 ⟨"OmegaNets", "node", "(II)I"⟩ ∈ lw_tbl := List.mem_append_right _ (List.mem_of_getElem? (i := 431) (by decide +kernel))
theorem w_432 : Cond.instanceMethod ⟨"OmegaNets", "node", "(II)I"⟩ ∈ lw_tbl := List.mem_append_right _ (List.mem_of_getElem? (i := 432) (by decide +kernel))
theorem w_433 : Cond.selects "OmegaNets" ⟨"OmegaNets", "node", "(II)I"⟩ ⟨"OmegaNets", "node", "(II)I"⟩ ∈ lw_tbl := List.mem_append_right _ (List.mem_of_getElem? (i := 433) (by decide +kernel))
theorem w_434 : Cond.code ⟨"OmegaNets", "node", "(II)I"⟩ prog_1_method_10_code 3 (some .int) ∈ lw_tbl := List.mem_append_right _ (List.mem_of_getElem? (i := 434) (by decide +kernel))
theorem w_436 : Cond.methodLink "OmegaNetsLaw" 127 ⟨"OmegaNetsLaw", "path", "(LOmegaNets;II[J)I"⟩ ∈ lw_tbl := List.mem_append_right _ (List.mem_of_getElem? (i := 436) (by decide +kernel))
theorem w_437 : Cond.static ⟨"OmegaNetsLaw", "path", "(LOmegaNets;II[J)I"⟩ ∈ lw_tbl := List.mem_append_right _ (List.mem_of_getElem? (i := 437) (by decide +kernel))
theorem w_438 : Cond.codeWith ⟨"OmegaNetsLaw", "path", "(LOmegaNets;II[J)I"⟩ method_11_code 5 (some .int) [(0, 10, 13, 36), (0, 10, 17, 13)] ∈ lw_tbl := List.mem_append_right _ (List.mem_of_getElem? (i := 438) (by decide +kernel))
theorem w_439 : Cond.methodLink "OmegaNetsLaw" 44 ⟨"OmegaNets", "path", "(II)I"⟩ ∈ lw_tbl := List.mem_append_right _ (List.mem_of_getElem? (i := 439) (by decide +kernel))
theorem w_440 : Cond.instanceMethod ⟨"OmegaNets", "path", "(II)I"⟩ ∈ lw_tbl := List.mem_append_right _ (List.mem_of_getElem? (i := 440) (by decide +kernel))
theorem w_441 : Cond.selects "OmegaNets" ⟨"OmegaNets", "path", "(II)I"⟩ ⟨"OmegaNets", "path", "(II)I"⟩ ∈ lw_tbl := List.mem_append_right _ (List.mem_of_getElem? (i := 441) (by decide +kernel))
theorem w_442 : Cond.code ⟨"OmegaNets", "path", "(II)I"⟩ prog_1_method_11_code 3 (some .int) ∈ lw_tbl := List.mem_append_right _ (List.mem_of_getElem? (i := 442) (by decide +kernel))
theorem w_443 : Cond.methodLink "OmegaNets" 138 ⟨"OmegaNets$Tree", "stepTo", "(II)I"⟩ ∈ lw_tbl := List.mem_append_right _ (List.mem_of_getElem? (i := 443) (by decide +kernel))
theorem w_444 : Cond.instanceMethod ⟨"OmegaNets$Tree", "stepTo", "(II)I"⟩ ∈ lw_tbl := List.mem_append_right _ (List.mem_of_getElem? (i := 444) (by decide +kernel))
theorem w_445 : Cond.selects "OmegaNets$Tree" ⟨"OmegaNets$Tree", "stepTo", "(II)I"⟩ ⟨"OmegaNets$Tree", "stepTo", "(II)I"⟩ ∈ lw_tbl := List.mem_append_right _ (List.mem_of_getElem? (i := 445) (by decide +kernel))
theorem w_446 : Cond.code ⟨"OmegaNets$Tree", "stepTo", "(II)I"⟩ prog_4_method_11_code 5 (some .int) ∈ lw_tbl := List.mem_append_right _ (List.mem_of_getElem? (i := 446) (by decide +kernel))
theorem w_447 : Cond.methodLink "OmegaNetsLaw" 130 ⟨"OmegaNetsLaw", "bound", "(LOmegaNets;I[J)I"⟩ ∈ lw_tbl := List.mem_append_right _ (List.mem_of_getElem? (i := 447) (by decide +kernel))
theorem w_448 : Cond.static ⟨"OmegaNetsLaw", "bound", "(LOmegaNets;I[J)I"⟩ ∈ lw_tbl := List.mem_append_right _ (List.mem_of_getElem? (i := 448) (by decide +kernel))
theorem w_449 : Cond.codeWith ⟨"OmegaNetsLaw", "bound", "(LOmegaNets;I[J)I"⟩ method_12_code 4 (some .int) [(0, 9, 12, 36), (0, 9, 15, 13)] ∈ lw_tbl := List.mem_append_right _ (List.mem_of_getElem? (i := 449) (by decide +kernel))
theorem w_450 : Cond.methodLink "OmegaNetsLaw" 47 ⟨"OmegaNets", "bound", "(I)I"⟩ ∈ lw_tbl := List.mem_append_right _ (List.mem_of_getElem? (i := 450) (by decide +kernel))
theorem w_451 : Cond.instanceMethod ⟨"OmegaNets", "bound", "(I)I"⟩ ∈ lw_tbl := List.mem_append_right _ (List.mem_of_getElem? (i := 451) (by decide +kernel))
theorem w_452 : Cond.selects "OmegaNets" ⟨"OmegaNets", "bound", "(I)I"⟩ ⟨"OmegaNets", "bound", "(I)I"⟩ ∈ lw_tbl := List.mem_append_right _ (List.mem_of_getElem? (i := 452) (by decide +kernel))
theorem w_453 : Cond.code ⟨"OmegaNets", "bound", "(I)I"⟩ prog_1_method_12_code 2 (some .int) ∈ lw_tbl := List.mem_append_right _ (List.mem_of_getElem? (i := 453) (by decide +kernel))
theorem w_454 : Cond.methodLink "OmegaNets" 142 ⟨"OmegaNets$Tree", "greatest", "(I)I"⟩ ∈ lw_tbl := List.mem_append_right _ (List.mem_of_getElem? (i := 454) (by decide +kernel))
theorem w_455 : Cond.instanceMethod ⟨"OmegaNets$Tree", "greatest", "(I)I"⟩ ∈ lw_tbl := List.mem_append_right _ (List.mem_of_getElem? (i := 455) (by decide +kernel))
theorem w_456 : Cond.selects "OmegaNets$Tree" ⟨"OmegaNets$Tree", "greatest", "(I)I"⟩ ⟨"OmegaNets$Tree", "greatest", "(I)I"⟩ ∈ lw_tbl := List.mem_append_right _ (List.mem_of_getElem? (i := 456) (by decide +kernel))
theorem w_457 : Cond.code ⟨"OmegaNets$Tree", "greatest", "(I)I"⟩ prog_4_method_12_code 4 (some .int) ∈ lw_tbl := List.mem_append_right _ (List.mem_of_getElem? (i := 457) (by decide +kernel))
theorem w_458 : Cond.methodLink "OmegaNets$Tree" 107 ⟨"java/lang/Math", "max", "(II)I"⟩ ∈ lw_tbl := List.mem_append_right _ (List.mem_of_getElem? (i := 458) (by decide +kernel))
theorem w_459 : Cond.methodLink "OmegaNetsLaw" 133 ⟨"OmegaNetsLaw", "tops", "(LOmegaNets;[J)I"⟩ ∈ lw_tbl := List.mem_append_right _ (List.mem_of_getElem? (i := 459) (by decide +kernel))
theorem w_460 : Cond.static ⟨"OmegaNetsLaw", "tops", "(LOmegaNets;[J)I"⟩ ∈ lw_tbl := List.mem_append_right _ (List.mem_of_getElem? (i := 460) (by decide +kernel))
theorem w_461 : Cond.codeWith ⟨"OmegaNetsLaw", "tops", "(LOmegaNets;[J)I"⟩ method_13_code 3 (some .int) [(0, 8, 11, 36)] ∈ lw_tbl := List.mem_append_right _ (List.mem_of_getElem? (i := 461) (by decide +kernel))
theorem w_462 : Cond.methodLink "OmegaNetsLaw" 50 ⟨"OmegaNets", "tops", "()I"⟩ ∈ lw_tbl := List.mem_append_right _ (List.mem_of_getElem? (i := 462) (by decide +kernel))
theorem w_463 : Cond.instanceMethod ⟨"OmegaNets", "tops", "()I"⟩ ∈ lw_tbl := List.mem_append_right _ (List.mem_of_getElem? (i := 463) (by decide +kernel))
theorem w_464 : Cond.selects "OmegaNets" ⟨"OmegaNets", "tops", "()I"⟩ ⟨"OmegaNets", "tops", "()I"⟩ ∈ lw_tbl := List.mem_append_right _ (List.mem_of_getElem? (i := 464) (by decide +kernel))
theorem w_465 : Cond.code ⟨"OmegaNets", "tops", "()I"⟩ prog_1_method_13_code 1 (some .int) ∈ lw_tbl := List.mem_append_right _ (List.mem_of_getElem? (i := 465) (by decide +kernel))
theorem w_466 : Cond.methodLink "OmegaNetsLaw" 136 ⟨"OmegaNetsLaw", "top", "(LOmegaNets;I[J)I"⟩ ∈ lw_tbl := List.mem_append_right _ (List.mem_of_getElem? (i := 466) (by decide +kernel))
theorem w_467 : Cond.static ⟨"OmegaNetsLaw", "top", "(LOmegaNets;I[J)I"⟩ ∈ lw_tbl := List.mem_append_right _ (List.mem_of_getElem? (i := 467) (by decide +kernel))
theorem w_468 : Cond.codeWith ⟨"OmegaNetsLaw", "top", "(LOmegaNets;I[J)I"⟩ method_14_code 4 (some .int) [(0, 9, 12, 36), (0, 9, 15, 13)] ∈ lw_tbl := List.mem_append_right _ (List.mem_of_getElem? (i := 468) (by decide +kernel))
theorem w_469 : Cond.methodLink "OmegaNetsLaw" 53 ⟨"OmegaNets", "top", "(I)I"⟩ ∈ lw_tbl := List.mem_append_right _ (List.mem_of_getElem? (i := 469) (by decide +kernel))
theorem w_470 : Cond.instanceMethod ⟨"OmegaNets", "top", "(I)I"⟩ ∈ lw_tbl := List.mem_append_right _ (List.mem_of_getElem? (i := 470) (by decide +kernel))
theorem w_471 : Cond.selects "OmegaNets" ⟨"OmegaNets", "top", "(I)I"⟩ ⟨"OmegaNets", "top", "(I)I"⟩ ∈ lw_tbl := List.mem_append_right _ (List.mem_of_getElem? (i := 471) (by decide +kernel))
theorem w_472 : Cond.code ⟨"OmegaNets", "top", "(I)I"⟩ prog_1_method_14_code 2 (some .int) ∈ lw_tbl := List.mem_append_right _ (List.mem_of_getElem? (i := 472) (by decide +kernel))
theorem w_473 : Cond.methodLink "OmegaNetsLaw" 139 ⟨"OmegaNetsLaw", "covered", "(LOmegaNets;[J)I"⟩ ∈ lw_tbl := List.mem_append_right _ (List.mem_of_getElem? (i := 473) (by decide +kernel))
theorem w_474 : Cond.static ⟨"OmegaNetsLaw", "covered", "(LOmegaNets;[J)I"⟩ ∈ lw_tbl := List.mem_append_right _ (List.mem_of_getElem? (i := 474) (by decide +kernel))
theorem w_475 : Cond.codeWith ⟨"OmegaNetsLaw", "covered", "(LOmegaNets;[J)I"⟩ method_15_code 3 (some .int) [(0, 15, 18, 36)] ∈ lw_tbl := List.mem_append_right _ (List.mem_of_getElem? (i := 475) (by decide +kernel))
theorem w_476 : Cond.methodLink "OmegaNetsLaw" 56 ⟨"OmegaNets", "covered", "()Z"⟩ ∈ lw_tbl := List.mem_append_right _ (List.mem_of_getElem? (i := 476) (by decide +kernel))
theorem w_477 : Cond.instanceMethod ⟨"OmegaNets", "covered", "()Z"⟩ ∈ lw_tbl := List.mem_append_right _ (List.mem_of_getElem? (i := 477) (by decide +kernel))
theorem w_478 : Cond.selects "OmegaNets" ⟨"OmegaNets", "covered", "()Z"⟩ ⟨"OmegaNets", "covered", "()Z"⟩ ∈ lw_tbl := List.mem_append_right _ (List.mem_of_getElem? (i := 478) (by decide +kernel))
theorem w_479 : Cond.code ⟨"OmegaNets", "covered", "()Z"⟩ prog_1_method_15_code 1 (some .boolean) ∈ lw_tbl := List.mem_append_right _ (List.mem_of_getElem? (i := 479) (by decide +kernel))
theorem w_480 : Cond.methodLink "OmegaNets" 151 ⟨"OmegaNets$Tree", "reachesAbove", "([I)Z"⟩ ∈ lw_tbl := List.mem_append_right _ (List.mem_of_getElem? (i := 480) (by decide +kernel))
theorem w_481 : Cond.instanceMethod ⟨"OmegaNets$Tree", "reachesAbove", "([I)Z"⟩ ∈ lw_tbl := List.mem_append_right _ (List.mem_of_getElem? (i := 481) (by decide +kernel))
theorem w_482 : Cond.selects "OmegaNets$Tree" ⟨"OmegaNets$Tree", "reachesAbove", "([I)Z"⟩ ⟨"OmegaNets$Tree", "reachesAbove", "([I)Z"⟩ ∈ lw_tbl := List.mem_append_right _ (List.mem_of_getElem? (i := 482) (by decide +kernel))
theorem w_483 : Cond.code ⟨"OmegaNets$Tree", "reachesAbove", "([I)Z"⟩ prog_4_method_13_code 3 (some .boolean) ∈ lw_tbl := List.mem_append_right _ (List.mem_of_getElem? (i := 483) (by decide +kernel))
theorem w_484 : Cond.methodLink "OmegaNetsLaw" 142 ⟨"OmegaNetsLaw", "lives", "(LOmegaNets;I[J)I"⟩ ∈ lw_tbl := List.mem_append_right _ (List.mem_of_getElem? (i := 484) (by decide +kernel))
theorem w_485 : Cond.static ⟨"OmegaNetsLaw", "lives", "(LOmegaNets;I[J)I"⟩ ∈ lw_tbl := List.mem_append_right _ (List.mem_of_getElem? (i := 485) (by decide +kernel))
theorem w_486 : Cond.codeWith ⟨"OmegaNetsLaw", "lives", "(LOmegaNets;I[J)I"⟩ method_16_code 4 (some .int) [(0, 16, 19, 36), (0, 16, 22, 13)] ∈ lw_tbl := List.mem_append_right _ (List.mem_of_getElem? (i := 486) (by decide +kernel))
theorem w_487 : Cond.methodLink "OmegaNetsLaw" 60 ⟨"OmegaNets", "lives", "(I)Z"⟩ ∈ lw_tbl := List.mem_append_right _ (List.mem_of_getElem? (i := 487) (by decide +kernel))
theorem w_488 : Cond.instanceMethod ⟨"OmegaNets", "lives", "(I)Z"⟩ ∈ lw_tbl := List.mem_append_right _ (List.mem_of_getElem? (i := 488) (by decide +kernel))
theorem w_489 : Cond.selects "OmegaNets" ⟨"OmegaNets", "lives", "(I)Z"⟩ ⟨"OmegaNets", "lives", "(I)Z"⟩ ∈ lw_tbl := List.mem_append_right _ (List.mem_of_getElem? (i := 489) (by decide +kernel))
theorem w_490 : Cond.code ⟨"OmegaNets", "lives", "(I)Z"⟩ prog_1_method_16_code 2 (some .boolean) ∈ lw_tbl := List.mem_append_right _ (List.mem_of_getElem? (i := 490) (by decide +kernel))
theorem w_491 : Cond.methodLink "OmegaNets" 155 ⟨"OmegaNets$Tree", "everEnables", "(I)Z"⟩ ∈ lw_tbl := List.mem_append_right _ (List.mem_of_getElem? (i := 491) (by decide +kernel))
theorem w_492 : Cond.instanceMethod ⟨"OmegaNets$Tree", "everEnables", "(I)Z"⟩ ∈ lw_tbl := List.mem_append_right _ (List.mem_of_getElem? (i := 492) (by decide +kernel))
theorem w_493 : Cond.selects "OmegaNets$Tree" ⟨"OmegaNets$Tree", "everEnables", "(I)Z"⟩ ⟨"OmegaNets$Tree", "everEnables", "(I)Z"⟩ ∈ lw_tbl := List.mem_append_right _ (List.mem_of_getElem? (i := 493) (by decide +kernel))
theorem w_494 : Cond.code ⟨"OmegaNets$Tree", "everEnables", "(I)Z"⟩ prog_4_method_14_code 2 (some .boolean) ∈ lw_tbl := List.mem_append_right _ (List.mem_of_getElem? (i := 494) (by decide +kernel))
theorem w_495 : Cond.methodLink "OmegaNets$Tree" 116 ⟨"OmegaNets$Tree", "reachesAbove", "([I)Z"⟩ ∈ lw_tbl := List.mem_append_right _ (List.mem_of_getElem? (i := 495) (by decide +kernel))
theorem w_496 : Cond.methodLink "OmegaNetsLaw" 145 ⟨"OmegaNetsLaw", "dead", "(LOmegaNets;[J)I"⟩ ∈ lw_tbl := List.mem_append_right _ (List.mem_of_getElem? (i := 496) (by decide +kernel))
theorem w_497 : Cond.static ⟨"OmegaNetsLaw", "dead", "(LOmegaNets;[J)I"⟩ ∈ lw_tbl := List.mem_append_right _ (List.mem_of_getElem? (i := 497) (by decide +kernel))
theorem w_498 : Cond.codeWith ⟨"OmegaNetsLaw", "dead", "(LOmegaNets;[J)I"⟩ method_17_code 3 (some .int) [(0, 8, 11, 36)] ∈ lw_tbl := List.mem_append_right _ (List.mem_of_getElem? (i := 498) (by decide +kernel))
theorem w_499 : Cond.methodLink "OmegaNetsLaw" 63 ⟨"OmegaNets", "dead", "()I"⟩ ∈ lw_tbl := List.mem_append_right _ (List.mem_of_getElem? (i := 499) (by decide +kernel))
theorem w_500 : Cond.instanceMethod ⟨"OmegaNets", "dead", "()I"⟩ ∈ lw_tbl := List.mem_append_right _ (List.mem_of_getElem? (i := 500) (by decide +kernel))
theorem w_501 : Cond.selects "OmegaNets" ⟨"OmegaNets", "dead", "()I"⟩ ⟨"OmegaNets", "dead", "()I"⟩ ∈ lw_tbl := List.mem_append_right _ (List.mem_of_getElem? (i := 501) (by decide +kernel))
theorem w_502 : Cond.code ⟨"OmegaNets", "dead", "()I"⟩ prog_1_method_17_code 1 (some .int) ∈ lw_tbl := List.mem_append_right _ (List.mem_of_getElem? (i := 502) (by decide +kernel))
theorem w_503 : Cond.methodLink "OmegaNets" 159 ⟨"OmegaNets$Tree", "firstStuck", "()I"⟩ ∈ lw_tbl := List.mem_append_right _ (List.mem_of_getElem? (i := 503) (by decide +kernel))
theorem w_504 : Cond.instanceMethod ⟨"OmegaNets$Tree", "firstStuck", "()I"⟩ ∈ lw_tbl := List.mem_append_right _ (List.mem_of_getElem? (i := 504) (by decide +kernel))
theorem w_505 : Cond.selects "OmegaNets$Tree" ⟨"OmegaNets$Tree", "firstStuck", "()I"⟩ ⟨"OmegaNets$Tree", "firstStuck", "()I"⟩ ∈ lw_tbl := List.mem_append_right _ (List.mem_of_getElem? (i := 505) (by decide +kernel))
theorem w_506 : Cond.code ⟨"OmegaNets$Tree", "firstStuck", "()I"⟩ prog_4_method_15_code 2 (some .int) ∈ lw_tbl := List.mem_append_right _ (List.mem_of_getElem? (i := 506) (by decide +kernel))
theorem w_507 : Cond.methodLink "OmegaNets$Tree" 120 ⟨"OmegaNets$Net", "isStuck", "([I)Z"⟩ ∈ lw_tbl := List.mem_append_right _ (List.mem_of_getElem? (i := 507) (by decide +kernel))
theorem w_508 : Cond.instanceMethod ⟨"OmegaNets$Net", "isStuck", "([I)Z"⟩ ∈ lw_tbl := List.mem_append_right _ (List.mem_of_getElem? (i := 508) (by decide +kernel))
theorem w_509 : Cond.selects "OmegaNets$Net" ⟨"OmegaNets$Net", "isStuck", "([I)Z"⟩ ⟨"OmegaNets$Net", "isStuck", "([I)Z"⟩ ∈ lw_tbl := List.mem_append_right _ (List.mem_of_getElem? (i := 509) (by decide +kernel))
theorem w_510 : Cond.code ⟨"OmegaNets$Net", "isStuck", "([I)Z"⟩ prog_3_method_3_code 3 (some .boolean) ∈ lw_tbl := List.mem_append_right _ (List.mem_of_getElem? (i := 510) (by decide +kernel))
theorem w_511 : Cond.methodLink "OmegaNets$Net" 34 ⟨"OmegaNets$Net", "enables", "([II)Z"⟩ ∈ lw_tbl := List.mem_append_right _ (List.mem_of_getElem? (i := 511) (by decide +kernel))
theorem w_512 : Cond.methodLink "OmegaNetsLaw" 148 ⟨"OmegaNetsLaw", "back", "(LOmegaNets;[J)I"⟩ ∈ lw_tbl := List.mem_append_right _ (List.mem_of_getElem? (i := 512) (by decide +kernel))
theorem w_513 : Cond.static ⟨"OmegaNetsLaw", "back", "(LOmegaNets;[J)I"⟩ ∈ lw_tbl := List.mem_append_right _ (List.mem_of_getElem? (i := 513) (by decide +kernel))
theorem w_514 : Cond.codeWith ⟨"OmegaNetsLaw", "back", "(LOmegaNets;[J)I"⟩ method_18_code 3 (some .int) [(0, 8, 11, 36)] ∈ lw_tbl := List.mem_append_right _ (List.mem_of_getElem? (i := 514) (by decide +kernel))
theorem w_515 : Cond.methodLink "OmegaNetsLaw" 66 ⟨"OmegaNets", "back", "()I"⟩ ∈ lw_tbl := List.mem_append_right _ (List.mem_of_getElem? (i := 515) (by decide +kernel))
theorem w_516 : Cond.instanceMethod ⟨"OmegaNets", "back", "()I"⟩ ∈ lw_tbl := List.mem_append_right _ (List.mem_of_getElem? (i := 516) (by decide +kernel))
theorem w_517 : Cond.selects "OmegaNets" ⟨"OmegaNets", "back", "()I"⟩ ⟨"OmegaNets", "back", "()I"⟩ ∈ lw_tbl := List.mem_append_right _ (List.mem_of_getElem? (i := 517) (by decide +kernel))
theorem w_518 : Cond.code ⟨"OmegaNets", "back", "()I"⟩ prog_1_method_18_code 1 (some .int) ∈ lw_tbl := List.mem_append_right _ (List.mem_of_getElem? (i := 518) (by decide +kernel))
theorem w_519 : Cond.methodLink "OmegaNets" 163 ⟨"OmegaNets$Goals", "gather", "([I)V"⟩ ∈ lw_tbl := List.mem_append_right _ (List.mem_of_getElem? (i := 519) (by decide +kernel))
theorem w_520 : Cond.instanceMethod ⟨"OmegaNets$Goals", "gather", "([I)V"⟩ ∈ lw_tbl := List.mem_append_right _ (List.mem_of_getElem? (i := 520) (by decide +kernel))
theorem w_521 : Cond.selects "OmegaNets$Goals" ⟨"OmegaNets$Goals", "gather", "([I)V"⟩ ⟨"OmegaNets$Goals", "gather", "([I)V"⟩ ∈ lw_tbl := List.mem_append_right _ (List.mem_of_getElem? (i := 521) (by decide +kernel))
theorem w_522 : Cond.code ⟨"OmegaNets$Goals", "gather", "([I)V"⟩ prog_2_method_2_code 4 none ∈ lw_tbl := List.mem_append_right _ (List.mem_of_getElem? (i := 522) (by decide +kernel))
theorem w_523 : Cond.methodLink "OmegaNets$Goals" 47 ⟨"OmegaNets$Goals", "plant", "([I)V"⟩ ∈ lw_tbl := List.mem_append_right _ (List.mem_of_getElem? (i := 523) (by decide +kernel))
theorem w_525 : Cond.instanceMethod ⟨"OmegaNets$Goals", "plant", "([I)V"⟩ ∈ lw_tbl := List.mem_append_right _ (List.mem_of_getElem? (i := 525) (by decide +kernel))
theorem w_526 : Cond.code ⟨"OmegaNets$Goals", "plant", "([I)V"⟩ prog_2_method_3_code 2 none ∈ lw_tbl := List.mem_append_right _ (List.mem_of_getElem? (i := 526) (by decide +kernel))
theorem w_527 : Cond.methodLink "OmegaNets$Goals" 58 ⟨"java/lang/System", "arraycopy", "(Ljava/lang/Object;ILjava/lang/Object;II)V"⟩ ∈ lw_tbl := List.mem_append_right _ (List.mem_of_getElem? (i := 527) (by decide +kernel))
theorem w_528 : Cond.methodLink "OmegaNets$Goals" 54 ⟨"OmegaNets$Goals", "goBack", "(I)Z"⟩ ∈ lw_tbl := List.mem_append_right _ (List.mem_of_getElem? (i := 528) (by decide +kernel))
theorem w_530 : Cond.instanceMethod ⟨"OmegaNets$Goals", "goBack", "(I)Z"⟩ ∈ lw_tbl := List.mem_append_right _ (List.mem_of_getElem? (i := 530) (by decide +kernel))
theorem w_531 : Cond.code ⟨"OmegaNets$Goals", "goBack", "(I)Z"⟩ prog_2_method_4_code 3 (some .boolean) ∈ lw_tbl := List.mem_append_right _ (List.mem_of_getElem? (i := 531) (by decide +kernel))
theorem w_532 : Cond.methodLink "OmegaNets$Goals" 66 ⟨"OmegaNets$Net", "moveBack", "([II[I)V"⟩ ∈ lw_tbl := List.mem_append_right _ (List.mem_of_getElem? (i := 532) (by decide +kernel))
theorem w_533 : Cond.instanceMethod ⟨"OmegaNets$Net", "moveBack", "([II[I)V"⟩ ∈ lw_tbl := List.mem_append_right _ (List.mem_of_getElem? (i := 533) (by decide +kernel))
theorem w_534 : Cond.selects "OmegaNets$Net" ⟨"OmegaNets$Net", "moveBack", "([II[I)V"⟩ ⟨"OmegaNets$Net", "moveBack", "([II[I)V"⟩ ∈ lw_tbl := List.mem_append_right _ (List.mem_of_getElem? (i := 534) (by decide +kernel))
theorem w_535 : Cond.code ⟨"OmegaNets$Net", "moveBack", "([II[I)V"⟩ prog_3_method_5_code 5 none ∈ lw_tbl := List.mem_append_right _ (List.mem_of_getElem? (i := 535) (by decide +kernel))
theorem w_536 : Cond.methodLink "OmegaNets$Net" 39 ⟨"java/lang/Math", "max", "(II)I"⟩ ∈ lw_tbl := List.mem_append_right _ (List.mem_of_getElem? (i := 536) (by decide +kernel))
theorem w_537 : Cond.methodLink "OmegaNets$Goals" 70 ⟨"OmegaNets$Goals", "isKnown", "([I)Z"⟩ ∈ lw_tbl := List.mem_append_right _ (List.mem_of_getElem? (i := 537) (by decide +kernel))
theorem w_539 : Cond.instanceMethod ⟨"OmegaNets$Goals", "isKnown", "([I)Z"⟩ ∈ lw_tbl := List.mem_append_right _ (List.mem_of_getElem? (i := 539) (by decide +kernel))
theorem w_540 : Cond.code ⟨"OmegaNets$Goals", "isKnown", "([I)Z"⟩ prog_2_method_5_code 3 (some .boolean) ∈ lw_tbl := List.mem_append_right _ (List.mem_of_getElem? (i := 540) (by decide +kernel))
theorem w_541 : Cond.methodLinkNest "OmegaNets$Goals" 78 ⟨"OmegaNets", "isBelow", "([I[I)Z"⟩ "OmegaNets" ∈ lw_tbl := List.mem_append_right _ (List.mem_of_getElem? (i := 541) (by decide +kernel))
theorem w_542 : Cond.methodLink "OmegaNets$Goals" 74 ⟨"OmegaNets$Goals", "addCandidate", "(II)V"⟩ ∈ lw_tbl := List.mem_append_right _ (List.mem_of_getElem? (i := 542) (by decide +kernel))
theorem w_544 : Cond.instanceMethod ⟨"OmegaNets$Goals", "addCandidate", "(II)V"⟩ ∈ lw_tbl := List.mem_append_right _ (List.mem_of_getElem? (i := 544) (by decide +kernel))
theorem w_545 : Cond.code ⟨"OmegaNets$Goals", "addCandidate", "(II)V"⟩ prog_2_method_6_code 4 none ∈ lw_tbl := List.mem_append_right _ (List.mem_of_getElem? (i := 545) (by decide +kernel))
theorem w_547 : Cond.methodLink "OmegaNets" 169 ⟨"OmegaNets$Goals", "keptCount", "()I"⟩ ∈ lw_tbl := List.mem_append_right _ (List.mem_of_getElem? (i := 547) (by decide +kernel))
theorem w_548 : Cond.instanceMethod ⟨"OmegaNets$Goals", "keptCount", "()I"⟩ ∈ lw_tbl := List.mem_append_right _ (List.mem_of_getElem? (i := 548) (by decide +kernel))
theorem w_549 : Cond.selects "OmegaNets$Goals" ⟨"OmegaNets$Goals", "keptCount", "()I"⟩ ⟨"OmegaNets$Goals", "keptCount", "()I"⟩ ∈ lw_tbl := List.mem_append_right _ (List.mem_of_getElem? (i := 549) (by decide +kernel))
theorem w_550 : Cond.code ⟨"OmegaNets$Goals", "keptCount", "()I"⟩ prog_2_method_7_code 3 (some .int) ∈ lw_tbl := List.mem_append_right _ (List.mem_of_getElem? (i := 550) (by decide +kernel))
theorem w_551 : Cond.methodLink "OmegaNetsLaw" 151 ⟨"OmegaNetsLaw", "goal", "(LOmegaNets;II[J)I"⟩ ∈ lw_tbl := List.mem_append_right _ (List.mem_of_getElem? (i := 551) (by decide +kernel))
theorem w_552 : Cond.static ⟨"OmegaNetsLaw", "goal", "(LOmegaNets;II[J)I"⟩ ∈ lw_tbl := List.mem_append_right _ (List.mem_of_getElem? (i := 552) (by decide +kernel))
theorem w_553 : Cond.codeWith ⟨"OmegaNetsLaw", "goal", "(LOmegaNets;II[J)I"⟩ method_19_code 5 (some .int) [(0, 10, 13, 36), (0, 10, 17, 13)] ∈ lw_tbl := List.mem_append_right _ (List.mem_of_getElem? (i := 553) (by decide +kernel))
theorem w_554 : Cond.methodLink "OmegaNetsLaw" 69 ⟨"OmegaNets", "goal", "(II)I"⟩ ∈ lw_tbl := List.mem_append_right _ (List.mem_of_getElem? (i := 554) (by decide +kernel))
theorem w_555 : Cond.instanceMethod ⟨"OmegaNets", "goal", "(II)I"⟩ ∈ lw_tbl := List.mem_append_right _ (List.mem_of_getElem? (i := 555) (by decide +kernel))
theorem w_556 : Cond.selects "OmegaNets" ⟨"OmegaNets", "goal", "(II)I"⟩ ⟨"OmegaNets", "goal", "(II)I"⟩ ∈ lw_tbl := List.mem_append_right _ (List.mem_of_getElem? (i := 556) (by decide +kernel))
theorem w_557 : Cond.code ⟨"OmegaNets", "goal", "(II)I"⟩ prog_1_method_19_code 4 (some .int) ∈ lw_tbl := List.mem_append_right _ (List.mem_of_getElem? (i := 557) (by decide +kernel))
theorem w_558 : Cond.methodLink "OmegaNets" 172 ⟨"OmegaNets", "checkGoals", "()V"⟩ ∈ lw_tbl := List.mem_append_right _ (List.mem_of_getElem? (i := 558) (by decide +kernel))
theorem w_560 : Cond.instanceMethod ⟨"OmegaNets", "checkGoals", "()V"⟩ ∈ lw_tbl := List.mem_append_right _ (List.mem_of_getElem? (i := 560) (by decide +kernel))
theorem w_561 : Cond.code ⟨"OmegaNets", "checkGoals", "()V"⟩ prog_1_method_29_code 1 none ∈ lw_tbl := List.mem_append_right _ (List.mem_of_getElem? (i := 561) (by decide +kernel))
theorem w_563 : Cond.methodLink "OmegaNets" 175 ⟨"OmegaNets$Goals", "kept", "(I)I"⟩ ∈ lw_tbl := List.mem_append_right _ (List.mem_of_getElem? (i := 563) (by decide +kernel))
theorem w_564 : Cond.instanceMethod ⟨"OmegaNets$Goals", "kept", "(I)I"⟩ ∈ lw_tbl := List.mem_append_right _ (List.mem_of_getElem? (i := 564) (by decide +kernel))
theorem w_565 : Cond.selects "OmegaNets$Goals" ⟨"OmegaNets$Goals", "kept", "(I)I"⟩ ⟨"OmegaNets$Goals", "kept", "(I)I"⟩ ∈ lw_tbl := List.mem_append_right _ (List.mem_of_getElem? (i := 565) (by decide +kernel))
theorem w_566 : Cond.code ⟨"OmegaNets$Goals", "kept", "(I)I"⟩ prog_2_method_8_code 4 (some .int) ∈ lw_tbl := List.mem_append_right _ (List.mem_of_getElem? (i := 566) (by decide +kernel))
theorem w_568 : Cond.methodLink "OmegaNetsLaw" 154 ⟨"OmegaNetsLaw", "length", "(LOmegaNets;[J)I"⟩ ∈ lw_tbl := List.mem_append_right _ (List.mem_of_getElem? (i := 568) (by decide +kernel))
theorem w_569 : Cond.static ⟨"OmegaNetsLaw", "length", "(LOmegaNets;[J)I"⟩ ∈ lw_tbl := List.mem_append_right _ (List.mem_of_getElem? (i := 569) (by decide +kernel))
theorem w_570 : Cond.codeWith ⟨"OmegaNetsLaw", "length", "(LOmegaNets;[J)I"⟩ method_20_code 3 (some .int) [(0, 8, 11, 36), (0, 8, 14, 75)] ∈ lw_tbl := List.mem_append_right _ (List.mem_of_getElem? (i := 570) (by decide +kernel))
theorem w_571 : Cond.classLink "OmegaNetsLaw" 75 "java/lang/UnsupportedOperationException" ∈ lw_tbl := List.mem_append_right _ (List.mem_of_getElem? (i := 571) (by decide +kernel))
theorem w_572 : Cond.methodLink "OmegaNetsLaw" 72 ⟨"OmegaNets", "length", "()I"⟩ ∈ lw_tbl := List.mem_append_right _ (List.mem_of_getElem? (i := 572) (by decide +kernel))
theorem w_573 : Cond.instanceMethod ⟨"OmegaNets", "length", "()I"⟩ ∈ lw_tbl := List.mem_append_right _ (List.mem_of_getElem? (i := 573) (by decide +kernel))
theorem w_574 : Cond.selects "OmegaNets" ⟨"OmegaNets", "length", "()I"⟩ ⟨"OmegaNets", "length", "()I"⟩ ∈ lw_tbl := List.mem_append_right _ (List.mem_of_getElem? (i := 574) (by decide +kernel))
theorem w_575 : Cond.code ⟨"OmegaNets", "length", "()I"⟩ prog_1_method_20_code 1 (some .int) ∈ lw_tbl := List.mem_append_right _ (List.mem_of_getElem? (i := 575) (by decide +kernel))
theorem w_576 : Cond.methodLink "OmegaNets" 185 ⟨"OmegaNets", "goalBelowStart", "()I"⟩ ∈ lw_tbl := List.mem_append_right _ (List.mem_of_getElem? (i := 576) (by decide +kernel))
theorem w_578 : Cond.instanceMethod ⟨"OmegaNets", "goalBelowStart", "()I"⟩ ∈ lw_tbl := List.mem_append_right _ (List.mem_of_getElem? (i := 578) (by decide +kernel))
theorem w_579 : Cond.code ⟨"OmegaNets", "goalBelowStart", "()I"⟩ prog_1_method_24_code 2 (some .int) ∈ lw_tbl := List.mem_append_right _ (List.mem_of_getElem? (i := 579) (by decide +kernel))
theorem w_580 : Cond.methodLink "OmegaNets" 197 ⟨"OmegaNets$Goals", "firstBelow", "([I)I"⟩ ∈ lw_tbl := List.mem_append_right _ (List.mem_of_getElem? (i := 580) (by decide +kernel))
theorem w_581 : Cond.instanceMethod ⟨"OmegaNets$Goals", "firstBelow", "([I)I"⟩ ∈ lw_tbl := List.mem_append_right _ (List.mem_of_getElem? (i := 581) (by decide +kernel))
theorem w_582 : Cond.selects "OmegaNets$Goals" ⟨"OmegaNets$Goals", "firstBelow", "([I)I"⟩ ⟨"OmegaNets$Goals", "firstBelow", "([I)I"⟩ ∈ lw_tbl := List.mem_append_right _ (List.mem_of_getElem? (i := 582) (by decide +kernel))
theorem w_583 : Cond.code ⟨"OmegaNets$Goals", "firstBelow", "([I)I"⟩ prog_2_method_9_code 3 (some .int) ∈ lw_tbl := List.mem_append_right _ (List.mem_of_getElem? (i := 583) (by decide +kernel))
theorem w_584 : Cond.classLink "OmegaNets" 201 "java/lang/UnsupportedOperationException" ∈ lw_tbl := List.mem_append_right _ (List.mem_of_getElem? (i := 584) (by decide +kernel))
theorem w_586 : Cond.castable "java/lang/UnsupportedOperationException" "java/lang/UnsupportedOperationException" ∈ lw_tbl := List.mem_append_right _ (List.mem_of_getElem? (i := 586) (by decide +kernel))
theorem w_600 : Cond.methodLink "OmegaNetsLaw" 157 ⟨"OmegaNetsLaw", "way", "(LOmegaNets;I[J)I"⟩ ∈ lw_tbl := List.mem_append_right _ (List.mem_of_getElem? (i := 600) (by decide +kernel))
theorem w_601 : Cond.static ⟨"OmegaNetsLaw", "way", "(LOmegaNets;I[J)I"⟩ ∈ lw_tbl := List.mem_append_right _ (List.mem_of_getElem? (i := 601) (by decide +kernel))
theorem w_602 : Cond.codeWith ⟨"OmegaNetsLaw", "way", "(LOmegaNets;I[J)I"⟩ method_21_code 4 (some .int) [(0, 9, 12, 36), (0, 9, 15, 75), (0, 9, 18, 13)] ∈ lw_tbl := List.mem_append_right _ (List.mem_of_getElem? (i := 602) (by decide +kernel))
theorem w_603 : Cond.methodLink "OmegaNetsLaw" 77 ⟨"OmegaNets", "way", "(I)I"⟩ ∈ lw_tbl := List.mem_append_right _ (List.mem_of_getElem? (i := 603) (by decide +kernel))
theorem w_604 : Cond.instanceMethod ⟨"OmegaNets", "way", "(I)I"⟩ ∈ lw_tbl := List.mem_append_right _ (List.mem_of_getElem? (i := 604) (by decide +kernel))
theorem w_605 : Cond.selects "OmegaNets" ⟨"OmegaNets", "way", "(I)I"⟩ ⟨"OmegaNets", "way", "(I)I"⟩ ∈ lw_tbl := List.mem_append_right _ (List.mem_of_getElem? (i := 605) (by decide +kernel))
theorem w_606 : Cond.code ⟨"OmegaNets", "way", "(I)I"⟩ prog_1_method_21_code 3 (some .int) ∈ lw_tbl := List.mem_append_right _ (List.mem_of_getElem? (i := 606) (by decide +kernel))
theorem w_607 : Cond.methodLink "OmegaNets" 188 ⟨"OmegaNets$Goals", "stepFrom", "(II)I"⟩ ∈ lw_tbl := List.mem_append_right _ (List.mem_of_getElem? (i := 607) (by decide +kernel))
theorem w_608 : Cond.instanceMethod ⟨"OmegaNets$Goals", "stepFrom", "(II)I"⟩ ∈ lw_tbl := List.mem_append_right _ (List.mem_of_getElem? (i := 608) (by decide +kernel))
theorem w_609 : Cond.selects "OmegaNets$Goals" ⟨"OmegaNets$Goals", "stepFrom", "(II)I"⟩ ⟨"OmegaNets$Goals", "stepFrom", "(II)I"⟩ ∈ lw_tbl := List.mem_append_right _ (List.mem_of_getElem? (i := 609) (by decide +kernel))
theorem w_610 : Cond.code ⟨"OmegaNets$Goals", "stepFrom", "(II)I"⟩ prog_2_method_10_code 5 (some .int) ∈ lw_tbl := List.mem_append_right _ (List.mem_of_getElem? (i := 610) (by decide +kernel))
theorem w_611 : Cond.classLink "OmegaNetsLaw" 89 "OmegaNetsModel" ∈ lw_tbl := List.mem_append_right _ (List.mem_of_getElem? (i := 611) (by decide +kernel))
theorem w_613 : Cond.methodLink "OmegaNetsLaw" 91 ⟨"OmegaNetsModel", "<init>", "(II)V"⟩ ∈ lw_tbl := List.mem_append_right _ (List.mem_of_getElem? (i := 613) (by decide +kernel))
theorem w_614 : Cond.instanceMethod ⟨"OmegaNetsModel", "<init>", "(II)V"⟩ ∈ lw_tbl := List.mem_append_right _ (List.mem_of_getElem? (i := 614) (by decide +kernel))
theorem w_615 : Cond.code ⟨"OmegaNetsModel", "<init>", "(II)V"⟩ prog_6_method_1_code 3 none ∈ lw_tbl := List.mem_append_right _ (List.mem_of_getElem? (i := 615) (by decide +kernel))
theorem w_616 : Cond.methodLink "OmegaNetsModel" 1 ⟨"java/lang/Object", "<init>", "()V"⟩ ∈ lw_tbl := List.mem_append_right _ (List.mem_of_getElem? (i := 616) (by decide +kernel))
theorem w_617 : Cond.fieldLink "OmegaNetsModel" 57 "OmegaNetsModel" "thrown" "I" ∈ lw_tbl := List.mem_append_right _ (List.mem_of_getElem? (i := 617) (by decide +kernel))
theorem w_618 : Cond.fieldLink "OmegaNetsModel" 50 "OmegaNetsModel" "places" "I" ∈ lw_tbl := List.mem_append_right _ (List.mem_of_getElem? (i := 618) (by decide +kernel))
theorem w_619 : Cond.fieldLink "OmegaNetsModel" 54 "OmegaNetsModel" "transitions" "I" ∈ lw_tbl := List.mem_append_right _ (List.mem_of_getElem? (i := 619) (by decide +kernel))
theorem w_620 : Cond.fieldLink "OmegaNetsModel" 7 "OmegaNetsModel" "needs" "[I" ∈ lw_tbl := List.mem_append_right _ (List.mem_of_getElem? (i := 620) (by decide +kernel))
theorem w_621 : Cond.fieldLink "OmegaNetsModel" 13 "OmegaNetsModel" "gives" "[I" ∈ lw_tbl := List.mem_append_right _ (List.mem_of_getElem? (i := 621) (by decide +kernel))
theorem w_622 : Cond.fieldLink "OmegaNetsModel" 16 "OmegaNetsModel" "starts" "[I" ∈ lw_tbl := List.mem_append_right _ (List.mem_of_getElem? (i := 622) (by decide +kernel))
theorem w_623 : Cond.fieldLink "OmegaNetsModel" 19 "OmegaNetsModel" "wanted" "[I" ∈ lw_tbl := List.mem_append_right _ (List.mem_of_getElem? (i := 623) (by decide +kernel))
theorem w_624 : Cond.fieldLink "OmegaNetsModel" 22 "OmegaNetsModel" "present" "[I" ∈ lw_tbl := List.mem_append_right _ (List.mem_of_getElem? (i := 624) (by decide +kernel))
theorem w_625 : Cond.fieldLink "OmegaNetsModel" 77 "OmegaNetsModel" "firings" "I" ∈ lw_tbl := List.mem_append_right _ (List.mem_of_getElem? (i := 625) (by decide +kernel))
theorem w_626 : Cond.fieldLink "OmegaNetsModel" 60 "OmegaNetsModel" "tree" "Z" ∈ lw_tbl := List.mem_append_right _ (List.mem_of_getElem? (i := 626) (by decide +kernel))
theorem w_627 : Cond.fieldLink "OmegaNetsModel" 91 "OmegaNetsModel" "nodes" "I" ∈ lw_tbl := List.mem_append_right _ (List.mem_of_getElem? (i := 627) (by decide +kernel))
theorem w_628 : Cond.fieldLink "OmegaNetsModel" 25 "OmegaNetsModel" "marks" "[I" ∈ lw_tbl := List.mem_append_right _ (List.mem_of_getElem? (i := 628) (by decide +kernel))
theorem w_629 : Cond.fieldLink "OmegaNetsModel" 28 "OmegaNetsModel" "parents" "[I" ∈ lw_tbl := List.mem_append_right _ (List.mem_of_getElem? (i := 629) (by decide +kernel))
theorem w_630 : Cond.fieldLink "OmegaNetsModel" 31 "OmegaNetsModel" "by" "[I" ∈ lw_tbl := List.mem_append_right _ (List.mem_of_getElem? (i := 630) (by decide +kernel))
theorem w_631 : Cond.fieldLink "OmegaNetsModel" 34 "OmegaNetsModel" "leaves" "[Z" ∈ lw_tbl := List.mem_append_right _ (List.mem_of_getElem? (i := 631) (by decide +kernel))
theorem w_632 : Cond.fieldLink "OmegaNetsModel" 64 "OmegaNetsModel" "asked" "Z" ∈ lw_tbl := List.mem_append_right _ (List.mem_of_getElem? (i := 632) (by decide +kernel))
theorem w_633 : Cond.fieldLink "OmegaNetsModel" 123 "OmegaNetsModel" "goals" "I" ∈ lw_tbl := List.mem_append_right _ (List.mem_of_getElem? (i := 633) (by decide +kernel))
theorem w_634 : Cond.fieldLink "OmegaNetsModel" 38 "OmegaNetsModel" "goalMarks" "[I" ∈ lw_tbl := List.mem_append_right _ (List.mem_of_getElem? (i := 634) (by decide +kernel))
theorem w_635 : Cond.fieldLink "OmegaNetsModel" 41 "OmegaNetsModel" "goalParents" "[I" ∈ lw_tbl := List.mem_append_right _ (List.mem_of_getElem? (i := 635) (by decide +kernel))
theorem w_636 : Cond.fieldLink "OmegaNetsModel" 44 "OmegaNetsModel" "goalBy" "[I" ∈ lw_tbl := List.mem_append_right _ (List.mem_of_getElem? (i := 636) (by decide +kernel))
theorem w_637 : Cond.fieldLink "OmegaNetsModel" 47 "OmegaNetsModel" "given" "[Z" ∈ lw_tbl := List.mem_append_right _ (List.mem_of_getElem? (i := 637) (by decide +kernel))
theorem w_681 : Cond.methodLink "OmegaNetsLaw" 96 ⟨"OmegaNetsModel", "thrown", "()I"⟩ ∈ lw_tbl := List.mem_append_right _ (List.mem_of_getElem? (i := 681) (by decide +kernel))
theorem w_682 : Cond.instanceMethod ⟨"OmegaNetsModel", "thrown", "()I"⟩ ∈ lw_tbl := List.mem_append_right _ (List.mem_of_getElem? (i := 682) (by decide +kernel))
theorem w_683 : Cond.selects "OmegaNetsModel" ⟨"OmegaNetsModel", "thrown", "()I"⟩ ⟨"OmegaNetsModel", "thrown", "()I"⟩ ∈ lw_tbl := List.mem_append_right _ (List.mem_of_getElem? (i := 683) (by decide +kernel))
theorem w_684 : Cond.code ⟨"OmegaNetsModel", "thrown", "()I"⟩ prog_6_method_2_code 1 (some .int) ∈ lw_tbl := List.mem_append_right _ (List.mem_of_getElem? (i := 684) (by decide +kernel))
theorem w_685 : Cond.methodLink "OmegaNetsLaw" 95 ⟨"OmegaNetsModel", "arc", "(IIII)I"⟩ ∈ lw_tbl := List.mem_append_right _ (List.mem_of_getElem? (i := 685) (by decide +kernel))
theorem w_686 : Cond.instanceMethod ⟨"OmegaNetsModel", "arc", "(IIII)I"⟩ ∈ lw_tbl := List.mem_append_right _ (List.mem_of_getElem? (i := 686) (by decide +kernel))
theorem w_687 : Cond.selects "OmegaNetsModel" ⟨"OmegaNetsModel", "arc", "(IIII)I"⟩ ⟨"OmegaNetsModel", "arc", "(IIII)I"⟩ ∈ lw_tbl := List.mem_append_right _ (List.mem_of_getElem? (i := 687) (by decide +kernel))
theorem w_688 : Cond.code ⟨"OmegaNetsModel", "arc", "(IIII)I"⟩ prog_6_method_6_code 6 (some .int) ∈ lw_tbl := List.mem_append_right _ (List.mem_of_getElem? (i := 688) (by decide +kernel))
theorem w_689 : Cond.methodLink "OmegaNetsModel" 67 ⟨"OmegaNetsModel", "isTransition", "(I)Z"⟩ ∈ lw_tbl := List.mem_append_right _ (List.mem_of_getElem? (i := 689) (by decide +kernel))
theorem w_691 : Cond.instanceMethod ⟨"OmegaNetsModel", "isTransition", "(I)Z"⟩ ∈ lw_tbl := List.mem_append_right _ (List.mem_of_getElem? (i := 691) (by decide +kernel))
theorem w_692 : Cond.code ⟨"OmegaNetsModel", "isTransition", "(I)Z"⟩ prog_6_method_4_code 2 (some .boolean) ∈ lw_tbl := List.mem_append_right _ (List.mem_of_getElem? (i := 692) (by decide +kernel))
theorem w_693 : Cond.methodLink "OmegaNetsModel" 71 ⟨"OmegaNetsModel", "isPlace", "(I)Z"⟩ ∈ lw_tbl := List.mem_append_right _ (List.mem_of_getElem? (i := 693) (by decide +kernel))
theorem w_695 : Cond.instanceMethod ⟨"OmegaNetsModel", "isPlace", "(I)Z"⟩ ∈ lw_tbl := List.mem_append_right _ (List.mem_of_getElem? (i := 695) (by decide +kernel))
theorem w_696 : Cond.code ⟨"OmegaNetsModel", "isPlace", "(I)Z"⟩ prog_6_method_3_code 2 (some .boolean) ∈ lw_tbl := List.mem_append_right _ (List.mem_of_getElem? (i := 696) (by decide +kernel))
theorem w_697 : Cond.methodLink "OmegaNetsModel" 74 ⟨"OmegaNetsModel", "changed", "()V"⟩ ∈ lw_tbl := List.mem_append_right _ (List.mem_of_getElem? (i := 697) (by decide +kernel))
theorem w_699 : Cond.instanceMethod ⟨"OmegaNetsModel", "changed", "()V"⟩ ∈ lw_tbl := List.mem_append_right _ (List.mem_of_getElem? (i := 699) (by decide +kernel))
theorem w_700 : Cond.code ⟨"OmegaNetsModel", "changed", "()V"⟩ prog_6_method_5_code 1 none ∈ lw_tbl := List.mem_append_right _ (List.mem_of_getElem? (i := 700) (by decide +kernel))
theorem w_701 : Cond.methodLink "OmegaNetsLaw" 102 ⟨"OmegaNetsModel", "start", "(II)I"⟩ ∈ lw_tbl := List.mem_append_right _ (List.mem_of_getElem? (i := 701) (by decide +kernel))
theorem w_702 : Cond.instanceMethod ⟨"OmegaNetsModel", "start", "(II)I"⟩ ∈ lw_tbl := List.mem_append_right _ (List.mem_of_getElem? (i := 702) (by decide +kernel))
theorem w_703 : Cond.selects "OmegaNetsModel" ⟨"OmegaNetsModel", "start", "(II)I"⟩ ⟨"OmegaNetsModel", "start", "(II)I"⟩ ∈ lw_tbl := List.mem_append_right _ (List.mem_of_getElem? (i := 703) (by decide +kernel))
theorem w_704 : Cond.code ⟨"OmegaNetsModel", "start", "(II)I"⟩ prog_6_method_8_code 4 (some .int) ∈ lw_tbl := List.mem_append_right _ (List.mem_of_getElem? (i := 704) (by decide +kernel))
theorem w_705 : Cond.methodLink "OmegaNetsModel" 80 ⟨"OmegaNetsModel", "begin", "()V"⟩ ∈ lw_tbl := List.mem_append_right _ (List.mem_of_getElem? (i := 705) (by decide +kernel))
theorem w_707 : Cond.instanceMethod ⟨"OmegaNetsModel", "begin", "()V"⟩ ∈ lw_tbl := List.mem_append_right _ (List.mem_of_getElem? (i := 707) (by decide +kernel))
theorem w_708 : Cond.code ⟨"OmegaNetsModel", "begin", "()V"⟩ prog_6_method_7_code 2 none ∈ lw_tbl := List.mem_append_right _ (List.mem_of_getElem? (i := 708) (by decide +kernel))
theorem w_709 : Cond.methodLink "OmegaNetsLaw" 105 ⟨"OmegaNetsModel", "want", "(II)I"⟩ ∈ lw_tbl := List.mem_append_right _ (List.mem_of_getElem? (i := 709) (by decide +kernel))
theorem w_710 : Cond.instanceMethod ⟨"OmegaNetsModel", "want", "(II)I"⟩ ∈ lw_tbl := List.mem_append_right _ (List.mem_of_getElem? (i := 710) (by decide +kernel))
theorem w_711 : Cond.selects "OmegaNetsModel" ⟨"OmegaNetsModel", "want", "(II)I"⟩ ⟨"OmegaNetsModel", "want", "(II)I"⟩ ∈ lw_tbl := List.mem_append_right _ (List.mem_of_getElem? (i := 711) (by decide +kernel))
theorem w_712 : Cond.code ⟨"OmegaNetsModel", "want", "(II)I"⟩ prog_6_method_9_code 4 (some .int) ∈ lw_tbl := List.mem_append_right _ (List.mem_of_getElem? (i := 712) (by decide +kernel))
theorem w_713 : Cond.methodLink "OmegaNetsLaw" 109 ⟨"OmegaNetsModel", "fire", "(I)Z"⟩ ∈ lw_tbl := List.mem_append_right _ (List.mem_of_getElem? (i := 713) (by decide +kernel))
theorem w_714 : Cond.instanceMethod ⟨"OmegaNetsModel", "fire", "(I)Z"⟩ ∈ lw_tbl := List.mem_append_right _ (List.mem_of_getElem? (i := 714) (by decide +kernel))
theorem w_715 : Cond.selects "OmegaNetsModel" ⟨"OmegaNetsModel", "fire", "(I)Z"⟩ ⟨"OmegaNetsModel", "fire", "(I)Z"⟩ ∈ lw_tbl := List.mem_append_right _ (List.mem_of_getElem? (i := 715) (by decide +kernel))
theorem w_716 : Cond.code ⟨"OmegaNetsModel", "fire", "(I)Z"⟩ prog_6_method_10_code 4 (some .boolean) ∈ lw_tbl := List.mem_append_right _ (List.mem_of_getElem? (i := 716) (by decide +kernel))
theorem w_717 : Cond.methodLink "OmegaNetsLaw" 112 ⟨"OmegaNetsModel", "at", "(I)I"⟩ ∈ lw_tbl := List.mem_append_right _ (List.mem_of_getElem? (i := 717) (by decide +kernel))
theorem w_718 : Cond.instanceMethod ⟨"OmegaNetsModel", "at", "(I)I"⟩ ∈ lw_tbl := List.mem_append_right _ (List.mem_of_getElem? (i := 718) (by decide +kernel))
theorem w_719 : Cond.selects "OmegaNetsModel" ⟨"OmegaNetsModel", "at", "(I)I"⟩ ⟨"OmegaNetsModel", "at", "(I)I"⟩ ∈ lw_tbl := List.mem_append_right _ (List.mem_of_getElem? (i := 719) (by decide +kernel))
theorem w_720 : Cond.code ⟨"OmegaNetsModel", "at", "(I)I"⟩ prog_6_method_11_code 2 (some .int) ∈ lw_tbl := List.mem_append_right _ (List.mem_of_getElem? (i := 720) (by decide +kernel))
theorem w_721 : Cond.methodLink "OmegaNetsLaw" 116 ⟨"OmegaNetsModel", "reset", "()I"⟩ ∈ lw_tbl := List.mem_append_right _ (List.mem_of_getElem? (i := 721) (by decide +kernel))
theorem w_722 : Cond.instanceMethod ⟨"OmegaNetsModel", "reset", "()I"⟩ ∈ lw_tbl := List.mem_append_right _ (List.mem_of_getElem? (i := 722) (by decide +kernel))
theorem w_723 : Cond.selects "OmegaNetsModel" ⟨"OmegaNetsModel", "reset", "()I"⟩ ⟨"OmegaNetsModel", "reset", "()I"⟩ ∈ lw_tbl := List.mem_append_right _ (List.mem_of_getElem? (i := 723) (by decide +kernel))
theorem w_724 : Cond.code ⟨"OmegaNetsModel", "reset", "()I"⟩ prog_6_method_12_code 2 (some .int) ∈ lw_tbl := List.mem_append_right _ (List.mem_of_getElem? (i := 724) (by decide +kernel))
theorem w_725 : Cond.methodLink "OmegaNetsLaw" 120 ⟨"OmegaNetsModel", "explore", "()I"⟩ ∈ lw_tbl := List.mem_append_right _ (List.mem_of_getElem? (i := 725) (by decide +kernel))
theorem w_726 : Cond.instanceMethod ⟨"OmegaNetsModel", "explore", "()I"⟩ ∈ lw_tbl := List.mem_append_right _ (List.mem_of_getElem? (i := 726) (by decide +kernel))
theorem w_727 : Cond.selects "OmegaNetsModel" ⟨"OmegaNetsModel", "explore", "()I"⟩ ⟨"OmegaNetsModel", "explore", "()I"⟩ ∈ lw_tbl := List.mem_append_right _ (List.mem_of_getElem? (i := 727) (by decide +kernel))
theorem w_728 : Cond.code ⟨"OmegaNetsModel", "explore", "()I"⟩ prog_6_method_19_code 3 (some .int) ∈ lw_tbl := List.mem_append_right _ (List.mem_of_getElem? (i := 728) (by decide +kernel))
theorem w_729 : Cond.methodLink "OmegaNetsModel" 97 ⟨"OmegaNetsModel", "isLeaf", "(I)Z"⟩ ∈ lw_tbl := List.mem_append_right _ (List.mem_of_getElem? (i := 729) (by decide +kernel))
theorem w_731 : Cond.instanceMethod ⟨"OmegaNetsModel", "isLeaf", "(I)Z"⟩ ∈ lw_tbl := List.mem_append_right _ (List.mem_of_getElem? (i := 731) (by decide +kernel))
theorem w_732 : Cond.code ⟨"OmegaNetsModel", "isLeaf", "(I)Z"⟩ prog_6_method_16_code 4 (some .boolean) ∈ lw_tbl := List.mem_append_right _ (List.mem_of_getElem? (i := 732) (by decide +kernel))
theorem w_733 : Cond.methodLink "OmegaNetsModel" 87 ⟨"OmegaNetsModel", "isSame", "(II)Z"⟩ ∈ lw_tbl := List.mem_append_right _ (List.mem_of_getElem? (i := 733) (by decide +kernel))
theorem w_735 : Cond.instanceMethod ⟨"OmegaNetsModel", "isSame", "(II)Z"⟩ ∈ lw_tbl := List.mem_append_right _ (List.mem_of_getElem? (i := 735) (by decide +kernel))
theorem w_736 : Cond.code ⟨"OmegaNetsModel", "isSame", "(II)Z"⟩ prog_6_method_14_code 3 (some .boolean) ∈ lw_tbl := List.mem_append_right _ (List.mem_of_getElem? (i := 736) (by decide +kernel))
theorem w_737 : Cond.methodLink "OmegaNetsModel" 83 ⟨"OmegaNetsModel", "isBelow", "(II)Z"⟩ ∈ lw_tbl := List.mem_append_right _ (List.mem_of_getElem? (i := 737) (by decide +kernel))
theorem w_739 : Cond.instanceMethod ⟨"OmegaNetsModel", "isBelow", "(II)Z"⟩ ∈ lw_tbl := List.mem_append_right _ (List.mem_of_getElem? (i := 739) (by decide +kernel))
theorem w_740 : Cond.code ⟨"OmegaNetsModel", "isBelow", "(II)Z"⟩ prog_6_method_13_code 5 (some .boolean) ∈ lw_tbl := List.mem_append_right _ (List.mem_of_getElem? (i := 740) (by decide +kernel))
theorem w_741 : Cond.methodLink "OmegaNetsModel" 100 ⟨"OmegaNetsModel", "isEnabled", "(II)Z"⟩ ∈ lw_tbl := List.mem_append_right _ (List.mem_of_getElem? (i := 741) (by decide +kernel))
theorem w_743 : Cond.instanceMethod ⟨"OmegaNetsModel", "isEnabled", "(II)Z"⟩ ∈ lw_tbl := List.mem_append_right _ (List.mem_of_getElem? (i := 743) (by decide +kernel))
theorem w_744 : Cond.code ⟨"OmegaNetsModel", "isEnabled", "(II)Z"⟩ prog_6_method_15_code 5 (some .boolean) ∈ lw_tbl := List.mem_append_right _ (List.mem_of_getElem? (i := 744) (by decide +kernel))
theorem w_745 : Cond.methodLink "OmegaNetsModel" 103 ⟨"OmegaNetsModel", "grow", "(II)V"⟩ ∈ lw_tbl := List.mem_append_right _ (List.mem_of_getElem? (i := 745) (by decide +kernel))
theorem w_747 : Cond.instanceMethod ⟨"OmegaNetsModel", "grow", "(II)V"⟩ ∈ lw_tbl := List.mem_append_right _ (List.mem_of_getElem? (i := 747) (by decide +kernel))
theorem w_748 : Cond.code ⟨"OmegaNetsModel", "grow", "(II)V"⟩ prog_6_method_18_code 6 none ∈ lw_tbl := List.mem_append_right _ (List.mem_of_getElem? (i := 748) (by decide +kernel))
theorem w_749 : Cond.constant "OmegaNetsModel" 90 1000000000 ∈ lw_tbl := List.mem_append_right _ (List.mem_of_getElem? (i := 749) (by decide +kernel))
theorem w_750 : Cond.methodLink "OmegaNetsModel" 94 ⟨"OmegaNetsModel", "raise", "(I)Z"⟩ ∈ lw_tbl := List.mem_append_right _ (List.mem_of_getElem? (i := 750) (by decide +kernel))
theorem w_752 : Cond.instanceMethod ⟨"OmegaNetsModel", "raise", "(I)Z"⟩ ∈ lw_tbl := List.mem_append_right _ (List.mem_of_getElem? (i := 752) (by decide +kernel))
theorem w_753 : Cond.code ⟨"OmegaNetsModel", "raise", "(I)Z"⟩ prog_6_method_17_code 6 (some .boolean) ∈ lw_tbl := List.mem_append_right _ (List.mem_of_getElem? (i := 753) (by decide +kernel))
theorem w_754 : Cond.methodLink "OmegaNetsLaw" 123 ⟨"OmegaNetsModel", "count", "(II)I"⟩ ∈ lw_tbl := List.mem_append_right _ (List.mem_of_getElem? (i := 754) (by decide +kernel))
theorem w_755 : Cond.instanceMethod ⟨"OmegaNetsModel", "count", "(II)I"⟩ ∈ lw_tbl := List.mem_append_right _ (List.mem_of_getElem? (i := 755) (by decide +kernel))
theorem w_756 : Cond.selects "OmegaNetsModel" ⟨"OmegaNetsModel", "count", "(II)I"⟩ ⟨"OmegaNetsModel", "count", "(II)I"⟩ ∈ lw_tbl := List.mem_append_right _ (List.mem_of_getElem? (i := 756) (by decide +kernel))
theorem w_757 : Cond.code ⟨"OmegaNetsModel", "count", "(II)I"⟩ prog_6_method_22_code 3 (some .int) ∈ lw_tbl := List.mem_append_right _ (List.mem_of_getElem? (i := 757) (by decide +kernel))
theorem w_758 : Cond.methodLink "OmegaNetsModel" 107 ⟨"OmegaNetsModel", "isNode", "(I)Z"⟩ ∈ lw_tbl := List.mem_append_right _ (List.mem_of_getElem? (i := 758) (by decide +kernel))
theorem w_760 : Cond.instanceMethod ⟨"OmegaNetsModel", "isNode", "(I)Z"⟩ ∈ lw_tbl := List.mem_append_right _ (List.mem_of_getElem? (i := 760) (by decide +kernel))
theorem w_761 : Cond.code ⟨"OmegaNetsModel", "isNode", "(I)Z"⟩ prog_6_method_20_code 2 (some .boolean) ∈ lw_tbl := List.mem_append_right _ (List.mem_of_getElem? (i := 761) (by decide +kernel))
theorem w_762 : Cond.methodLink "OmegaNetsModel" 110 ⟨"OmegaNetsModel", "told", "(I)I"⟩ ∈ lw_tbl := List.mem_append_right _ (List.mem_of_getElem? (i := 762) (by decide +kernel))
theorem w_763 : Cond.static ⟨"OmegaNetsModel", "told", "(I)I"⟩ ∈ lw_tbl := List.mem_append_right _ (List.mem_of_getElem? (i := 763) (by decide +kernel))
theorem w_764 : Cond.code ⟨"OmegaNetsModel", "told", "(I)I"⟩ prog_6_method_21_code 1 (some .int) ∈ lw_tbl := List.mem_append_right _ (List.mem_of_getElem? (i := 764) (by decide +kernel))
theorem w_765 : Cond.methodLink "OmegaNetsLaw" 126 ⟨"OmegaNetsModel", "node", "(II)I"⟩ ∈ lw_tbl := List.mem_append_right _ (List.mem_of_getElem? (i := 765) (by decide +kernel))
theorem w_766 : Cond.instanceMethod ⟨"OmegaNetsModel", "node", "(II)I"⟩ ∈ lw_tbl := List.mem_append_right _ (List.mem_of_getElem? (i := 766) (by decide +kernel))
theorem w_767 : Cond.selects "OmegaNetsModel" ⟨"OmegaNetsModel", "node", "(II)I"⟩ ⟨"OmegaNetsModel", "node", "(II)I"⟩ ∈ lw_tbl := List.mem_append_right _ (List.mem_of_getElem? (i := 767) (by decide +kernel))
theorem w_768 : Cond.code ⟨"OmegaNetsModel", "node", "(II)I"⟩ prog_6_method_23_code 3 (some .int) ∈ lw_tbl := List.mem_append_right _ (List.mem_of_getElem? (i := 768) (by decide +kernel))
theorem w_769 : Cond.methodLink "OmegaNetsLaw" 129 ⟨"OmegaNetsModel", "path", "(II)I"⟩ ∈ lw_tbl := List.mem_append_right _ (List.mem_of_getElem? (i := 769) (by decide +kernel))
theorem w_770 : Cond.instanceMethod ⟨"OmegaNetsModel", "path", "(II)I"⟩ ∈ lw_tbl := List.mem_append_right _ (List.mem_of_getElem? (i := 770) (by decide +kernel))
theorem w_771 : Cond.selects "OmegaNetsModel" ⟨"OmegaNetsModel", "path", "(II)I"⟩ ⟨"OmegaNetsModel", "path", "(II)I"⟩ ∈ lw_tbl := List.mem_append_right _ (List.mem_of_getElem? (i := 771) (by decide +kernel))
theorem w_772 : Cond.code ⟨"OmegaNetsModel", "path", "(II)I"⟩ prog_6_method_25_code 6 (some .int) ∈ lw_tbl := List.mem_append_right _ (List.mem_of_getElem? (i := 772) (by decide +kernel))
theorem w_773 : Cond.methodLink "OmegaNetsModel" 114 ⟨"OmegaNetsModel", "depth", "(I)I"⟩ ∈ lw_tbl := List.mem_append_right _ (List.mem_of_getElem? (i := 773) (by decide +kernel))
theorem w_775 : Cond.instanceMethod ⟨"OmegaNetsModel", "depth", "(I)I"⟩ ∈ lw_tbl := List.mem_append_right _ (List.mem_of_getElem? (i := 775) (by decide +kernel))
theorem w_776 : Cond.code ⟨"OmegaNetsModel", "depth", "(I)I"⟩ prog_6_method_24_code 4 (some .int) ∈ lw_tbl := List.mem_append_right _ (List.mem_of_getElem? (i := 776) (by decide +kernel))
theorem w_777 : Cond.methodLink "OmegaNetsLaw" 132 ⟨"OmegaNetsModel", "bound", "(I)I"⟩ ∈ lw_tbl := List.mem_append_right _ (List.mem_of_getElem? (i := 777) (by decide +kernel))
theorem w_778 : Cond.instanceMethod ⟨"OmegaNetsModel", "bound", "(I)I"⟩ ∈ lw_tbl := List.mem_append_right _ (List.mem_of_getElem? (i := 778) (by decide +kernel))
theorem w_779 : Cond.selects "OmegaNetsModel" ⟨"OmegaNetsModel", "bound", "(I)I"⟩ ⟨"OmegaNetsModel", "bound", "(I)I"⟩ ∈ lw_tbl := List.mem_append_right _ (List.mem_of_getElem? (i := 779) (by decide +kernel))
theorem w_780 : Cond.code ⟨"OmegaNetsModel", "bound", "(I)I"⟩ prog_6_method_26_code 4 (some .int) ∈ lw_tbl := List.mem_append_right _ (List.mem_of_getElem? (i := 780) (by decide +kernel))
theorem w_781 : Cond.methodLink "OmegaNetsLaw" 135 ⟨"OmegaNetsModel", "tops", "()I"⟩ ∈ lw_tbl := List.mem_append_right _ (List.mem_of_getElem? (i := 781) (by decide +kernel))
theorem w_782 : Cond.instanceMethod ⟨"OmegaNetsModel", "tops", "()I"⟩ ∈ lw_tbl := List.mem_append_right _ (List.mem_of_getElem? (i := 782) (by decide +kernel))
theorem w_783 : Cond.selects "OmegaNetsModel" ⟨"OmegaNetsModel", "tops", "()I"⟩ ⟨"OmegaNetsModel", "tops", "()I"⟩ ∈ lw_tbl := List.mem_append_right _ (List.mem_of_getElem? (i := 783) (by decide +kernel))
theorem w_784 : Cond.code ⟨"OmegaNetsModel", "tops", "()I"⟩ prog_6_method_29_code 3 (some .int) ∈ lw_tbl := List.mem_append_right _ (List.mem_of_getElem? (i := 784) (by decide +kernel))
theorem w_785 : Cond.methodLink "OmegaNetsModel" 117 ⟨"OmegaNetsModel", "isTop", "(I)Z"⟩ ∈ lw_tbl := List.mem_append_right _ (List.mem_of_getElem? (i := 785) (by decide +kernel))
theorem w_787 : Cond.instanceMethod ⟨"OmegaNetsModel", "isTop", "(I)Z"⟩ ∈ lw_tbl := List.mem_append_right _ (List.mem_of_getElem? (i := 787) (by decide +kernel))
theorem w_788 : Cond.code ⟨"OmegaNetsModel", "isTop", "(I)Z"⟩ prog_6_method_27_code 5 (some .boolean) ∈ lw_tbl := List.mem_append_right _ (List.mem_of_getElem? (i := 788) (by decide +kernel))
theorem w_789 : Cond.methodLink "OmegaNetsLaw" 138 ⟨"OmegaNetsModel", "top", "(I)I"⟩ ∈ lw_tbl := List.mem_append_right _ (List.mem_of_getElem? (i := 789) (by decide +kernel))
theorem w_790 : Cond.instanceMethod ⟨"OmegaNetsModel", "top", "(I)I"⟩ ∈ lw_tbl := List.mem_append_right _ (List.mem_of_getElem? (i := 790) (by decide +kernel))
theorem w_791 : Cond.selects "OmegaNetsModel" ⟨"OmegaNetsModel", "top", "(I)I"⟩ ⟨"OmegaNetsModel", "top", "(I)I"⟩ ∈ lw_tbl := List.mem_append_right _ (List.mem_of_getElem? (i := 791) (by decide +kernel))
theorem w_792 : Cond.code ⟨"OmegaNetsModel", "top", "(I)I"⟩ prog_6_method_30_code 3 (some .int) ∈ lw_tbl := List.mem_append_right _ (List.mem_of_getElem? (i := 792) (by decide +kernel))
theorem w_793 : Cond.methodLink "OmegaNetsModel" 120 ⟨"OmegaNetsModel", "topAt", "(I)I"⟩ ∈ lw_tbl := List.mem_append_right _ (List.mem_of_getElem? (i := 793) (by decide +kernel))
theorem w_795 : Cond.instanceMethod ⟨"OmegaNetsModel", "topAt", "(I)I"⟩ ∈ lw_tbl := List.mem_append_right _ (List.mem_of_getElem? (i := 795) (by decide +kernel))
theorem w_796 : Cond.code ⟨"OmegaNetsModel", "topAt", "(I)I"⟩ prog_6_method_28_code 4 (some .int) ∈ lw_tbl := List.mem_append_right _ (List.mem_of_getElem? (i := 796) (by decide +kernel))
theorem w_797 : Cond.methodLink "OmegaNetsLaw" 141 ⟨"OmegaNetsModel", "covered", "()Z"⟩ ∈ lw_tbl := List.mem_append_right _ (List.mem_of_getElem? (i := 797) (by decide +kernel))
theorem w_798 : Cond.instanceMethod ⟨"OmegaNetsModel", "covered", "()Z"⟩ ∈ lw_tbl := List.mem_append_right _ (List.mem_of_getElem? (i := 798) (by decide +kernel))
theorem w_799 : Cond.selects "OmegaNetsModel" ⟨"OmegaNetsModel", "covered", "()Z"⟩ ⟨"OmegaNetsModel", "covered", "()Z"⟩ ∈ lw_tbl := List.mem_append_right _ (List.mem_of_getElem? (i := 799) (by decide +kernel))
theorem w_800 : Cond.code ⟨"OmegaNetsModel", "covered", "()Z"⟩ prog_6_method_31_code 5 (some .boolean) ∈ lw_tbl := List.mem_append_right _ (List.mem_of_getElem? (i := 800) (by decide +kernel))
theorem w_801 : Cond.methodLink "OmegaNetsLaw" 144 ⟨"OmegaNetsModel", "lives", "(I)Z"⟩ ∈ lw_tbl := List.mem_append_right _ (List.mem_of_getElem? (i := 801) (by decide +kernel))
theorem w_802 : Cond.instanceMethod ⟨"OmegaNetsModel", "lives", "(I)Z"⟩ ∈ lw_tbl := List.mem_append_right _ (List.mem_of_getElem? (i := 802) (by decide +kernel))
theorem w_803 : Cond.selects "OmegaNetsModel" ⟨"OmegaNetsModel", "lives", "(I)Z"⟩ ⟨"OmegaNetsModel", "lives", "(I)Z"⟩ ∈ lw_tbl := List.mem_append_right _ (List.mem_of_getElem? (i := 803) (by decide +kernel))
theorem w_804 : Cond.code ⟨"OmegaNetsModel", "lives", "(I)Z"⟩ prog_6_method_32_code 4 (some .boolean) ∈ lw_tbl := List.mem_append_right _ (List.mem_of_getElem? (i := 804) (by decide +kernel))
theorem w_805 : Cond.methodLink "OmegaNetsLaw" 147 ⟨"OmegaNetsModel", "dead", "()I"⟩ ∈ lw_tbl := List.mem_append_right _ (List.mem_of_getElem? (i := 805) (by decide +kernel))
theorem w_806 : Cond.instanceMethod ⟨"OmegaNetsModel", "dead", "()I"⟩ ∈ lw_tbl := List.mem_append_right _ (List.mem_of_getElem? (i := 806) (by decide +kernel))
theorem w_807 : Cond.selects "OmegaNetsModel" ⟨"OmegaNetsModel", "dead", "()I"⟩ ⟨"OmegaNetsModel", "dead", "()I"⟩ ∈ lw_tbl := List.mem_append_right _ (List.mem_of_getElem? (i := 807) (by decide +kernel))
theorem w_808 : Cond.code ⟨"OmegaNetsModel", "dead", "()I"⟩ prog_6_method_33_code 4 (some .int) ∈ lw_tbl := List.mem_append_right _ (List.mem_of_getElem? (i := 808) (by decide +kernel))
theorem w_809 : Cond.methodLink "OmegaNetsLaw" 150 ⟨"OmegaNetsModel", "back", "()I"⟩ ∈ lw_tbl := List.mem_append_right _ (List.mem_of_getElem? (i := 809) (by decide +kernel))
theorem w_810 : Cond.instanceMethod ⟨"OmegaNetsModel", "back", "()I"⟩ ∈ lw_tbl := List.mem_append_right _ (List.mem_of_getElem? (i := 810) (by decide +kernel))
theorem w_811 : Cond.selects "OmegaNetsModel" ⟨"OmegaNetsModel", "back", "()I"⟩ ⟨"OmegaNetsModel", "back", "()I"⟩ ∈ lw_tbl := List.mem_append_right _ (List.mem_of_getElem? (i := 811) (by decide +kernel))
theorem w_812 : Cond.code ⟨"OmegaNetsModel", "back", "()I"⟩ prog_6_method_36_code 5 (some .int) ∈ lw_tbl := List.mem_append_right _ (List.mem_of_getElem? (i := 812) (by decide +kernel))
theorem w_813 : Cond.methodLink "OmegaNetsModel" 129 ⟨"OmegaNetsModel", "makeGoal", "(II)Z"⟩ ∈ lw_tbl := List.mem_append_right _ (List.mem_of_getElem? (i := 813) (by decide +kernel))
theorem w_815 : Cond.instanceMethod ⟨"OmegaNetsModel", "makeGoal", "(II)Z"⟩ ∈ lw_tbl := List.mem_append_right _ (List.mem_of_getElem? (i := 815) (by decide +kernel))
theorem w_816 : Cond.code ⟨"OmegaNetsModel", "makeGoal", "(II)Z"⟩ prog_6_method_35_code 6 (some .boolean) ∈ lw_tbl := List.mem_append_right _ (List.mem_of_getElem? (i := 816) (by decide +kernel))
theorem w_817 : Cond.methodLink "OmegaNetsModel" 126 ⟨"OmegaNetsModel", "isGoalBelow", "(II)Z"⟩ ∈ lw_tbl := List.mem_append_right _ (List.mem_of_getElem? (i := 817) (by decide +kernel))
theorem w_819 : Cond.instanceMethod ⟨"OmegaNetsModel", "isGoalBelow", "(II)Z"⟩ ∈ lw_tbl := List.mem_append_right _ (List.mem_of_getElem? (i := 819) (by decide +kernel))
theorem w_820 : Cond.code ⟨"OmegaNetsModel", "isGoalBelow", "(II)Z"⟩ prog_6_method_34_code 5 (some .boolean) ∈ lw_tbl := List.mem_append_right _ (List.mem_of_getElem? (i := 820) (by decide +kernel))
theorem w_821 : Cond.methodLink "OmegaNetsLaw" 153 ⟨"OmegaNetsModel", "goal", "(II)I"⟩ ∈ lw_tbl := List.mem_append_right _ (List.mem_of_getElem? (i := 821) (by decide +kernel))
theorem w_822 : Cond.instanceMethod ⟨"OmegaNetsModel", "goal", "(II)I"⟩ ∈ lw_tbl := List.mem_append_right _ (List.mem_of_getElem? (i := 822) (by decide +kernel))
theorem w_823 : Cond.selects "OmegaNetsModel" ⟨"OmegaNetsModel", "goal", "(II)I"⟩ ⟨"OmegaNetsModel", "goal", "(II)I"⟩ ∈ lw_tbl := List.mem_append_right _ (List.mem_of_getElem? (i := 823) (by decide +kernel))
theorem w_824 : Cond.code ⟨"OmegaNetsModel", "goal", "(II)I"⟩ prog_6_method_37_code 6 (some .int) ∈ lw_tbl := List.mem_append_right _ (List.mem_of_getElem? (i := 824) (by decide +kernel))
theorem w_825 : Cond.methodLink "OmegaNetsLaw" 156 ⟨"OmegaNetsModel", "length", "()I"⟩ ∈ lw_tbl := List.mem_append_right _ (List.mem_of_getElem? (i := 825) (by decide +kernel))
theorem w_826 : Cond.instanceMethod ⟨"OmegaNetsModel", "length", "()I"⟩ ∈ lw_tbl := List.mem_append_right _ (List.mem_of_getElem? (i := 826) (by decide +kernel))
theorem w_827 : Cond.selects "OmegaNetsModel" ⟨"OmegaNetsModel", "length", "()I"⟩ ⟨"OmegaNetsModel", "length", "()I"⟩ ∈ lw_tbl := List.mem_append_right _ (List.mem_of_getElem? (i := 827) (by decide +kernel))
theorem w_828 : Cond.code ⟨"OmegaNetsModel", "length", "()I"⟩ prog_6_method_39_code 4 (some .int) ∈ lw_tbl := List.mem_append_right _ (List.mem_of_getElem? (i := 828) (by decide +kernel))
theorem w_829 : Cond.methodLink "OmegaNetsModel" 132 ⟨"OmegaNetsModel", "firstGoal", "()I"⟩ ∈ lw_tbl := List.mem_append_right _ (List.mem_of_getElem? (i := 829) (by decide +kernel))
theorem w_831 : Cond.instanceMethod ⟨"OmegaNetsModel", "firstGoal", "()I"⟩ ∈ lw_tbl := List.mem_append_right _ (List.mem_of_getElem? (i := 831) (by decide +kernel))
theorem w_832 : Cond.code ⟨"OmegaNetsModel", "firstGoal", "()I"⟩ prog_6_method_38_code 4 (some .int) ∈ lw_tbl := List.mem_append_right _ (List.mem_of_getElem? (i := 832) (by decide +kernel))
theorem w_833 : Cond.methodLink "OmegaNetsLaw" 159 ⟨"OmegaNetsModel", "way", "(I)I"⟩ ∈ lw_tbl := List.mem_append_right _ (List.mem_of_getElem? (i := 833) (by decide +kernel))
theorem w_834 : Cond.instanceMethod ⟨"OmegaNetsModel", "way", "(I)I"⟩ ∈ lw_tbl := List.mem_append_right _ (List.mem_of_getElem? (i := 834) (by decide +kernel))
theorem w_835 : Cond.selects "OmegaNetsModel" ⟨"OmegaNetsModel", "way", "(I)I"⟩ ⟨"OmegaNetsModel", "way", "(I)I"⟩ ∈ lw_tbl := List.mem_append_right _ (List.mem_of_getElem? (i := 835) (by decide +kernel))
theorem w_836 : Cond.code ⟨"OmegaNetsModel", "way", "(I)I"⟩ prog_6_method_40_code 5 (some .int) ∈ lw_tbl := List.mem_append_right _ (List.mem_of_getElem? (i := 836) (by decide +kernel))
theorem w_837 : Cond.arrayClass .long ∈ lw_tbl := List.mem_append_right _ (List.mem_of_getElem? (i := 837) (by decide +kernel))
theorem ws_0 : Cond.selects "OmegaNets" ⟨"OmegaNets", "returnToStart", "()V"⟩ ⟨"OmegaNets", "returnToStart", "()V"⟩ ∈ lw_tbl := List.mem_append_left _ (List.mem_of_getElem? (i := 0) (by decide +kernel))
theorem ws_1 : Cond.selects "OmegaNets" ⟨"OmegaNets", "checkTransition", "(I)V"⟩ ⟨"OmegaNets", "checkTransition", "(I)V"⟩ ∈ lw_tbl := List.mem_append_left _ (List.mem_of_getElem? (i := 1) (by decide +kernel))
theorem ws_3 : Cond.selects "OmegaNets" ⟨"OmegaNets", "checkPlace", "(I)V"⟩ ⟨"OmegaNets", "checkPlace", "(I)V"⟩ ∈ lw_tbl := List.mem_append_left _ (List.mem_of_getElem? (i := 3) (by decide +kernel))
theorem ws_4 : Cond.selects "OmegaNets" ⟨"OmegaNets", "forgetTreeAndGoals", "()V"⟩ ⟨"OmegaNets", "forgetTreeAndGoals", "()V"⟩ ∈ lw_tbl := List.mem_append_left _ (List.mem_of_getElem? (i := 4) (by decide +kernel))
theorem ws_5 : Cond.selects "OmegaNets$Tree" ⟨"OmegaNets$Tree", "plant", "()V"⟩ ⟨"OmegaNets$Tree", "plant", "()V"⟩ ∈ lw_tbl := List.mem_append_left _ (List.mem_of_getElem? (i := 5) (by decide +kernel))
theorem ws_6 : Cond.selects "OmegaNets$Tree" ⟨"OmegaNets$Tree", "repeatsOneAbove", "(I)Z"⟩ ⟨"OmegaNets$Tree", "repeatsOneAbove", "(I)Z"⟩ ∈ lw_tbl := List.mem_append_left _ (List.mem_of_getElem? (i := 6) (by decide +kernel))
theorem ws_7 : Cond.selects "OmegaNets$Tree" ⟨"OmegaNets$Tree", "branch", "(I)Z"⟩ ⟨"OmegaNets$Tree", "branch", "(I)Z"⟩ ∈ lw_tbl := List.mem_append_left _ (List.mem_of_getElem? (i := 7) (by decide +kernel))
theorem ws_8 : Cond.selects "OmegaNets$Tree" ⟨"OmegaNets$Tree", "addNode", "(II)V"⟩ ⟨"OmegaNets$Tree", "addNode", "(II)V"⟩ ∈ lw_tbl := List.mem_append_left _ (List.mem_of_getElem? (i := 8) (by decide +kernel))
theorem ws_9 : Cond.selects "OmegaNets$Tree" ⟨"OmegaNets$Tree", "lift", "(I)V"⟩ ⟨"OmegaNets$Tree", "lift", "(I)V"⟩ ∈ lw_tbl := List.mem_append_left _ (List.mem_of_getElem? (i := 9) (by decide +kernel))
theorem ws_10 : Cond.selects "OmegaNets$Tree" ⟨"OmegaNets$Tree", "liftOver", "([I[I)Z"⟩ ⟨"OmegaNets$Tree", "liftOver", "([I[I)Z"⟩ ∈ lw_tbl := List.mem_append_left _ (List.mem_of_getElem? (i := 10) (by decide +kernel))
theorem ws_11 : Cond.selects "OmegaNets$Tree" ⟨"OmegaNets$Tree", "findPeaks", "()V"⟩ ⟨"OmegaNets$Tree", "findPeaks", "()V"⟩ ∈ lw_tbl := List.mem_append_left _ (List.mem_of_getElem? (i := 11) (by decide +kernel))
theorem ws_12 : Cond.selects "OmegaNets$Tree" ⟨"OmegaNets$Tree", "isPeak", "(I)Z"⟩ ⟨"OmegaNets$Tree", "isPeak", "(I)Z"⟩ ∈ lw_tbl := List.mem_append_left _ (List.mem_of_getElem? (i := 12) (by decide +kernel))
theorem ws_13 : Cond.selects "OmegaNets" ⟨"OmegaNets", "checkTree", "()V"⟩ ⟨"OmegaNets", "checkTree", "()V"⟩ ∈ lw_tbl := List.mem_append_left _ (List.mem_of_getElem? (i := 13) (by decide +kernel))
theorem ws_14 : Cond.selects "OmegaNets" ⟨"OmegaNets", "checkNode", "(I)V"⟩ ⟨"OmegaNets", "checkNode", "(I)V"⟩ ∈ lw_tbl := List.mem_append_left _ (List.mem_of_getElem? (i := 14) (by decide +kernel))
theorem ws_15 : Cond.selects "OmegaNets$Goals" ⟨"OmegaNets$Goals", "plant", "([I)V"⟩ ⟨"OmegaNets$Goals", "plant", "([I)V"⟩ ∈ lw_tbl := List.mem_append_left _ (List.mem_of_getElem? (i := 15) (by decide +kernel))
theorem ws_16 : Cond.selects "OmegaNets$Goals" ⟨"OmegaNets$Goals", "goBack", "(I)Z"⟩ ⟨"OmegaNets$Goals", "goBack", "(I)Z"⟩ ∈ lw_tbl := List.mem_append_left _ (List.mem_of_getElem? (i := 16) (by decide +kernel))
theorem ws_17 : Cond.selects "OmegaNets$Goals" ⟨"OmegaNets$Goals", "isKnown", "([I)Z"⟩ ⟨"OmegaNets$Goals", "isKnown", "([I)Z"⟩ ∈ lw_tbl := List.mem_append_left _ (List.mem_of_getElem? (i := 17) (by decide +kernel))
theorem ws_18 : Cond.selects "OmegaNets$Goals" ⟨"OmegaNets$Goals", "addCandidate", "(II)V"⟩ ⟨"OmegaNets$Goals", "addCandidate", "(II)V"⟩ ∈ lw_tbl := List.mem_append_left _ (List.mem_of_getElem? (i := 18) (by decide +kernel))
theorem ws_19 : Cond.selects "OmegaNets" ⟨"OmegaNets", "checkGoals", "()V"⟩ ⟨"OmegaNets", "checkGoals", "()V"⟩ ∈ lw_tbl := List.mem_append_left _ (List.mem_of_getElem? (i := 19) (by decide +kernel))
theorem ws_20 : Cond.selects "OmegaNets" ⟨"OmegaNets", "goalBelowStart", "()I"⟩ ⟨"OmegaNets", "goalBelowStart", "()I"⟩ ∈ lw_tbl := List.mem_append_left _ (List.mem_of_getElem? (i := 20) (by decide +kernel))
theorem ws_21 : Cond.selects "OmegaNetsModel" ⟨"OmegaNetsModel", "isTransition", "(I)Z"⟩ ⟨"OmegaNetsModel", "isTransition", "(I)Z"⟩ ∈ lw_tbl := List.mem_append_left _ (List.mem_of_getElem? (i := 21) (by decide +kernel))
theorem ws_22 : Cond.selects "OmegaNetsModel" ⟨"OmegaNetsModel", "isPlace", "(I)Z"⟩ ⟨"OmegaNetsModel", "isPlace", "(I)Z"⟩ ∈ lw_tbl := List.mem_append_left _ (List.mem_of_getElem? (i := 22) (by decide +kernel))
theorem ws_23 : Cond.selects "OmegaNetsModel" ⟨"OmegaNetsModel", "changed", "()V"⟩ ⟨"OmegaNetsModel", "changed", "()V"⟩ ∈ lw_tbl := List.mem_append_left _ (List.mem_of_getElem? (i := 23) (by decide +kernel))
theorem ws_24 : Cond.selects "OmegaNetsModel" ⟨"OmegaNetsModel", "begin", "()V"⟩ ⟨"OmegaNetsModel", "begin", "()V"⟩ ∈ lw_tbl := List.mem_append_left _ (List.mem_of_getElem? (i := 24) (by decide +kernel))
theorem ws_25 : Cond.selects "OmegaNetsModel" ⟨"OmegaNetsModel", "isLeaf", "(I)Z"⟩ ⟨"OmegaNetsModel", "isLeaf", "(I)Z"⟩ ∈ lw_tbl := List.mem_append_left _ (List.mem_of_getElem? (i := 25) (by decide +kernel))
theorem ws_26 : Cond.selects "OmegaNetsModel" ⟨"OmegaNetsModel", "isSame", "(II)Z"⟩ ⟨"OmegaNetsModel", "isSame", "(II)Z"⟩ ∈ lw_tbl := List.mem_append_left _ (List.mem_of_getElem? (i := 26) (by decide +kernel))
theorem ws_27 : Cond.selects "OmegaNetsModel" ⟨"OmegaNetsModel", "isBelow", "(II)Z"⟩ ⟨"OmegaNetsModel", "isBelow", "(II)Z"⟩ ∈ lw_tbl := List.mem_append_left _ (List.mem_of_getElem? (i := 27) (by decide +kernel))
theorem ws_28 : Cond.selects "OmegaNetsModel" ⟨"OmegaNetsModel", "isEnabled", "(II)Z"⟩ ⟨"OmegaNetsModel", "isEnabled", "(II)Z"⟩ ∈ lw_tbl := List.mem_append_left _ (List.mem_of_getElem? (i := 28) (by decide +kernel))
theorem ws_29 : Cond.selects "OmegaNetsModel" ⟨"OmegaNetsModel", "grow", "(II)V"⟩ ⟨"OmegaNetsModel", "grow", "(II)V"⟩ ∈ lw_tbl := List.mem_append_left _ (List.mem_of_getElem? (i := 29) (by decide +kernel))
theorem ws_30 : Cond.selects "OmegaNetsModel" ⟨"OmegaNetsModel", "raise", "(I)Z"⟩ ⟨"OmegaNetsModel", "raise", "(I)Z"⟩ ∈ lw_tbl := List.mem_append_left _ (List.mem_of_getElem? (i := 30) (by decide +kernel))
theorem ws_31 : Cond.selects "OmegaNetsModel" ⟨"OmegaNetsModel", "isNode", "(I)Z"⟩ ⟨"OmegaNetsModel", "isNode", "(I)Z"⟩ ∈ lw_tbl := List.mem_append_left _ (List.mem_of_getElem? (i := 31) (by decide +kernel))
theorem ws_32 : Cond.selects "OmegaNetsModel" ⟨"OmegaNetsModel", "depth", "(I)I"⟩ ⟨"OmegaNetsModel", "depth", "(I)I"⟩ ∈ lw_tbl := List.mem_append_left _ (List.mem_of_getElem? (i := 32) (by decide +kernel))
theorem ws_33 : Cond.selects "OmegaNetsModel" ⟨"OmegaNetsModel", "isTop", "(I)Z"⟩ ⟨"OmegaNetsModel", "isTop", "(I)Z"⟩ ∈ lw_tbl := List.mem_append_left _ (List.mem_of_getElem? (i := 33) (by decide +kernel))
theorem ws_34 : Cond.selects "OmegaNetsModel" ⟨"OmegaNetsModel", "topAt", "(I)I"⟩ ⟨"OmegaNetsModel", "topAt", "(I)I"⟩ ∈ lw_tbl := List.mem_append_left _ (List.mem_of_getElem? (i := 34) (by decide +kernel))
theorem ws_35 : Cond.selects "OmegaNetsModel" ⟨"OmegaNetsModel", "makeGoal", "(II)Z"⟩ ⟨"OmegaNetsModel", "makeGoal", "(II)Z"⟩ ∈ lw_tbl := List.mem_append_left _ (List.mem_of_getElem? (i := 35) (by decide +kernel))
theorem ws_36 : Cond.selects "OmegaNetsModel" ⟨"OmegaNetsModel", "isGoalBelow", "(II)Z"⟩ ⟨"OmegaNetsModel", "isGoalBelow", "(II)Z"⟩ ∈ lw_tbl := List.mem_append_left _ (List.mem_of_getElem? (i := 36) (by decide +kernel))
theorem ws_37 : Cond.selects "OmegaNetsModel" ⟨"OmegaNetsModel", "firstGoal", "()I"⟩ ⟨"OmegaNetsModel", "firstGoal", "()I"⟩ ∈ lw_tbl := List.mem_append_left _ (List.mem_of_getElem? (i := 37) (by decide +kernel))
theorem fw_O_18 : Kw "OmegaNets" 18 3 0 true := ⟨(RX3, TX3, 6), rfl, by decide, rfl, w_154, inX3, rfl⟩
theorem fw_O_27 : Kw "OmegaNets" 27 3 1 true := ⟨(RX3, TX3, 6), rfl, by decide, rfl, w_155, inX3, rfl⟩
theorem fw_O_34 : Kw "OmegaNets" 34 3 2 true := ⟨(RX3, TX3, 6), rfl, by decide, rfl, w_156, inX3, rfl⟩
theorem fw_O_38 : Kw "OmegaNets" 38 1 0 false := ⟨(RX1, TX1, 5), rfl, by decide, rfl, w_43, inX1, rfl⟩
theorem fw_O_42 : Kw "OmegaNets" 42 3 3 true := ⟨(RX3, TX3, 6), rfl, by decide, rfl, w_157, inX3, rfl⟩
theorem fw_O_46 : Kw "OmegaNets" 46 3 4 true := ⟨(RX3, TX3, 6), rfl, by decide, rfl, w_158, inX3, rfl⟩
theorem fw_O_49 : Kw "OmegaNets" 49 3 5 false := ⟨(RX3, TX3, 6), rfl, by decide, rfl, w_159, inX3, rfl⟩
theorem fw_N_9 : Kw "OmegaNets$Net" 9 1 0 false := ⟨(RX1, TX1, 5), rfl, by decide, rfl, w_40, inX1, rfl⟩
theorem fw_N_15 : Kw "OmegaNets$Net" 15 1 1 false := ⟨(RX1, TX1, 5), rfl, by decide, rfl, w_44, inX1, rfl⟩
theorem fw_N_20 : Kw "OmegaNets$Net" 20 1 2 true := ⟨(RX1, TX1, 5), rfl, by decide, rfl, w_48, inX1, rfl⟩
theorem fw_N_23 : Kw "OmegaNets$Net" 23 1 3 true := ⟨(RX1, TX1, 5), rfl, by decide, rfl, w_51, inX1, rfl⟩
theorem fw_N_26 : Kw "OmegaNets$Net" 26 1 4 true := ⟨(RX1, TX1, 5), rfl, by decide, rfl, w_53, inX1, rfl⟩
theorem fw_T_9 : Kw "OmegaNets$Tree" 9 2 2 true := ⟨(RX2, TX2, 10), rfl, by decide, rfl, w_78, inX2, rfl⟩
theorem fw_T_15 : Kw "OmegaNets$Tree" 15 2 3 true := ⟨(RX2, TX2, 10), rfl, by decide, rfl, w_80, inX2, rfl⟩
theorem fw_T_18 : Kw "OmegaNets$Tree" 18 2 4 true := ⟨(RX2, TX2, 10), rfl, by decide, rfl, w_82, inX2, rfl⟩
theorem fw_T_21 : Kw "OmegaNets$Tree" 21 2 5 true := ⟨(RX2, TX2, 10), rfl, by decide, rfl, w_84, inX2, rfl⟩
theorem fw_T_25 : Kw "OmegaNets$Tree" 25 2 6 true := ⟨(RX2, TX2, 10), rfl, by decide, rfl, w_86, inX2, rfl⟩
theorem fw_T_28 : Kw "OmegaNets$Tree" 28 2 0 true := ⟨(RX2, TX2, 10), rfl, by decide, rfl, w_75, inX2, rfl⟩
theorem fw_T_32 : Kw "OmegaNets$Tree" 32 1 0 false := ⟨(RX1, TX1, 5), rfl, by decide, rfl, w_42, inX1, rfl⟩
theorem fw_T_40 : Kw "OmegaNets$Tree" 40 2 1 true := ⟨(RX2, TX2, 10), rfl, by decide, rfl, w_76, inX2, rfl⟩
theorem fw_G_9 : Kw "OmegaNets$Goals" 9 0 2 true := ⟨(RX0, TX0, 9), rfl, by decide, rfl, w_126, inX0, rfl⟩
theorem fw_G_15 : Kw "OmegaNets$Goals" 15 0 3 true := ⟨(RX0, TX0, 9), rfl, by decide, rfl, w_127, inX0, rfl⟩
theorem fw_G_18 : Kw "OmegaNets$Goals" 18 0 4 true := ⟨(RX0, TX0, 9), rfl, by decide, rfl, w_128, inX0, rfl⟩
theorem fw_G_21 : Kw "OmegaNets$Goals" 21 0 5 true := ⟨(RX0, TX0, 9), rfl, by decide, rfl, w_130, inX0, rfl⟩
theorem fw_G_25 : Kw "OmegaNets$Goals" 25 0 0 true := ⟨(RX0, TX0, 9), rfl, by decide, rfl, w_123, inX0, rfl⟩
theorem fw_G_29 : Kw "OmegaNets$Goals" 29 1 0 false := ⟨(RX1, TX1, 5), rfl, by decide, rfl, w_41, inX1, rfl⟩
theorem fw_G_37 : Kw "OmegaNets$Goals" 37 0 1 true := ⟨(RX0, TX0, 9), rfl, by decide, rfl, w_124, inX0, rfl⟩
theorem fw_G_40 : Kw "OmegaNets$Goals" 40 0 6 true := ⟨(RX0, TX0, 9), rfl, by decide, rfl, w_131, inX0, rfl⟩
theorem fw_O_72 : Kw "OmegaNets" 72 1 4 true := ⟨(RX1, TX1, 5), rfl, by decide, rfl, w_55, inX1, rfl⟩
theorem fw_O_62 : Kw "OmegaNets" 62 1 2 true := ⟨(RX1, TX1, 5), rfl, by decide, rfl, w_49, inX1, rfl⟩
theorem fw_O_66 : Kw "OmegaNets" 66 1 3 true := ⟨(RX1, TX1, 5), rfl, by decide, rfl, w_52, inX1, rfl⟩
theorem fw_O_206 : Kw "OmegaNets" 206 1 1 false := ⟨(RX1, TX1, 5), rfl, by decide, rfl, w_47, inX1, rfl⟩
theorem fw_O_93 : Kw "OmegaNets" 93 2 9 false := ⟨(RX2, TX2, 10), rfl, by decide, rfl, w_93, inX2, rfl⟩
theorem fw_O_78 : Kw "OmegaNets" 78 0 8 false := ⟨(RX0, TX0, 9), rfl, by decide, rfl, w_134, inX0, rfl⟩
theorem fw_O_101 : Kw "OmegaNets" 101 2 7 false := ⟨(RX2, TX2, 10), rfl, by decide, rfl, w_89, inX2, rfl⟩
theorem fw_T_43 : Kw "OmegaNets$Tree" 43 2 9 false := ⟨(RX2, TX2, 10), rfl, by decide, rfl, w_92, inX2, rfl⟩
theorem fw_T_50 : Kw "OmegaNets$Tree" 50 2 7 false := ⟨(RX2, TX2, 10), rfl, by decide, rfl, w_88, inX2, rfl⟩
theorem fw_T_63 : Kw "OmegaNets$Tree" 63 1 4 true := ⟨(RX1, TX1, 5), rfl, by decide, rfl, w_54, inX1, rfl⟩
theorem fw_T_76 : Kw "OmegaNets$Tree" 76 1 1 false := ⟨(RX1, TX1, 5), rfl, by decide, rfl, w_46, inX1, rfl⟩
theorem fw_T_101 : Kw "OmegaNets$Tree" 101 2 8 false := ⟨(RX2, TX2, 10), rfl, by decide, rfl, w_90, inX2, rfl⟩
theorem fw_O_110 : Kw "OmegaNets" 110 2 1 true := ⟨(RX2, TX2, 10), rfl, by decide, rfl, w_77, inX2, rfl⟩
theorem fw_O_117 : Kw "OmegaNets" 117 2 2 true := ⟨(RX2, TX2, 10), rfl, by decide, rfl, w_79, inX2, rfl⟩
theorem fw_O_120 : Kw "OmegaNets" 120 2 3 true := ⟨(RX2, TX2, 10), rfl, by decide, rfl, w_81, inX2, rfl⟩
theorem fw_O_123 : Kw "OmegaNets" 123 2 5 true := ⟨(RX2, TX2, 10), rfl, by decide, rfl, w_85, inX2, rfl⟩
theorem fw_O_132 : Kw "OmegaNets" 132 2 4 true := ⟨(RX2, TX2, 10), rfl, by decide, rfl, w_83, inX2, rfl⟩
theorem fw_O_145 : Kw "OmegaNets" 145 2 8 false := ⟨(RX2, TX2, 10), rfl, by decide, rfl, w_91, inX2, rfl⟩
theorem fw_O_148 : Kw "OmegaNets" 148 2 6 true := ⟨(RX2, TX2, 10), rfl, by decide, rfl, w_87, inX2, rfl⟩
theorem fw_T_113 : Kw "OmegaNets$Tree" 113 1 2 true := ⟨(RX1, TX1, 5), rfl, by decide, rfl, w_50, inX1, rfl⟩
theorem fw_G_43 : Kw "OmegaNets$Goals" 43 0 8 false := ⟨(RX0, TX0, 9), rfl, by decide, rfl, w_133, inX0, rfl⟩
theorem fw_G_51 : Kw "OmegaNets$Goals" 51 0 7 false := ⟨(RX0, TX0, 9), rfl, by decide, rfl, w_132, inX0, rfl⟩
theorem fw_G_64 : Kw "OmegaNets$Goals" 64 1 1 false := ⟨(RX1, TX1, 5), rfl, by decide, rfl, w_45, inX1, rfl⟩
theorem fw_O_183 : Kw "OmegaNets" 183 0 1 true := ⟨(RX0, TX0, 9), rfl, by decide, rfl, w_125, inX0, rfl⟩
theorem fw_O_184 : Kw "OmegaNets" 184 0 4 true := ⟨(RX0, TX0, 9), rfl, by decide, rfl, w_129, inX0, rfl⟩
theorem fw_M_7 : Kw "OmegaNetsModel" 7 4 3 true := ⟨(RX4, TX4, 21), rfl, by decide, rfl, w_620, inX4, rfl⟩
theorem fw_M_13 : Kw "OmegaNetsModel" 13 4 4 true := ⟨(RX4, TX4, 21), rfl, by decide, rfl, w_621, inX4, rfl⟩
theorem fw_M_16 : Kw "OmegaNetsModel" 16 4 5 true := ⟨(RX4, TX4, 21), rfl, by decide, rfl, w_622, inX4, rfl⟩
theorem fw_M_19 : Kw "OmegaNetsModel" 19 4 6 true := ⟨(RX4, TX4, 21), rfl, by decide, rfl, w_623, inX4, rfl⟩
theorem fw_M_22 : Kw "OmegaNetsModel" 22 4 7 true := ⟨(RX4, TX4, 21), rfl, by decide, rfl, w_624, inX4, rfl⟩
theorem fw_M_25 : Kw "OmegaNetsModel" 25 4 11 true := ⟨(RX4, TX4, 21), rfl, by decide, rfl, w_628, inX4, rfl⟩
theorem fw_M_28 : Kw "OmegaNetsModel" 28 4 12 true := ⟨(RX4, TX4, 21), rfl, by decide, rfl, w_629, inX4, rfl⟩
theorem fw_M_31 : Kw "OmegaNetsModel" 31 4 13 true := ⟨(RX4, TX4, 21), rfl, by decide, rfl, w_630, inX4, rfl⟩
theorem fw_M_34 : Kw "OmegaNetsModel" 34 4 14 true := ⟨(RX4, TX4, 21), rfl, by decide, rfl, w_631, inX4, rfl⟩
theorem fw_M_38 : Kw "OmegaNetsModel" 38 4 17 true := ⟨(RX4, TX4, 21), rfl, by decide, rfl, w_634, inX4, rfl⟩
theorem fw_M_41 : Kw "OmegaNetsModel" 41 4 18 true := ⟨(RX4, TX4, 21), rfl, by decide, rfl, w_635, inX4, rfl⟩
theorem fw_M_44 : Kw "OmegaNetsModel" 44 4 19 true := ⟨(RX4, TX4, 21), rfl, by decide, rfl, w_636, inX4, rfl⟩
theorem fw_M_47 : Kw "OmegaNetsModel" 47 4 20 true := ⟨(RX4, TX4, 21), rfl, by decide, rfl, w_637, inX4, rfl⟩
theorem fw_M_50 : Kw "OmegaNetsModel" 50 4 1 false := ⟨(RX4, TX4, 21), rfl, by decide, rfl, w_618, inX4, rfl⟩
theorem fw_M_54 : Kw "OmegaNetsModel" 54 4 2 false := ⟨(RX4, TX4, 21), rfl, by decide, rfl, w_619, inX4, rfl⟩
theorem fw_M_57 : Kw "OmegaNetsModel" 57 4 0 false := ⟨(RX4, TX4, 21), rfl, by decide, rfl, w_617, inX4, rfl⟩
theorem fw_M_60 : Kw "OmegaNetsModel" 60 4 9 false := ⟨(RX4, TX4, 21), rfl, by decide, rfl, w_626, inX4, rfl⟩
theorem fw_M_64 : Kw "OmegaNetsModel" 64 4 15 false := ⟨(RX4, TX4, 21), rfl, by decide, rfl, w_632, inX4, rfl⟩
theorem fw_M_77 : Kw "OmegaNetsModel" 77 4 8 false := ⟨(RX4, TX4, 21), rfl, by decide, rfl, w_625, inX4, rfl⟩
theorem fw_M_91 : Kw "OmegaNetsModel" 91 4 10 false := ⟨(RX4, TX4, 21), rfl, by decide, rfl, w_627, inX4, rfl⟩
theorem fw_M_123 : Kw "OmegaNetsModel" 123 4 16 false := ⟨(RX4, TX4, 21), rfl, by decide, rfl, w_633, inX4, rfl⟩
theorem ko_O_3_0 : Ko "OmegaNets" 3 0 (.object "OmegaNets$Net") true := ⟨(RX3, TX3, 6), tyX3, rfl, tyX3_ok, nmX3, rfl, rfl, fun _ => rfl⟩
theorem ko_O_3_1 : Ko "OmegaNets" 3 1 (.object "OmegaNets$Tree") true := ⟨(RX3, TX3, 6), tyX3, rfl, tyX3_ok, nmX3, rfl, rfl, fun _ => rfl⟩
theorem ko_O_3_2 : Ko "OmegaNets" 3 2 (.object "OmegaNets$Goals") true := ⟨(RX3, TX3, 6), tyX3, rfl, tyX3_ok, nmX3, rfl, rfl, fun _ => rfl⟩
theorem ko_O_3_3 : Ko "OmegaNets" 3 3 (.array .int) true := ⟨(RX3, TX3, 6), tyX3, rfl, tyX3_ok, nmX3, rfl, rfl, fun _ => rfl⟩
theorem ko_O_3_4 : Ko "OmegaNets" 3 4 (.array .int) true := ⟨(RX3, TX3, 6), tyX3, rfl, tyX3_ok, nmX3, rfl, rfl, fun _ => rfl⟩
theorem ko_O_3_5 : Ko "OmegaNets" 3 5 .int false := ⟨(RX3, TX3, 6), tyX3, rfl, tyX3_ok, nmX3, rfl, rfl, fun h => by cases h⟩
theorem ko_N_1_0 : Ko "OmegaNets$Net" 1 0 .int true := ⟨(RX1, TX1, 5), tyX1, rfl, tyX1_ok, nmX1, rfl, rfl, fun _ => rfl⟩
theorem ko_N_1_1 : Ko "OmegaNets$Net" 1 1 .int true := ⟨(RX1, TX1, 5), tyX1, rfl, tyX1_ok, nmX1, rfl, rfl, fun _ => rfl⟩
theorem ko_N_1_2 : Ko "OmegaNets$Net" 1 2 (.array (.array .int)) true := ⟨(RX1, TX1, 5), tyX1, rfl, tyX1_ok, nmX1, rfl, rfl, fun _ => rfl⟩
theorem ko_N_1_3 : Ko "OmegaNets$Net" 1 3 (.array (.array .int)) true := ⟨(RX1, TX1, 5), tyX1, rfl, tyX1_ok, nmX1, rfl, rfl, fun _ => rfl⟩
theorem ko_N_1_4 : Ko "OmegaNets$Net" 1 4 (.array .int) true := ⟨(RX1, TX1, 5), tyX1, rfl, tyX1_ok, nmX1, rfl, rfl, fun _ => rfl⟩
theorem ko_T_2_2 : Ko "OmegaNets$Tree" 2 2 (.array .int) true := ⟨(RX2, TX2, 10), tyX2, rfl, tyX2_ok, nmX2, rfl, rfl, fun _ => rfl⟩
theorem ko_T_2_3 : Ko "OmegaNets$Tree" 2 3 (.array .int) true := ⟨(RX2, TX2, 10), tyX2, rfl, tyX2_ok, nmX2, rfl, rfl, fun _ => rfl⟩
theorem ko_T_2_4 : Ko "OmegaNets$Tree" 2 4 (.array .int) true := ⟨(RX2, TX2, 10), tyX2, rfl, tyX2_ok, nmX2, rfl, rfl, fun _ => rfl⟩
theorem ko_T_2_5 : Ko "OmegaNets$Tree" 2 5 (.array .boolean) true := ⟨(RX2, TX2, 10), tyX2, rfl, tyX2_ok, nmX2, rfl, rfl, fun _ => rfl⟩
theorem ko_T_2_6 : Ko "OmegaNets$Tree" 2 6 (.array .int) true := ⟨(RX2, TX2, 10), tyX2, rfl, tyX2_ok, nmX2, rfl, rfl, fun _ => rfl⟩
theorem ko_T_2_0 : Ko "OmegaNets$Tree" 2 0 (.object "OmegaNets$Net") true := ⟨(RX2, TX2, 10), tyX2, rfl, tyX2_ok, nmX2, rfl, rfl, fun _ => rfl⟩
theorem ko_T_2_1 : Ko "OmegaNets$Tree" 2 1 (.array (.array .int)) true := ⟨(RX2, TX2, 10), tyX2, rfl, tyX2_ok, nmX2, rfl, rfl, fun _ => rfl⟩
theorem ko_G_0_2 : Ko "OmegaNets$Goals" 0 2 (.array .int) true := ⟨(RX0, TX0, 9), tyX0, rfl, tyX0_ok, nmX0, rfl, rfl, fun _ => rfl⟩
theorem ko_G_0_3 : Ko "OmegaNets$Goals" 0 3 (.array .int) true := ⟨(RX0, TX0, 9), tyX0, rfl, tyX0_ok, nmX0, rfl, rfl, fun _ => rfl⟩
theorem ko_G_0_4 : Ko "OmegaNets$Goals" 0 4 (.array .int) true := ⟨(RX0, TX0, 9), tyX0, rfl, tyX0_ok, nmX0, rfl, rfl, fun _ => rfl⟩
theorem ko_G_0_5 : Ko "OmegaNets$Goals" 0 5 (.array .boolean) true := ⟨(RX0, TX0, 9), tyX0, rfl, tyX0_ok, nmX0, rfl, rfl, fun _ => rfl⟩
theorem ko_G_0_0 : Ko "OmegaNets$Goals" 0 0 (.object "OmegaNets$Net") true := ⟨(RX0, TX0, 9), tyX0, rfl, tyX0_ok, nmX0, rfl, rfl, fun _ => rfl⟩
theorem ko_G_0_1 : Ko "OmegaNets$Goals" 0 1 (.array (.array .int)) true := ⟨(RX0, TX0, 9), tyX0, rfl, tyX0_ok, nmX0, rfl, rfl, fun _ => rfl⟩
theorem ko_G_0_6 : Ko "OmegaNets$Goals" 0 6 (.array .int) true := ⟨(RX0, TX0, 9), tyX0, rfl, tyX0_ok, nmX0, rfl, rfl, fun _ => rfl⟩
theorem ko_O_2_9 : Ko "OmegaNets" 2 9 .boolean false := ⟨(RX2, TX2, 10), tyX2, rfl, tyX2_ok, nmX2, rfl, rfl, fun h => by cases h⟩
theorem ko_O_0_8 : Ko "OmegaNets" 0 8 .boolean false := ⟨(RX0, TX0, 9), tyX0, rfl, tyX0_ok, nmX0, rfl, rfl, fun h => by cases h⟩
theorem ko_T_2_9 : Ko "OmegaNets$Tree" 2 9 .boolean false := ⟨(RX2, TX2, 10), tyX2, rfl, tyX2_ok, nmX2, rfl, rfl, fun h => by cases h⟩
theorem ko_T_2_7 : Ko "OmegaNets$Tree" 2 7 .int false := ⟨(RX2, TX2, 10), tyX2, rfl, tyX2_ok, nmX2, rfl, rfl, fun h => by cases h⟩
theorem ko_T_2_8 : Ko "OmegaNets$Tree" 2 8 .int false := ⟨(RX2, TX2, 10), tyX2, rfl, tyX2_ok, nmX2, rfl, rfl, fun h => by cases h⟩
theorem ko_G_0_8 : Ko "OmegaNets$Goals" 0 8 .boolean false := ⟨(RX0, TX0, 9), tyX0, rfl, tyX0_ok, nmX0, rfl, rfl, fun h => by cases h⟩
theorem ko_G_0_7 : Ko "OmegaNets$Goals" 0 7 .int false := ⟨(RX0, TX0, 9), tyX0, rfl, tyX0_ok, nmX0, rfl, rfl, fun h => by cases h⟩
theorem ko_M_4_3 : Ko "OmegaNetsModel" 4 3 (.array .int) true := ⟨(RX4, TX4, 21), tyX4, rfl, tyX4_ok, nmX4, rfl, rfl, fun _ => rfl⟩
theorem ko_M_4_4 : Ko "OmegaNetsModel" 4 4 (.array .int) true := ⟨(RX4, TX4, 21), tyX4, rfl, tyX4_ok, nmX4, rfl, rfl, fun _ => rfl⟩
theorem ko_M_4_5 : Ko "OmegaNetsModel" 4 5 (.array .int) true := ⟨(RX4, TX4, 21), tyX4, rfl, tyX4_ok, nmX4, rfl, rfl, fun _ => rfl⟩
theorem ko_M_4_6 : Ko "OmegaNetsModel" 4 6 (.array .int) true := ⟨(RX4, TX4, 21), tyX4, rfl, tyX4_ok, nmX4, rfl, rfl, fun _ => rfl⟩
theorem ko_M_4_7 : Ko "OmegaNetsModel" 4 7 (.array .int) true := ⟨(RX4, TX4, 21), tyX4, rfl, tyX4_ok, nmX4, rfl, rfl, fun _ => rfl⟩
theorem ko_M_4_11 : Ko "OmegaNetsModel" 4 11 (.array .int) true := ⟨(RX4, TX4, 21), tyX4, rfl, tyX4_ok, nmX4, rfl, rfl, fun _ => rfl⟩
theorem ko_M_4_12 : Ko "OmegaNetsModel" 4 12 (.array .int) true := ⟨(RX4, TX4, 21), tyX4, rfl, tyX4_ok, nmX4, rfl, rfl, fun _ => rfl⟩
theorem ko_M_4_13 : Ko "OmegaNetsModel" 4 13 (.array .int) true := ⟨(RX4, TX4, 21), tyX4, rfl, tyX4_ok, nmX4, rfl, rfl, fun _ => rfl⟩
theorem ko_M_4_14 : Ko "OmegaNetsModel" 4 14 (.array .boolean) true := ⟨(RX4, TX4, 21), tyX4, rfl, tyX4_ok, nmX4, rfl, rfl, fun _ => rfl⟩
theorem ko_M_4_17 : Ko "OmegaNetsModel" 4 17 (.array .int) true := ⟨(RX4, TX4, 21), tyX4, rfl, tyX4_ok, nmX4, rfl, rfl, fun _ => rfl⟩
theorem ko_M_4_18 : Ko "OmegaNetsModel" 4 18 (.array .int) true := ⟨(RX4, TX4, 21), tyX4, rfl, tyX4_ok, nmX4, rfl, rfl, fun _ => rfl⟩
theorem ko_M_4_19 : Ko "OmegaNetsModel" 4 19 (.array .int) true := ⟨(RX4, TX4, 21), tyX4, rfl, tyX4_ok, nmX4, rfl, rfl, fun _ => rfl⟩
theorem ko_M_4_20 : Ko "OmegaNetsModel" 4 20 (.array .boolean) true := ⟨(RX4, TX4, 21), tyX4, rfl, tyX4_ok, nmX4, rfl, rfl, fun _ => rfl⟩
theorem ko_M_4_1 : Ko "OmegaNetsModel" 4 1 .int true := ⟨(RX4, TX4, 21), tyX4, rfl, tyX4_ok, nmX4, rfl, rfl, fun _ => rfl⟩
theorem ko_M_4_2 : Ko "OmegaNetsModel" 4 2 .int true := ⟨(RX4, TX4, 21), tyX4, rfl, tyX4_ok, nmX4, rfl, rfl, fun _ => rfl⟩
theorem ko_M_4_0 : Ko "OmegaNetsModel" 4 0 .int false := ⟨(RX4, TX4, 21), tyX4, rfl, tyX4_ok, nmX4, rfl, rfl, fun h => by cases h⟩
theorem ko_M_4_9 : Ko "OmegaNetsModel" 4 9 .boolean false := ⟨(RX4, TX4, 21), tyX4, rfl, tyX4_ok, nmX4, rfl, rfl, fun h => by cases h⟩
theorem ko_M_4_15 : Ko "OmegaNetsModel" 4 15 .boolean false := ⟨(RX4, TX4, 21), tyX4, rfl, tyX4_ok, nmX4, rfl, rfl, fun h => by cases h⟩
theorem ko_M_4_8 : Ko "OmegaNetsModel" 4 8 .int false := ⟨(RX4, TX4, 21), tyX4, rfl, tyX4_ok, nmX4, rfl, rfl, fun h => by cases h⟩
theorem ko_M_4_10 : Ko "OmegaNetsModel" 4 10 .int false := ⟨(RX4, TX4, 21), tyX4, rfl, tyX4_ok, nmX4, rfl, rfl, fun h => by cases h⟩
theorem ko_M_4_16 : Ko "OmegaNetsModel" 4 16 .int false := ⟨(RX4, TX4, 21), tyX4, rfl, tyX4_ok, nmX4, rfl, rfl, fun h => by cases h⟩
theorem xt_182_178 : ∀ w ∈ vx_atS "OmegaNets" 182 "java/lang/IndexOutOfBoundsException" nmE, w ∈ lw_tbl ∧ (stW w && vx_ot w) = true := by decide +kernel
theorem xt_131_127 : ∀ w ∈ vx_atS "OmegaNets" 131 "java/lang/IllegalArgumentException" nmE, w ∈ lw_tbl ∧ (stW w && vx_ot w) = true := by decide +kernel
theorem xt_98_94 : ∀ w ∈ vx_atS "OmegaNets" 98 "java/lang/IllegalStateException" nmE, w ∈ lw_tbl ∧ (stW w && vx_ot w) = true := by decide +kernel
theorem xt_205_201 : ∀ w ∈ vx_atS "OmegaNets" 205 "java/lang/UnsupportedOperationException" nmE, w ∈ lw_tbl ∧ (stW w && vx_ot w) = true := by decide +kernel
theorem O_within_q : Kq O_within := ⟨by decide +kernel, ⟨by decide, by decide⟩, by decide, Or.inl ⟨rfl, w_27⟩, w_1⟩
theorem N_init_q : Kq N_init := ⟨by decide +kernel, ⟨by decide, by decide⟩, by decide, Or.inl ⟨rfl, w_36⟩, w_2⟩
theorem T_init_q : Kq T_init := ⟨by decide +kernel, ⟨by decide, by decide⟩, by decide, Or.inl ⟨rfl, w_72⟩, w_4⟩
theorem G_init_q : Kq G_init := ⟨by decide +kernel, ⟨by decide, by decide⟩, by decide, Or.inl ⟨rfl, w_120⟩, w_5⟩
theorem O_returnToStart_q : Kq O_returnToStart := ⟨by decide +kernel, ⟨by decide, by decide⟩, by decide, Or.inl ⟨rfl, w_180⟩, w_1⟩
theorem O_arc_q : Kq O_arc := ⟨by decide +kernel, ⟨by decide, by decide⟩, by decide, Or.inl ⟨rfl, w_195⟩, w_1⟩
theorem O_checkTransition_q : Kq O_checkTransition := ⟨by decide +kernel, ⟨by decide, by decide⟩, by decide, Or.inl ⟨rfl, w_199⟩, w_1⟩
theorem O_checkPlace_q : Kq O_checkPlace := ⟨by decide +kernel, ⟨by decide, by decide⟩, by decide, Or.inl ⟨rfl, w_275⟩, w_1⟩
theorem O_checkNumber_q : Kq O_checkNumber := ⟨by decide +kernel, ⟨by decide, by decide⟩, by decide, Or.inl ⟨rfl, w_278⟩, w_1⟩
theorem O_forgetTreeAndGoals_q : Kq O_forgetTreeAndGoals := ⟨by decide +kernel, ⟨by decide, by decide⟩, by decide, Or.inl ⟨rfl, w_298⟩, w_1⟩
theorem O_checkIndex_q : Kq O_checkIndex := ⟨by decide +kernel, ⟨by decide, by decide⟩, by decide, Or.inl ⟨rfl, w_202⟩, w_1⟩
theorem O_start_q : Kq O_start := ⟨by decide +kernel, ⟨by decide, by decide⟩, by decide, Or.inl ⟨rfl, w_305⟩, w_1⟩
theorem O_want_q : Kq O_want := ⟨by decide +kernel, ⟨by decide, by decide⟩, by decide, Or.inl ⟨rfl, w_312⟩, w_1⟩
theorem O_fire_q : Kq O_fire := ⟨by decide +kernel, ⟨by decide, by decide⟩, by decide, Or.inl ⟨rfl, w_319⟩, w_1⟩
theorem N_enables_q : Kq N_enables := ⟨by decide +kernel, ⟨by decide, by decide⟩, by decide, Or.inl ⟨rfl, w_323⟩, w_2⟩
theorem N_move_q : Kq N_move := ⟨by decide +kernel, ⟨by decide, by decide⟩, by decide, Or.inl ⟨rfl, w_330⟩, w_2⟩
theorem O_isBelow_q : Kq O_isBelow := ⟨by decide +kernel, ⟨by decide, by decide⟩, by decide, Or.inl ⟨rfl, w_326⟩, w_1⟩
theorem O_at_q : Kq O_at := ⟨by decide +kernel, ⟨by decide, by decide⟩, by decide, Or.inl ⟨rfl, w_338⟩, w_1⟩
theorem O_explore_q : Kq O_explore := ⟨by decide +kernel, ⟨by decide, by decide⟩, by decide, Or.inl ⟨rfl, w_346⟩, w_1⟩
theorem T_grow_q : Kq T_grow := ⟨by decide +kernel, ⟨by decide, by decide⟩, by decide, Or.inl ⟨rfl, w_350⟩, w_4⟩
theorem T_plant_q : Kq T_plant := ⟨by decide +kernel, ⟨by decide, by decide⟩, by decide, Or.inl ⟨rfl, w_354⟩, w_4⟩
theorem T_repeatsOneAbove_q : Kq T_repeatsOneAbove := ⟨by decide +kernel, ⟨by decide, by decide⟩, by decide, Or.inl ⟨rfl, w_359⟩, w_4⟩
theorem T_branch_q : Kq T_branch := ⟨by decide +kernel, ⟨by decide, by decide⟩, by decide, Or.inl ⟨rfl, w_367⟩, w_4⟩
theorem T_findPeaks_q : Kq T_findPeaks := ⟨by decide +kernel, ⟨by decide, by decide⟩, by decide, Or.inl ⟨rfl, w_387⟩, w_4⟩
theorem O_isSame_q : Kq O_isSame := ⟨by decide +kernel, ⟨by decide, by decide⟩, by decide, Or.inl ⟨rfl, w_362⟩, w_1⟩
theorem T_addNode_q : Kq T_addNode := ⟨by decide +kernel, ⟨by decide, by decide⟩, by decide, Or.inl ⟨rfl, w_372⟩, w_4⟩
theorem T_lift_q : Kq T_lift := ⟨by decide +kernel, ⟨by decide, by decide⟩, by decide, Or.inl ⟨rfl, w_377⟩, w_4⟩
theorem T_liftOver_q : Kq T_liftOver := ⟨by decide +kernel, ⟨by decide, by decide⟩, by decide, Or.inl ⟨rfl, w_381⟩, w_4⟩
theorem T_isPeak_q : Kq T_isPeak := ⟨by decide +kernel, ⟨by decide, by decide⟩, by decide, Or.inl ⟨rfl, w_391⟩, w_4⟩
theorem O_count_q : Kq O_count := ⟨by decide +kernel, ⟨by decide, by decide⟩, by decide, Or.inl ⟨rfl, w_414⟩, w_1⟩
theorem O_checkTree_q : Kq O_checkTree := ⟨by decide +kernel, ⟨by decide, by decide⟩, by decide, Or.inl ⟨rfl, w_418⟩, w_1⟩
theorem O_checkNode_q : Kq O_checkNode := ⟨by decide +kernel, ⟨by decide, by decide⟩, by decide, Or.inl ⟨rfl, w_423⟩, w_1⟩
theorem O_shown_q : Kq O_shown := ⟨by decide +kernel, ⟨by decide, by decide⟩, by decide, Or.inl ⟨rfl, w_426⟩, w_1⟩
theorem O_node_q : Kq O_node := ⟨by decide +kernel, ⟨by decide, by decide⟩, by decide, Or.inl ⟨rfl, w_434⟩, w_1⟩
theorem O_path_q : Kq O_path := ⟨by decide +kernel, ⟨by decide, by decide⟩, by decide, Or.inl ⟨rfl, w_442⟩, w_1⟩
theorem T_stepTo_q : Kq T_stepTo := ⟨by decide +kernel, ⟨by decide, by decide⟩, by decide, Or.inl ⟨rfl, w_446⟩, w_4⟩
theorem O_bound_q : Kq O_bound := ⟨by decide +kernel, ⟨by decide, by decide⟩, by decide, Or.inl ⟨rfl, w_453⟩, w_1⟩
theorem T_greatest_q : Kq T_greatest := ⟨by decide +kernel, ⟨by decide, by decide⟩, by decide, Or.inl ⟨rfl, w_457⟩, w_4⟩
theorem O_tops_q : Kq O_tops := ⟨by decide +kernel, ⟨by decide, by decide⟩, by decide, Or.inl ⟨rfl, w_465⟩, w_1⟩
theorem O_top_q : Kq O_top := ⟨by decide +kernel, ⟨by decide, by decide⟩, by decide, Or.inl ⟨rfl, w_472⟩, w_1⟩
theorem O_covered_q : Kq O_covered := ⟨by decide +kernel, ⟨by decide, by decide⟩, by decide, Or.inl ⟨rfl, w_479⟩, w_1⟩
theorem T_reachesAbove_q : Kq T_reachesAbove := ⟨by decide +kernel, ⟨by decide, by decide⟩, by decide, Or.inl ⟨rfl, w_483⟩, w_4⟩
theorem O_lives_q : Kq O_lives := ⟨by decide +kernel, ⟨by decide, by decide⟩, by decide, Or.inl ⟨rfl, w_490⟩, w_1⟩
theorem T_everEnables_q : Kq T_everEnables := ⟨by decide +kernel, ⟨by decide, by decide⟩, by decide, Or.inl ⟨rfl, w_494⟩, w_4⟩
theorem O_dead_q : Kq O_dead := ⟨by decide +kernel, ⟨by decide, by decide⟩, by decide, Or.inl ⟨rfl, w_502⟩, w_1⟩
theorem T_firstStuck_q : Kq T_firstStuck := ⟨by decide +kernel, ⟨by decide, by decide⟩, by decide, Or.inl ⟨rfl, w_506⟩, w_4⟩
theorem N_isStuck_q : Kq N_isStuck := ⟨by decide +kernel, ⟨by decide, by decide⟩, by decide, Or.inl ⟨rfl, w_510⟩, w_2⟩
theorem O_back_q : Kq O_back := ⟨by decide +kernel, ⟨by decide, by decide⟩, by decide, Or.inl ⟨rfl, w_518⟩, w_1⟩
theorem G_gather_q : Kq G_gather := ⟨by decide +kernel, ⟨by decide, by decide⟩, by decide, Or.inl ⟨rfl, w_522⟩, w_5⟩
theorem G_keptCount_q : Kq G_keptCount := ⟨by decide +kernel, ⟨by decide, by decide⟩, by decide, Or.inl ⟨rfl, w_550⟩, w_5⟩
theorem G_plant_q : Kq G_plant := ⟨by decide +kernel, ⟨by decide, by decide⟩, by decide, Or.inl ⟨rfl, w_526⟩, w_5⟩
theorem G_goBack_q : Kq G_goBack := ⟨by decide +kernel, ⟨by decide, by decide⟩, by decide, Or.inl ⟨rfl, w_531⟩, w_5⟩
theorem N_moveBack_q : Kq N_moveBack := ⟨by decide +kernel, ⟨by decide, by decide⟩, by decide, Or.inl ⟨rfl, w_535⟩, w_2⟩
theorem G_isKnown_q : Kq G_isKnown := ⟨by decide +kernel, ⟨by decide, by decide⟩, by decide, Or.inl ⟨rfl, w_540⟩, w_5⟩
theorem G_addCandidate_q : Kq G_addCandidate := ⟨by decide +kernel, ⟨by decide, by decide⟩, by decide, Or.inl ⟨rfl, w_545⟩, w_5⟩
theorem O_goal_q : Kq O_goal := ⟨by decide +kernel, ⟨by decide, by decide⟩, by decide, Or.inl ⟨rfl, w_557⟩, w_1⟩
theorem O_checkGoals_q : Kq O_checkGoals := ⟨by decide +kernel, ⟨by decide, by decide⟩, by decide, Or.inl ⟨rfl, w_561⟩, w_1⟩
theorem G_kept_q : Kq G_kept := ⟨by decide +kernel, ⟨by decide, by decide⟩, by decide, Or.inl ⟨rfl, w_566⟩, w_5⟩
theorem O_length_q : Kq O_length := ⟨by decide +kernel, ⟨by decide, by decide⟩, by decide, Or.inl ⟨rfl, w_575⟩, w_1⟩
theorem O_goalBelowStart_q : Kq O_goalBelowStart := ⟨by decide +kernel, ⟨by decide, by decide⟩, by decide, Or.inl ⟨rfl, w_579⟩, w_1⟩
theorem G_firstBelow_q : Kq G_firstBelow := ⟨by decide +kernel, ⟨by decide, by decide⟩, by decide, Or.inl ⟨rfl, w_583⟩, w_5⟩
theorem O_way_q : Kq O_way := ⟨by decide +kernel, ⟨by decide, by decide⟩, by decide, Or.inl ⟨rfl, w_606⟩, w_1⟩
theorem G_stepFrom_q : Kq G_stepFrom := ⟨by decide +kernel, ⟨by decide, by decide⟩, by decide, Or.inl ⟨rfl, w_610⟩, w_5⟩
theorem M_isTransition_q : Kq M_isTransition := ⟨by decide +kernel, ⟨by decide, by decide⟩, by decide, Or.inl ⟨rfl, w_692⟩, w_6⟩
theorem M_isPlace_q : Kq M_isPlace := ⟨by decide +kernel, ⟨by decide, by decide⟩, by decide, Or.inl ⟨rfl, w_696⟩, w_6⟩
theorem M_changed_q : Kq M_changed := ⟨by decide +kernel, ⟨by decide, by decide⟩, by decide, Or.inl ⟨rfl, w_700⟩, w_6⟩
theorem M_begin_q : Kq M_begin := ⟨by decide +kernel, ⟨by decide, by decide⟩, by decide, Or.inl ⟨rfl, w_708⟩, w_6⟩
theorem M_isLeaf_q : Kq M_isLeaf := ⟨by decide +kernel, ⟨by decide, by decide⟩, by decide, Or.inl ⟨rfl, w_732⟩, w_6⟩
theorem M_isEnabled_q : Kq M_isEnabled := ⟨by decide +kernel, ⟨by decide, by decide⟩, by decide, Or.inl ⟨rfl, w_744⟩, w_6⟩
theorem M_grow_q : Kq M_grow := ⟨by decide +kernel, ⟨by decide, by decide⟩, by decide, Or.inl ⟨rfl, w_748⟩, w_6⟩
theorem M_isSame_q : Kq M_isSame := ⟨by decide +kernel, ⟨by decide, by decide⟩, by decide, Or.inl ⟨rfl, w_736⟩, w_6⟩
theorem M_isBelow_q : Kq M_isBelow := ⟨by decide +kernel, ⟨by decide, by decide⟩, by decide, Or.inl ⟨rfl, w_740⟩, w_6⟩
theorem M_raise_q : Kq M_raise := ⟨by decide +kernel, ⟨by decide, by decide⟩, by decide, Or.inl ⟨rfl, w_753⟩, w_6⟩
theorem M_isNode_q : Kq M_isNode := ⟨by decide +kernel, ⟨by decide, by decide⟩, by decide, Or.inl ⟨rfl, w_761⟩, w_6⟩
theorem M_told_q : Kq M_told := ⟨by decide +kernel, ⟨by decide, by decide⟩, by decide, Or.inl ⟨rfl, w_764⟩, w_6⟩
theorem M_depth_q : Kq M_depth := ⟨by decide +kernel, ⟨by decide, by decide⟩, by decide, Or.inl ⟨rfl, w_776⟩, w_6⟩
theorem M_isTop_q : Kq M_isTop := ⟨by decide +kernel, ⟨by decide, by decide⟩, by decide, Or.inl ⟨rfl, w_788⟩, w_6⟩
theorem M_topAt_q : Kq M_topAt := ⟨by decide +kernel, ⟨by decide, by decide⟩, by decide, Or.inl ⟨rfl, w_796⟩, w_6⟩
theorem M_makeGoal_q : Kq M_makeGoal := ⟨by decide +kernel, ⟨by decide, by decide⟩, by decide, Or.inl ⟨rfl, w_816⟩, w_6⟩
theorem M_isGoalBelow_q : Kq M_isGoalBelow := ⟨by decide +kernel, ⟨by decide, by decide⟩, by decide, Or.inl ⟨rfl, w_820⟩, w_6⟩
theorem M_firstGoal_q : Kq M_firstGoal := ⟨by decide +kernel, ⟨by decide, by decide⟩, by decide, Or.inl ⟨rfl, w_832⟩, w_6⟩
theorem L_cell_q : Kq L_cell := ⟨by decide +kernel, ⟨by decide, by decide⟩, by decide, Or.inl ⟨rfl, w_186⟩, w_0⟩
theorem O_init_q : Kq O_init := ⟨by decide +kernel, ⟨by decide, by decide⟩, by decide, Or.inl ⟨rfl, w_19⟩, w_1⟩
theorem M_init_q : Kq M_init := ⟨by decide +kernel, ⟨by decide, by decide⟩, by decide, Or.inl ⟨rfl, w_615⟩, w_6⟩
theorem L_arc_q : Kq L_arc := ⟨by decide +kernel, ⟨by decide, by decide⟩, by decide, Or.inr w_189, w_0⟩
theorem M_arc_q : Kq M_arc := ⟨by decide +kernel, ⟨by decide, by decide⟩, by decide, Or.inl ⟨rfl, w_688⟩, w_6⟩
theorem M_thrown_q : Kq M_thrown := ⟨by decide +kernel, ⟨by decide, by decide⟩, by decide, Or.inl ⟨rfl, w_684⟩, w_6⟩
theorem L_start_q : Kq L_start := ⟨by decide +kernel, ⟨by decide, by decide⟩, by decide, Or.inr w_301, w_0⟩
theorem M_start_q : Kq M_start := ⟨by decide +kernel, ⟨by decide, by decide⟩, by decide, Or.inl ⟨rfl, w_704⟩, w_6⟩
theorem L_want_q : Kq L_want := ⟨by decide +kernel, ⟨by decide, by decide⟩, by decide, Or.inr w_308, w_0⟩
theorem M_want_q : Kq M_want := ⟨by decide +kernel, ⟨by decide, by decide⟩, by decide, Or.inl ⟨rfl, w_712⟩, w_6⟩
theorem L_fire_q : Kq L_fire := ⟨by decide +kernel, ⟨by decide, by decide⟩, by decide, Or.inr w_315, w_0⟩
theorem M_fire_q : Kq M_fire := ⟨by decide +kernel, ⟨by decide, by decide⟩, by decide, Or.inl ⟨rfl, w_716⟩, w_6⟩
theorem L_at_q : Kq L_at := ⟨by decide +kernel, ⟨by decide, by decide⟩, by decide, Or.inr w_334, w_0⟩
theorem M_at_q : Kq M_at := ⟨by decide +kernel, ⟨by decide, by decide⟩, by decide, Or.inl ⟨rfl, w_720⟩, w_6⟩
theorem O_reset_q : Kq O_reset := ⟨by decide +kernel, ⟨by decide, by decide⟩, by decide, Or.inl ⟨rfl, w_176⟩, w_1⟩
theorem M_reset_q : Kq M_reset := ⟨by decide +kernel, ⟨by decide, by decide⟩, by decide, Or.inl ⟨rfl, w_724⟩, w_6⟩
theorem L_explore_q : Kq L_explore := ⟨by decide +kernel, ⟨by decide, by decide⟩, by decide, Or.inr w_341, w_0⟩
theorem M_explore_q : Kq M_explore := ⟨by decide +kernel, ⟨by decide, by decide⟩, by decide, Or.inl ⟨rfl, w_728⟩, w_6⟩
theorem L_count_q : Kq L_count := ⟨by decide +kernel, ⟨by decide, by decide⟩, by decide, Or.inr w_410, w_0⟩
theorem M_count_q : Kq M_count := ⟨by decide +kernel, ⟨by decide, by decide⟩, by decide, Or.inl ⟨rfl, w_757⟩, w_6⟩
theorem L_node_q : Kq L_node := ⟨by decide +kernel, ⟨by decide, by decide⟩, by decide, Or.inr w_430, w_0⟩
theorem M_node_q : Kq M_node := ⟨by decide +kernel, ⟨by decide, by decide⟩, by decide, Or.inl ⟨rfl, w_768⟩, w_6⟩
theorem L_path_q : Kq L_path := ⟨by decide +kernel, ⟨by decide, by decide⟩, by decide, Or.inr w_438, w_0⟩
theorem M_path_q : Kq M_path := ⟨by decide +kernel, ⟨by decide, by decide⟩, by decide, Or.inl ⟨rfl, w_772⟩, w_6⟩
theorem L_bound_q : Kq L_bound := ⟨by decide +kernel, ⟨by decide, by decide⟩, by decide, Or.inr w_449, w_0⟩
theorem M_bound_q : Kq M_bound := ⟨by decide +kernel, ⟨by decide, by decide⟩, by decide, Or.inl ⟨rfl, w_780⟩, w_6⟩
theorem L_tops_q : Kq L_tops := ⟨by decide +kernel, ⟨by decide, by decide⟩, by decide, Or.inr w_461, w_0⟩
theorem M_tops_q : Kq M_tops := ⟨by decide +kernel, ⟨by decide, by decide⟩, by decide, Or.inl ⟨rfl, w_784⟩, w_6⟩
theorem L_top_q : Kq L_top := ⟨by decide +kernel, ⟨by decide, by decide⟩, by decide, Or.inr w_468, w_0⟩
theorem M_top_q : Kq M_top := ⟨by decide +kernel, ⟨by decide, by decide⟩, by decide, Or.inl ⟨rfl, w_792⟩, w_6⟩
theorem L_covered_q : Kq L_covered := ⟨by decide +kernel, ⟨by decide, by decide⟩, by decide, Or.inr w_475, w_0⟩
theorem M_covered_q : Kq M_covered := ⟨by decide +kernel, ⟨by decide, by decide⟩, by decide, Or.inl ⟨rfl, w_800⟩, w_6⟩
theorem L_lives_q : Kq L_lives := ⟨by decide +kernel, ⟨by decide, by decide⟩, by decide, Or.inr w_486, w_0⟩
theorem M_lives_q : Kq M_lives := ⟨by decide +kernel, ⟨by decide, by decide⟩, by decide, Or.inl ⟨rfl, w_804⟩, w_6⟩
theorem L_dead_q : Kq L_dead := ⟨by decide +kernel, ⟨by decide, by decide⟩, by decide, Or.inr w_498, w_0⟩
theorem M_dead_q : Kq M_dead := ⟨by decide +kernel, ⟨by decide, by decide⟩, by decide, Or.inl ⟨rfl, w_808⟩, w_6⟩
theorem L_back_q : Kq L_back := ⟨by decide +kernel, ⟨by decide, by decide⟩, by decide, Or.inr w_514, w_0⟩
theorem M_back_q : Kq M_back := ⟨by decide +kernel, ⟨by decide, by decide⟩, by decide, Or.inl ⟨rfl, w_812⟩, w_6⟩
theorem L_goal_q : Kq L_goal := ⟨by decide +kernel, ⟨by decide, by decide⟩, by decide, Or.inr w_553, w_0⟩
theorem M_goal_q : Kq M_goal := ⟨by decide +kernel, ⟨by decide, by decide⟩, by decide, Or.inl ⟨rfl, w_824⟩, w_6⟩
theorem L_length_q : Kq L_length := ⟨by decide +kernel, ⟨by decide, by decide⟩, by decide, Or.inr w_570, w_0⟩
theorem M_length_q : Kq M_length := ⟨by decide +kernel, ⟨by decide, by decide⟩, by decide, Or.inl ⟨rfl, w_828⟩, w_6⟩
theorem L_way_q : Kq L_way := ⟨by decide +kernel, ⟨by decide, by decide⟩, by decide, Or.inr w_602, w_0⟩
theorem M_way_q : Kq M_way := ⟨by decide +kernel, ⟨by decide, by decide⟩, by decide, Or.inl ⟨rfl, w_836⟩, w_6⟩
