theorem L_cell_0 : Ki L_cell 0 1 1 := Or.inr ⟨1, by decide +kernel, rfl, rfl⟩
theorem L_cell_1 : Ka L_cell 1 0 2 := Or.inr ⟨0, by decide +kernel, rfl, rfl⟩
theorem L_cell_2 : K1 L_cell 2 .arraylength 3 := ⟨by decide +kernel, rfl⟩
theorem L_cell_3 : Kj L_cell 3 (.if_icmp .ge) 12 6 := ⟨9, by decide +kernel, by decide, rfl⟩
theorem L_cell_6 : Ka L_cell 6 0 7 := Or.inr ⟨0, by decide +kernel, rfl, rfl⟩
theorem L_cell_7 : Ki L_cell 7 1 8 := Or.inr ⟨1, by decide +kernel, rfl, rfl⟩
theorem L_cell_8 : K1 L_cell 8 .iaload 9 := ⟨by decide +kernel, rfl⟩
theorem L_cell_9 : Kj L_cell 9 .goto 13 12 := ⟨4, by decide +kernel, by decide, rfl⟩
theorem L_cell_12 : Kc L_cell 12 0 13 := ⟨by decide, Or.inl ⟨by decide +kernel, rfl⟩⟩
theorem L_cell_13 : K1 L_cell 13 .ireturn 14 := ⟨by decide +kernel, rfl⟩
theorem L_arc_0 : Ka L_arc 0 5 2 := Or.inl ⟨by decide +kernel, rfl⟩
theorem L_arc_2 : Kc L_arc 2 0 3 := ⟨by decide, Or.inl ⟨by decide +kernel, rfl⟩⟩
theorem L_arc_3 : Ka L_arc 3 0 4 := Or.inr ⟨0, by decide +kernel, rfl, rfl⟩
theorem L_arc_4 : Ki L_arc 4 1 5 := Or.inr ⟨1, by decide +kernel, rfl, rfl⟩
theorem L_arc_5 : Ki L_arc 5 2 6 := Or.inr ⟨2, by decide +kernel, rfl, rfl⟩
theorem L_arc_6 : Ki L_arc 6 3 7 := Or.inr ⟨3, by decide +kernel, rfl, rfl⟩
theorem L_arc_7 : Ki L_arc 7 4 9 := Or.inl ⟨by decide +kernel, rfl⟩
theorem L_arc_9 : KV L_arc 9 O_arc 3 4 12 := ⟨O_arc_q, by decide, w_193, w_194, rfl, by decide +kernel, ⟨(RX3, TX3, 6), rfl, rfl⟩, 7, by decide +kernel, w_192⟩
theorem L_arc_12 : K1 L_arc 12 .i2l 13 := ⟨by decide +kernel, rfl⟩
theorem L_arc_13 : K1 L_arc 13 .lastore 14 := ⟨by decide +kernel, rfl⟩
theorem L_arc_14 : Kj L_arc 14 .goto 25 17 := ⟨11, by decide +kernel, by decide, rfl⟩
theorem L_arc_17 : Kt L_arc 17 6 19 := ⟨by decide, Or.inl ⟨by decide +kernel, rfl⟩⟩
theorem L_arc_19 : Kc L_arc 19 1 20 := ⟨by decide, Or.inl ⟨by decide +kernel, rfl⟩⟩
theorem L_arc_20 : K1 L_arc 20 .ireturn 21 := ⟨by decide +kernel, rfl⟩
theorem L_arc_21 : Kt L_arc 21 6 23 := ⟨by decide, Or.inl ⟨by decide +kernel, rfl⟩⟩
theorem L_arc_23 : Kc L_arc 23 2 24 := ⟨by decide, Or.inl ⟨by decide +kernel, rfl⟩⟩
theorem L_arc_24 : K1 L_arc 24 .ireturn 25 := ⟨by decide +kernel, rfl⟩
theorem L_arc_25 : Kc L_arc 25 0 26 := ⟨by decide, Or.inl ⟨by decide +kernel, rfl⟩⟩
theorem L_arc_26 : K1 L_arc 26 .ireturn 27 := ⟨by decide +kernel, rfl⟩
theorem L_arc_h0 : Kh L_arc 9 "java/lang/IndexOutOfBoundsException" 6 19 := ⟨[], [(0, 14, 21, 15)], (0, 14, 17, 13), rfl, (fun z hz => nomatch hz), by decide, by decide, by decide, w_190, w_205, ⟨by decide, Or.inl ⟨by decide +kernel, rfl⟩⟩⟩
theorem L_arc_h1 : Kh L_arc 9 "java/lang/IllegalArgumentException" 6 23 := ⟨[(0, 14, 17, 13)], [], (0, 14, 21, 15), rfl, (List.forall_mem_cons.mpr ⟨⟨by decide, "java/lang/IndexOutOfBoundsException", w_190, by decide +kernel⟩, fun z hz => nomatch hz⟩), by decide, by decide, by decide, w_191, w_281, ⟨by decide, Or.inl ⟨by decide +kernel, rfl⟩⟩⟩
theorem L_start_0 : Ka L_start 0 3 1 := Or.inr ⟨3, by decide +kernel, rfl, rfl⟩
theorem L_start_1 : Kc L_start 1 0 2 := ⟨by decide, Or.inl ⟨by decide +kernel, rfl⟩⟩
theorem L_start_2 : Ka L_start 2 0 3 := Or.inr ⟨0, by decide +kernel, rfl, rfl⟩
theorem L_start_3 : Ki L_start 3 1 4 := Or.inr ⟨1, by decide +kernel, rfl, rfl⟩
theorem L_start_4 : Ki L_start 4 2 5 := Or.inr ⟨2, by decide +kernel, rfl, rfl⟩
theorem L_start_5 : KV L_start 5 O_start 3 2 8 := ⟨O_start_q, by decide, w_303, w_304, rfl, by decide +kernel, ⟨(RX3, TX3, 6), rfl, rfl⟩, 17, by decide +kernel, w_302⟩
theorem L_start_8 : K1 L_start 8 .i2l 9 := ⟨by decide +kernel, rfl⟩
theorem L_start_9 : K1 L_start 9 .lastore 10 := ⟨by decide +kernel, rfl⟩
theorem L_start_10 : Kj L_start 10 .goto 21 13 := ⟨11, by decide +kernel, by decide, rfl⟩
theorem L_start_13 : Kt L_start 13 4 15 := ⟨by decide, Or.inl ⟨by decide +kernel, rfl⟩⟩
theorem L_start_15 : Kc L_start 15 1 16 := ⟨by decide, Or.inl ⟨by decide +kernel, rfl⟩⟩
theorem L_start_16 : K1 L_start 16 .ireturn 17 := ⟨by decide +kernel, rfl⟩
theorem L_start_17 : Kt L_start 17 4 19 := ⟨by decide, Or.inl ⟨by decide +kernel, rfl⟩⟩
theorem L_start_19 : Kc L_start 19 2 20 := ⟨by decide, Or.inl ⟨by decide +kernel, rfl⟩⟩
theorem L_start_20 : K1 L_start 20 .ireturn 21 := ⟨by decide +kernel, rfl⟩
theorem L_start_21 : Kc L_start 21 0 22 := ⟨by decide, Or.inl ⟨by decide +kernel, rfl⟩⟩
theorem L_start_22 : K1 L_start 22 .ireturn 23 := ⟨by decide +kernel, rfl⟩
theorem L_start_h0 : Kh L_start 5 "java/lang/IndexOutOfBoundsException" 4 15 := ⟨[], [(0, 10, 17, 15)], (0, 10, 13, 13), rfl, (fun z hz => nomatch hz), by decide, by decide, by decide, w_190, w_205, ⟨by decide, Or.inl ⟨by decide +kernel, rfl⟩⟩⟩
theorem L_start_h1 : Kh L_start 5 "java/lang/IllegalArgumentException" 4 19 := ⟨[(0, 10, 13, 13)], [], (0, 10, 17, 15), rfl, (List.forall_mem_cons.mpr ⟨⟨by decide, "java/lang/IndexOutOfBoundsException", w_190, by decide +kernel⟩, fun z hz => nomatch hz⟩), by decide, by decide, by decide, w_191, w_281, ⟨by decide, Or.inl ⟨by decide +kernel, rfl⟩⟩⟩
theorem L_want_0 : Ka L_want 0 3 1 := Or.inr ⟨3, by decide +kernel, rfl, rfl⟩
theorem L_want_1 : Kc L_want 1 0 2 := ⟨by decide, Or.inl ⟨by decide +kernel, rfl⟩⟩
theorem L_want_2 : Ka L_want 2 0 3 := Or.inr ⟨0, by decide +kernel, rfl, rfl⟩
theorem L_want_3 : Ki L_want 3 1 4 := Or.inr ⟨1, by decide +kernel, rfl, rfl⟩
theorem L_want_4 : Ki L_want 4 2 5 := Or.inr ⟨2, by decide +kernel, rfl, rfl⟩
theorem L_want_5 : KV L_want 5 O_want 3 2 8 := ⟨O_want_q, by decide, w_310, w_311, rfl, by decide +kernel, ⟨(RX3, TX3, 6), rfl, rfl⟩, 21, by decide +kernel, w_309⟩
theorem L_want_8 : K1 L_want 8 .i2l 9 := ⟨by decide +kernel, rfl⟩
theorem L_want_9 : K1 L_want 9 .lastore 10 := ⟨by decide +kernel, rfl⟩
theorem L_want_10 : Kj L_want 10 .goto 21 13 := ⟨11, by decide +kernel, by decide, rfl⟩
theorem L_want_13 : Kt L_want 13 4 15 := ⟨by decide, Or.inl ⟨by decide +kernel, rfl⟩⟩
theorem L_want_15 : Kc L_want 15 1 16 := ⟨by decide, Or.inl ⟨by decide +kernel, rfl⟩⟩
theorem L_want_16 : K1 L_want 16 .ireturn 17 := ⟨by decide +kernel, rfl⟩
theorem L_want_17 : Kt L_want 17 4 19 := ⟨by decide, Or.inl ⟨by decide +kernel, rfl⟩⟩
theorem L_want_19 : Kc L_want 19 2 20 := ⟨by decide, Or.inl ⟨by decide +kernel, rfl⟩⟩
theorem L_want_20 : K1 L_want 20 .ireturn 21 := ⟨by decide +kernel, rfl⟩
theorem L_want_21 : Kc L_want 21 0 22 := ⟨by decide, Or.inl ⟨by decide +kernel, rfl⟩⟩
theorem L_want_22 : K1 L_want 22 .ireturn 23 := ⟨by decide +kernel, rfl⟩
theorem L_want_h0 : Kh L_want 5 "java/lang/IndexOutOfBoundsException" 4 15 := ⟨[], [(0, 10, 17, 15)], (0, 10, 13, 13), rfl, (fun z hz => nomatch hz), by decide, by decide, by decide, w_190, w_205, ⟨by decide, Or.inl ⟨by decide +kernel, rfl⟩⟩⟩
theorem L_want_h1 : Kh L_want 5 "java/lang/IllegalArgumentException" 4 19 := ⟨[(0, 10, 13, 13)], [], (0, 10, 17, 15), rfl, (List.forall_mem_cons.mpr ⟨⟨by decide, "java/lang/IndexOutOfBoundsException", w_190, by decide +kernel⟩, fun z hz => nomatch hz⟩), by decide, by decide, by decide, w_191, w_281, ⟨by decide, Or.inl ⟨by decide +kernel, rfl⟩⟩⟩
theorem L_fire_0 : Ka L_fire 0 2 1 := Or.inr ⟨2, by decide +kernel, rfl, rfl⟩
theorem L_fire_1 : Kc L_fire 1 0 2 := ⟨by decide, Or.inl ⟨by decide +kernel, rfl⟩⟩
theorem L_fire_2 : Ka L_fire 2 0 3 := Or.inr ⟨0, by decide +kernel, rfl, rfl⟩
theorem L_fire_3 : Ki L_fire 3 1 4 := Or.inr ⟨1, by decide +kernel, rfl, rfl⟩
theorem L_fire_4 : KV L_fire 4 O_fire 3 1 7 := ⟨O_fire_q, by decide, w_317, w_318, rfl, by decide +kernel, ⟨(RX3, TX3, 6), rfl, rfl⟩, 24, by decide +kernel, w_316⟩
theorem L_fire_7 : Kj L_fire 7 (.ifCond .eq) 14 10 := ⟨7, by decide +kernel, by decide, rfl⟩
theorem L_fire_10 : ∃ f : Fin 2, K1 L_fire 10 (.lconst f) 11 ∧ (f : Nat) = 1 := ⟨1, ⟨by decide +kernel, rfl⟩, rfl⟩
theorem L_fire_11 : Kj L_fire 11 .goto 15 14 := ⟨4, by decide +kernel, by decide, rfl⟩
theorem L_fire_14 : ∃ f : Fin 2, K1 L_fire 14 (.lconst f) 15 ∧ (f : Nat) = 0 := ⟨0, ⟨by decide +kernel, rfl⟩, rfl⟩
theorem L_fire_15 : K1 L_fire 15 .lastore 16 := ⟨by decide +kernel, rfl⟩
theorem L_fire_16 : Kj L_fire 16 .goto 22 19 := ⟨6, by decide +kernel, by decide, rfl⟩
theorem L_fire_19 : Kt L_fire 19 3 20 := ⟨by decide, Or.inr ⟨3, by decide +kernel, rfl, rfl⟩⟩
theorem L_fire_20 : Kc L_fire 20 1 21 := ⟨by decide, Or.inl ⟨by decide +kernel, rfl⟩⟩
theorem L_fire_21 : K1 L_fire 21 .ireturn 22 := ⟨by decide +kernel, rfl⟩
theorem L_fire_22 : Kc L_fire 22 0 23 := ⟨by decide, Or.inl ⟨by decide +kernel, rfl⟩⟩
theorem L_fire_23 : K1 L_fire 23 .ireturn 24 := ⟨by decide +kernel, rfl⟩
theorem L_fire_h0 : Kh L_fire 4 "java/lang/IndexOutOfBoundsException" 3 20 := ⟨[], [], (0, 16, 19, 13), rfl, (fun z hz => nomatch hz), by decide, by decide, by decide, w_190, w_205, ⟨by decide, Or.inr ⟨3, by decide +kernel, rfl, rfl⟩⟩⟩
theorem L_at_0 : Ka L_at 0 2 1 := Or.inr ⟨2, by decide +kernel, rfl, rfl⟩
theorem L_at_1 : Kc L_at 1 0 2 := ⟨by decide, Or.inl ⟨by decide +kernel, rfl⟩⟩
theorem L_at_2 : Ka L_at 2 0 3 := Or.inr ⟨0, by decide +kernel, rfl, rfl⟩
theorem L_at_3 : Ki L_at 3 1 4 := Or.inr ⟨1, by decide +kernel, rfl, rfl⟩
theorem L_at_4 : KV L_at 4 O_at 3 1 7 := ⟨O_at_q, by decide, w_336, w_337, rfl, by decide +kernel, ⟨(RX3, TX3, 6), rfl, rfl⟩, 28, by decide +kernel, w_335⟩
theorem L_at_7 : K1 L_at 7 .i2l 8 := ⟨by decide +kernel, rfl⟩
theorem L_at_8 : K1 L_at 8 .lastore 9 := ⟨by decide +kernel, rfl⟩
theorem L_at_9 : Kj L_at 9 .goto 15 12 := ⟨6, by decide +kernel, by decide, rfl⟩
theorem L_at_12 : Kt L_at 12 3 13 := ⟨by decide, Or.inr ⟨3, by decide +kernel, rfl, rfl⟩⟩
theorem L_at_13 : Kc L_at 13 1 14 := ⟨by decide, Or.inl ⟨by decide +kernel, rfl⟩⟩
theorem L_at_14 : K1 L_at 14 .ireturn 15 := ⟨by decide +kernel, rfl⟩
theorem L_at_15 : Kc L_at 15 0 16 := ⟨by decide, Or.inl ⟨by decide +kernel, rfl⟩⟩
theorem L_at_16 : K1 L_at 16 .ireturn 17 := ⟨by decide +kernel, rfl⟩
theorem L_at_h0 : Kh L_at 4 "java/lang/IndexOutOfBoundsException" 3 13 := ⟨[], [], (0, 9, 12, 13), rfl, (fun z hz => nomatch hz), by decide, by decide, by decide, w_190, w_205, ⟨by decide, Or.inr ⟨3, by decide +kernel, rfl, rfl⟩⟩⟩
theorem L_explore_0 : Ka L_explore 0 1 1 := Or.inr ⟨1, by decide +kernel, rfl, rfl⟩
theorem L_explore_1 : Kc L_explore 1 0 2 := ⟨by decide, Or.inl ⟨by decide +kernel, rfl⟩⟩
theorem L_explore_2 : Ka L_explore 2 0 3 := Or.inr ⟨0, by decide +kernel, rfl, rfl⟩
theorem L_explore_3 : KV L_explore 3 O_explore 3 0 6 := ⟨O_explore_q, by decide, w_344, w_345, rfl, by decide +kernel, ⟨(RX3, TX3, 6), rfl, rfl⟩, 32, by decide +kernel, w_343⟩
theorem L_explore_6 : K1 L_explore 6 .i2l 7 := ⟨by decide +kernel, rfl⟩
theorem L_explore_7 : K1 L_explore 7 .lastore 8 := ⟨by decide +kernel, rfl⟩
theorem L_explore_8 : Kj L_explore 8 .goto 14 11 := ⟨6, by decide +kernel, by decide, rfl⟩
theorem L_explore_11 : Kt L_explore 11 2 12 := ⟨by decide, Or.inr ⟨2, by decide +kernel, rfl, rfl⟩⟩
theorem L_explore_12 : Kc L_explore 12 1 13 := ⟨by decide, Or.inl ⟨by decide +kernel, rfl⟩⟩
theorem L_explore_13 : K1 L_explore 13 .ireturn 14 := ⟨by decide +kernel, rfl⟩
theorem L_explore_14 : Kc L_explore 14 0 15 := ⟨by decide, Or.inl ⟨by decide +kernel, rfl⟩⟩
theorem L_explore_15 : K1 L_explore 15 .ireturn 16 := ⟨by decide +kernel, rfl⟩
theorem L_explore_h0 : Kh L_explore 3 "java/lang/IllegalStateException" 2 12 := ⟨[], [], (0, 8, 11, 36), rfl, (fun z hz => nomatch hz), by decide, by decide, by decide, w_342, w_394, ⟨by decide, Or.inr ⟨2, by decide +kernel, rfl, rfl⟩⟩⟩
theorem L_count_0 : Ka L_count 0 3 1 := Or.inr ⟨3, by decide +kernel, rfl, rfl⟩
theorem L_count_1 : Kc L_count 1 0 2 := ⟨by decide, Or.inl ⟨by decide +kernel, rfl⟩⟩
theorem L_count_2 : Ka L_count 2 0 3 := Or.inr ⟨0, by decide +kernel, rfl, rfl⟩
theorem L_count_3 : Ki L_count 3 1 4 := Or.inr ⟨1, by decide +kernel, rfl, rfl⟩
theorem L_count_4 : Ki L_count 4 2 5 := Or.inr ⟨2, by decide +kernel, rfl, rfl⟩
theorem L_count_5 : KV L_count 5 O_count 3 2 8 := ⟨O_count_q, by decide, w_412, w_413, rfl, by decide +kernel, ⟨(RX3, TX3, 6), rfl, rfl⟩, 38, by decide +kernel, w_411⟩
theorem L_count_8 : K1 L_count 8 .i2l 9 := ⟨by decide +kernel, rfl⟩
theorem L_count_9 : K1 L_count 9 .lastore 10 := ⟨by decide +kernel, rfl⟩
theorem L_count_10 : Kj L_count 10 .goto 21 13 := ⟨11, by decide +kernel, by decide, rfl⟩
theorem L_count_13 : Kt L_count 13 4 15 := ⟨by decide, Or.inl ⟨by decide +kernel, rfl⟩⟩
theorem L_count_15 : Kc L_count 15 1 16 := ⟨by decide, Or.inl ⟨by decide +kernel, rfl⟩⟩
theorem L_count_16 : K1 L_count 16 .ireturn 17 := ⟨by decide +kernel, rfl⟩
theorem L_count_17 : Kt L_count 17 4 19 := ⟨by decide, Or.inl ⟨by decide +kernel, rfl⟩⟩
theorem L_count_19 : Kc L_count 19 2 20 := ⟨by decide, Or.inl ⟨by decide +kernel, rfl⟩⟩
theorem L_count_20 : K1 L_count 20 .ireturn 21 := ⟨by decide +kernel, rfl⟩
theorem L_count_21 : Kc L_count 21 0 22 := ⟨by decide, Or.inl ⟨by decide +kernel, rfl⟩⟩
theorem L_count_22 : K1 L_count 22 .ireturn 23 := ⟨by decide +kernel, rfl⟩
theorem L_count_h0 : Kh L_count 5 "java/lang/IllegalStateException" 4 15 := ⟨[], [(0, 10, 17, 13)], (0, 10, 13, 36), rfl, (fun z hz => nomatch hz), by decide, by decide, by decide, w_342, w_394, ⟨by decide, Or.inl ⟨by decide +kernel, rfl⟩⟩⟩
theorem L_count_h1 : Kh L_count 5 "java/lang/IndexOutOfBoundsException" 4 19 := ⟨[(0, 10, 13, 36)], [], (0, 10, 17, 13), rfl, (List.forall_mem_cons.mpr ⟨⟨by decide, "java/lang/IllegalStateException", w_342, by decide +kernel⟩, fun z hz => nomatch hz⟩), by decide, by decide, by decide, w_190, w_205, ⟨by decide, Or.inl ⟨by decide +kernel, rfl⟩⟩⟩
theorem L_node_0 : Ka L_node 0 3 1 := Or.inr ⟨3, by decide +kernel, rfl, rfl⟩
theorem L_node_1 : Kc L_node 1 0 2 := ⟨by decide, Or.inl ⟨by decide +kernel, rfl⟩⟩
theorem L_node_2 : Ka L_node 2 0 3 := Or.inr ⟨0, by decide +kernel, rfl, rfl⟩
theorem L_node_3 : Ki L_node 3 1 4 := Or.inr ⟨1, by decide +kernel, rfl, rfl⟩
theorem L_node_4 : Ki L_node 4 2 5 := Or.inr ⟨2, by decide +kernel, rfl, rfl⟩
theorem L_node_5 : KV L_node 5 O_node 3 2 8 := ⟨O_node_q, by decide, w_432, w_433, rfl, by decide +kernel, ⟨(RX3, TX3, 6), rfl, rfl⟩, 41, by decide +kernel, w_431⟩
theorem L_node_8 : K1 L_node 8 .i2l 9 := ⟨by decide +kernel, rfl⟩
theorem L_node_9 : K1 L_node 9 .lastore 10 := ⟨by decide +kernel, rfl⟩
theorem L_node_10 : Kj L_node 10 .goto 25 13 := ⟨15, by decide +kernel, by decide, rfl⟩
theorem L_node_13 : Kt L_node 13 4 15 := ⟨by decide, Or.inl ⟨by decide +kernel, rfl⟩⟩
theorem L_node_15 : Kc L_node 15 1 16 := ⟨by decide, Or.inl ⟨by decide +kernel, rfl⟩⟩
theorem L_node_16 : K1 L_node 16 .ireturn 17 := ⟨by decide +kernel, rfl⟩
theorem L_node_17 : Kt L_node 17 4 19 := ⟨by decide, Or.inl ⟨by decide +kernel, rfl⟩⟩
theorem L_node_19 : Kc L_node 19 2 20 := ⟨by decide, Or.inl ⟨by decide +kernel, rfl⟩⟩
theorem L_node_20 : K1 L_node 20 .ireturn 21 := ⟨by decide +kernel, rfl⟩
theorem L_node_21 : Kt L_node 21 4 23 := ⟨by decide, Or.inl ⟨by decide +kernel, rfl⟩⟩
theorem L_node_23 : Kc L_node 23 3 24 := ⟨by decide, Or.inl ⟨by decide +kernel, rfl⟩⟩
theorem L_node_24 : K1 L_node 24 .ireturn 25 := ⟨by decide +kernel, rfl⟩
theorem L_node_25 : Kc L_node 25 0 26 := ⟨by decide, Or.inl ⟨by decide +kernel, rfl⟩⟩
theorem L_node_26 : K1 L_node 26 .ireturn 27 := ⟨by decide +kernel, rfl⟩
theorem L_node_h0 : Kh L_node 5 "java/lang/IllegalStateException" 4 15 := ⟨[], [(0, 10, 17, 13), (0, 10, 21, 15)], (0, 10, 13, 36), rfl, (fun z hz => nomatch hz), by decide, by decide, by decide, w_342, w_394, ⟨by decide, Or.inl ⟨by decide +kernel, rfl⟩⟩⟩
theorem L_node_h1 : Kh L_node 5 "java/lang/IndexOutOfBoundsException" 4 19 := ⟨[(0, 10, 13, 36)], [(0, 10, 21, 15)], (0, 10, 17, 13), rfl, (List.forall_mem_cons.mpr ⟨⟨by decide, "java/lang/IllegalStateException", w_342, by decide +kernel⟩, fun z hz => nomatch hz⟩), by decide, by decide, by decide, w_190, w_205, ⟨by decide, Or.inl ⟨by decide +kernel, rfl⟩⟩⟩
theorem L_node_h2 : Kh L_node 5 "java/lang/IllegalArgumentException" 4 23 := ⟨[(0, 10, 13, 36), (0, 10, 17, 13)], [], (0, 10, 21, 15), rfl, (List.forall_mem_cons.mpr ⟨⟨by decide, "java/lang/IllegalStateException", w_342, by decide +kernel⟩, List.forall_mem_cons.mpr ⟨⟨by decide, "java/lang/IndexOutOfBoundsException", w_190, by decide +kernel⟩, fun z hz => nomatch hz⟩⟩), by decide, by decide, by decide, w_191, w_281, ⟨by decide, Or.inl ⟨by decide +kernel, rfl⟩⟩⟩
theorem L_path_0 : Ka L_path 0 3 1 := Or.inr ⟨3, by decide +kernel, rfl, rfl⟩
theorem L_path_1 : Kc L_path 1 0 2 := ⟨by decide, Or.inl ⟨by decide +kernel, rfl⟩⟩
theorem L_path_2 : Ka L_path 2 0 3 := Or.inr ⟨0, by decide +kernel, rfl, rfl⟩
theorem L_path_3 : Ki L_path 3 1 4 := Or.inr ⟨1, by decide +kernel, rfl, rfl⟩
theorem L_path_4 : Ki L_path 4 2 5 := Or.inr ⟨2, by decide +kernel, rfl, rfl⟩
theorem L_path_5 : KV L_path 5 O_path 3 2 8 := ⟨O_path_q, by decide, w_440, w_441, rfl, by decide +kernel, ⟨(RX3, TX3, 6), rfl, rfl⟩, 44, by decide +kernel, w_439⟩
theorem L_path_8 : K1 L_path 8 .i2l 9 := ⟨by decide +kernel, rfl⟩
theorem L_path_9 : K1 L_path 9 .lastore 10 := ⟨by decide +kernel, rfl⟩
theorem L_path_10 : Kj L_path 10 .goto 21 13 := ⟨11, by decide +kernel, by decide, rfl⟩
theorem L_path_13 : Kt L_path 13 4 15 := ⟨by decide, Or.inl ⟨by decide +kernel, rfl⟩⟩
theorem L_path_15 : Kc L_path 15 1 16 := ⟨by decide, Or.inl ⟨by decide +kernel, rfl⟩⟩
theorem L_path_16 : K1 L_path 16 .ireturn 17 := ⟨by decide +kernel, rfl⟩
theorem L_path_17 : Kt L_path 17 4 19 := ⟨by decide, Or.inl ⟨by decide +kernel, rfl⟩⟩
theorem L_path_19 : Kc L_path 19 2 20 := ⟨by decide, Or.inl ⟨by decide +kernel, rfl⟩⟩
theorem L_path_20 : K1 L_path 20 .ireturn 21 := ⟨by decide +kernel, rfl⟩
theorem L_path_21 : Kc L_path 21 0 22 := ⟨by decide, Or.inl ⟨by decide +kernel, rfl⟩⟩
theorem L_path_22 : K1 L_path 22 .ireturn 23 := ⟨by decide +kernel, rfl⟩
theorem L_path_h0 : Kh L_path 5 "java/lang/IllegalStateException" 4 15 := ⟨[], [(0, 10, 17, 13)], (0, 10, 13, 36), rfl, (fun z hz => nomatch hz), by decide, by decide, by decide, w_342, w_394, ⟨by decide, Or.inl ⟨by decide +kernel, rfl⟩⟩⟩
theorem L_path_h1 : Kh L_path 5 "java/lang/IndexOutOfBoundsException" 4 19 := ⟨[(0, 10, 13, 36)], [], (0, 10, 17, 13), rfl, (List.forall_mem_cons.mpr ⟨⟨by decide, "java/lang/IllegalStateException", w_342, by decide +kernel⟩, fun z hz => nomatch hz⟩), by decide, by decide, by decide, w_190, w_205, ⟨by decide, Or.inl ⟨by decide +kernel, rfl⟩⟩⟩
theorem L_bound_0 : Ka L_bound 0 2 1 := Or.inr ⟨2, by decide +kernel, rfl, rfl⟩
theorem L_bound_1 : Kc L_bound 1 0 2 := ⟨by decide, Or.inl ⟨by decide +kernel, rfl⟩⟩
theorem L_bound_2 : Ka L_bound 2 0 3 := Or.inr ⟨0, by decide +kernel, rfl, rfl⟩
theorem L_bound_3 : Ki L_bound 3 1 4 := Or.inr ⟨1, by decide +kernel, rfl, rfl⟩
theorem L_bound_4 : KV L_bound 4 O_bound 3 1 7 := ⟨O_bound_q, by decide, w_451, w_452, rfl, by decide +kernel, ⟨(RX3, TX3, 6), rfl, rfl⟩, 47, by decide +kernel, w_450⟩
theorem L_bound_7 : K1 L_bound 7 .i2l 8 := ⟨by decide +kernel, rfl⟩
theorem L_bound_8 : K1 L_bound 8 .lastore 9 := ⟨by decide +kernel, rfl⟩
theorem L_bound_9 : Kj L_bound 9 .goto 18 12 := ⟨9, by decide +kernel, by decide, rfl⟩
theorem L_bound_12 : Kt L_bound 12 3 13 := ⟨by decide, Or.inr ⟨3, by decide +kernel, rfl, rfl⟩⟩
theorem L_bound_13 : Kc L_bound 13 1 14 := ⟨by decide, Or.inl ⟨by decide +kernel, rfl⟩⟩
theorem L_bound_14 : K1 L_bound 14 .ireturn 15 := ⟨by decide +kernel, rfl⟩
theorem L_bound_15 : Kt L_bound 15 3 16 := ⟨by decide, Or.inr ⟨3, by decide +kernel, rfl, rfl⟩⟩
theorem L_bound_16 : Kc L_bound 16 2 17 := ⟨by decide, Or.inl ⟨by decide +kernel, rfl⟩⟩
theorem L_bound_17 : K1 L_bound 17 .ireturn 18 := ⟨by decide +kernel, rfl⟩
theorem L_bound_18 : Kc L_bound 18 0 19 := ⟨by decide, Or.inl ⟨by decide +kernel, rfl⟩⟩
theorem L_bound_19 : K1 L_bound 19 .ireturn 20 := ⟨by decide +kernel, rfl⟩
theorem L_bound_h0 : Kh L_bound 4 "java/lang/IllegalStateException" 3 13 := ⟨[], [(0, 9, 15, 13)], (0, 9, 12, 36), rfl, (fun z hz => nomatch hz), by decide, by decide, by decide, w_342, w_394, ⟨by decide, Or.inr ⟨3, by decide +kernel, rfl, rfl⟩⟩⟩
theorem L_bound_h1 : Kh L_bound 4 "java/lang/IndexOutOfBoundsException" 3 16 := ⟨[(0, 9, 12, 36)], [], (0, 9, 15, 13), rfl, (List.forall_mem_cons.mpr ⟨⟨by decide, "java/lang/IllegalStateException", w_342, by decide +kernel⟩, fun z hz => nomatch hz⟩), by decide, by decide, by decide, w_190, w_205, ⟨by decide, Or.inr ⟨3, by decide +kernel, rfl, rfl⟩⟩⟩
theorem L_tops_0 : Ka L_tops 0 1 1 := Or.inr ⟨1, by decide +kernel, rfl, rfl⟩
theorem L_tops_1 : Kc L_tops 1 0 2 := ⟨by decide, Or.inl ⟨by decide +kernel, rfl⟩⟩
theorem L_tops_2 : Ka L_tops 2 0 3 := Or.inr ⟨0, by decide +kernel, rfl, rfl⟩
theorem L_tops_3 : KV L_tops 3 O_tops 3 0 6 := ⟨O_tops_q, by decide, w_463, w_464, rfl, by decide +kernel, ⟨(RX3, TX3, 6), rfl, rfl⟩, 50, by decide +kernel, w_462⟩
theorem L_tops_6 : K1 L_tops 6 .i2l 7 := ⟨by decide +kernel, rfl⟩
theorem L_tops_7 : K1 L_tops 7 .lastore 8 := ⟨by decide +kernel, rfl⟩
theorem L_tops_8 : Kj L_tops 8 .goto 14 11 := ⟨6, by decide +kernel, by decide, rfl⟩
theorem L_tops_11 : Kt L_tops 11 2 12 := ⟨by decide, Or.inr ⟨2, by decide +kernel, rfl, rfl⟩⟩
theorem L_tops_12 : Kc L_tops 12 1 13 := ⟨by decide, Or.inl ⟨by decide +kernel, rfl⟩⟩
theorem L_tops_13 : K1 L_tops 13 .ireturn 14 := ⟨by decide +kernel, rfl⟩
theorem L_tops_14 : Kc L_tops 14 0 15 := ⟨by decide, Or.inl ⟨by decide +kernel, rfl⟩⟩
theorem L_tops_15 : K1 L_tops 15 .ireturn 16 := ⟨by decide +kernel, rfl⟩
theorem L_tops_h0 : Kh L_tops 3 "java/lang/IllegalStateException" 2 12 := ⟨[], [], (0, 8, 11, 36), rfl, (fun z hz => nomatch hz), by decide, by decide, by decide, w_342, w_394, ⟨by decide, Or.inr ⟨2, by decide +kernel, rfl, rfl⟩⟩⟩
theorem L_top_0 : Ka L_top 0 2 1 := Or.inr ⟨2, by decide +kernel, rfl, rfl⟩
theorem L_top_1 : Kc L_top 1 0 2 := ⟨by decide, Or.inl ⟨by decide +kernel, rfl⟩⟩
theorem L_top_2 : Ka L_top 2 0 3 := Or.inr ⟨0, by decide +kernel, rfl, rfl⟩
theorem L_top_3 : Ki L_top 3 1 4 := Or.inr ⟨1, by decide +kernel, rfl, rfl⟩
theorem L_top_4 : KV L_top 4 O_top 3 1 7 := ⟨O_top_q, by decide, w_470, w_471, rfl, by decide +kernel, ⟨(RX3, TX3, 6), rfl, rfl⟩, 53, by decide +kernel, w_469⟩
theorem L_top_7 : K1 L_top 7 .i2l 8 := ⟨by decide +kernel, rfl⟩
theorem L_top_8 : K1 L_top 8 .lastore 9 := ⟨by decide +kernel, rfl⟩
theorem L_top_9 : Kj L_top 9 .goto 18 12 := ⟨9, by decide +kernel, by decide, rfl⟩
theorem L_top_12 : Kt L_top 12 3 13 := ⟨by decide, Or.inr ⟨3, by decide +kernel, rfl, rfl⟩⟩
theorem L_top_13 : Kc L_top 13 1 14 := ⟨by decide, Or.inl ⟨by decide +kernel, rfl⟩⟩
theorem L_top_14 : K1 L_top 14 .ireturn 15 := ⟨by decide +kernel, rfl⟩
theorem L_top_15 : Kt L_top 15 3 16 := ⟨by decide, Or.inr ⟨3, by decide +kernel, rfl, rfl⟩⟩
theorem L_top_16 : Kc L_top 16 2 17 := ⟨by decide, Or.inl ⟨by decide +kernel, rfl⟩⟩
theorem L_top_17 : K1 L_top 17 .ireturn 18 := ⟨by decide +kernel, rfl⟩
theorem L_top_18 : Kc L_top 18 0 19 := ⟨by decide, Or.inl ⟨by decide +kernel, rfl⟩⟩
theorem L_top_19 : K1 L_top 19 .ireturn 20 := ⟨by decide +kernel, rfl⟩
theorem L_top_h0 : Kh L_top 4 "java/lang/IllegalStateException" 3 13 := ⟨[], [(0, 9, 15, 13)], (0, 9, 12, 36), rfl, (fun z hz => nomatch hz), by decide, by decide, by decide, w_342, w_394, ⟨by decide, Or.inr ⟨3, by decide +kernel, rfl, rfl⟩⟩⟩
theorem L_top_h1 : Kh L_top 4 "java/lang/IndexOutOfBoundsException" 3 16 := ⟨[(0, 9, 12, 36)], [], (0, 9, 15, 13), rfl, (List.forall_mem_cons.mpr ⟨⟨by decide, "java/lang/IllegalStateException", w_342, by decide +kernel⟩, fun z hz => nomatch hz⟩), by decide, by decide, by decide, w_190, w_205, ⟨by decide, Or.inr ⟨3, by decide +kernel, rfl, rfl⟩⟩⟩
theorem L_covered_0 : Ka L_covered 0 1 1 := Or.inr ⟨1, by decide +kernel, rfl, rfl⟩
theorem L_covered_1 : Kc L_covered 1 0 2 := ⟨by decide, Or.inl ⟨by decide +kernel, rfl⟩⟩
theorem L_covered_2 : Ka L_covered 2 0 3 := Or.inr ⟨0, by decide +kernel, rfl, rfl⟩
theorem L_covered_3 : KV L_covered 3 O_covered 3 0 6 := ⟨O_covered_q, by decide, w_477, w_478, rfl, by decide +kernel, ⟨(RX3, TX3, 6), rfl, rfl⟩, 56, by decide +kernel, w_476⟩
theorem L_covered_6 : Kj L_covered 6 (.ifCond .eq) 13 9 := ⟨7, by decide +kernel, by decide, rfl⟩
theorem L_covered_9 : ∃ f : Fin 2, K1 L_covered 9 (.lconst f) 10 ∧ (f : Nat) = 1 := ⟨1, ⟨by decide +kernel, rfl⟩, rfl⟩
theorem L_covered_10 : Kj L_covered 10 .goto 14 13 := ⟨4, by decide +kernel, by decide, rfl⟩
theorem L_covered_13 : ∃ f : Fin 2, K1 L_covered 13 (.lconst f) 14 ∧ (f : Nat) = 0 := ⟨0, ⟨by decide +kernel, rfl⟩, rfl⟩
theorem L_covered_14 : K1 L_covered 14 .lastore 15 := ⟨by decide +kernel, rfl⟩
theorem L_covered_15 : Kj L_covered 15 .goto 21 18 := ⟨6, by decide +kernel, by decide, rfl⟩
theorem L_covered_18 : Kt L_covered 18 2 19 := ⟨by decide, Or.inr ⟨2, by decide +kernel, rfl, rfl⟩⟩
theorem L_covered_19 : Kc L_covered 19 1 20 := ⟨by decide, Or.inl ⟨by decide +kernel, rfl⟩⟩
theorem L_covered_20 : K1 L_covered 20 .ireturn 21 := ⟨by decide +kernel, rfl⟩
theorem L_covered_21 : Kc L_covered 21 0 22 := ⟨by decide, Or.inl ⟨by decide +kernel, rfl⟩⟩
theorem L_covered_22 : K1 L_covered 22 .ireturn 23 := ⟨by decide +kernel, rfl⟩
theorem L_covered_h0 : Kh L_covered 3 "java/lang/IllegalStateException" 2 19 := ⟨[], [], (0, 15, 18, 36), rfl, (fun z hz => nomatch hz), by decide, by decide, by decide, w_342, w_394, ⟨by decide, Or.inr ⟨2, by decide +kernel, rfl, rfl⟩⟩⟩
theorem L_lives_0 : Ka L_lives 0 2 1 := Or.inr ⟨2, by decide +kernel, rfl, rfl⟩
theorem L_lives_1 : Kc L_lives 1 0 2 := ⟨by decide, Or.inl ⟨by decide +kernel, rfl⟩⟩
theorem L_lives_2 : Ka L_lives 2 0 3 := Or.inr ⟨0, by decide +kernel, rfl, rfl⟩
theorem L_lives_3 : Ki L_lives 3 1 4 := Or.inr ⟨1, by decide +kernel, rfl, rfl⟩
theorem L_lives_4 : KV L_lives 4 O_lives 3 1 7 := ⟨O_lives_q, by decide, w_488, w_489, rfl, by decide +kernel, ⟨(RX3, TX3, 6), rfl, rfl⟩, 60, by decide +kernel, w_487⟩
theorem L_lives_7 : Kj L_lives 7 (.ifCond .eq) 14 10 := ⟨7, by decide +kernel, by decide, rfl⟩
theorem L_lives_10 : ∃ f : Fin 2, K1 L_lives 10 (.lconst f) 11 ∧ (f : Nat) = 1 := ⟨1, ⟨by decide +kernel, rfl⟩, rfl⟩
theorem L_lives_11 : Kj L_lives 11 .goto 15 14 := ⟨4, by decide +kernel, by decide, rfl⟩
theorem L_lives_14 : ∃ f : Fin 2, K1 L_lives 14 (.lconst f) 15 ∧ (f : Nat) = 0 := ⟨0, ⟨by decide +kernel, rfl⟩, rfl⟩
theorem L_lives_15 : K1 L_lives 15 .lastore 16 := ⟨by decide +kernel, rfl⟩
theorem L_lives_16 : Kj L_lives 16 .goto 25 19 := ⟨9, by decide +kernel, by decide, rfl⟩
theorem L_lives_19 : Kt L_lives 19 3 20 := ⟨by decide, Or.inr ⟨3, by decide +kernel, rfl, rfl⟩⟩
theorem L_lives_20 : Kc L_lives 20 1 21 := ⟨by decide, Or.inl ⟨by decide +kernel, rfl⟩⟩
theorem L_lives_21 : K1 L_lives 21 .ireturn 22 := ⟨by decide +kernel, rfl⟩
theorem L_lives_22 : Kt L_lives 22 3 23 := ⟨by decide, Or.inr ⟨3, by decide +kernel, rfl, rfl⟩⟩
theorem L_lives_23 : Kc L_lives 23 2 24 := ⟨by decide, Or.inl ⟨by decide +kernel, rfl⟩⟩
theorem L_lives_24 : K1 L_lives 24 .ireturn 25 := ⟨by decide +kernel, rfl⟩
theorem L_lives_25 : Kc L_lives 25 0 26 := ⟨by decide, Or.inl ⟨by decide +kernel, rfl⟩⟩
theorem L_lives_26 : K1 L_lives 26 .ireturn 27 := ⟨by decide +kernel, rfl⟩
theorem L_lives_h0 : Kh L_lives 4 "java/lang/IllegalStateException" 3 20 := ⟨[], [(0, 16, 22, 13)], (0, 16, 19, 36), rfl, (fun z hz => nomatch hz), by decide, by decide, by decide, w_342, w_394, ⟨by decide, Or.inr ⟨3, by decide +kernel, rfl, rfl⟩⟩⟩
theorem L_lives_h1 : Kh L_lives 4 "java/lang/IndexOutOfBoundsException" 3 23 := ⟨[(0, 16, 19, 36)], [], (0, 16, 22, 13), rfl, (List.forall_mem_cons.mpr ⟨⟨by decide, "java/lang/IllegalStateException", w_342, by decide +kernel⟩, fun z hz => nomatch hz⟩), by decide, by decide, by decide, w_190, w_205, ⟨by decide, Or.inr ⟨3, by decide +kernel, rfl, rfl⟩⟩⟩
theorem L_dead_0 : Ka L_dead 0 1 1 := Or.inr ⟨1, by decide +kernel, rfl, rfl⟩
theorem L_dead_1 : Kc L_dead 1 0 2 := ⟨by decide, Or.inl ⟨by decide +kernel, rfl⟩⟩
theorem L_dead_2 : Ka L_dead 2 0 3 := Or.inr ⟨0, by decide +kernel, rfl, rfl⟩
theorem L_dead_3 : KV L_dead 3 O_dead 3 0 6 := ⟨O_dead_q, by decide, w_500, w_501, rfl, by decide +kernel, ⟨(RX3, TX3, 6), rfl, rfl⟩, 63, by decide +kernel, w_499⟩
theorem L_dead_6 : K1 L_dead 6 .i2l 7 := ⟨by decide +kernel, rfl⟩
theorem L_dead_7 : K1 L_dead 7 .lastore 8 := ⟨by decide +kernel, rfl⟩
theorem L_dead_8 : Kj L_dead 8 .goto 14 11 := ⟨6, by decide +kernel, by decide, rfl⟩
theorem L_dead_11 : Kt L_dead 11 2 12 := ⟨by decide, Or.inr ⟨2, by decide +kernel, rfl, rfl⟩⟩
theorem L_dead_12 : Kc L_dead 12 1 13 := ⟨by decide, Or.inl ⟨by decide +kernel, rfl⟩⟩
theorem L_dead_13 : K1 L_dead 13 .ireturn 14 := ⟨by decide +kernel, rfl⟩
theorem L_dead_14 : Kc L_dead 14 0 15 := ⟨by decide, Or.inl ⟨by decide +kernel, rfl⟩⟩
theorem L_dead_15 : K1 L_dead 15 .ireturn 16 := ⟨by decide +kernel, rfl⟩
theorem L_dead_h0 : Kh L_dead 3 "java/lang/IllegalStateException" 2 12 := ⟨[], [], (0, 8, 11, 36), rfl, (fun z hz => nomatch hz), by decide, by decide, by decide, w_342, w_394, ⟨by decide, Or.inr ⟨2, by decide +kernel, rfl, rfl⟩⟩⟩
theorem L_back_0 : Ka L_back 0 1 1 := Or.inr ⟨1, by decide +kernel, rfl, rfl⟩
theorem L_back_1 : Kc L_back 1 0 2 := ⟨by decide, Or.inl ⟨by decide +kernel, rfl⟩⟩
theorem L_back_2 : Ka L_back 2 0 3 := Or.inr ⟨0, by decide +kernel, rfl, rfl⟩
theorem L_back_3 : KV L_back 3 O_back 3 0 6 := ⟨O_back_q, by decide, w_516, w_517, rfl, by decide +kernel, ⟨(RX3, TX3, 6), rfl, rfl⟩, 66, by decide +kernel, w_515⟩
theorem L_back_6 : K1 L_back 6 .i2l 7 := ⟨by decide +kernel, rfl⟩
theorem L_back_7 : K1 L_back 7 .lastore 8 := ⟨by decide +kernel, rfl⟩
theorem L_back_8 : Kj L_back 8 .goto 14 11 := ⟨6, by decide +kernel, by decide, rfl⟩
theorem L_back_11 : Kt L_back 11 2 12 := ⟨by decide, Or.inr ⟨2, by decide +kernel, rfl, rfl⟩⟩
theorem L_back_12 : Kc L_back 12 1 13 := ⟨by decide, Or.inl ⟨by decide +kernel, rfl⟩⟩
theorem L_back_13 : K1 L_back 13 .ireturn 14 := ⟨by decide +kernel, rfl⟩
theorem L_back_14 : Kc L_back 14 0 15 := ⟨by decide, Or.inl ⟨by decide +kernel, rfl⟩⟩
theorem L_back_15 : K1 L_back 15 .ireturn 16 := ⟨by decide +kernel, rfl⟩
theorem L_back_h0 : Kh L_back 3 "java/lang/IllegalStateException" 2 12 := ⟨[], [], (0, 8, 11, 36), rfl, (fun z hz => nomatch hz), by decide, by decide, by decide, w_342, w_394, ⟨by decide, Or.inr ⟨2, by decide +kernel, rfl, rfl⟩⟩⟩
theorem L_goal_0 : Ka L_goal 0 3 1 := Or.inr ⟨3, by decide +kernel, rfl, rfl⟩
theorem L_goal_1 : Kc L_goal 1 0 2 := ⟨by decide, Or.inl ⟨by decide +kernel, rfl⟩⟩
theorem L_goal_2 : Ka L_goal 2 0 3 := Or.inr ⟨0, by decide +kernel, rfl, rfl⟩
theorem L_goal_3 : Ki L_goal 3 1 4 := Or.inr ⟨1, by decide +kernel, rfl, rfl⟩
theorem L_goal_4 : Ki L_goal 4 2 5 := Or.inr ⟨2, by decide +kernel, rfl, rfl⟩
theorem L_goal_5 : KV L_goal 5 O_goal 3 2 8 := ⟨O_goal_q, by decide, w_555, w_556, rfl, by decide +kernel, ⟨(RX3, TX3, 6), rfl, rfl⟩, 69, by decide +kernel, w_554⟩
theorem L_goal_8 : K1 L_goal 8 .i2l 9 := ⟨by decide +kernel, rfl⟩
theorem L_goal_9 : K1 L_goal 9 .lastore 10 := ⟨by decide +kernel, rfl⟩
theorem L_goal_10 : Kj L_goal 10 .goto 21 13 := ⟨11, by decide +kernel, by decide, rfl⟩
theorem L_goal_13 : Kt L_goal 13 4 15 := ⟨by decide, Or.inl ⟨by decide +kernel, rfl⟩⟩
theorem L_goal_15 : Kc L_goal 15 1 16 := ⟨by decide, Or.inl ⟨by decide +kernel, rfl⟩⟩
theorem L_goal_16 : K1 L_goal 16 .ireturn 17 := ⟨by decide +kernel, rfl⟩
theorem L_goal_17 : Kt L_goal 17 4 19 := ⟨by decide, Or.inl ⟨by decide +kernel, rfl⟩⟩
theorem L_goal_19 : Kc L_goal 19 2 20 := ⟨by decide, Or.inl ⟨by decide +kernel, rfl⟩⟩
theorem L_goal_20 : K1 L_goal 20 .ireturn 21 := ⟨by decide +kernel, rfl⟩
theorem L_goal_21 : Kc L_goal 21 0 22 := ⟨by decide, Or.inl ⟨by decide +kernel, rfl⟩⟩
theorem L_goal_22 : K1 L_goal 22 .ireturn 23 := ⟨by decide +kernel, rfl⟩
theorem L_goal_h0 : Kh L_goal 5 "java/lang/IllegalStateException" 4 15 := ⟨[], [(0, 10, 17, 13)], (0, 10, 13, 36), rfl, (fun z hz => nomatch hz), by decide, by decide, by decide, w_342, w_394, ⟨by decide, Or.inl ⟨by decide +kernel, rfl⟩⟩⟩
theorem L_goal_h1 : Kh L_goal 5 "java/lang/IndexOutOfBoundsException" 4 19 := ⟨[(0, 10, 13, 36)], [], (0, 10, 17, 13), rfl, (List.forall_mem_cons.mpr ⟨⟨by decide, "java/lang/IllegalStateException", w_342, by decide +kernel⟩, fun z hz => nomatch hz⟩), by decide, by decide, by decide, w_190, w_205, ⟨by decide, Or.inl ⟨by decide +kernel, rfl⟩⟩⟩
theorem L_length_0 : Ka L_length 0 1 1 := Or.inr ⟨1, by decide +kernel, rfl, rfl⟩
theorem L_length_1 : Kc L_length 1 0 2 := ⟨by decide, Or.inl ⟨by decide +kernel, rfl⟩⟩
theorem L_length_2 : Ka L_length 2 0 3 := Or.inr ⟨0, by decide +kernel, rfl, rfl⟩
theorem L_length_3 : KV L_length 3 O_length 3 0 6 := ⟨O_length_q, by decide, w_573, w_574, rfl, by decide +kernel, ⟨(RX3, TX3, 6), rfl, rfl⟩, 72, by decide +kernel, w_572⟩
theorem L_length_6 : K1 L_length 6 .i2l 7 := ⟨by decide +kernel, rfl⟩
theorem L_length_7 : K1 L_length 7 .lastore 8 := ⟨by decide +kernel, rfl⟩
theorem L_length_8 : Kj L_length 8 .goto 17 11 := ⟨9, by decide +kernel, by decide, rfl⟩
theorem L_length_11 : Kt L_length 11 2 12 := ⟨by decide, Or.inr ⟨2, by decide +kernel, rfl, rfl⟩⟩
theorem L_length_12 : Kc L_length 12 1 13 := ⟨by decide, Or.inl ⟨by decide +kernel, rfl⟩⟩
theorem L_length_13 : K1 L_length 13 .ireturn 14 := ⟨by decide +kernel, rfl⟩
theorem L_length_14 : Kt L_length 14 2 15 := ⟨by decide, Or.inr ⟨2, by decide +kernel, rfl, rfl⟩⟩
theorem L_length_15 : Kc L_length 15 2 16 := ⟨by decide, Or.inl ⟨by decide +kernel, rfl⟩⟩
theorem L_length_16 : K1 L_length 16 .ireturn 17 := ⟨by decide +kernel, rfl⟩
theorem L_length_17 : Kc L_length 17 0 18 := ⟨by decide, Or.inl ⟨by decide +kernel, rfl⟩⟩
theorem L_length_18 : K1 L_length 18 .ireturn 19 := ⟨by decide +kernel, rfl⟩
theorem L_length_h0 : Kh L_length 3 "java/lang/IllegalStateException" 2 12 := ⟨[], [(0, 8, 14, 75)], (0, 8, 11, 36), rfl, (fun z hz => nomatch hz), by decide, by decide, by decide, w_342, w_394, ⟨by decide, Or.inr ⟨2, by decide +kernel, rfl, rfl⟩⟩⟩
theorem L_length_h1 : Kh L_length 3 "java/lang/UnsupportedOperationException" 2 15 := ⟨[(0, 8, 11, 36)], [], (0, 8, 14, 75), rfl, (List.forall_mem_cons.mpr ⟨⟨by decide, "java/lang/IllegalStateException", w_342, by decide +kernel⟩, fun z hz => nomatch hz⟩), by decide, by decide, by decide, w_571, w_586, ⟨by decide, Or.inr ⟨2, by decide +kernel, rfl, rfl⟩⟩⟩
theorem L_way_0 : Ka L_way 0 2 1 := Or.inr ⟨2, by decide +kernel, rfl, rfl⟩
theorem L_way_1 : Kc L_way 1 0 2 := ⟨by decide, Or.inl ⟨by decide +kernel, rfl⟩⟩
theorem L_way_2 : Ka L_way 2 0 3 := Or.inr ⟨0, by decide +kernel, rfl, rfl⟩
theorem L_way_3 : Ki L_way 3 1 4 := Or.inr ⟨1, by decide +kernel, rfl, rfl⟩
theorem L_way_4 : KV L_way 4 O_way 3 1 7 := ⟨O_way_q, by decide, w_604, w_605, rfl, by decide +kernel, ⟨(RX3, TX3, 6), rfl, rfl⟩, 77, by decide +kernel, w_603⟩
theorem L_way_7 : K1 L_way 7 .i2l 8 := ⟨by decide +kernel, rfl⟩
theorem L_way_8 : K1 L_way 8 .lastore 9 := ⟨by decide +kernel, rfl⟩
theorem L_way_9 : Kj L_way 9 .goto 21 12 := ⟨12, by decide +kernel, by decide, rfl⟩
theorem L_way_12 : Kt L_way 12 3 13 := ⟨by decide, Or.inr ⟨3, by decide +kernel, rfl, rfl⟩⟩
theorem L_way_13 : Kc L_way 13 1 14 := ⟨by decide, Or.inl ⟨by decide +kernel, rfl⟩⟩
theorem L_way_14 : K1 L_way 14 .ireturn 15 := ⟨by decide +kernel, rfl⟩
theorem L_way_15 : Kt L_way 15 3 16 := ⟨by decide, Or.inr ⟨3, by decide +kernel, rfl, rfl⟩⟩
theorem L_way_16 : Kc L_way 16 2 17 := ⟨by decide, Or.inl ⟨by decide +kernel, rfl⟩⟩
theorem L_way_17 : K1 L_way 17 .ireturn 18 := ⟨by decide +kernel, rfl⟩
theorem L_way_18 : Kt L_way 18 3 19 := ⟨by decide, Or.inr ⟨3, by decide +kernel, rfl, rfl⟩⟩
theorem L_way_19 : Kc L_way 19 3 20 := ⟨by decide, Or.inl ⟨by decide +kernel, rfl⟩⟩
theorem L_way_20 : K1 L_way 20 .ireturn 21 := ⟨by decide +kernel, rfl⟩
theorem L_way_21 : Kc L_way 21 0 22 := ⟨by decide, Or.inl ⟨by decide +kernel, rfl⟩⟩
theorem L_way_22 : K1 L_way 22 .ireturn 23 := ⟨by decide +kernel, rfl⟩
theorem L_way_h0 : Kh L_way 4 "java/lang/IllegalStateException" 3 13 := ⟨[], [(0, 9, 15, 75), (0, 9, 18, 13)], (0, 9, 12, 36), rfl, (fun z hz => nomatch hz), by decide, by decide, by decide, w_342, w_394, ⟨by decide, Or.inr ⟨3, by decide +kernel, rfl, rfl⟩⟩⟩
theorem L_way_h1 : Kh L_way 4 "java/lang/UnsupportedOperationException" 3 16 := ⟨[(0, 9, 12, 36)], [(0, 9, 18, 13)], (0, 9, 15, 75), rfl, (List.forall_mem_cons.mpr ⟨⟨by decide, "java/lang/IllegalStateException", w_342, by decide +kernel⟩, fun z hz => nomatch hz⟩), by decide, by decide, by decide, w_571, w_586, ⟨by decide, Or.inr ⟨3, by decide +kernel, rfl, rfl⟩⟩⟩
theorem L_way_h2 : Kh L_way 4 "java/lang/IndexOutOfBoundsException" 3 19 := ⟨[(0, 9, 12, 36), (0, 9, 15, 75)], [], (0, 9, 18, 13), rfl, (List.forall_mem_cons.mpr ⟨⟨by decide, "java/lang/IllegalStateException", w_342, by decide +kernel⟩, List.forall_mem_cons.mpr ⟨⟨by decide, "java/lang/UnsupportedOperationException", w_571, by decide +kernel⟩, fun z hz => nomatch hz⟩⟩), by decide, by decide, by decide, w_190, w_205, ⟨by decide, Or.inr ⟨3, by decide +kernel, rfl, rfl⟩⟩⟩
