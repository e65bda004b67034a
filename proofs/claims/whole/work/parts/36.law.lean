section LL
variable {l : Launch} {E : aE} {S : aS} {g : aG} {P : aP} {Pn T : Nat} {nd gv : Nat → Nat → Int} {fs wn pr : Nat → Int} {fi : Nat} {tm gm : Prop} {a b ix : Nat}
theorem l_sw {x5 x6 : Option aA} {z : Int} (hn : E.1.2.2.1 ≤ 2562) (hi : ix + 5 ≤ E.1.2.2.1) (hW : WX S Pn T) (hX : XS Pn T g nd gv fs wn pr fi tm gm) (hS : MS Pn T g nd gv fs wn pr fi tm gm) (ha : 1 ≤ a) (hb : 6 ≤ b) (hfi : fi ≤ 100000) (hK : ∀ {nd' gv' : Nat → Nat → Int} {fs' wn' pr' : Nat → Int} {fi' : Nat} {tm' gm' : Prop} (g' : aG) (a' b' : Nat) (x5 x6 : Option aA), XS Pn T g' nd' gv' fs' wn' pr' fi' tm' gm' → MS Pn T g' nd' gv' fs' wn' pr' fi' tm' gm' → fi' ≤ fi + 1 → a ≤ a' + 1 → b ≤ b' + 6 → aw l E L_law 12 1286 [some sV, some (rV 0), some (rV (2 * T + 269)), some (rV (2 * T + 283)), some (iV (ix : Int)), x5, x6] [] (S, g', a', b', false) P) : aw l E L_law 12 59 [some sV, some (rV 0), some (rV (2 * T + 269)), some (rV (2 * T + 283)), some (iV (ix : Int)), x5, x6] [iV z] (S, g, a, b, false) P := by
  by_cases hz : 0 ≤ z ∧ z ≤ 19
  · have h20 : z = 0 ∨ z = 1 ∨ z = 2 ∨ z = 3 ∨ z = 4 ∨ z = 5 ∨ z = 6 ∨ z = 7 ∨ z = 8 ∨ z = 9 ∨ z = 10 ∨ z = 11 ∨ z = 12 ∨ z = 13 ∨ z = 14 ∨ z = 15 ∨ z = 16 ∨ z = 17 ∨ z = 18 ∨ z = 19 := by omega
    rcases h20 with rfl | rfl | rfl | rfl | rfl | rfl | rfl | rfl | rfl | rfl | rfl | rfl | rfl | rfl | rfl | rfl | rfl | rfl | rfl | rfl
    · refine aw_swi L_law_59 0 (by decide) (by decide) rfl ?_
      exact l_arc hn hi hW hX hS ha hb hfi rfl rfl rfl rfl hK
    · refine aw_swi L_law_59 1 (by decide) (by decide) rfl ?_
      exact l_start hn hi hW hX hS ha hb hfi rfl rfl hK
    · refine aw_swi L_law_59 2 (by decide) (by decide) rfl ?_
      exact l_want hn hi hW hX hS ha hb hfi rfl rfl hK
    · refine aw_swi L_law_59 3 (by decide) (by decide) rfl ?_
      exact l_fire hn hi hW hX hS ha hb hfi rfl hK
    · refine aw_swi L_law_59 4 (by decide) (by decide) rfl ?_
      exact l_at hn hi hW hX hS ha hb hfi rfl hK
    · refine aw_swi L_law_59 5 (by decide) (by decide) rfl ?_
      exact l_reset hW hX hS hK
    · refine aw_swi L_law_59 6 (by decide) (by decide) rfl ?_
      exact l_explore hn hi hW hX hS ha hb hfi hK
    · refine aw_swi L_law_59 7 (by decide) (by decide) rfl ?_
      exact l_count hn hi hW hX hS ha hb hfi rfl rfl hK
    · refine aw_swi L_law_59 8 (by decide) (by decide) rfl ?_
      exact l_node hn hi hW hX hS ha hb hfi rfl rfl hK
    · refine aw_swi L_law_59 9 (by decide) (by decide) rfl ?_
      exact l_path hn hi hW hX hS ha hb hfi rfl rfl hK
    · refine aw_swi L_law_59 10 (by decide) (by decide) rfl ?_
      exact l_bound hn hi hW hX hS ha hb hfi rfl hK
    · refine aw_swi L_law_59 11 (by decide) (by decide) rfl ?_
      exact l_tops hn hi hW hX hS ha hb hfi hK
    · refine aw_swi L_law_59 12 (by decide) (by decide) rfl ?_
      exact l_top hn hi hW hX hS ha hb hfi rfl hK
    · refine aw_swi L_law_59 13 (by decide) (by decide) rfl ?_
      exact l_covered hn hi hW hX hS ha hb hfi hK
    · refine aw_swi L_law_59 14 (by decide) (by decide) rfl ?_
      exact l_lives hn hi hW hX hS ha hb hfi rfl hK
    · refine aw_swi L_law_59 15 (by decide) (by decide) rfl ?_
      exact l_dead hn hi hW hX hS ha hb hfi hK
    · refine aw_swi L_law_59 16 (by decide) (by decide) rfl ?_
      exact l_back hn hi hW hX hS ha hb hfi hK
    · refine aw_swi L_law_59 17 (by decide) (by decide) rfl ?_
      exact l_goal hn hi hW hX hS ha hb hfi rfl rfl hK
    · refine aw_swi L_law_59 18 (by decide) (by decide) rfl ?_
      exact l_length hn hi hW hX hS ha hb hfi hK
    · refine aw_swi L_law_59 19 (by decide) (by decide) rfl ?_
      exact l_way hn hi hW hX hS ha hb hfi rfl hK
  · refine aw_swo L_law_59 (by omega) ?_
    exact hK _ _ _ _ _ hX hS (by omega) (by omega) (by omega)
theorem l_loop (hn : E.1.2.2.1 ≤ 2562) (hW : WX S Pn T) (hP : ∀ M, P (.inl (some (iV 1))) M) : ∀ (m ix : Nat) {nd gv : Nat → Nat → Int} {fs wn pr : Nat → Int} {fi : Nat} {tm gm : Prop} (g : aG) (a b : Nat) (x5 x6 : Option aA), 2562 - ix < m → XS Pn T g nd gv fs wn pr fi tm gm → MS Pn T g nd gv fs wn pr fi tm gm → fi ≤ ix → ix ≤ 2570 → 3000 ≤ a + ix → 20000 ≤ b + 6 * ix → aw l E L_law 12 43 [some sV, some (rV 0), some (rV (2 * T + 269)), some (rV (2 * T + 283)), some (iV (ix : Int)), x5, x6] [] (S, g, a, b, false) P := by
  intro m
  induction m with
  | zero => intro ix nd gv fs wn pr fi tm gm g a b x5 x6 h; omega
  | succ m ih =>
    intro ix nd gv fs wn pr fi tm gm g a b x5 x6 hm hX hS hfi hix ha hb
    refine aw_il4 L_law_43 ?_
    refine aw_sl0 L_law_45 ?_
    refine aw_slen L_law_46 (by constructor <;> omega) ?_
    refine aw_c L_law_47 ?_
    refine aw_sub L_law_48 (by constructor <;> omega) ?_
    refine aw_cgt L_law_49 (fun h49 => ?_) (fun h49 => ?_)
    · skip
      refine aw_c L_law_1292 ?_
      refine aw_reti L_law_1293 (Or.inr ⟨rfl, (by first | exact Or.inl rfl | exact Or.inr rfl | assumption)⟩) ?_
      exact hP _
    · skip
      refine aw_sl0 L_law_52 ?_
      refine aw_il4 L_law_53 ?_
      refine aw_sld L_law_55 (show (ix : Int) = ((ix : Nat) : Int) from rfl) (by omega) ?_
      refine aw_c L_law_56 ?_
      refine aw_iand L_law_58 (okT _) (i32R _) ?_
      exact l_sw hn (by omega) hW hX hS (by omega) (by omega) (by omega) (fun g' a' b' x5 x6 hX' hS' z1 z2 z3 => by
        refine aw_in4 L_law_1286 (by constructor <;> omega) ?_
        refine aw_go L_law_1289 ?_
        exact ih (ix + 5) g' a' b' x5 x6 (by omega) hX' hS' (by omega) (by omega) (by omega) (by omega))
theorem cl_ex {x : Int} {hi : Nat} (h : 1 ≤ hi) : ∃ n : Nat, (if 1 < (if x < (hi : Int) then x else (hi : Int)) then (if x < (hi : Int) then x else (hi : Int)) else 1) = (n : Int) ∧ 1 ≤ n ∧ n ≤ hi := by
  have h2 : 1 ≤ (if 1 < (if x < (hi : Int) then x else (hi : Int)) then (if x < (hi : Int) then x else (hi : Int)) else 1) ∧ (if 1 < (if x < (hi : Int) then x else (hi : Int)) then (if x < (hi : Int) then x else (hi : Int)) else 1) ≤ (hi : Int) := by
    by_cases c1 : x < (hi : Int)
    · rw [if_pos c1]; split <;> omega
    · rw [if_neg c1]; split <;> omega
  obtain ⟨n, hn⟩ := Int.eq_ofNat_of_zero_le (show 0 ≤ (if 1 < (if x < (hi : Int) then x else (hi : Int)) then (if x < (hi : Int) then x else (hi : Int)) else 1) by omega)
  exact ⟨n, hn, by omega, by omega⟩
theorem l_all {f : Nat → Nat → Option Nat} (hn : E.1.2.2.1 ≤ 2562) (hP6 : 1 ≤ Pn ∧ Pn ≤ 6) (hT8 : 1 ≤ T ∧ T ≤ 8) (hx : (if 1 < (if scE E 0 < 6 then scE E 0 else 6) then (if scE E 0 < 6 then scE E 0 else 6) else 1) = (Pn : Int)) (hy : (if 1 < (if scE E 1 < 8 then scE E 1 else 8) then (if scE E 1 < 8 then scE E 1 else 8) else 1) = (T : Int)) (ha : 20000 ≤ a) (hb : 100000 ≤ b) (hP : ∀ M, P (.inl (some (iV 1))) M) : aw l E L_law 12 0 [some (sV), none, none, none, none, none, none] [] (SS Pn T 0 f, fun _ _ => 0, a, b, true) P := by
  refine an_new (n' := 1) L_law_0 (by omega) (by omega) (kd_0 (a := 0) (by omega) (by omega)) (by omega) (fun _ => rfl) (by omega) ?_
  refine aw_dup L_law_3 ?_
  refine aw_sl0 L_law_4 ?_
  refine aw_c L_law_5 ?_
  refine aw_S2 L_law_6 rfl rfl rfl rfl ?_
  refine c_L_cell (j := 0) hn ?_
  show aw _ _ _ _ _ _ _ _ _
  refine aw_sl0 L_law_9 ?_
  refine aw_c L_law_10 ?_
  refine aw_S2 L_law_11 rfl rfl rfl rfl ?_
  refine c_L_cell (j := 1) hn ?_
  show aw _ _ _ _ _ _ _ _ _
  refine aw_I2 L_law_14 rfl rfl rfl rfl ?_
  refine c_O_init (d := 10) hP6 hT8 hx hy (by omega) (by omega) (by omega) (fun f1 a1 b1 hf1 hk1 ha1 hb1 => ?_)
  show aw _ _ _ _ _ _ _ _ _
  refine aw_as1 L_law_17 ?_
  refine an_new (n' := 2 * T + 270) L_law_18 (by omega) (by omega) (kd_18 (a := 2 * T + 269) (by omega) (by omega)) (by omega) (fun _ => gN_0 (by omega)) (by omega) ?_
  refine aw_dup L_law_21 ?_
  refine aw_sl0 L_law_22 ?_
  refine aw_c L_law_23 ?_
  refine aw_S2 L_law_24 rfl rfl rfl rfl ?_
  refine c_L_cell (j := 0) hn ?_
  show aw _ _ _ _ _ _ _ _ _
  refine aw_sl0 L_law_27 ?_
  refine aw_c L_law_28 ?_
  refine aw_S2 L_law_29 rfl rfl rfl rfl ?_
  refine c_L_cell (j := 1) hn ?_
  show aw _ _ _ _ _ _ _ _ _
  refine aw_I2 L_law_32 rfl rfl rfl rfl ?_
  refine c_M_init (d := 11) hP6 hT8 hx hy (by omega) (by omega) (by omega) (fun f2 a2 b2 hf2 hk2 ha2 hb2 => ?_)
  show aw _ _ _ _ _ _ _ _ _
  refine aw_as2 L_law_35 ?_
  refine aw_c L_law_36 ?_
  refine an_nl (n' := 2 * T + 284) L_law_37 (show (1 : Int) = ((1 : Nat) : Int) from rfl) (by omega) (by omega) (by omega) (kd_27 (a := 2 * T + 283) (by omega) (by omega)) (by omega) (by omega) (fun _ => gB_0 (by omega) (by omega)) (by omega) ?_
  refine aw_as3 L_law_39 ?_
  refine aw_c L_law_40 ?_
  refine aw_is4 L_law_41 ?_
  have hO2 : FO T f2 := by
    obtain ⟨⟨n1, n2, n3⟩, ⟨t1, t2, t3, t4, t5, t6, t7⟩, ⟨q1, q2, q3, q4, q5, q6, q7⟩, o1, o2, o3, o4, o5⟩ := hf1
    have e : ∀ i k, i ≠ 2 * T + 269 → f2 i k = f1 i k := fun i k h => (hk2 i k h).trans (clr_ne h)
    exact ⟨⟨(e _ _ (by omega)).trans n1, (e _ _ (by omega)).trans n2, (e _ _ (by omega)).trans n3⟩, ⟨(e _ _ (by omega)).trans t1, (e _ _ (by omega)).trans t2, (e _ _ (by omega)).trans t3, (e _ _ (by omega)).trans t4, (e _ _ (by omega)).trans t5, (e _ _ (by omega)).trans t6, (e _ _ (by omega)).trans t7⟩, ⟨(e _ _ (by omega)).trans q1, (e _ _ (by omega)).trans q2, (e _ _ (by omega)).trans q3, (e _ _ (by omega)).trans q4, (e _ _ (by omega)).trans q5, (e _ _ (by omega)).trans q6, (e _ _ (by omega)).trans q7⟩, (e _ _ (by omega)).trans o1, (e _ _ (by omega)).trans o2, (e _ _ (by omega)).trans o3, (e _ _ (by omega)).trans o4, (e _ _ (by omega)).trans o5⟩
  refine aw_fr ?_
  exact l_loop hn (WX_of hP6 hT8 hO2 hf2) hP 2563 2 _ _ _ _ _ (by omega) (XS_of hP6 hT8) (MS_of hP6 hT8) (by omega) (by omega) (by omega) (by omega)
end LL
