section LW
variable {l : Launch} {E : aE} {S : aS} {g : aG} {P : aP} {Pn T : Nat} {nd gv : Nat → Nat → Int} {fs wn pr : Nat → Int} {fi : Nat} {tm gm : Prop} {a b ix : Nat}
theorem ctT_in {P : Nat} {τ : Tz} {v v' : Nat} (h1 : tpT P τ v) (h2 : tpT P τ v') (h : (ctT P τ v : Int) = (ctT P τ v' : Int)) : v = v' := by
  rcases Nat.lt_trichotomy v v' with q | q | q
  · have := ctT_lt h1 v' q
    omega
  · exact q
  · have := ctT_lt h2 v q
    omega
theorem l_arc {x5 x6 : Option aA} {t p nn ng : Int} (hn : E.1.2.2.1 ≤ 2562) (hi : ix + 5 ≤ E.1.2.2.1) (hW : WX S Pn T) (hX : XS Pn T g nd gv fs wn pr fi tm gm) (hS : MS Pn T g nd gv fs wn pr fi tm gm) (ha : 1 ≤ a) (hb : 6 ≤ b) (hfi : fi ≤ 100000) (hp1 : (E.1.2.2.2 (ix + 1)).toInt = t) (hp2 : (E.1.2.2.2 (ix + 2)).toInt = p) (hp3 : (E.1.2.2.2 (ix + 3)).toInt = nn) (hp4 : (E.1.2.2.2 (ix + 4)).toInt = ng) (hK : ∀ {nd' gv' : Nat → Nat → Int} {fs' wn' pr' : Nat → Int} {fi' : Nat} {tm' gm' : Prop} (g' : aG) (a' b' : Nat) (x5 x6 : Option aA), XS Pn T g' nd' gv' fs' wn' pr' fi' tm' gm' → MS Pn T g' nd' gv' fs' wn' pr' fi' tm' gm' → fi' ≤ fi + 1 → a ≤ a' + 1 → b ≤ b' + 6 → aw l E L_law 12 1286 [some sV, some (rV 0), some (rV (2 * T + 269)), some (rV (2 * T + 283)), some (iV (ix : Int)), x5, x6] [] (S, g', a', b', false) P) : aw l E L_law 12 152 [some sV, some (rV 0), some (rV (2 * T + 269)), some (rV (2 * T + 283)), some (iV (ix : Int)), x5, x6] [] (S, g, a, b, false) P := by
  have hT8 := wx_T hW
  have hp6 := wx_P hW
  refine aw_al1 L_law_152 ?_
  refine aw_sl0 L_law_153 ?_
  refine aw_il4 L_law_154 ?_
  refine aw_c L_law_156 ?_
  refine aw_add L_law_157 (by constructor <;> omega) ?_
  refine aw_sld L_law_158 (show (ix : Int) + 1 = ((ix + 1 : Nat) : Int) by omega) (by omega) ?_
  rw [hp1]
  refine aw_sl0 L_law_159 ?_
  refine aw_il4 L_law_160 ?_
  refine aw_c L_law_162 ?_
  refine aw_add L_law_163 (by constructor <;> omega) ?_
  refine aw_sld L_law_164 (show (ix : Int) + 2 = ((ix + 2 : Nat) : Int) by omega) (by omega) ?_
  rw [hp2]
  refine aw_sl0 L_law_165 ?_
  refine aw_il4 L_law_166 ?_
  refine aw_c L_law_168 ?_
  refine aw_add L_law_169 (by constructor <;> omega) ?_
  refine aw_sld L_law_170 (show (ix : Int) + 3 = ((ix + 3 : Nat) : Int) by omega) (by omega) ?_
  rw [hp3]
  refine aw_sl0 L_law_171 ?_
  refine aw_il4 L_law_172 ?_
  refine aw_c L_law_174 ?_
  refine aw_add L_law_175 (by constructor <;> omega) ?_
  refine aw_sld L_law_176 (show (ix : Int) + 4 = ((ix + 4 : Nat) : Int) by omega) (by omega) ?_
  rw [hp4]
  refine aw_al3 L_law_177 ?_
  refine aw_S6 L_law_178 rfl rfl rfl rfl rfl rfl rfl rfl ?_
  refine c_L_arc hW hX ha hb (fun z0 z1 z2 z3 z4 z5 z6 z7 z8 z9 z10 z11 z12 => ?_) (fun z0 => ?_) (fun z0 z1 z2 => ?_)
  · show aw _ _ _ _ _ _ _ _ _
    have hS1 : MS Pn T (upA z10 (2 * T + 283) 0 (ng - nn)) nd gv fs wn pr fi tm gm := MS_fr hS (fun x y q1 q2 q3 => (upA_ne (by omega)).trans (z12 x y (by omega)))
    refine aw_is5 L_law_181 ?_
    refine aw_al2 L_law_183 ?_
    refine aw_sl0 L_law_184 ?_
    refine aw_il4 L_law_185 ?_
    refine aw_c L_law_187 ?_
    refine aw_add L_law_188 (by constructor <;> omega) ?_
    refine aw_sld L_law_189 (show (ix : Int) + 1 = ((ix + 1 : Nat) : Int) by omega) (by omega) ?_
    rw [hp1]
    refine aw_sl0 L_law_190 ?_
    refine aw_il4 L_law_191 ?_
    refine aw_c L_law_193 ?_
    refine aw_add L_law_194 (by constructor <;> omega) ?_
    refine aw_sld L_law_195 (show (ix : Int) + 2 = ((ix + 2 : Nat) : Int) by omega) (by omega) ?_
    rw [hp2]
    refine aw_sl0 L_law_196 ?_
    refine aw_il4 L_law_197 ?_
    refine aw_c L_law_199 ?_
    refine aw_add L_law_200 (by constructor <;> omega) ?_
    refine aw_sld L_law_201 (show (ix : Int) + 3 = ((ix + 3 : Nat) : Int) by omega) (by omega) ?_
    rw [hp3]
    refine aw_sl0 L_law_202 ?_
    refine aw_il4 L_law_203 ?_
    refine aw_c L_law_205 ?_
    refine aw_add L_law_206 (by constructor <;> omega) ?_
    refine aw_sld L_law_207 (show (ix : Int) + 4 = ((ix + 4 : Nat) : Int) by omega) (by omega) ?_
    rw [hp4]
    refine aw_V4 L_law_208 rfl rfl rfl rfl rfl rfl (wx_o4 hW) ?_
    refine c_M_arc hW hS1 (fun y0 y1 y2 y3 y4 y5 y6 y7 y8 y9 y10 y11 y12 y13 => ?_) (fun y0 y1 y2 y3 y4 => ?_) (fun y0 y1 y2 y3 y4 y5 y6 => ?_)
    · have e_t : z0 = y0 := by omega
      subst e_t
      have e_p : z1 = y1 := by omega
      subst e_p
      have hS2 := y11
      have e0 := y12
      have hX2 := XS_lo (g' := y10) z11 hT8.1 (fun x y q => (y13 x y (Or.inl q)).trans ((upA_ne (by omega))))
      have e1 : (y10) (2 * T + 283) 0 = (ng - nn) := (y13 _ _ (Or.inr rfl)).trans (upA_eq _ _ _ _)
      show aw _ _ _ _ _ _ _ _ _
      refine aw_is6 L_law_211 ?_
      refine aw_al2 L_law_213 ?_
      refine aw_V0 L_law_214 rfl rfl (wx_o4 hW) ?_
      refine c_M_thrown hW ?_
      rw [e0]
      show aw _ _ _ _ _ _ _ _ _
      refine aw_il5 L_law_217 ?_
      refine aw_ceq L_law_219 (fun h219 => ?_) (fun h219 => ?_)
      · skip
        refine aw_il5 L_law_224 ?_
        refine aw_zne L_law_226 (fun h226 => ?_) (fun h226 => ?_)
        · skip
          exact absurd rfl h226
        · skip
          refine aw_al3 L_law_229 ?_
          refine aw_c L_law_230 ?_
          refine aw_la L_law_231 (wx_out hW) (show (0 : Int) = ((0 : Nat) : Int) from rfl) (by omega) ?_
          rw [e1]
          refine aw_il6 L_law_232 ?_
          refine aw_i2l L_law_234 ?_
          refine aw_lcmp L_law_235 (fun h235 => ?_) (fun z235 hz235 h235 => ?_)
          · skip
            refine aw_zeq L_law_236 (fun h236 => ?_) (fun h236 => ?_)
            · skip
              exact aw_go L_law_241 (hK _ _ _ _ _ hX2 hS2 (by omega) (by omega) (by omega))
            · skip
              exact absurd rfl h236
          · skip
            refine aw_zeq L_law_236 (fun h236 => ?_) (fun h236 => ?_)
            · skip
              exact absurd rfl h235
            · skip
              exact absurd rfl h235
      · skip
        exact absurd rfl h219
    · exfalso
      first | contradiction | omega
    · exfalso
      first | contradiction | omega
  · show aw _ _ _ _ _ _ _ _ _
    have hS1 : MS Pn T (g) nd gv fs wn pr fi tm gm := MS_fr hS (fun x y q1 q2 q3 => rfl)
    refine aw_is5 L_law_181 ?_
    refine aw_al2 L_law_183 ?_
    refine aw_sl0 L_law_184 ?_
    refine aw_il4 L_law_185 ?_
    refine aw_c L_law_187 ?_
    refine aw_add L_law_188 (by constructor <;> omega) ?_
    refine aw_sld L_law_189 (show (ix : Int) + 1 = ((ix + 1 : Nat) : Int) by omega) (by omega) ?_
    rw [hp1]
    refine aw_sl0 L_law_190 ?_
    refine aw_il4 L_law_191 ?_
    refine aw_c L_law_193 ?_
    refine aw_add L_law_194 (by constructor <;> omega) ?_
    refine aw_sld L_law_195 (show (ix : Int) + 2 = ((ix + 2 : Nat) : Int) by omega) (by omega) ?_
    rw [hp2]
    refine aw_sl0 L_law_196 ?_
    refine aw_il4 L_law_197 ?_
    refine aw_c L_law_199 ?_
    refine aw_add L_law_200 (by constructor <;> omega) ?_
    refine aw_sld L_law_201 (show (ix : Int) + 3 = ((ix + 3 : Nat) : Int) by omega) (by omega) ?_
    rw [hp3]
    refine aw_sl0 L_law_202 ?_
    refine aw_il4 L_law_203 ?_
    refine aw_c L_law_205 ?_
    refine aw_add L_law_206 (by constructor <;> omega) ?_
    refine aw_sld L_law_207 (show (ix : Int) + 4 = ((ix + 4 : Nat) : Int) by omega) (by omega) ?_
    rw [hp4]
    refine aw_V4 L_law_208 rfl rfl rfl rfl rfl rfl (wx_o4 hW) ?_
    refine c_M_arc hW hS1 (fun y0 y1 y2 y3 y4 y5 y6 y7 y8 y9 y10 y11 y12 y13 => ?_) (fun y0 y1 y2 y3 y4 => ?_) (fun y0 y1 y2 y3 y4 y5 y6 => ?_)
    · exfalso
      first | contradiction | omega
    · have hS2 := y2
      have e0 := y3
      have hX2 := XS_lo (g' := y1) hX hT8.1 (fun x y q => (y4 x y (Or.inl q)))
      show aw _ _ _ _ _ _ _ _ _
      refine aw_is6 L_law_211 ?_
      refine aw_al2 L_law_213 ?_
      refine aw_V0 L_law_214 rfl rfl (wx_o4 hW) ?_
      refine c_M_thrown hW ?_
      rw [e0]
      show aw _ _ _ _ _ _ _ _ _
      refine aw_il5 L_law_217 ?_
      refine aw_ceq L_law_219 (fun h219 => ?_) (fun h219 => ?_)
      · skip
        refine aw_il5 L_law_224 ?_
        refine aw_zne L_law_226 (fun h226 => ?_) (fun h226 => ?_)
        · skip
          exact aw_go L_law_241 (hK _ _ _ _ _ hX2 hS2 (by omega) (by omega) (by omega))
        · skip
          exact absurd h226 (by decide)
      · skip
        exact absurd rfl h219
    · exfalso
      first | contradiction | omega
  · show aw _ _ _ _ _ _ _ _ _
    have hS1 : MS Pn T (g) nd gv fs wn pr fi tm gm := MS_fr hS (fun x y q1 q2 q3 => rfl)
    refine aw_is5 L_law_181 ?_
    refine aw_al2 L_law_183 ?_
    refine aw_sl0 L_law_184 ?_
    refine aw_il4 L_law_185 ?_
    refine aw_c L_law_187 ?_
    refine aw_add L_law_188 (by constructor <;> omega) ?_
    refine aw_sld L_law_189 (show (ix : Int) + 1 = ((ix + 1 : Nat) : Int) by omega) (by omega) ?_
    rw [hp1]
    refine aw_sl0 L_law_190 ?_
    refine aw_il4 L_law_191 ?_
    refine aw_c L_law_193 ?_
    refine aw_add L_law_194 (by constructor <;> omega) ?_
    refine aw_sld L_law_195 (show (ix : Int) + 2 = ((ix + 2 : Nat) : Int) by omega) (by omega) ?_
    rw [hp2]
    refine aw_sl0 L_law_196 ?_
    refine aw_il4 L_law_197 ?_
    refine aw_c L_law_199 ?_
    refine aw_add L_law_200 (by constructor <;> omega) ?_
    refine aw_sld L_law_201 (show (ix : Int) + 3 = ((ix + 3 : Nat) : Int) by omega) (by omega) ?_
    rw [hp3]
    refine aw_sl0 L_law_202 ?_
    refine aw_il4 L_law_203 ?_
    refine aw_c L_law_205 ?_
    refine aw_add L_law_206 (by constructor <;> omega) ?_
    refine aw_sld L_law_207 (show (ix : Int) + 4 = ((ix + 4 : Nat) : Int) by omega) (by omega) ?_
    rw [hp4]
    refine aw_V4 L_law_208 rfl rfl rfl rfl rfl rfl (wx_o4 hW) ?_
    refine c_M_arc hW hS1 (fun y0 y1 y2 y3 y4 y5 y6 y7 y8 y9 y10 y11 y12 y13 => ?_) (fun y0 y1 y2 y3 y4 => ?_) (fun y0 y1 y2 y3 y4 y5 y6 => ?_)
    · exfalso
      first | contradiction | omega
    · exfalso
      first | contradiction | omega
    · have hS2 := y4
      have e0 := y5
      have hX2 := XS_lo (g' := y3) hX hT8.1 (fun x y q => (y6 x y (Or.inl q)))
      show aw _ _ _ _ _ _ _ _ _
      refine aw_is6 L_law_211 ?_
      refine aw_al2 L_law_213 ?_
      refine aw_V0 L_law_214 rfl rfl (wx_o4 hW) ?_
      refine c_M_thrown hW ?_
      rw [e0]
      show aw _ _ _ _ _ _ _ _ _
      refine aw_il5 L_law_217 ?_
      refine aw_ceq L_law_219 (fun h219 => ?_) (fun h219 => ?_)
      · skip
        refine aw_il5 L_law_224 ?_
        refine aw_zne L_law_226 (fun h226 => ?_) (fun h226 => ?_)
        · skip
          exact aw_go L_law_241 (hK _ _ _ _ _ hX2 hS2 (by omega) (by omega) (by omega))
        · skip
          exact absurd h226 (by decide)
      · skip
        exact absurd rfl h219
theorem l_start {x5 x6 : Option aA} {p n : Int} (hn : E.1.2.2.1 ≤ 2562) (hi : ix + 5 ≤ E.1.2.2.1) (hW : WX S Pn T) (hX : XS Pn T g nd gv fs wn pr fi tm gm) (hS : MS Pn T g nd gv fs wn pr fi tm gm) (ha : 1 ≤ a) (hb : 6 ≤ b) (hfi : fi ≤ 100000) (hp1 : (E.1.2.2.2 (ix + 1)).toInt = p) (hp2 : (E.1.2.2.2 (ix + 2)).toInt = n) (hK : ∀ {nd' gv' : Nat → Nat → Int} {fs' wn' pr' : Nat → Int} {fi' : Nat} {tm' gm' : Prop} (g' : aG) (a' b' : Nat) (x5 x6 : Option aA), XS Pn T g' nd' gv' fs' wn' pr' fi' tm' gm' → MS Pn T g' nd' gv' fs' wn' pr' fi' tm' gm' → fi' ≤ fi + 1 → a ≤ a' + 1 → b ≤ b' + 6 → aw l E L_law 12 1286 [some sV, some (rV 0), some (rV (2 * T + 269)), some (rV (2 * T + 283)), some (iV (ix : Int)), x5, x6] [] (S, g', a', b', false) P) : aw l E L_law 12 244 [some sV, some (rV 0), some (rV (2 * T + 269)), some (rV (2 * T + 283)), some (iV (ix : Int)), x5, x6] [] (S, g, a, b, false) P := by
  have hT8 := wx_T hW
  have hp6 := wx_P hW
  refine aw_al1 L_law_244 ?_
  refine aw_sl0 L_law_245 ?_
  refine aw_il4 L_law_246 ?_
  refine aw_c L_law_248 ?_
  refine aw_add L_law_249 (by constructor <;> omega) ?_
  refine aw_sld L_law_250 (show (ix : Int) + 1 = ((ix + 1 : Nat) : Int) by omega) (by omega) ?_
  rw [hp1]
  refine aw_sl0 L_law_251 ?_
  refine aw_il4 L_law_252 ?_
  refine aw_c L_law_254 ?_
  refine aw_add L_law_255 (by constructor <;> omega) ?_
  refine aw_sld L_law_256 (show (ix : Int) + 2 = ((ix + 2 : Nat) : Int) by omega) (by omega) ?_
  rw [hp2]
  refine aw_al3 L_law_257 ?_
  refine aw_S4 L_law_258 rfl rfl rfl rfl rfl rfl ?_
  refine c_L_start hW hX ha hb (fun z0 z1 z2 z3 z4 z5 z6 z7 => ?_) (fun z0 => ?_) (fun z0 z1 => ?_)
  · show aw _ _ _ _ _ _ _ _ _
    have hS1 : MS Pn T (upA z5 (2 * T + 283) 0 (fs z0)) nd gv fs wn pr fi tm gm := MS_fr hS (fun x y q1 q2 q3 => (upA_ne (by omega)).trans (z7 x y (by omega)))
    refine aw_is5 L_law_261 ?_
    refine aw_al2 L_law_263 ?_
    refine aw_sl0 L_law_264 ?_
    refine aw_il4 L_law_265 ?_
    refine aw_c L_law_267 ?_
    refine aw_add L_law_268 (by constructor <;> omega) ?_
    refine aw_sld L_law_269 (show (ix : Int) + 1 = ((ix + 1 : Nat) : Int) by omega) (by omega) ?_
    rw [hp1]
    refine aw_sl0 L_law_270 ?_
    refine aw_il4 L_law_271 ?_
    refine aw_c L_law_273 ?_
    refine aw_add L_law_274 (by constructor <;> omega) ?_
    refine aw_sld L_law_275 (show (ix : Int) + 2 = ((ix + 2 : Nat) : Int) by omega) (by omega) ?_
    rw [hp2]
    refine aw_V2 L_law_276 rfl rfl rfl rfl (wx_o4 hW) ?_
    refine c_M_start hW hS1 (fun y0 y1 y2 y3 y4 y5 y6 y7 y8 => ?_) (fun y0 y1 y2 y3 y4 => ?_) (fun y0 y1 y2 y3 y4 y5 => ?_)
    · have e_p : z0 = y0 := by omega
      subst e_p
      have hS2 := y6
      have e0 := y7
      have hX2 := XS_lo (g' := y5) z6 hT8.1 (fun x y q => (y8 x y (Or.inl q)).trans ((upA_ne (by omega))))
      have e1 : (y5) (2 * T + 283) 0 = (fs z0) := (y8 _ _ (Or.inr rfl)).trans (upA_eq _ _ _ _)
      show aw _ _ _ _ _ _ _ _ _
      refine aw_is6 L_law_279 ?_
      refine aw_al2 L_law_281 ?_
      refine aw_V0 L_law_282 rfl rfl (wx_o4 hW) ?_
      refine c_M_thrown hW ?_
      rw [e0]
      show aw _ _ _ _ _ _ _ _ _
      refine aw_il5 L_law_285 ?_
      refine aw_ceq L_law_287 (fun h287 => ?_) (fun h287 => ?_)
      · skip
        refine aw_il5 L_law_292 ?_
        refine aw_zne L_law_294 (fun h294 => ?_) (fun h294 => ?_)
        · skip
          exact absurd rfl h294
        · skip
          refine aw_al3 L_law_297 ?_
          refine aw_c L_law_298 ?_
          refine aw_la L_law_299 (wx_out hW) (show (0 : Int) = ((0 : Nat) : Int) from rfl) (by omega) ?_
          rw [e1]
          refine aw_il6 L_law_300 ?_
          refine aw_i2l L_law_302 ?_
          refine aw_lcmp L_law_303 (fun h303 => ?_) (fun z303 hz303 h303 => ?_)
          · skip
            refine aw_zeq L_law_304 (fun h304 => ?_) (fun h304 => ?_)
            · skip
              exact aw_go L_law_309 (hK _ _ _ _ _ hX2 hS2 (by omega) (by omega) (by omega))
            · skip
              exact absurd rfl h304
          · skip
            refine aw_zeq L_law_304 (fun h304 => ?_) (fun h304 => ?_)
            · skip
              exact absurd rfl h303
            · skip
              exact absurd rfl h303
      · skip
        exact absurd rfl h287
    · exfalso
      first | contradiction | omega
    · exfalso
      first | contradiction | omega
  · show aw _ _ _ _ _ _ _ _ _
    have hS1 : MS Pn T (g) nd gv fs wn pr fi tm gm := MS_fr hS (fun x y q1 q2 q3 => rfl)
    refine aw_is5 L_law_261 ?_
    refine aw_al2 L_law_263 ?_
    refine aw_sl0 L_law_264 ?_
    refine aw_il4 L_law_265 ?_
    refine aw_c L_law_267 ?_
    refine aw_add L_law_268 (by constructor <;> omega) ?_
    refine aw_sld L_law_269 (show (ix : Int) + 1 = ((ix + 1 : Nat) : Int) by omega) (by omega) ?_
    rw [hp1]
    refine aw_sl0 L_law_270 ?_
    refine aw_il4 L_law_271 ?_
    refine aw_c L_law_273 ?_
    refine aw_add L_law_274 (by constructor <;> omega) ?_
    refine aw_sld L_law_275 (show (ix : Int) + 2 = ((ix + 2 : Nat) : Int) by omega) (by omega) ?_
    rw [hp2]
    refine aw_V2 L_law_276 rfl rfl rfl rfl (wx_o4 hW) ?_
    refine c_M_start hW hS1 (fun y0 y1 y2 y3 y4 y5 y6 y7 y8 => ?_) (fun y0 y1 y2 y3 y4 => ?_) (fun y0 y1 y2 y3 y4 y5 => ?_)
    · exfalso
      first | contradiction | omega
    · have hS2 := y2
      have e0 := y3
      have hX2 := XS_lo (g' := y1) hX hT8.1 (fun x y q => (y4 x y (Or.inl q)))
      show aw _ _ _ _ _ _ _ _ _
      refine aw_is6 L_law_279 ?_
      refine aw_al2 L_law_281 ?_
      refine aw_V0 L_law_282 rfl rfl (wx_o4 hW) ?_
      refine c_M_thrown hW ?_
      rw [e0]
      show aw _ _ _ _ _ _ _ _ _
      refine aw_il5 L_law_285 ?_
      refine aw_ceq L_law_287 (fun h287 => ?_) (fun h287 => ?_)
      · skip
        refine aw_il5 L_law_292 ?_
        refine aw_zne L_law_294 (fun h294 => ?_) (fun h294 => ?_)
        · skip
          exact aw_go L_law_309 (hK _ _ _ _ _ hX2 hS2 (by omega) (by omega) (by omega))
        · skip
          exact absurd h294 (by decide)
      · skip
        exact absurd rfl h287
    · exfalso
      first | contradiction | omega
  · show aw _ _ _ _ _ _ _ _ _
    have hS1 : MS Pn T (g) nd gv fs wn pr fi tm gm := MS_fr hS (fun x y q1 q2 q3 => rfl)
    refine aw_is5 L_law_261 ?_
    refine aw_al2 L_law_263 ?_
    refine aw_sl0 L_law_264 ?_
    refine aw_il4 L_law_265 ?_
    refine aw_c L_law_267 ?_
    refine aw_add L_law_268 (by constructor <;> omega) ?_
    refine aw_sld L_law_269 (show (ix : Int) + 1 = ((ix + 1 : Nat) : Int) by omega) (by omega) ?_
    rw [hp1]
    refine aw_sl0 L_law_270 ?_
    refine aw_il4 L_law_271 ?_
    refine aw_c L_law_273 ?_
    refine aw_add L_law_274 (by constructor <;> omega) ?_
    refine aw_sld L_law_275 (show (ix : Int) + 2 = ((ix + 2 : Nat) : Int) by omega) (by omega) ?_
    rw [hp2]
    refine aw_V2 L_law_276 rfl rfl rfl rfl (wx_o4 hW) ?_
    refine c_M_start hW hS1 (fun y0 y1 y2 y3 y4 y5 y6 y7 y8 => ?_) (fun y0 y1 y2 y3 y4 => ?_) (fun y0 y1 y2 y3 y4 y5 => ?_)
    · exfalso
      first | contradiction | omega
    · exfalso
      first | contradiction | omega
    · have hS2 := y3
      have e0 := y4
      have hX2 := XS_lo (g' := y2) hX hT8.1 (fun x y q => (y5 x y (Or.inl q)))
      show aw _ _ _ _ _ _ _ _ _
      refine aw_is6 L_law_279 ?_
      refine aw_al2 L_law_281 ?_
      refine aw_V0 L_law_282 rfl rfl (wx_o4 hW) ?_
      refine c_M_thrown hW ?_
      rw [e0]
      show aw _ _ _ _ _ _ _ _ _
      refine aw_il5 L_law_285 ?_
      refine aw_ceq L_law_287 (fun h287 => ?_) (fun h287 => ?_)
      · skip
        refine aw_il5 L_law_292 ?_
        refine aw_zne L_law_294 (fun h294 => ?_) (fun h294 => ?_)
        · skip
          exact aw_go L_law_309 (hK _ _ _ _ _ hX2 hS2 (by omega) (by omega) (by omega))
        · skip
          exact absurd h294 (by decide)
      · skip
        exact absurd rfl h287
theorem l_want {x5 x6 : Option aA} {p n : Int} (hn : E.1.2.2.1 ≤ 2562) (hi : ix + 5 ≤ E.1.2.2.1) (hW : WX S Pn T) (hX : XS Pn T g nd gv fs wn pr fi tm gm) (hS : MS Pn T g nd gv fs wn pr fi tm gm) (ha : 1 ≤ a) (hb : 6 ≤ b) (hfi : fi ≤ 100000) (hp1 : (E.1.2.2.2 (ix + 1)).toInt = p) (hp2 : (E.1.2.2.2 (ix + 2)).toInt = n) (hK : ∀ {nd' gv' : Nat → Nat → Int} {fs' wn' pr' : Nat → Int} {fi' : Nat} {tm' gm' : Prop} (g' : aG) (a' b' : Nat) (x5 x6 : Option aA), XS Pn T g' nd' gv' fs' wn' pr' fi' tm' gm' → MS Pn T g' nd' gv' fs' wn' pr' fi' tm' gm' → fi' ≤ fi + 1 → a ≤ a' + 1 → b ≤ b' + 6 → aw l E L_law 12 1286 [some sV, some (rV 0), some (rV (2 * T + 269)), some (rV (2 * T + 283)), some (iV (ix : Int)), x5, x6] [] (S, g', a', b', false) P) : aw l E L_law 12 312 [some sV, some (rV 0), some (rV (2 * T + 269)), some (rV (2 * T + 283)), some (iV (ix : Int)), x5, x6] [] (S, g, a, b, false) P := by
  have hT8 := wx_T hW
  have hp6 := wx_P hW
  refine aw_al1 L_law_312 ?_
  refine aw_sl0 L_law_313 ?_
  refine aw_il4 L_law_314 ?_
  refine aw_c L_law_316 ?_
  refine aw_add L_law_317 (by constructor <;> omega) ?_
  refine aw_sld L_law_318 (show (ix : Int) + 1 = ((ix + 1 : Nat) : Int) by omega) (by omega) ?_
  rw [hp1]
  refine aw_sl0 L_law_319 ?_
  refine aw_il4 L_law_320 ?_
  refine aw_c L_law_322 ?_
  refine aw_add L_law_323 (by constructor <;> omega) ?_
  refine aw_sld L_law_324 (show (ix : Int) + 2 = ((ix + 2 : Nat) : Int) by omega) (by omega) ?_
  rw [hp2]
  refine aw_al3 L_law_325 ?_
  refine aw_S4 L_law_326 rfl rfl rfl rfl rfl rfl ?_
  refine c_L_want hW hX ha hb (fun z0 z1 z2 z3 z4 z5 z6 z7 => ?_) (fun z0 => ?_) (fun z0 z1 => ?_)
  · show aw _ _ _ _ _ _ _ _ _
    have hS1 : MS Pn T (upA z5 (2 * T + 283) 0 (wn z0)) nd gv fs wn pr fi tm gm := MS_fr hS (fun x y q1 q2 q3 => (upA_ne (by omega)).trans (z7 x y (by omega)))
    refine aw_is5 L_law_329 ?_
    refine aw_al2 L_law_331 ?_
    refine aw_sl0 L_law_332 ?_
    refine aw_il4 L_law_333 ?_
    refine aw_c L_law_335 ?_
    refine aw_add L_law_336 (by constructor <;> omega) ?_
    refine aw_sld L_law_337 (show (ix : Int) + 1 = ((ix + 1 : Nat) : Int) by omega) (by omega) ?_
    rw [hp1]
    refine aw_sl0 L_law_338 ?_
    refine aw_il4 L_law_339 ?_
    refine aw_c L_law_341 ?_
    refine aw_add L_law_342 (by constructor <;> omega) ?_
    refine aw_sld L_law_343 (show (ix : Int) + 2 = ((ix + 2 : Nat) : Int) by omega) (by omega) ?_
    rw [hp2]
    refine aw_V2 L_law_344 rfl rfl rfl rfl (wx_o4 hW) ?_
    refine c_M_want hW hS1 (fun y0 y1 y2 y3 y4 y5 y6 y7 y8 => ?_) (fun y0 y1 y2 y3 y4 => ?_) (fun y0 y1 y2 y3 y4 y5 => ?_)
    · have e_p : z0 = y0 := by omega
      subst e_p
      have hS2 := y6
      have e0 := y7
      have hX2 := XS_lo (g' := y5) z6 hT8.1 (fun x y q => (y8 x y (Or.inl q)).trans ((upA_ne (by omega))))
      have e1 : (y5) (2 * T + 283) 0 = (wn z0) := (y8 _ _ (Or.inr rfl)).trans (upA_eq _ _ _ _)
      show aw _ _ _ _ _ _ _ _ _
      refine aw_is6 L_law_347 ?_
      refine aw_al2 L_law_349 ?_
      refine aw_V0 L_law_350 rfl rfl (wx_o4 hW) ?_
      refine c_M_thrown hW ?_
      rw [e0]
      show aw _ _ _ _ _ _ _ _ _
      refine aw_il5 L_law_353 ?_
      refine aw_ceq L_law_355 (fun h355 => ?_) (fun h355 => ?_)
      · skip
        refine aw_il5 L_law_360 ?_
        refine aw_zne L_law_362 (fun h362 => ?_) (fun h362 => ?_)
        · skip
          exact absurd rfl h362
        · skip
          refine aw_al3 L_law_365 ?_
          refine aw_c L_law_366 ?_
          refine aw_la L_law_367 (wx_out hW) (show (0 : Int) = ((0 : Nat) : Int) from rfl) (by omega) ?_
          rw [e1]
          refine aw_il6 L_law_368 ?_
          refine aw_i2l L_law_370 ?_
          refine aw_lcmp L_law_371 (fun h371 => ?_) (fun z371 hz371 h371 => ?_)
          · skip
            refine aw_zeq L_law_372 (fun h372 => ?_) (fun h372 => ?_)
            · skip
              exact aw_go L_law_377 (hK _ _ _ _ _ hX2 hS2 (by omega) (by omega) (by omega))
            · skip
              exact absurd rfl h372
          · skip
            refine aw_zeq L_law_372 (fun h372 => ?_) (fun h372 => ?_)
            · skip
              exact absurd rfl h371
            · skip
              exact absurd rfl h371
      · skip
        exact absurd rfl h355
    · exfalso
      first | contradiction | omega
    · exfalso
      first | contradiction | omega
  · show aw _ _ _ _ _ _ _ _ _
    have hS1 : MS Pn T (g) nd gv fs wn pr fi tm gm := MS_fr hS (fun x y q1 q2 q3 => rfl)
    refine aw_is5 L_law_329 ?_
    refine aw_al2 L_law_331 ?_
    refine aw_sl0 L_law_332 ?_
    refine aw_il4 L_law_333 ?_
    refine aw_c L_law_335 ?_
    refine aw_add L_law_336 (by constructor <;> omega) ?_
    refine aw_sld L_law_337 (show (ix : Int) + 1 = ((ix + 1 : Nat) : Int) by omega) (by omega) ?_
    rw [hp1]
    refine aw_sl0 L_law_338 ?_
    refine aw_il4 L_law_339 ?_
    refine aw_c L_law_341 ?_
    refine aw_add L_law_342 (by constructor <;> omega) ?_
    refine aw_sld L_law_343 (show (ix : Int) + 2 = ((ix + 2 : Nat) : Int) by omega) (by omega) ?_
    rw [hp2]
    refine aw_V2 L_law_344 rfl rfl rfl rfl (wx_o4 hW) ?_
    refine c_M_want hW hS1 (fun y0 y1 y2 y3 y4 y5 y6 y7 y8 => ?_) (fun y0 y1 y2 y3 y4 => ?_) (fun y0 y1 y2 y3 y4 y5 => ?_)
    · exfalso
      first | contradiction | omega
    · have hS2 := y2
      have e0 := y3
      have hX2 := XS_lo (g' := y1) hX hT8.1 (fun x y q => (y4 x y (Or.inl q)))
      show aw _ _ _ _ _ _ _ _ _
      refine aw_is6 L_law_347 ?_
      refine aw_al2 L_law_349 ?_
      refine aw_V0 L_law_350 rfl rfl (wx_o4 hW) ?_
      refine c_M_thrown hW ?_
      rw [e0]
      show aw _ _ _ _ _ _ _ _ _
      refine aw_il5 L_law_353 ?_
      refine aw_ceq L_law_355 (fun h355 => ?_) (fun h355 => ?_)
      · skip
        refine aw_il5 L_law_360 ?_
        refine aw_zne L_law_362 (fun h362 => ?_) (fun h362 => ?_)
        · skip
          exact aw_go L_law_377 (hK _ _ _ _ _ hX2 hS2 (by omega) (by omega) (by omega))
        · skip
          exact absurd h362 (by decide)
      · skip
        exact absurd rfl h355
    · exfalso
      first | contradiction | omega
  · show aw _ _ _ _ _ _ _ _ _
    have hS1 : MS Pn T (g) nd gv fs wn pr fi tm gm := MS_fr hS (fun x y q1 q2 q3 => rfl)
    refine aw_is5 L_law_329 ?_
    refine aw_al2 L_law_331 ?_
    refine aw_sl0 L_law_332 ?_
    refine aw_il4 L_law_333 ?_
    refine aw_c L_law_335 ?_
    refine aw_add L_law_336 (by constructor <;> omega) ?_
    refine aw_sld L_law_337 (show (ix : Int) + 1 = ((ix + 1 : Nat) : Int) by omega) (by omega) ?_
    rw [hp1]
    refine aw_sl0 L_law_338 ?_
    refine aw_il4 L_law_339 ?_
    refine aw_c L_law_341 ?_
    refine aw_add L_law_342 (by constructor <;> omega) ?_
    refine aw_sld L_law_343 (show (ix : Int) + 2 = ((ix + 2 : Nat) : Int) by omega) (by omega) ?_
    rw [hp2]
    refine aw_V2 L_law_344 rfl rfl rfl rfl (wx_o4 hW) ?_
    refine c_M_want hW hS1 (fun y0 y1 y2 y3 y4 y5 y6 y7 y8 => ?_) (fun y0 y1 y2 y3 y4 => ?_) (fun y0 y1 y2 y3 y4 y5 => ?_)
    · exfalso
      first | contradiction | omega
    · exfalso
      first | contradiction | omega
    · have hS2 := y3
      have e0 := y4
      have hX2 := XS_lo (g' := y2) hX hT8.1 (fun x y q => (y5 x y (Or.inl q)))
      show aw _ _ _ _ _ _ _ _ _
      refine aw_is6 L_law_347 ?_
      refine aw_al2 L_law_349 ?_
      refine aw_V0 L_law_350 rfl rfl (wx_o4 hW) ?_
      refine c_M_thrown hW ?_
      rw [e0]
      show aw _ _ _ _ _ _ _ _ _
      refine aw_il5 L_law_353 ?_
      refine aw_ceq L_law_355 (fun h355 => ?_) (fun h355 => ?_)
      · skip
        refine aw_il5 L_law_360 ?_
        refine aw_zne L_law_362 (fun h362 => ?_) (fun h362 => ?_)
        · skip
          exact aw_go L_law_377 (hK _ _ _ _ _ hX2 hS2 (by omega) (by omega) (by omega))
        · skip
          exact absurd h362 (by decide)
      · skip
        exact absurd rfl h355
theorem l_fire {x5 x6 : Option aA} {t : Int} (hn : E.1.2.2.1 ≤ 2562) (hi : ix + 5 ≤ E.1.2.2.1) (hW : WX S Pn T) (hX : XS Pn T g nd gv fs wn pr fi tm gm) (hS : MS Pn T g nd gv fs wn pr fi tm gm) (ha : 1 ≤ a) (hb : 6 ≤ b) (hfi : fi ≤ 100000) (hp1 : (E.1.2.2.2 (ix + 1)).toInt = t) (hK : ∀ {nd' gv' : Nat → Nat → Int} {fs' wn' pr' : Nat → Int} {fi' : Nat} {tm' gm' : Prop} (g' : aG) (a' b' : Nat) (x5 x6 : Option aA), XS Pn T g' nd' gv' fs' wn' pr' fi' tm' gm' → MS Pn T g' nd' gv' fs' wn' pr' fi' tm' gm' → fi' ≤ fi + 1 → a ≤ a' + 1 → b ≤ b' + 6 → aw l E L_law 12 1286 [some sV, some (rV 0), some (rV (2 * T + 269)), some (rV (2 * T + 283)), some (iV (ix : Int)), x5, x6] [] (S, g', a', b', false) P) : aw l E L_law 12 380 [some sV, some (rV 0), some (rV (2 * T + 269)), some (rV (2 * T + 283)), some (iV (ix : Int)), x5, x6] [] (S, g, a, b, false) P := by
  have hT8 := wx_T hW
  have hp6 := wx_P hW
  have hpr : ∀ p, p < Pn → 0 ≤ pr p ∧ pr p ≤ 1000000 := fun p hp => by
    have := (hX.2.2.2.1 p hp).2
    omega
  refine aw_al1 L_law_380 ?_
  refine aw_sl0 L_law_381 ?_
  refine aw_il4 L_law_382 ?_
  refine aw_c L_law_384 ?_
  refine aw_add L_law_385 (by constructor <;> omega) ?_
  refine aw_sld L_law_386 (show (ix : Int) + 1 = ((ix + 1 : Nat) : Int) by omega) (by omega) ?_
  rw [hp1]
  refine aw_al3 L_law_387 ?_
  refine aw_S3 L_law_388 rfl rfl rfl rfl rfl ?_
  refine c_L_fire hW hX ha hb hfi (fun z0 z1 z2 z3 z4 z5 z6 => ?_) (fun z0 z1 z2 z3 => ?_) (fun z0 => ?_)
  · show aw _ _ _ _ _ _ _ _ _
    have hS1 : MS Pn T (upA z4 (2 * T + 283) 0 1) nd gv fs wn pr fi tm gm := MS_fr hS (fun x y q1 q2 q3 => (upA_ne (by omega)).trans (z6 x y (by omega)))
    refine aw_is5 L_law_391 ?_
    refine aw_al2 L_law_393 ?_
    refine aw_sl0 L_law_394 ?_
    refine aw_il4 L_law_395 ?_
    refine aw_c L_law_397 ?_
    refine aw_add L_law_398 (by constructor <;> omega) ?_
    refine aw_sld L_law_399 (show (ix : Int) + 1 = ((ix + 1 : Nat) : Int) by omega) (by omega) ?_
    rw [hp1]
    refine aw_V1 L_law_400 rfl rfl rfl (wx_o4 hW) ?_
    refine c_M_fire hW hS1 hX.2.1 hpr hfi (fun y0 y1 y2 y3 y4 y5 y6 y7 => ?_) (fun y0 y1 y2 y3 y4 y5 y6 y7 => ?_) (fun y0 y1 y2 y3 y4 => ?_)
    · have e_t : z0 = y0 := by omega
      subst e_t
      have hS2 := y5
      have e0 := y6
      have hX2 := XS_lo (g' := y4) z5 hT8.1 (fun x y q => (y7 x y (Or.inl q)).trans ((upA_ne (by omega))))
      have e1 : (y4) (2 * T + 283) 0 = 1 := (y7 _ _ (Or.inr rfl)).trans (upA_eq _ _ _ _)
      show aw _ _ _ _ _ _ _ _ _
      refine aw_is6 L_law_403 ?_
      refine aw_al2 L_law_405 ?_
      refine aw_V0 L_law_406 rfl rfl (wx_o4 hW) ?_
      refine c_M_thrown hW ?_
      rw [e0]
      show aw _ _ _ _ _ _ _ _ _
      refine aw_il5 L_law_409 ?_
      refine aw_ceq L_law_411 (fun h411 => ?_) (fun h411 => ?_)
      · skip
        refine aw_il5 L_law_416 ?_
        refine aw_zne L_law_418 (fun h418 => ?_) (fun h418 => ?_)
        · skip
          exact absurd rfl h418
        · skip
          refine aw_al3 L_law_421 ?_
          refine aw_c L_law_422 ?_
          refine aw_la L_law_423 (wx_out hW) (show (0 : Int) = ((0 : Nat) : Int) from rfl) (by omega) ?_
          rw [e1]
          refine aw_il6 L_law_424 ?_
          refine aw_zeq L_law_426 (fun h426 => ?_) (fun h426 => ?_)
          · skip
            refine aw_lc L_law_433 ?_
            refine aw_lcmp L_law_434 (fun h434 => ?_) (fun z434 hz434 h434 => ?_)
            · skip
              refine aw_zeq L_law_435 (fun h435 => ?_) (fun h435 => ?_)
              · skip
                exact aw_go L_law_440 (hK _ _ _ _ _ hX2 hS2 (by omega) (by omega) (by omega))
              · skip
                exact absurd rfl h435
            · skip
              refine aw_zeq L_law_435 (fun h435 => ?_) (fun h435 => ?_)
              · skip
                exact absurd h426 (by decide)
              · skip
                exact absurd h426 (by decide)
          · skip
            refine aw_lc L_law_429 ?_
            refine aw_go L_law_430 ?_
            refine aw_lcmp L_law_434 (fun h434 => ?_) (fun z434 hz434 h434 => ?_)
            · skip
              refine aw_zeq L_law_435 (fun h435 => ?_) (fun h435 => ?_)
              · skip
                exact aw_go L_law_440 (hK _ _ _ _ _ hX2 hS2 (by omega) (by omega) (by omega))
              · skip
                exact absurd rfl h435
            · skip
              refine aw_zeq L_law_435 (fun h435 => ?_) (fun h435 => ?_)
              · skip
                exact absurd rfl h434
              · skip
                exact absurd rfl h434
      · skip
        exact absurd rfl h411
    · exfalso
      have e_t : z0 = y0 := by omega
      subst e_t
      first | contradiction | omega
    · exfalso
      first | contradiction | omega
  · show aw _ _ _ _ _ _ _ _ _
    have hS1 : MS Pn T (upA g (2 * T + 283) 0 0) nd gv fs wn pr fi tm gm := MS_fr hS (fun x y q1 q2 q3 => (upA_ne (by omega)))
    refine aw_is5 L_law_391 ?_
    refine aw_al2 L_law_393 ?_
    refine aw_sl0 L_law_394 ?_
    refine aw_il4 L_law_395 ?_
    refine aw_c L_law_397 ?_
    refine aw_add L_law_398 (by constructor <;> omega) ?_
    refine aw_sld L_law_399 (show (ix : Int) + 1 = ((ix + 1 : Nat) : Int) by omega) (by omega) ?_
    rw [hp1]
    refine aw_V1 L_law_400 rfl rfl rfl (wx_o4 hW) ?_
    refine c_M_fire hW hS1 hX.2.1 hpr hfi (fun y0 y1 y2 y3 y4 y5 y6 y7 => ?_) (fun y0 y1 y2 y3 y4 y5 y6 y7 => ?_) (fun y0 y1 y2 y3 y4 => ?_)
    · exfalso
      have e_t : z0 = y0 := by omega
      subst e_t
      first | contradiction | omega
    · have e_t : z0 = y0 := by omega
      subst e_t
      have hS2 := y5
      have e0 := y6
      have hX2 := XS_lo (g' := y4) hX hT8.1 (fun x y q => (y7 x y (Or.inl q)).trans ((upA_ne (by omega))))
      have e1 : (y4) (2 * T + 283) 0 = 0 := (y7 _ _ (Or.inr rfl)).trans (upA_eq _ _ _ _)
      show aw _ _ _ _ _ _ _ _ _
      refine aw_is6 L_law_403 ?_
      refine aw_al2 L_law_405 ?_
      refine aw_V0 L_law_406 rfl rfl (wx_o4 hW) ?_
      refine c_M_thrown hW ?_
      rw [e0]
      show aw _ _ _ _ _ _ _ _ _
      refine aw_il5 L_law_409 ?_
      refine aw_ceq L_law_411 (fun h411 => ?_) (fun h411 => ?_)
      · skip
        refine aw_il5 L_law_416 ?_
        refine aw_zne L_law_418 (fun h418 => ?_) (fun h418 => ?_)
        · skip
          exact absurd rfl h418
        · skip
          refine aw_al3 L_law_421 ?_
          refine aw_c L_law_422 ?_
          refine aw_la L_law_423 (wx_out hW) (show (0 : Int) = ((0 : Nat) : Int) from rfl) (by omega) ?_
          rw [e1]
          refine aw_il6 L_law_424 ?_
          refine aw_zeq L_law_426 (fun h426 => ?_) (fun h426 => ?_)
          · skip
            refine aw_lc L_law_433 ?_
            refine aw_lcmp L_law_434 (fun h434 => ?_) (fun z434 hz434 h434 => ?_)
            · skip
              refine aw_zeq L_law_435 (fun h435 => ?_) (fun h435 => ?_)
              · skip
                exact aw_go L_law_440 (hK _ _ _ _ _ hX2 hS2 (by omega) (by omega) (by omega))
              · skip
                exact absurd rfl h435
            · skip
              refine aw_zeq L_law_435 (fun h435 => ?_) (fun h435 => ?_)
              · skip
                exact absurd rfl h434
              · skip
                exact absurd rfl h434
          · skip
            refine aw_lc L_law_429 ?_
            refine aw_go L_law_430 ?_
            refine aw_lcmp L_law_434 (fun h434 => ?_) (fun z434 hz434 h434 => ?_)
            · skip
              refine aw_zeq L_law_435 (fun h435 => ?_) (fun h435 => ?_)
              · skip
                exact aw_go L_law_440 (hK _ _ _ _ _ hX2 hS2 (by omega) (by omega) (by omega))
              · skip
                exact absurd rfl h435
            · skip
              refine aw_zeq L_law_435 (fun h435 => ?_) (fun h435 => ?_)
              · skip
                exact absurd rfl h426
              · skip
                exact absurd rfl h426
      · skip
        exact absurd rfl h411
    · exfalso
      first | contradiction | omega
  · show aw _ _ _ _ _ _ _ _ _
    have hS1 : MS Pn T (g) nd gv fs wn pr fi tm gm := MS_fr hS (fun x y q1 q2 q3 => rfl)
    refine aw_is5 L_law_391 ?_
    refine aw_al2 L_law_393 ?_
    refine aw_sl0 L_law_394 ?_
    refine aw_il4 L_law_395 ?_
    refine aw_c L_law_397 ?_
    refine aw_add L_law_398 (by constructor <;> omega) ?_
    refine aw_sld L_law_399 (show (ix : Int) + 1 = ((ix + 1 : Nat) : Int) by omega) (by omega) ?_
    rw [hp1]
    refine aw_V1 L_law_400 rfl rfl rfl (wx_o4 hW) ?_
    refine c_M_fire hW hS1 hX.2.1 hpr hfi (fun y0 y1 y2 y3 y4 y5 y6 y7 => ?_) (fun y0 y1 y2 y3 y4 y5 y6 y7 => ?_) (fun y0 y1 y2 y3 y4 => ?_)
    · exfalso
      first | contradiction | omega
    · exfalso
      first | contradiction | omega
    · have hS2 := y2
      have e0 := y3
      have hX2 := XS_lo (g' := y1) hX hT8.1 (fun x y q => (y4 x y (Or.inl q)))
      show aw _ _ _ _ _ _ _ _ _
      refine aw_is6 L_law_403 ?_
      refine aw_al2 L_law_405 ?_
      refine aw_V0 L_law_406 rfl rfl (wx_o4 hW) ?_
      refine c_M_thrown hW ?_
      rw [e0]
      show aw _ _ _ _ _ _ _ _ _
      refine aw_il5 L_law_409 ?_
      refine aw_ceq L_law_411 (fun h411 => ?_) (fun h411 => ?_)
      · skip
        refine aw_il5 L_law_416 ?_
        refine aw_zne L_law_418 (fun h418 => ?_) (fun h418 => ?_)
        · skip
          exact aw_go L_law_440 (hK _ _ _ _ _ hX2 hS2 (by omega) (by omega) (by omega))
        · skip
          exact absurd h418 (by decide)
      · skip
        exact absurd rfl h411
theorem l_at {x5 x6 : Option aA} {p : Int} (hn : E.1.2.2.1 ≤ 2562) (hi : ix + 5 ≤ E.1.2.2.1) (hW : WX S Pn T) (hX : XS Pn T g nd gv fs wn pr fi tm gm) (hS : MS Pn T g nd gv fs wn pr fi tm gm) (ha : 1 ≤ a) (hb : 6 ≤ b) (hfi : fi ≤ 100000) (hp1 : (E.1.2.2.2 (ix + 1)).toInt = p) (hK : ∀ {nd' gv' : Nat → Nat → Int} {fs' wn' pr' : Nat → Int} {fi' : Nat} {tm' gm' : Prop} (g' : aG) (a' b' : Nat) (x5 x6 : Option aA), XS Pn T g' nd' gv' fs' wn' pr' fi' tm' gm' → MS Pn T g' nd' gv' fs' wn' pr' fi' tm' gm' → fi' ≤ fi + 1 → a ≤ a' + 1 → b ≤ b' + 6 → aw l E L_law 12 1286 [some sV, some (rV 0), some (rV (2 * T + 269)), some (rV (2 * T + 283)), some (iV (ix : Int)), x5, x6] [] (S, g', a', b', false) P) : aw l E L_law 12 443 [some sV, some (rV 0), some (rV (2 * T + 269)), some (rV (2 * T + 283)), some (iV (ix : Int)), x5, x6] [] (S, g, a, b, false) P := by
  have hT8 := wx_T hW
  have hp6 := wx_P hW
  refine aw_al1 L_law_443 ?_
  refine aw_sl0 L_law_444 ?_
  refine aw_il4 L_law_445 ?_
  refine aw_c L_law_447 ?_
  refine aw_add L_law_448 (by constructor <;> omega) ?_
  refine aw_sld L_law_449 (show (ix : Int) + 1 = ((ix + 1 : Nat) : Int) by omega) (by omega) ?_
  rw [hp1]
  refine aw_al3 L_law_450 ?_
  refine aw_S3 L_law_451 rfl rfl rfl rfl rfl ?_
  refine c_L_at hW hX ha hb (fun z0 z1 z2 => ?_) (fun z0 => ?_)
  · show aw _ _ _ _ _ _ _ _ _
    have hS1 : MS Pn T (upA g (2 * T + 283) 0 (pr z0)) nd gv fs wn pr fi tm gm := MS_fr hS (fun x y q1 q2 q3 => (upA_ne (by omega)))
    refine aw_is5 L_law_454 ?_
    refine aw_al2 L_law_456 ?_
    refine aw_sl0 L_law_457 ?_
    refine aw_il4 L_law_458 ?_
    refine aw_c L_law_460 ?_
    refine aw_add L_law_461 (by constructor <;> omega) ?_
    refine aw_sld L_law_462 (show (ix : Int) + 1 = ((ix + 1 : Nat) : Int) by omega) (by omega) ?_
    rw [hp1]
    refine aw_V1 L_law_463 rfl rfl rfl (wx_o4 hW) ?_
    refine c_M_at hW hS1 (fun y0 y1 y2 y3 y4 y5 y6 => ?_) (fun y0 y1 y2 y3 y4 => ?_)
    · have e_p : z0 = y0 := by omega
      subst e_p
      have hS2 := y4
      have e0 := y5
      have hX2 := XS_lo (g' := y3) hX hT8.1 (fun x y q => (y6 x y (Or.inl q)).trans ((upA_ne (by omega))))
      have e1 : (y3) (2 * T + 283) 0 = (pr z0) := (y6 _ _ (Or.inr rfl)).trans (upA_eq _ _ _ _)
      show aw _ _ _ _ _ _ _ _ _
      refine aw_is6 L_law_466 ?_
      refine aw_al2 L_law_468 ?_
      refine aw_V0 L_law_469 rfl rfl (wx_o4 hW) ?_
      refine c_M_thrown hW ?_
      rw [e0]
      show aw _ _ _ _ _ _ _ _ _
      refine aw_il5 L_law_472 ?_
      refine aw_ceq L_law_474 (fun h474 => ?_) (fun h474 => ?_)
      · skip
        refine aw_il5 L_law_479 ?_
        refine aw_zne L_law_481 (fun h481 => ?_) (fun h481 => ?_)
        · skip
          exact absurd rfl h481
        · skip
          refine aw_al3 L_law_484 ?_
          refine aw_c L_law_485 ?_
          refine aw_la L_law_486 (wx_out hW) (show (0 : Int) = ((0 : Nat) : Int) from rfl) (by omega) ?_
          rw [e1]
          refine aw_il6 L_law_487 ?_
          refine aw_i2l L_law_489 ?_
          refine aw_lcmp L_law_490 (fun h490 => ?_) (fun z490 hz490 h490 => ?_)
          · skip
            refine aw_zeq L_law_491 (fun h491 => ?_) (fun h491 => ?_)
            · skip
              exact aw_go L_law_496 (hK _ _ _ _ _ hX2 hS2 (by omega) (by omega) (by omega))
            · skip
              exact absurd rfl h491
          · skip
            refine aw_zeq L_law_491 (fun h491 => ?_) (fun h491 => ?_)
            · skip
              exact absurd rfl h490
            · skip
              exact absurd rfl h490
      · skip
        exact absurd rfl h474
    · exfalso
      first | contradiction | omega
  · show aw _ _ _ _ _ _ _ _ _
    have hS1 : MS Pn T (g) nd gv fs wn pr fi tm gm := MS_fr hS (fun x y q1 q2 q3 => rfl)
    refine aw_is5 L_law_454 ?_
    refine aw_al2 L_law_456 ?_
    refine aw_sl0 L_law_457 ?_
    refine aw_il4 L_law_458 ?_
    refine aw_c L_law_460 ?_
    refine aw_add L_law_461 (by constructor <;> omega) ?_
    refine aw_sld L_law_462 (show (ix : Int) + 1 = ((ix + 1 : Nat) : Int) by omega) (by omega) ?_
    rw [hp1]
    refine aw_V1 L_law_463 rfl rfl rfl (wx_o4 hW) ?_
    refine c_M_at hW hS1 (fun y0 y1 y2 y3 y4 y5 y6 => ?_) (fun y0 y1 y2 y3 y4 => ?_)
    · exfalso
      first | contradiction | omega
    · have hS2 := y2
      have e0 := y3
      have hX2 := XS_lo (g' := y1) hX hT8.1 (fun x y q => (y4 x y (Or.inl q)))
      show aw _ _ _ _ _ _ _ _ _
      refine aw_is6 L_law_466 ?_
      refine aw_al2 L_law_468 ?_
      refine aw_V0 L_law_469 rfl rfl (wx_o4 hW) ?_
      refine c_M_thrown hW ?_
      rw [e0]
      show aw _ _ _ _ _ _ _ _ _
      refine aw_il5 L_law_472 ?_
      refine aw_ceq L_law_474 (fun h474 => ?_) (fun h474 => ?_)
      · skip
        refine aw_il5 L_law_479 ?_
        refine aw_zne L_law_481 (fun h481 => ?_) (fun h481 => ?_)
        · skip
          exact aw_go L_law_496 (hK _ _ _ _ _ hX2 hS2 (by omega) (by omega) (by omega))
        · skip
          exact absurd h481 (by decide)
      · skip
        exact absurd rfl h474
theorem l_explore {x5 x6 : Option aA}  (hn : E.1.2.2.1 ≤ 2562) (hi : ix + 5 ≤ E.1.2.2.1) (hW : WX S Pn T) (hX : XS Pn T g nd gv fs wn pr fi tm gm) (hS : MS Pn T g nd gv fs wn pr fi tm gm) (ha : 1 ≤ a) (hb : 6 ≤ b) (hfi : fi ≤ 100000)  (hK : ∀ {nd' gv' : Nat → Nat → Int} {fs' wn' pr' : Nat → Int} {fi' : Nat} {tm' gm' : Prop} (g' : aG) (a' b' : Nat) (x5 x6 : Option aA), XS Pn T g' nd' gv' fs' wn' pr' fi' tm' gm' → MS Pn T g' nd' gv' fs' wn' pr' fi' tm' gm' → fi' ≤ fi + 1 → a ≤ a' + 1 → b ≤ b' + 6 → aw l E L_law 12 1286 [some sV, some (rV 0), some (rV (2 * T + 269)), some (rV (2 * T + 283)), some (iV (ix : Int)), x5, x6] [] (S, g', a', b', false) P) : aw l E L_law 12 512 [some sV, some (rV 0), some (rV (2 * T + 269)), some (rV (2 * T + 283)), some (iV (ix : Int)), x5, x6] [] (S, g, a, b, false) P := by
  have hT8 := wx_T hW
  have hp6 := wx_P hW
  refine aw_al1 L_law_512 ?_
  refine aw_al3 L_law_513 ?_
  refine aw_S2 L_law_514 rfl rfl rfl rfl ?_
  refine c_L_explore hW hX ha hb (fun z0 z1 z2 z3 => ?_) (fun z0 z1 z2 z3 => ?_)
  · show aw _ _ _ _ _ _ _ _ _
    have hS1 : MS Pn T (upA z1 (2 * T + 283) 0 ((grT Pn T nd gv fs 200).2.1 : Int)) nd gv fs wn pr fi tm gm := MS_fr hS (fun x y q1 q2 q3 => (upA_ne (by omega)).trans (z3 x y (by omega)))
    refine aw_is5 L_law_517 ?_
    refine aw_al2 L_law_519 ?_
    refine aw_V0 L_law_520 rfl rfl (wx_o4 hW) ?_
    refine c_M_explore hW hS1 hX.2.1 (fun y0 y1 y2 y3 y4 => ?_) (fun y0 y1 y2 y3 y4 => ?_)
    · have hS2 := y2
      have e0 := y3
      have hX2 := XS_lo (g' := y1) z2 hT8.1 (fun x y q => (y4 x y (Or.inl q)).trans ((upA_ne (by omega))))
      have e1 : (y1) (2 * T + 283) 0 = ((grT Pn T nd gv fs 200).2.1 : Int) := (y4 _ _ (Or.inr rfl)).trans (upA_eq _ _ _ _)
      show aw _ _ _ _ _ _ _ _ _
      refine aw_is6 L_law_523 ?_
      refine aw_al2 L_law_525 ?_
      refine aw_V0 L_law_526 rfl rfl (wx_o4 hW) ?_
      refine c_M_thrown hW ?_
      rw [e0]
      show aw _ _ _ _ _ _ _ _ _
      refine aw_il5 L_law_529 ?_
      refine aw_ceq L_law_531 (fun h531 => ?_) (fun h531 => ?_)
      · skip
        refine aw_il5 L_law_536 ?_
        refine aw_zne L_law_538 (fun h538 => ?_) (fun h538 => ?_)
        · skip
          exact absurd rfl h538
        · skip
          refine aw_al3 L_law_541 ?_
          refine aw_c L_law_542 ?_
          refine aw_la L_law_543 (wx_out hW) (show (0 : Int) = ((0 : Nat) : Int) from rfl) (by omega) ?_
          rw [e1]
          refine aw_il6 L_law_544 ?_
          refine aw_i2l L_law_546 ?_
          refine aw_lcmp L_law_547 (fun h547 => ?_) (fun z547 hz547 h547 => ?_)
          · skip
            refine aw_zeq L_law_548 (fun h548 => ?_) (fun h548 => ?_)
            · skip
              exact aw_go L_law_553 (hK _ _ _ _ _ hX2 hS2 (by omega) (by omega) (by omega))
            · skip
              exact absurd rfl h548
          · skip
            refine aw_zeq L_law_548 (fun h548 => ?_) (fun h548 => ?_)
            · skip
              exact absurd rfl h547
            · skip
              exact absurd rfl h547
      · skip
        exact absurd rfl h531
    · exfalso
      have q9 := z0.symm.trans y0
      exact absurd q9 (by decide)
  · show aw _ _ _ _ _ _ _ _ _
    have hS1 : MS Pn T (z1) nd gv fs wn pr fi tm gm := MS_fr hS (fun x y q1 q2 q3 => z3 x y (by omega))
    refine aw_is5 L_law_517 ?_
    refine aw_al2 L_law_519 ?_
    refine aw_V0 L_law_520 rfl rfl (wx_o4 hW) ?_
    refine c_M_explore hW hS1 hX.2.1 (fun y0 y1 y2 y3 y4 => ?_) (fun y0 y1 y2 y3 y4 => ?_)
    · exfalso
      have q9 := z0.symm.trans y0
      exact absurd q9 (by decide)
    · have hS2 := y2
      have e0 := y3
      have hX2 := XS_lo (g' := y1) z2 hT8.1 (fun x y q => (y4 x y (Or.inl q)))
      show aw _ _ _ _ _ _ _ _ _
      refine aw_is6 L_law_523 ?_
      refine aw_al2 L_law_525 ?_
      refine aw_V0 L_law_526 rfl rfl (wx_o4 hW) ?_
      refine c_M_thrown hW ?_
      rw [e0]
      show aw _ _ _ _ _ _ _ _ _
      refine aw_il5 L_law_529 ?_
      refine aw_ceq L_law_531 (fun h531 => ?_) (fun h531 => ?_)
      · skip
        refine aw_il5 L_law_536 ?_
        refine aw_zne L_law_538 (fun h538 => ?_) (fun h538 => ?_)
        · skip
          exact aw_go L_law_553 (hK _ _ _ _ _ hX2 hS2 (by omega) (by omega) (by omega))
        · skip
          exact absurd h538 (by decide)
      · skip
        exact absurd rfl h531
theorem l_count {x5 x6 : Option aA} {n p : Int} (hn : E.1.2.2.1 ≤ 2562) (hi : ix + 5 ≤ E.1.2.2.1) (hW : WX S Pn T) (hX : XS Pn T g nd gv fs wn pr fi tm gm) (hS : MS Pn T g nd gv fs wn pr fi tm gm) (ha : 1 ≤ a) (hb : 6 ≤ b) (hfi : fi ≤ 100000) (hp1 : (E.1.2.2.2 (ix + 1)).toInt = n) (hp2 : (E.1.2.2.2 (ix + 2)).toInt = p) (hK : ∀ {nd' gv' : Nat → Nat → Int} {fs' wn' pr' : Nat → Int} {fi' : Nat} {tm' gm' : Prop} (g' : aG) (a' b' : Nat) (x5 x6 : Option aA), XS Pn T g' nd' gv' fs' wn' pr' fi' tm' gm' → MS Pn T g' nd' gv' fs' wn' pr' fi' tm' gm' → fi' ≤ fi + 1 → a ≤ a' + 1 → b ≤ b' + 6 → aw l E L_law 12 1286 [some sV, some (rV 0), some (rV (2 * T + 269)), some (rV (2 * T + 283)), some (iV (ix : Int)), x5, x6] [] (S, g', a', b', false) P) : aw l E L_law 12 556 [some sV, some (rV 0), some (rV (2 * T + 269)), some (rV (2 * T + 283)), some (iV (ix : Int)), x5, x6] [] (S, g, a, b, false) P := by
  have hT8 := wx_T hW
  have hp6 := wx_P hW
  refine aw_al1 L_law_556 ?_
  refine aw_sl0 L_law_557 ?_
  refine aw_il4 L_law_558 ?_
  refine aw_c L_law_560 ?_
  refine aw_add L_law_561 (by constructor <;> omega) ?_
  refine aw_sld L_law_562 (show (ix : Int) + 1 = ((ix + 1 : Nat) : Int) by omega) (by omega) ?_
  rw [hp1]
  refine aw_sl0 L_law_563 ?_
  refine aw_il4 L_law_564 ?_
  refine aw_c L_law_566 ?_
  refine aw_add L_law_567 (by constructor <;> omega) ?_
  refine aw_sld L_law_568 (show (ix : Int) + 2 = ((ix + 2 : Nat) : Int) by omega) (by omega) ?_
  rw [hp2]
  refine aw_al3 L_law_569 ?_
  refine aw_S4 L_law_570 rfl rfl rfl rfl rfl rfl ?_
  refine c_L_count hW hX ha hb (fun z0 z1 z2 z3 z4 z5 z6 => ?_) (fun z0 => ?_) (fun z0 z1 => ?_)
  · show aw _ _ _ _ _ _ _ _ _
    have hS1 : MS Pn T (upA g (2 * T + 283) 0 (if (grT Pn T nd gv fs 200).2.2.1 z1 z2 = 1000000000 then -1 else (grT Pn T nd gv fs 200).2.2.1 z1 z2)) nd gv fs wn pr fi tm gm := MS_fr hS (fun x y q1 q2 q3 => (upA_ne (by omega)))
    refine aw_is5 L_law_573 ?_
    refine aw_al2 L_law_575 ?_
    refine aw_sl0 L_law_576 ?_
    refine aw_il4 L_law_577 ?_
    refine aw_c L_law_579 ?_
    refine aw_add L_law_580 (by constructor <;> omega) ?_
    refine aw_sld L_law_581 (show (ix : Int) + 1 = ((ix + 1 : Nat) : Int) by omega) (by omega) ?_
    rw [hp1]
    refine aw_sl0 L_law_582 ?_
    refine aw_il4 L_law_583 ?_
    refine aw_c L_law_585 ?_
    refine aw_add L_law_586 (by constructor <;> omega) ?_
    refine aw_sld L_law_587 (show (ix : Int) + 2 = ((ix + 2 : Nat) : Int) by omega) (by omega) ?_
    rw [hp2]
    refine aw_V2 L_law_588 rfl rfl rfl rfl (wx_o4 hW) ?_
    refine c_M_count hW hS1 hX.2.1 (fun y0 y1 y2 y3 y4 y5 y6 => ?_) (fun y0 => ?_) (fun y0 y1 => ?_)
    · have e_n : z1 = y1 := by omega
      subst e_n
      have e_p : z2 = y2 := by omega
      subst e_p
      have hS2 := (MS_th hS1 0).1
      have e0 : (upA (upA g (2 * T + 283) 0 (if (grT Pn T nd gv fs 200).2.2.1 z1 z2 = 1000000000 then -1 else (grT Pn T nd gv fs 200).2.2.1 z1 z2)) (2 * T + 269) 0 0) (2 * T + 269) 0 = 0 := upA_eq _ _ _ _
      have hX2 := XS_lo (g' := upA (upA g (2 * T + 283) 0 (if (grT Pn T nd gv fs 200).2.2.1 z1 z2 = 1000000000 then -1 else (grT Pn T nd gv fs 200).2.2.1 z1 z2)) (2 * T + 269) 0 0) hX hT8.1 (fun x y q => (upA_ne (by omega)).trans ((upA_ne (by omega))))
      have e1 : (upA (upA g (2 * T + 283) 0 (if (grT Pn T nd gv fs 200).2.2.1 z1 z2 = 1000000000 then -1 else (grT Pn T nd gv fs 200).2.2.1 z1 z2)) (2 * T + 269) 0 0) (2 * T + 283) 0 = (if (grT Pn T nd gv fs 200).2.2.1 z1 z2 = 1000000000 then -1 else (grT Pn T nd gv fs 200).2.2.1 z1 z2) := (upA_ne (by omega)).trans (upA_eq _ _ _ _)
      show aw _ _ _ _ _ _ _ _ _
      refine aw_is6 L_law_591 ?_
      refine aw_al2 L_law_593 ?_
      refine aw_V0 L_law_594 rfl rfl (wx_o4 hW) ?_
      refine c_M_thrown hW ?_
      rw [e0]
      show aw _ _ _ _ _ _ _ _ _
      refine aw_il5 L_law_597 ?_
      refine aw_ceq L_law_599 (fun h599 => ?_) (fun h599 => ?_)
      · skip
        refine aw_il5 L_law_604 ?_
        refine aw_zne L_law_606 (fun h606 => ?_) (fun h606 => ?_)
        · skip
          exact absurd rfl h606
        · skip
          refine aw_al3 L_law_609 ?_
          refine aw_c L_law_610 ?_
          refine aw_la L_law_611 (wx_out hW) (show (0 : Int) = ((0 : Nat) : Int) from rfl) (by omega) ?_
          rw [e1]
          refine aw_il6 L_law_612 ?_
          refine aw_i2l L_law_614 ?_
          refine aw_lcmp L_law_615 (fun h615 => ?_) (fun z615 hz615 h615 => ?_)
          · skip
            refine aw_zeq L_law_616 (fun h616 => ?_) (fun h616 => ?_)
            · skip
              exact aw_go L_law_621 (hK _ _ _ _ _ hX2 hS2 (by omega) (by omega) (by omega))
            · skip
              exact absurd rfl h616
          · skip
            refine aw_zeq L_law_616 (fun h616 => ?_) (fun h616 => ?_)
            · skip
              exact absurd rfl h615
            · skip
              exact absurd rfl h615
      · skip
        exact absurd rfl h599
    · exfalso
      first | contradiction | omega
    · exfalso
      first | contradiction | omega
  · show aw _ _ _ _ _ _ _ _ _
    have hS1 : MS Pn T (g) nd gv fs wn pr fi tm gm := MS_fr hS (fun x y q1 q2 q3 => rfl)
    refine aw_is5 L_law_573 ?_
    refine aw_al2 L_law_575 ?_
    refine aw_sl0 L_law_576 ?_
    refine aw_il4 L_law_577 ?_
    refine aw_c L_law_579 ?_
    refine aw_add L_law_580 (by constructor <;> omega) ?_
    refine aw_sld L_law_581 (show (ix : Int) + 1 = ((ix + 1 : Nat) : Int) by omega) (by omega) ?_
    rw [hp1]
    refine aw_sl0 L_law_582 ?_
    refine aw_il4 L_law_583 ?_
    refine aw_c L_law_585 ?_
    refine aw_add L_law_586 (by constructor <;> omega) ?_
    refine aw_sld L_law_587 (show (ix : Int) + 2 = ((ix + 2 : Nat) : Int) by omega) (by omega) ?_
    rw [hp2]
    refine aw_V2 L_law_588 rfl rfl rfl rfl (wx_o4 hW) ?_
    refine c_M_count hW hS1 hX.2.1 (fun y0 y1 y2 y3 y4 y5 y6 => ?_) (fun y0 => ?_) (fun y0 y1 => ?_)
    · exfalso
      first | contradiction | omega
    · have hS2 := (MS_th hS1 1).1
      have e0 : (upA (g) (2 * T + 269) 0 1) (2 * T + 269) 0 = 1 := upA_eq _ _ _ _
      have hX2 := XS_lo (g' := upA (g) (2 * T + 269) 0 1) hX hT8.1 (fun x y q => (upA_ne (by omega)))
      show aw _ _ _ _ _ _ _ _ _
      refine aw_is6 L_law_591 ?_
      refine aw_al2 L_law_593 ?_
      refine aw_V0 L_law_594 rfl rfl (wx_o4 hW) ?_
      refine c_M_thrown hW ?_
      rw [e0]
      show aw _ _ _ _ _ _ _ _ _
      refine aw_il5 L_law_597 ?_
      refine aw_ceq L_law_599 (fun h599 => ?_) (fun h599 => ?_)
      · skip
        refine aw_il5 L_law_604 ?_
        refine aw_zne L_law_606 (fun h606 => ?_) (fun h606 => ?_)
        · skip
          exact aw_go L_law_621 (hK _ _ _ _ _ hX2 hS2 (by omega) (by omega) (by omega))
        · skip
          exact absurd h606 (by decide)
      · skip
        exact absurd rfl h599
    · exfalso
      first | contradiction | omega
  · show aw _ _ _ _ _ _ _ _ _
    have hS1 : MS Pn T (g) nd gv fs wn pr fi tm gm := MS_fr hS (fun x y q1 q2 q3 => rfl)
    refine aw_is5 L_law_573 ?_
    refine aw_al2 L_law_575 ?_
    refine aw_sl0 L_law_576 ?_
    refine aw_il4 L_law_577 ?_
    refine aw_c L_law_579 ?_
    refine aw_add L_law_580 (by constructor <;> omega) ?_
    refine aw_sld L_law_581 (show (ix : Int) + 1 = ((ix + 1 : Nat) : Int) by omega) (by omega) ?_
    rw [hp1]
    refine aw_sl0 L_law_582 ?_
    refine aw_il4 L_law_583 ?_
    refine aw_c L_law_585 ?_
    refine aw_add L_law_586 (by constructor <;> omega) ?_
    refine aw_sld L_law_587 (show (ix : Int) + 2 = ((ix + 2 : Nat) : Int) by omega) (by omega) ?_
    rw [hp2]
    refine aw_V2 L_law_588 rfl rfl rfl rfl (wx_o4 hW) ?_
    refine c_M_count hW hS1 hX.2.1 (fun y0 y1 y2 y3 y4 y5 y6 => ?_) (fun y0 => ?_) (fun y0 y1 => ?_)
    · exfalso
      first | contradiction | omega
    · exfalso
      first | contradiction | omega
    · have hS2 := (MS_th hS1 2).1
      have e0 : (upA (g) (2 * T + 269) 0 2) (2 * T + 269) 0 = 2 := upA_eq _ _ _ _
      have hX2 := XS_lo (g' := upA (g) (2 * T + 269) 0 2) hX hT8.1 (fun x y q => (upA_ne (by omega)))
      show aw _ _ _ _ _ _ _ _ _
      refine aw_is6 L_law_591 ?_
      refine aw_al2 L_law_593 ?_
      refine aw_V0 L_law_594 rfl rfl (wx_o4 hW) ?_
      refine c_M_thrown hW ?_
      rw [e0]
      show aw _ _ _ _ _ _ _ _ _
      refine aw_il5 L_law_597 ?_
      refine aw_ceq L_law_599 (fun h599 => ?_) (fun h599 => ?_)
      · skip
        refine aw_il5 L_law_604 ?_
        refine aw_zne L_law_606 (fun h606 => ?_) (fun h606 => ?_)
        · skip
          exact aw_go L_law_621 (hK _ _ _ _ _ hX2 hS2 (by omega) (by omega) (by omega))
        · skip
          exact absurd h606 (by decide)
      · skip
        exact absurd rfl h599
theorem l_node {x5 x6 : Option aA} {n k : Int} (hn : E.1.2.2.1 ≤ 2562) (hi : ix + 5 ≤ E.1.2.2.1) (hW : WX S Pn T) (hX : XS Pn T g nd gv fs wn pr fi tm gm) (hS : MS Pn T g nd gv fs wn pr fi tm gm) (ha : 1 ≤ a) (hb : 6 ≤ b) (hfi : fi ≤ 100000) (hp1 : (E.1.2.2.2 (ix + 1)).toInt = n) (hp2 : (E.1.2.2.2 (ix + 2)).toInt = k) (hK : ∀ {nd' gv' : Nat → Nat → Int} {fs' wn' pr' : Nat → Int} {fi' : Nat} {tm' gm' : Prop} (g' : aG) (a' b' : Nat) (x5 x6 : Option aA), XS Pn T g' nd' gv' fs' wn' pr' fi' tm' gm' → MS Pn T g' nd' gv' fs' wn' pr' fi' tm' gm' → fi' ≤ fi + 1 → a ≤ a' + 1 → b ≤ b' + 6 → aw l E L_law 12 1286 [some sV, some (rV 0), some (rV (2 * T + 269)), some (rV (2 * T + 283)), some (iV (ix : Int)), x5, x6] [] (S, g', a', b', false) P) : aw l E L_law 12 624 [some sV, some (rV 0), some (rV (2 * T + 269)), some (rV (2 * T + 283)), some (iV (ix : Int)), x5, x6] [] (S, g, a, b, false) P := by
  have hT8 := wx_T hW
  have hp6 := wx_P hW
  refine aw_al1 L_law_624 ?_
  refine aw_sl0 L_law_625 ?_
  refine aw_il4 L_law_626 ?_
  refine aw_c L_law_628 ?_
  refine aw_add L_law_629 (by constructor <;> omega) ?_
  refine aw_sld L_law_630 (show (ix : Int) + 1 = ((ix + 1 : Nat) : Int) by omega) (by omega) ?_
  rw [hp1]
  refine aw_sl0 L_law_631 ?_
  refine aw_il4 L_law_632 ?_
  refine aw_c L_law_634 ?_
  refine aw_add L_law_635 (by constructor <;> omega) ?_
  refine aw_sld L_law_636 (show (ix : Int) + 2 = ((ix + 2 : Nat) : Int) by omega) (by omega) ?_
  rw [hp2]
  refine aw_al3 L_law_637 ?_
  refine aw_S4 L_law_638 rfl rfl rfl rfl rfl rfl ?_
  refine c_L_node hW hX ha hb (fun z0 z1 z2 z3 z4 z5 z6 => ?_) (fun z0 => ?_) (fun z0 z1 => ?_) (fun z0 z1 z2 => ?_)
  · show aw _ _ _ _ _ _ _ _ _
    have hS1 : MS Pn T (upA g (2 * T + 283) 0 (tq (grT Pn T nd gv fs 200).2 z1 z2)) nd gv fs wn pr fi tm gm := MS_fr hS (fun x y q1 q2 q3 => (upA_ne (by omega)))
    refine aw_is5 L_law_641 ?_
    refine aw_al2 L_law_643 ?_
    refine aw_sl0 L_law_644 ?_
    refine aw_il4 L_law_645 ?_
    refine aw_c L_law_647 ?_
    refine aw_add L_law_648 (by constructor <;> omega) ?_
    refine aw_sld L_law_649 (show (ix : Int) + 1 = ((ix + 1 : Nat) : Int) by omega) (by omega) ?_
    rw [hp1]
    refine aw_sl0 L_law_650 ?_
    refine aw_il4 L_law_651 ?_
    refine aw_c L_law_653 ?_
    refine aw_add L_law_654 (by constructor <;> omega) ?_
    refine aw_sld L_law_655 (show (ix : Int) + 2 = ((ix + 2 : Nat) : Int) by omega) (by omega) ?_
    rw [hp2]
    refine aw_V2 L_law_656 rfl rfl rfl rfl (wx_o4 hW) ?_
    refine c_M_node hW hS1 hX.2.1 (fun y0 y1 y2 y3 y4 y5 y6 => ?_) (fun y0 => ?_) (fun y0 y1 => ?_) (fun y0 y1 y2 => ?_)
    · have e_n : z1 = y1 := by omega
      subst e_n
      have e_k : z2 = y2 := by omega
      subst e_k
      have hS2 := (MS_th hS1 0).1
      have e0 : (upA (upA g (2 * T + 283) 0 (tq (grT Pn T nd gv fs 200).2 z1 z2)) (2 * T + 269) 0 0) (2 * T + 269) 0 = 0 := upA_eq _ _ _ _
      have hX2 := XS_lo (g' := upA (upA g (2 * T + 283) 0 (tq (grT Pn T nd gv fs 200).2 z1 z2)) (2 * T + 269) 0 0) hX hT8.1 (fun x y q => (upA_ne (by omega)).trans ((upA_ne (by omega))))
      have e1 : (upA (upA g (2 * T + 283) 0 (tq (grT Pn T nd gv fs 200).2 z1 z2)) (2 * T + 269) 0 0) (2 * T + 283) 0 = (tq (grT Pn T nd gv fs 200).2 z1 z2) := (upA_ne (by omega)).trans (upA_eq _ _ _ _)
      show aw _ _ _ _ _ _ _ _ _
      refine aw_is6 L_law_659 ?_
      refine aw_al2 L_law_661 ?_
      refine aw_V0 L_law_662 rfl rfl (wx_o4 hW) ?_
      refine c_M_thrown hW ?_
      rw [e0]
      show aw _ _ _ _ _ _ _ _ _
      refine aw_il5 L_law_665 ?_
      refine aw_ceq L_law_667 (fun h667 => ?_) (fun h667 => ?_)
      · skip
        refine aw_il5 L_law_672 ?_
        refine aw_zne L_law_674 (fun h674 => ?_) (fun h674 => ?_)
        · skip
          exact absurd rfl h674
        · skip
          refine aw_al3 L_law_677 ?_
          refine aw_c L_law_678 ?_
          refine aw_la L_law_679 (wx_out hW) (show (0 : Int) = ((0 : Nat) : Int) from rfl) (by omega) ?_
          rw [e1]
          refine aw_il6 L_law_680 ?_
          refine aw_i2l L_law_682 ?_
          refine aw_lcmp L_law_683 (fun h683 => ?_) (fun z683 hz683 h683 => ?_)
          · skip
            refine aw_zeq L_law_684 (fun h684 => ?_) (fun h684 => ?_)
            · skip
              exact aw_go L_law_689 (hK _ _ _ _ _ hX2 hS2 (by omega) (by omega) (by omega))
            · skip
              exact absurd rfl h684
          · skip
            refine aw_zeq L_law_684 (fun h684 => ?_) (fun h684 => ?_)
            · skip
              exact absurd rfl h683
            · skip
              exact absurd rfl h683
      · skip
        exact absurd rfl h667
    · exfalso
      first | contradiction | omega
    · exfalso
      first | contradiction | omega
    · exfalso
      first | contradiction | omega
  · show aw _ _ _ _ _ _ _ _ _
    have hS1 : MS Pn T (g) nd gv fs wn pr fi tm gm := MS_fr hS (fun x y q1 q2 q3 => rfl)
    refine aw_is5 L_law_641 ?_
    refine aw_al2 L_law_643 ?_
    refine aw_sl0 L_law_644 ?_
    refine aw_il4 L_law_645 ?_
    refine aw_c L_law_647 ?_
    refine aw_add L_law_648 (by constructor <;> omega) ?_
    refine aw_sld L_law_649 (show (ix : Int) + 1 = ((ix + 1 : Nat) : Int) by omega) (by omega) ?_
    rw [hp1]
    refine aw_sl0 L_law_650 ?_
    refine aw_il4 L_law_651 ?_
    refine aw_c L_law_653 ?_
    refine aw_add L_law_654 (by constructor <;> omega) ?_
    refine aw_sld L_law_655 (show (ix : Int) + 2 = ((ix + 2 : Nat) : Int) by omega) (by omega) ?_
    rw [hp2]
    refine aw_V2 L_law_656 rfl rfl rfl rfl (wx_o4 hW) ?_
    refine c_M_node hW hS1 hX.2.1 (fun y0 y1 y2 y3 y4 y5 y6 => ?_) (fun y0 => ?_) (fun y0 y1 => ?_) (fun y0 y1 y2 => ?_)
    · exfalso
      first | contradiction | omega
    · have hS2 := (MS_th hS1 1).1
      have e0 : (upA (g) (2 * T + 269) 0 1) (2 * T + 269) 0 = 1 := upA_eq _ _ _ _
      have hX2 := XS_lo (g' := upA (g) (2 * T + 269) 0 1) hX hT8.1 (fun x y q => (upA_ne (by omega)))
      show aw _ _ _ _ _ _ _ _ _
      refine aw_is6 L_law_659 ?_
      refine aw_al2 L_law_661 ?_
      refine aw_V0 L_law_662 rfl rfl (wx_o4 hW) ?_
      refine c_M_thrown hW ?_
      rw [e0]
      show aw _ _ _ _ _ _ _ _ _
      refine aw_il5 L_law_665 ?_
      refine aw_ceq L_law_667 (fun h667 => ?_) (fun h667 => ?_)
      · skip
        refine aw_il5 L_law_672 ?_
        refine aw_zne L_law_674 (fun h674 => ?_) (fun h674 => ?_)
        · skip
          exact aw_go L_law_689 (hK _ _ _ _ _ hX2 hS2 (by omega) (by omega) (by omega))
        · skip
          exact absurd h674 (by decide)
      · skip
        exact absurd rfl h667
    · exfalso
      first | contradiction | omega
    · exfalso
      first | contradiction | omega
  · show aw _ _ _ _ _ _ _ _ _
    have hS1 : MS Pn T (g) nd gv fs wn pr fi tm gm := MS_fr hS (fun x y q1 q2 q3 => rfl)
    refine aw_is5 L_law_641 ?_
    refine aw_al2 L_law_643 ?_
    refine aw_sl0 L_law_644 ?_
    refine aw_il4 L_law_645 ?_
    refine aw_c L_law_647 ?_
    refine aw_add L_law_648 (by constructor <;> omega) ?_
    refine aw_sld L_law_649 (show (ix : Int) + 1 = ((ix + 1 : Nat) : Int) by omega) (by omega) ?_
    rw [hp1]
    refine aw_sl0 L_law_650 ?_
    refine aw_il4 L_law_651 ?_
    refine aw_c L_law_653 ?_
    refine aw_add L_law_654 (by constructor <;> omega) ?_
    refine aw_sld L_law_655 (show (ix : Int) + 2 = ((ix + 2 : Nat) : Int) by omega) (by omega) ?_
    rw [hp2]
    refine aw_V2 L_law_656 rfl rfl rfl rfl (wx_o4 hW) ?_
    refine c_M_node hW hS1 hX.2.1 (fun y0 y1 y2 y3 y4 y5 y6 => ?_) (fun y0 => ?_) (fun y0 y1 => ?_) (fun y0 y1 y2 => ?_)
    · exfalso
      first | contradiction | omega
    · exfalso
      first | contradiction | omega
    · have hS2 := (MS_th hS1 2).1
      have e0 : (upA (g) (2 * T + 269) 0 2) (2 * T + 269) 0 = 2 := upA_eq _ _ _ _
      have hX2 := XS_lo (g' := upA (g) (2 * T + 269) 0 2) hX hT8.1 (fun x y q => (upA_ne (by omega)))
      show aw _ _ _ _ _ _ _ _ _
      refine aw_is6 L_law_659 ?_
      refine aw_al2 L_law_661 ?_
      refine aw_V0 L_law_662 rfl rfl (wx_o4 hW) ?_
      refine c_M_thrown hW ?_
      rw [e0]
      show aw _ _ _ _ _ _ _ _ _
      refine aw_il5 L_law_665 ?_
      refine aw_ceq L_law_667 (fun h667 => ?_) (fun h667 => ?_)
      · skip
        refine aw_il5 L_law_672 ?_
        refine aw_zne L_law_674 (fun h674 => ?_) (fun h674 => ?_)
        · skip
          exact aw_go L_law_689 (hK _ _ _ _ _ hX2 hS2 (by omega) (by omega) (by omega))
        · skip
          exact absurd h674 (by decide)
      · skip
        exact absurd rfl h667
    · exfalso
      first | contradiction | omega
  · show aw _ _ _ _ _ _ _ _ _
    have hS1 : MS Pn T (g) nd gv fs wn pr fi tm gm := MS_fr hS (fun x y q1 q2 q3 => rfl)
    refine aw_is5 L_law_641 ?_
    refine aw_al2 L_law_643 ?_
    refine aw_sl0 L_law_644 ?_
    refine aw_il4 L_law_645 ?_
    refine aw_c L_law_647 ?_
    refine aw_add L_law_648 (by constructor <;> omega) ?_
    refine aw_sld L_law_649 (show (ix : Int) + 1 = ((ix + 1 : Nat) : Int) by omega) (by omega) ?_
    rw [hp1]
    refine aw_sl0 L_law_650 ?_
    refine aw_il4 L_law_651 ?_
    refine aw_c L_law_653 ?_
    refine aw_add L_law_654 (by constructor <;> omega) ?_
    refine aw_sld L_law_655 (show (ix : Int) + 2 = ((ix + 2 : Nat) : Int) by omega) (by omega) ?_
    rw [hp2]
    refine aw_V2 L_law_656 rfl rfl rfl rfl (wx_o4 hW) ?_
    refine c_M_node hW hS1 hX.2.1 (fun y0 y1 y2 y3 y4 y5 y6 => ?_) (fun y0 => ?_) (fun y0 y1 => ?_) (fun y0 y1 y2 => ?_)
    · exfalso
      first | contradiction | omega
    · exfalso
      first | contradiction | omega
    · exfalso
      first | contradiction | omega
    · have hS2 := (MS_th hS1 3).1
      have e0 : (upA (g) (2 * T + 269) 0 3) (2 * T + 269) 0 = 3 := upA_eq _ _ _ _
      have hX2 := XS_lo (g' := upA (g) (2 * T + 269) 0 3) hX hT8.1 (fun x y q => (upA_ne (by omega)))
      show aw _ _ _ _ _ _ _ _ _
      refine aw_is6 L_law_659 ?_
      refine aw_al2 L_law_661 ?_
      refine aw_V0 L_law_662 rfl rfl (wx_o4 hW) ?_
      refine c_M_thrown hW ?_
      rw [e0]
      show aw _ _ _ _ _ _ _ _ _
      refine aw_il5 L_law_665 ?_
      refine aw_ceq L_law_667 (fun h667 => ?_) (fun h667 => ?_)
      · skip
        refine aw_il5 L_law_672 ?_
        refine aw_zne L_law_674 (fun h674 => ?_) (fun h674 => ?_)
        · skip
          exact aw_go L_law_689 (hK _ _ _ _ _ hX2 hS2 (by omega) (by omega) (by omega))
        · skip
          exact absurd h674 (by decide)
      · skip
        exact absurd rfl h667
theorem l_path {x5 x6 : Option aA} {n i : Int} (hn : E.1.2.2.1 ≤ 2562) (hi : ix + 5 ≤ E.1.2.2.1) (hW : WX S Pn T) (hX : XS Pn T g nd gv fs wn pr fi tm gm) (hS : MS Pn T g nd gv fs wn pr fi tm gm) (ha : 1 ≤ a) (hb : 6 ≤ b) (hfi : fi ≤ 100000) (hp1 : (E.1.2.2.2 (ix + 1)).toInt = n) (hp2 : (E.1.2.2.2 (ix + 2)).toInt = i) (hK : ∀ {nd' gv' : Nat → Nat → Int} {fs' wn' pr' : Nat → Int} {fi' : Nat} {tm' gm' : Prop} (g' : aG) (a' b' : Nat) (x5 x6 : Option aA), XS Pn T g' nd' gv' fs' wn' pr' fi' tm' gm' → MS Pn T g' nd' gv' fs' wn' pr' fi' tm' gm' → fi' ≤ fi + 1 → a ≤ a' + 1 → b ≤ b' + 6 → aw l E L_law 12 1286 [some sV, some (rV 0), some (rV (2 * T + 269)), some (rV (2 * T + 283)), some (iV (ix : Int)), x5, x6] [] (S, g', a', b', false) P) : aw l E L_law 12 692 [some sV, some (rV 0), some (rV (2 * T + 269)), some (rV (2 * T + 283)), some (iV (ix : Int)), x5, x6] [] (S, g, a, b, false) P := by
  have hT8 := wx_T hW
  have hp6 := wx_P hW
  refine aw_al1 L_law_692 ?_
  refine aw_sl0 L_law_693 ?_
  refine aw_il4 L_law_694 ?_
  refine aw_c L_law_696 ?_
  refine aw_add L_law_697 (by constructor <;> omega) ?_
  refine aw_sld L_law_698 (show (ix : Int) + 1 = ((ix + 1 : Nat) : Int) by omega) (by omega) ?_
  rw [hp1]
  refine aw_sl0 L_law_699 ?_
  refine aw_il4 L_law_700 ?_
  refine aw_c L_law_702 ?_
  refine aw_add L_law_703 (by constructor <;> omega) ?_
  refine aw_sld L_law_704 (show (ix : Int) + 2 = ((ix + 2 : Nat) : Int) by omega) (by omega) ?_
  rw [hp2]
  refine aw_al3 L_law_705 ?_
  refine aw_S4 L_law_706 rfl rfl rfl rfl rfl rfl ?_
  refine c_L_path hW hX ha hb (fun z0 z1 z2 z3 z4 z5 z6 => ?_) (fun z0 => ?_) (fun z0 z1 => ?_) (fun z0 z1 z2 z3 z4 => ?_)
  · show aw _ _ _ _ _ _ _ _ _
    have hS1 : MS Pn T (upA g (2 * T + 283) 0 ((grT Pn T nd gv fs 200).2.2.2.2.1 (upT (grT Pn T nd gv fs 200).2.2.2.1 ((grT Pn T nd gv fs 200).2.2.2.2.2.1 z1 - (z2 + 1)) z1) : Int)) nd gv fs wn pr fi tm gm := MS_fr hS (fun x y q1 q2 q3 => (upA_ne (by omega)))
    refine aw_is5 L_law_709 ?_
    refine aw_al2 L_law_711 ?_
    refine aw_sl0 L_law_712 ?_
    refine aw_il4 L_law_713 ?_
    refine aw_c L_law_715 ?_
    refine aw_add L_law_716 (by constructor <;> omega) ?_
    refine aw_sld L_law_717 (show (ix : Int) + 1 = ((ix + 1 : Nat) : Int) by omega) (by omega) ?_
    rw [hp1]
    refine aw_sl0 L_law_718 ?_
    refine aw_il4 L_law_719 ?_
    refine aw_c L_law_721 ?_
    refine aw_add L_law_722 (by constructor <;> omega) ?_
    refine aw_sld L_law_723 (show (ix : Int) + 2 = ((ix + 2 : Nat) : Int) by omega) (by omega) ?_
    rw [hp2]
    refine aw_V2 L_law_724 rfl rfl rfl rfl (wx_o4 hW) ?_
    refine c_M_path hW hS1 hX.2.1 (fun y0 y1 y2 y3 y4 y5 y6 => ?_) (fun y0 => ?_) (fun y0 y1 => ?_) (fun y0 y1 y2 y3 y4 => ?_)
    · have e_n : z1 = y1 := by omega
      subst e_n
      have e_i : z2 = y2 := by omega
      subst e_i
      have hS2 := (MS_th hS1 0).1
      have e0 : (upA (upA g (2 * T + 283) 0 ((grT Pn T nd gv fs 200).2.2.2.2.1 (upT (grT Pn T nd gv fs 200).2.2.2.1 ((grT Pn T nd gv fs 200).2.2.2.2.2.1 z1 - (z2 + 1)) z1) : Int)) (2 * T + 269) 0 0) (2 * T + 269) 0 = 0 := upA_eq _ _ _ _
      have hX2 := XS_lo (g' := upA (upA g (2 * T + 283) 0 ((grT Pn T nd gv fs 200).2.2.2.2.1 (upT (grT Pn T nd gv fs 200).2.2.2.1 ((grT Pn T nd gv fs 200).2.2.2.2.2.1 z1 - (z2 + 1)) z1) : Int)) (2 * T + 269) 0 0) hX hT8.1 (fun x y q => (upA_ne (by omega)).trans ((upA_ne (by omega))))
      have e1 : (upA (upA g (2 * T + 283) 0 ((grT Pn T nd gv fs 200).2.2.2.2.1 (upT (grT Pn T nd gv fs 200).2.2.2.1 ((grT Pn T nd gv fs 200).2.2.2.2.2.1 z1 - (z2 + 1)) z1) : Int)) (2 * T + 269) 0 0) (2 * T + 283) 0 = ((grT Pn T nd gv fs 200).2.2.2.2.1 (upT (grT Pn T nd gv fs 200).2.2.2.1 ((grT Pn T nd gv fs 200).2.2.2.2.2.1 z1 - (z2 + 1)) z1) : Int) := (upA_ne (by omega)).trans (upA_eq _ _ _ _)
      show aw _ _ _ _ _ _ _ _ _
      refine aw_is6 L_law_727 ?_
      refine aw_al2 L_law_729 ?_
      refine aw_V0 L_law_730 rfl rfl (wx_o4 hW) ?_
      refine c_M_thrown hW ?_
      rw [e0]
      show aw _ _ _ _ _ _ _ _ _
      refine aw_il5 L_law_733 ?_
      refine aw_ceq L_law_735 (fun h735 => ?_) (fun h735 => ?_)
      · skip
        refine aw_il5 L_law_740 ?_
        refine aw_zne L_law_742 (fun h742 => ?_) (fun h742 => ?_)
        · skip
          exact absurd rfl h742
        · skip
          refine aw_al3 L_law_745 ?_
          refine aw_c L_law_746 ?_
          refine aw_la L_law_747 (wx_out hW) (show (0 : Int) = ((0 : Nat) : Int) from rfl) (by omega) ?_
          rw [e1]
          refine aw_il6 L_law_748 ?_
          refine aw_i2l L_law_750 ?_
          refine aw_lcmp L_law_751 (fun h751 => ?_) (fun z751 hz751 h751 => ?_)
          · skip
            refine aw_zeq L_law_752 (fun h752 => ?_) (fun h752 => ?_)
            · skip
              exact aw_go L_law_757 (hK _ _ _ _ _ hX2 hS2 (by omega) (by omega) (by omega))
            · skip
              exact absurd rfl h752
          · skip
            refine aw_zeq L_law_752 (fun h752 => ?_) (fun h752 => ?_)
            · skip
              exact absurd rfl h751
            · skip
              exact absurd rfl h751
      · skip
        exact absurd rfl h735
    · exfalso
      first | contradiction | omega
    · exfalso
      first | contradiction | omega
    · exfalso
      have e_n : z1 = y1 := by omega
      subst e_n
      first | contradiction | omega
  · show aw _ _ _ _ _ _ _ _ _
    have hS1 : MS Pn T (g) nd gv fs wn pr fi tm gm := MS_fr hS (fun x y q1 q2 q3 => rfl)
    refine aw_is5 L_law_709 ?_
    refine aw_al2 L_law_711 ?_
    refine aw_sl0 L_law_712 ?_
    refine aw_il4 L_law_713 ?_
    refine aw_c L_law_715 ?_
    refine aw_add L_law_716 (by constructor <;> omega) ?_
    refine aw_sld L_law_717 (show (ix : Int) + 1 = ((ix + 1 : Nat) : Int) by omega) (by omega) ?_
    rw [hp1]
    refine aw_sl0 L_law_718 ?_
    refine aw_il4 L_law_719 ?_
    refine aw_c L_law_721 ?_
    refine aw_add L_law_722 (by constructor <;> omega) ?_
    refine aw_sld L_law_723 (show (ix : Int) + 2 = ((ix + 2 : Nat) : Int) by omega) (by omega) ?_
    rw [hp2]
    refine aw_V2 L_law_724 rfl rfl rfl rfl (wx_o4 hW) ?_
    refine c_M_path hW hS1 hX.2.1 (fun y0 y1 y2 y3 y4 y5 y6 => ?_) (fun y0 => ?_) (fun y0 y1 => ?_) (fun y0 y1 y2 y3 y4 => ?_)
    · exfalso
      first | contradiction | omega
    · have hS2 := (MS_th hS1 1).1
      have e0 : (upA (g) (2 * T + 269) 0 1) (2 * T + 269) 0 = 1 := upA_eq _ _ _ _
      have hX2 := XS_lo (g' := upA (g) (2 * T + 269) 0 1) hX hT8.1 (fun x y q => (upA_ne (by omega)))
      show aw _ _ _ _ _ _ _ _ _
      refine aw_is6 L_law_727 ?_
      refine aw_al2 L_law_729 ?_
      refine aw_V0 L_law_730 rfl rfl (wx_o4 hW) ?_
      refine c_M_thrown hW ?_
      rw [e0]
      show aw _ _ _ _ _ _ _ _ _
      refine aw_il5 L_law_733 ?_
      refine aw_ceq L_law_735 (fun h735 => ?_) (fun h735 => ?_)
      · skip
        refine aw_il5 L_law_740 ?_
        refine aw_zne L_law_742 (fun h742 => ?_) (fun h742 => ?_)
        · skip
          exact aw_go L_law_757 (hK _ _ _ _ _ hX2 hS2 (by omega) (by omega) (by omega))
        · skip
          exact absurd h742 (by decide)
      · skip
        exact absurd rfl h735
    · exfalso
      first | contradiction | omega
    · exfalso
      first | contradiction | omega
  · show aw _ _ _ _ _ _ _ _ _
    have hS1 : MS Pn T (g) nd gv fs wn pr fi tm gm := MS_fr hS (fun x y q1 q2 q3 => rfl)
    refine aw_is5 L_law_709 ?_
    refine aw_al2 L_law_711 ?_
    refine aw_sl0 L_law_712 ?_
    refine aw_il4 L_law_713 ?_
    refine aw_c L_law_715 ?_
    refine aw_add L_law_716 (by constructor <;> omega) ?_
    refine aw_sld L_law_717 (show (ix : Int) + 1 = ((ix + 1 : Nat) : Int) by omega) (by omega) ?_
    rw [hp1]
    refine aw_sl0 L_law_718 ?_
    refine aw_il4 L_law_719 ?_
    refine aw_c L_law_721 ?_
    refine aw_add L_law_722 (by constructor <;> omega) ?_
    refine aw_sld L_law_723 (show (ix : Int) + 2 = ((ix + 2 : Nat) : Int) by omega) (by omega) ?_
    rw [hp2]
    refine aw_V2 L_law_724 rfl rfl rfl rfl (wx_o4 hW) ?_
    refine c_M_path hW hS1 hX.2.1 (fun y0 y1 y2 y3 y4 y5 y6 => ?_) (fun y0 => ?_) (fun y0 y1 => ?_) (fun y0 y1 y2 y3 y4 => ?_)
    · exfalso
      first | contradiction | omega
    · exfalso
      first | contradiction | omega
    · have hS2 := (MS_th hS1 2).1
      have e0 : (upA (g) (2 * T + 269) 0 2) (2 * T + 269) 0 = 2 := upA_eq _ _ _ _
      have hX2 := XS_lo (g' := upA (g) (2 * T + 269) 0 2) hX hT8.1 (fun x y q => (upA_ne (by omega)))
      show aw _ _ _ _ _ _ _ _ _
      refine aw_is6 L_law_727 ?_
      refine aw_al2 L_law_729 ?_
      refine aw_V0 L_law_730 rfl rfl (wx_o4 hW) ?_
      refine c_M_thrown hW ?_
      rw [e0]
      show aw _ _ _ _ _ _ _ _ _
      refine aw_il5 L_law_733 ?_
      refine aw_ceq L_law_735 (fun h735 => ?_) (fun h735 => ?_)
      · skip
        refine aw_il5 L_law_740 ?_
        refine aw_zne L_law_742 (fun h742 => ?_) (fun h742 => ?_)
        · skip
          exact aw_go L_law_757 (hK _ _ _ _ _ hX2 hS2 (by omega) (by omega) (by omega))
        · skip
          exact absurd h742 (by decide)
      · skip
        exact absurd rfl h735
    · exfalso
      first | contradiction | omega
  · show aw _ _ _ _ _ _ _ _ _
    have hS1 : MS Pn T (g) nd gv fs wn pr fi tm gm := MS_fr hS (fun x y q1 q2 q3 => rfl)
    refine aw_is5 L_law_709 ?_
    refine aw_al2 L_law_711 ?_
    refine aw_sl0 L_law_712 ?_
    refine aw_il4 L_law_713 ?_
    refine aw_c L_law_715 ?_
    refine aw_add L_law_716 (by constructor <;> omega) ?_
    refine aw_sld L_law_717 (show (ix : Int) + 1 = ((ix + 1 : Nat) : Int) by omega) (by omega) ?_
    rw [hp1]
    refine aw_sl0 L_law_718 ?_
    refine aw_il4 L_law_719 ?_
    refine aw_c L_law_721 ?_
    refine aw_add L_law_722 (by constructor <;> omega) ?_
    refine aw_sld L_law_723 (show (ix : Int) + 2 = ((ix + 2 : Nat) : Int) by omega) (by omega) ?_
    rw [hp2]
    refine aw_V2 L_law_724 rfl rfl rfl rfl (wx_o4 hW) ?_
    refine c_M_path hW hS1 hX.2.1 (fun y0 y1 y2 y3 y4 y5 y6 => ?_) (fun y0 => ?_) (fun y0 y1 => ?_) (fun y0 y1 y2 y3 y4 => ?_)
    · exfalso
      have e_n : z1 = y1 := by omega
      subst e_n
      first | contradiction | omega
    · exfalso
      first | contradiction | omega
    · exfalso
      first | contradiction | omega
    · have e_n : z1 = y1 := by omega
      subst e_n
      have hS2 := (MS_th hS1 2).1
      have e0 : (upA (g) (2 * T + 269) 0 2) (2 * T + 269) 0 = 2 := upA_eq _ _ _ _
      have hX2 := XS_lo (g' := upA (g) (2 * T + 269) 0 2) hX hT8.1 (fun x y q => (upA_ne (by omega)))
      show aw _ _ _ _ _ _ _ _ _
      refine aw_is6 L_law_727 ?_
      refine aw_al2 L_law_729 ?_
      refine aw_V0 L_law_730 rfl rfl (wx_o4 hW) ?_
      refine c_M_thrown hW ?_
      rw [e0]
      show aw _ _ _ _ _ _ _ _ _
      refine aw_il5 L_law_733 ?_
      refine aw_ceq L_law_735 (fun h735 => ?_) (fun h735 => ?_)
      · skip
        refine aw_il5 L_law_740 ?_
        refine aw_zne L_law_742 (fun h742 => ?_) (fun h742 => ?_)
        · skip
          exact aw_go L_law_757 (hK _ _ _ _ _ hX2 hS2 (by omega) (by omega) (by omega))
        · skip
          exact absurd h742 (by decide)
      · skip
        exact absurd rfl h735
theorem l_bound {x5 x6 : Option aA} {p : Int} (hn : E.1.2.2.1 ≤ 2562) (hi : ix + 5 ≤ E.1.2.2.1) (hW : WX S Pn T) (hX : XS Pn T g nd gv fs wn pr fi tm gm) (hS : MS Pn T g nd gv fs wn pr fi tm gm) (ha : 1 ≤ a) (hb : 6 ≤ b) (hfi : fi ≤ 100000) (hp1 : (E.1.2.2.2 (ix + 1)).toInt = p) (hK : ∀ {nd' gv' : Nat → Nat → Int} {fs' wn' pr' : Nat → Int} {fi' : Nat} {tm' gm' : Prop} (g' : aG) (a' b' : Nat) (x5 x6 : Option aA), XS Pn T g' nd' gv' fs' wn' pr' fi' tm' gm' → MS Pn T g' nd' gv' fs' wn' pr' fi' tm' gm' → fi' ≤ fi + 1 → a ≤ a' + 1 → b ≤ b' + 6 → aw l E L_law 12 1286 [some sV, some (rV 0), some (rV (2 * T + 269)), some (rV (2 * T + 283)), some (iV (ix : Int)), x5, x6] [] (S, g', a', b', false) P) : aw l E L_law 12 760 [some sV, some (rV 0), some (rV (2 * T + 269)), some (rV (2 * T + 283)), some (iV (ix : Int)), x5, x6] [] (S, g, a, b, false) P := by
  have hT8 := wx_T hW
  have hp6 := wx_P hW
  refine aw_al1 L_law_760 ?_
  refine aw_sl0 L_law_761 ?_
  refine aw_il4 L_law_762 ?_
  refine aw_c L_law_764 ?_
  refine aw_add L_law_765 (by constructor <;> omega) ?_
  refine aw_sld L_law_766 (show (ix : Int) + 1 = ((ix + 1 : Nat) : Int) by omega) (by omega) ?_
  rw [hp1]
  refine aw_al3 L_law_767 ?_
  refine aw_S3 L_law_768 rfl rfl rfl rfl rfl ?_
  refine c_L_bound hW hX ha hb (fun z0 z1 z2 z3 => ?_) (fun z0 => ?_) (fun z0 z1 => ?_)
  · show aw _ _ _ _ _ _ _ _ _
    have hS1 : MS Pn T (upA g (2 * T + 283) 0 (if mxT (grT Pn T nd gv fs 200).2 z1 (grT Pn T nd gv fs 200).2.1 = 1000000000 then -1 else mxT (grT Pn T nd gv fs 200).2 z1 (grT Pn T nd gv fs 200).2.1)) nd gv fs wn pr fi tm gm := MS_fr hS (fun x y q1 q2 q3 => (upA_ne (by omega)))
    refine aw_is5 L_law_771 ?_
    refine aw_al2 L_law_773 ?_
    refine aw_sl0 L_law_774 ?_
    refine aw_il4 L_law_775 ?_
    refine aw_c L_law_777 ?_
    refine aw_add L_law_778 (by constructor <;> omega) ?_
    refine aw_sld L_law_779 (show (ix : Int) + 1 = ((ix + 1 : Nat) : Int) by omega) (by omega) ?_
    rw [hp1]
    refine aw_V1 L_law_780 rfl rfl rfl (wx_o4 hW) ?_
    refine c_M_bound hW hS1 hX.2.1 (fun y0 y1 y2 y3 => ?_) (fun y0 => ?_) (fun y0 y1 => ?_)
    · have e_p : z1 = y1 := by omega
      subst e_p
      have hS2 := (MS_th hS1 0).1
      have e0 : (upA (upA g (2 * T + 283) 0 (if mxT (grT Pn T nd gv fs 200).2 z1 (grT Pn T nd gv fs 200).2.1 = 1000000000 then -1 else mxT (grT Pn T nd gv fs 200).2 z1 (grT Pn T nd gv fs 200).2.1)) (2 * T + 269) 0 0) (2 * T + 269) 0 = 0 := upA_eq _ _ _ _
      have hX2 := XS_lo (g' := upA (upA g (2 * T + 283) 0 (if mxT (grT Pn T nd gv fs 200).2 z1 (grT Pn T nd gv fs 200).2.1 = 1000000000 then -1 else mxT (grT Pn T nd gv fs 200).2 z1 (grT Pn T nd gv fs 200).2.1)) (2 * T + 269) 0 0) hX hT8.1 (fun x y q => (upA_ne (by omega)).trans ((upA_ne (by omega))))
      have e1 : (upA (upA g (2 * T + 283) 0 (if mxT (grT Pn T nd gv fs 200).2 z1 (grT Pn T nd gv fs 200).2.1 = 1000000000 then -1 else mxT (grT Pn T nd gv fs 200).2 z1 (grT Pn T nd gv fs 200).2.1)) (2 * T + 269) 0 0) (2 * T + 283) 0 = (if mxT (grT Pn T nd gv fs 200).2 z1 (grT Pn T nd gv fs 200).2.1 = 1000000000 then -1 else mxT (grT Pn T nd gv fs 200).2 z1 (grT Pn T nd gv fs 200).2.1) := (upA_ne (by omega)).trans (upA_eq _ _ _ _)
      show aw _ _ _ _ _ _ _ _ _
      refine aw_is6 L_law_783 ?_
      refine aw_al2 L_law_785 ?_
      refine aw_V0 L_law_786 rfl rfl (wx_o4 hW) ?_
      refine c_M_thrown hW ?_
      rw [e0]
      show aw _ _ _ _ _ _ _ _ _
      refine aw_il5 L_law_789 ?_
      refine aw_ceq L_law_791 (fun h791 => ?_) (fun h791 => ?_)
      · skip
        refine aw_il5 L_law_796 ?_
        refine aw_zne L_law_798 (fun h798 => ?_) (fun h798 => ?_)
        · skip
          exact absurd rfl h798
        · skip
          refine aw_al3 L_law_801 ?_
          refine aw_c L_law_802 ?_
          refine aw_la L_law_803 (wx_out hW) (show (0 : Int) = ((0 : Nat) : Int) from rfl) (by omega) ?_
          rw [e1]
          refine aw_il6 L_law_804 ?_
          refine aw_i2l L_law_806 ?_
          refine aw_lcmp L_law_807 (fun h807 => ?_) (fun z807 hz807 h807 => ?_)
          · skip
            refine aw_zeq L_law_808 (fun h808 => ?_) (fun h808 => ?_)
            · skip
              exact aw_go L_law_813 (hK _ _ _ _ _ hX2 hS2 (by omega) (by omega) (by omega))
            · skip
              exact absurd rfl h808
          · skip
            refine aw_zeq L_law_808 (fun h808 => ?_) (fun h808 => ?_)
            · skip
              exact absurd rfl h807
            · skip
              exact absurd rfl h807
      · skip
        exact absurd rfl h791
    · exfalso
      first | contradiction | omega
    · exfalso
      first | contradiction | omega
  · show aw _ _ _ _ _ _ _ _ _
    have hS1 : MS Pn T (g) nd gv fs wn pr fi tm gm := MS_fr hS (fun x y q1 q2 q3 => rfl)
    refine aw_is5 L_law_771 ?_
    refine aw_al2 L_law_773 ?_
    refine aw_sl0 L_law_774 ?_
    refine aw_il4 L_law_775 ?_
    refine aw_c L_law_777 ?_
    refine aw_add L_law_778 (by constructor <;> omega) ?_
    refine aw_sld L_law_779 (show (ix : Int) + 1 = ((ix + 1 : Nat) : Int) by omega) (by omega) ?_
    rw [hp1]
    refine aw_V1 L_law_780 rfl rfl rfl (wx_o4 hW) ?_
    refine c_M_bound hW hS1 hX.2.1 (fun y0 y1 y2 y3 => ?_) (fun y0 => ?_) (fun y0 y1 => ?_)
    · exfalso
      first | contradiction | omega
    · have hS2 := (MS_th hS1 1).1
      have e0 : (upA (g) (2 * T + 269) 0 1) (2 * T + 269) 0 = 1 := upA_eq _ _ _ _
      have hX2 := XS_lo (g' := upA (g) (2 * T + 269) 0 1) hX hT8.1 (fun x y q => (upA_ne (by omega)))
      show aw _ _ _ _ _ _ _ _ _
      refine aw_is6 L_law_783 ?_
      refine aw_al2 L_law_785 ?_
      refine aw_V0 L_law_786 rfl rfl (wx_o4 hW) ?_
      refine c_M_thrown hW ?_
      rw [e0]
      show aw _ _ _ _ _ _ _ _ _
      refine aw_il5 L_law_789 ?_
      refine aw_ceq L_law_791 (fun h791 => ?_) (fun h791 => ?_)
      · skip
        refine aw_il5 L_law_796 ?_
        refine aw_zne L_law_798 (fun h798 => ?_) (fun h798 => ?_)
        · skip
          exact aw_go L_law_813 (hK _ _ _ _ _ hX2 hS2 (by omega) (by omega) (by omega))
        · skip
          exact absurd h798 (by decide)
      · skip
        exact absurd rfl h791
    · exfalso
      first | contradiction | omega
  · show aw _ _ _ _ _ _ _ _ _
    have hS1 : MS Pn T (g) nd gv fs wn pr fi tm gm := MS_fr hS (fun x y q1 q2 q3 => rfl)
    refine aw_is5 L_law_771 ?_
    refine aw_al2 L_law_773 ?_
    refine aw_sl0 L_law_774 ?_
    refine aw_il4 L_law_775 ?_
    refine aw_c L_law_777 ?_
    refine aw_add L_law_778 (by constructor <;> omega) ?_
    refine aw_sld L_law_779 (show (ix : Int) + 1 = ((ix + 1 : Nat) : Int) by omega) (by omega) ?_
    rw [hp1]
    refine aw_V1 L_law_780 rfl rfl rfl (wx_o4 hW) ?_
    refine c_M_bound hW hS1 hX.2.1 (fun y0 y1 y2 y3 => ?_) (fun y0 => ?_) (fun y0 y1 => ?_)
    · exfalso
      first | contradiction | omega
    · exfalso
      first | contradiction | omega
    · have hS2 := (MS_th hS1 2).1
      have e0 : (upA (g) (2 * T + 269) 0 2) (2 * T + 269) 0 = 2 := upA_eq _ _ _ _
      have hX2 := XS_lo (g' := upA (g) (2 * T + 269) 0 2) hX hT8.1 (fun x y q => (upA_ne (by omega)))
      show aw _ _ _ _ _ _ _ _ _
      refine aw_is6 L_law_783 ?_
      refine aw_al2 L_law_785 ?_
      refine aw_V0 L_law_786 rfl rfl (wx_o4 hW) ?_
      refine c_M_thrown hW ?_
      rw [e0]
      show aw _ _ _ _ _ _ _ _ _
      refine aw_il5 L_law_789 ?_
      refine aw_ceq L_law_791 (fun h791 => ?_) (fun h791 => ?_)
      · skip
        refine aw_il5 L_law_796 ?_
        refine aw_zne L_law_798 (fun h798 => ?_) (fun h798 => ?_)
        · skip
          exact aw_go L_law_813 (hK _ _ _ _ _ hX2 hS2 (by omega) (by omega) (by omega))
        · skip
          exact absurd h798 (by decide)
      · skip
        exact absurd rfl h791
theorem l_tops {x5 x6 : Option aA}  (hn : E.1.2.2.1 ≤ 2562) (hi : ix + 5 ≤ E.1.2.2.1) (hW : WX S Pn T) (hX : XS Pn T g nd gv fs wn pr fi tm gm) (hS : MS Pn T g nd gv fs wn pr fi tm gm) (ha : 1 ≤ a) (hb : 6 ≤ b) (hfi : fi ≤ 100000)  (hK : ∀ {nd' gv' : Nat → Nat → Int} {fs' wn' pr' : Nat → Int} {fi' : Nat} {tm' gm' : Prop} (g' : aG) (a' b' : Nat) (x5 x6 : Option aA), XS Pn T g' nd' gv' fs' wn' pr' fi' tm' gm' → MS Pn T g' nd' gv' fs' wn' pr' fi' tm' gm' → fi' ≤ fi + 1 → a ≤ a' + 1 → b ≤ b' + 6 → aw l E L_law 12 1286 [some sV, some (rV 0), some (rV (2 * T + 269)), some (rV (2 * T + 283)), some (iV (ix : Int)), x5, x6] [] (S, g', a', b', false) P) : aw l E L_law 12 816 [some sV, some (rV 0), some (rV (2 * T + 269)), some (rV (2 * T + 283)), some (iV (ix : Int)), x5, x6] [] (S, g, a, b, false) P := by
  have hT8 := wx_T hW
  have hp6 := wx_P hW
  refine aw_al1 L_law_816 ?_
  refine aw_al3 L_law_817 ?_
  refine aw_S2 L_law_818 rfl rfl rfl rfl ?_
  refine c_L_tops hW hX ha hb (fun z0 => ?_) (fun z0 => ?_)
  · show aw _ _ _ _ _ _ _ _ _
    have hS1 : MS Pn T (upA g (2 * T + 283) 0 (ctT Pn (grT Pn T nd gv fs 200).2 (grT Pn T nd gv fs 200).2.1 : Int)) nd gv fs wn pr fi tm gm := MS_fr hS (fun x y q1 q2 q3 => (upA_ne (by omega)))
    refine aw_is5 L_law_821 ?_
    refine aw_al2 L_law_823 ?_
    refine aw_V0 L_law_824 rfl rfl (wx_o4 hW) ?_
    refine c_M_tops hW hS1 hX.2.1 (fun y0 => ?_) (fun y0 => ?_)
    · have hS2 := (MS_th hS1 0).1
      have e0 : (upA (upA g (2 * T + 283) 0 (ctT Pn (grT Pn T nd gv fs 200).2 (grT Pn T nd gv fs 200).2.1 : Int)) (2 * T + 269) 0 0) (2 * T + 269) 0 = 0 := upA_eq _ _ _ _
      have hX2 := XS_lo (g' := upA (upA g (2 * T + 283) 0 (ctT Pn (grT Pn T nd gv fs 200).2 (grT Pn T nd gv fs 200).2.1 : Int)) (2 * T + 269) 0 0) hX hT8.1 (fun x y q => (upA_ne (by omega)).trans ((upA_ne (by omega))))
      have e1 : (upA (upA g (2 * T + 283) 0 (ctT Pn (grT Pn T nd gv fs 200).2 (grT Pn T nd gv fs 200).2.1 : Int)) (2 * T + 269) 0 0) (2 * T + 283) 0 = (ctT Pn (grT Pn T nd gv fs 200).2 (grT Pn T nd gv fs 200).2.1 : Int) := (upA_ne (by omega)).trans (upA_eq _ _ _ _)
      show aw _ _ _ _ _ _ _ _ _
      refine aw_is6 L_law_827 ?_
      refine aw_al2 L_law_829 ?_
      refine aw_V0 L_law_830 rfl rfl (wx_o4 hW) ?_
      refine c_M_thrown hW ?_
      rw [e0]
      show aw _ _ _ _ _ _ _ _ _
      refine aw_il5 L_law_833 ?_
      refine aw_ceq L_law_835 (fun h835 => ?_) (fun h835 => ?_)
      · skip
        refine aw_il5 L_law_840 ?_
        refine aw_zne L_law_842 (fun h842 => ?_) (fun h842 => ?_)
        · skip
          exact absurd rfl h842
        · skip
          refine aw_al3 L_law_845 ?_
          refine aw_c L_law_846 ?_
          refine aw_la L_law_847 (wx_out hW) (show (0 : Int) = ((0 : Nat) : Int) from rfl) (by omega) ?_
          rw [e1]
          refine aw_il6 L_law_848 ?_
          refine aw_i2l L_law_850 ?_
          refine aw_lcmp L_law_851 (fun h851 => ?_) (fun z851 hz851 h851 => ?_)
          · skip
            refine aw_zeq L_law_852 (fun h852 => ?_) (fun h852 => ?_)
            · skip
              exact aw_go L_law_857 (hK _ _ _ _ _ hX2 hS2 (by omega) (by omega) (by omega))
            · skip
              exact absurd rfl h852
          · skip
            refine aw_zeq L_law_852 (fun h852 => ?_) (fun h852 => ?_)
            · skip
              exact absurd rfl h851
            · skip
              exact absurd rfl h851
      · skip
        exact absurd rfl h835
    · exfalso
      first | contradiction | omega
  · show aw _ _ _ _ _ _ _ _ _
    have hS1 : MS Pn T (g) nd gv fs wn pr fi tm gm := MS_fr hS (fun x y q1 q2 q3 => rfl)
    refine aw_is5 L_law_821 ?_
    refine aw_al2 L_law_823 ?_
    refine aw_V0 L_law_824 rfl rfl (wx_o4 hW) ?_
    refine c_M_tops hW hS1 hX.2.1 (fun y0 => ?_) (fun y0 => ?_)
    · exfalso
      first | contradiction | omega
    · have hS2 := (MS_th hS1 1).1
      have e0 : (upA (g) (2 * T + 269) 0 1) (2 * T + 269) 0 = 1 := upA_eq _ _ _ _
      have hX2 := XS_lo (g' := upA (g) (2 * T + 269) 0 1) hX hT8.1 (fun x y q => (upA_ne (by omega)))
      show aw _ _ _ _ _ _ _ _ _
      refine aw_is6 L_law_827 ?_
      refine aw_al2 L_law_829 ?_
      refine aw_V0 L_law_830 rfl rfl (wx_o4 hW) ?_
      refine c_M_thrown hW ?_
      rw [e0]
      show aw _ _ _ _ _ _ _ _ _
      refine aw_il5 L_law_833 ?_
      refine aw_ceq L_law_835 (fun h835 => ?_) (fun h835 => ?_)
      · skip
        refine aw_il5 L_law_840 ?_
        refine aw_zne L_law_842 (fun h842 => ?_) (fun h842 => ?_)
        · skip
          exact aw_go L_law_857 (hK _ _ _ _ _ hX2 hS2 (by omega) (by omega) (by omega))
        · skip
          exact absurd h842 (by decide)
      · skip
        exact absurd rfl h835
theorem l_top {x5 x6 : Option aA} {k : Int} (hn : E.1.2.2.1 ≤ 2562) (hi : ix + 5 ≤ E.1.2.2.1) (hW : WX S Pn T) (hX : XS Pn T g nd gv fs wn pr fi tm gm) (hS : MS Pn T g nd gv fs wn pr fi tm gm) (ha : 1 ≤ a) (hb : 6 ≤ b) (hfi : fi ≤ 100000) (hp1 : (E.1.2.2.2 (ix + 1)).toInt = k) (hK : ∀ {nd' gv' : Nat → Nat → Int} {fs' wn' pr' : Nat → Int} {fi' : Nat} {tm' gm' : Prop} (g' : aG) (a' b' : Nat) (x5 x6 : Option aA), XS Pn T g' nd' gv' fs' wn' pr' fi' tm' gm' → MS Pn T g' nd' gv' fs' wn' pr' fi' tm' gm' → fi' ≤ fi + 1 → a ≤ a' + 1 → b ≤ b' + 6 → aw l E L_law 12 1286 [some sV, some (rV 0), some (rV (2 * T + 269)), some (rV (2 * T + 283)), some (iV (ix : Int)), x5, x6] [] (S, g', a', b', false) P) : aw l E L_law 12 860 [some sV, some (rV 0), some (rV (2 * T + 269)), some (rV (2 * T + 283)), some (iV (ix : Int)), x5, x6] [] (S, g, a, b, false) P := by
  have hT8 := wx_T hW
  have hp6 := wx_P hW
  refine aw_al1 L_law_860 ?_
  refine aw_sl0 L_law_861 ?_
  refine aw_il4 L_law_862 ?_
  refine aw_c L_law_864 ?_
  refine aw_add L_law_865 (by constructor <;> omega) ?_
  refine aw_sld L_law_866 (show (ix : Int) + 1 = ((ix + 1 : Nat) : Int) by omega) (by omega) ?_
  rw [hp1]
  refine aw_al3 L_law_867 ?_
  refine aw_S3 L_law_868 rfl rfl rfl rfl rfl ?_
  refine c_L_top hW hX ha hb (fun z0 z1 z2 z3 z4 => ?_) (fun z0 => ?_) (fun z0 z1 => ?_)
  · show aw _ _ _ _ _ _ _ _ _
    have hS1 : MS Pn T (upA g (2 * T + 283) 0 (z1 : Int)) nd gv fs wn pr fi tm gm := MS_fr hS (fun x y q1 q2 q3 => (upA_ne (by omega)))
    refine aw_is5 L_law_871 ?_
    refine aw_al2 L_law_873 ?_
    refine aw_sl0 L_law_874 ?_
    refine aw_il4 L_law_875 ?_
    refine aw_c L_law_877 ?_
    refine aw_add L_law_878 (by constructor <;> omega) ?_
    refine aw_sld L_law_879 (show (ix : Int) + 1 = ((ix + 1 : Nat) : Int) by omega) (by omega) ?_
    rw [hp1]
    refine aw_V1 L_law_880 rfl rfl rfl (wx_o4 hW) ?_
    refine c_M_top hW hS1 hX.2.1 (fun y0 y1 y2 y3 y4 => ?_) (fun y0 => ?_) (fun y0 y1 => ?_)
    · have e_v : z1 = y1 := ctT_in z3 y3 (by omega)
      subst e_v
      have hS2 := (MS_th hS1 0).1
      have e0 : (upA (upA g (2 * T + 283) 0 (z1 : Int)) (2 * T + 269) 0 0) (2 * T + 269) 0 = 0 := upA_eq _ _ _ _
      have hX2 := XS_lo (g' := upA (upA g (2 * T + 283) 0 (z1 : Int)) (2 * T + 269) 0 0) hX hT8.1 (fun x y q => (upA_ne (by omega)).trans ((upA_ne (by omega))))
      have e1 : (upA (upA g (2 * T + 283) 0 (z1 : Int)) (2 * T + 269) 0 0) (2 * T + 283) 0 = (z1 : Int) := (upA_ne (by omega)).trans (upA_eq _ _ _ _)
      show aw _ _ _ _ _ _ _ _ _
      refine aw_is6 L_law_883 ?_
      refine aw_al2 L_law_885 ?_
      refine aw_V0 L_law_886 rfl rfl (wx_o4 hW) ?_
      refine c_M_thrown hW ?_
      rw [e0]
      show aw _ _ _ _ _ _ _ _ _
      refine aw_il5 L_law_889 ?_
      refine aw_ceq L_law_891 (fun h891 => ?_) (fun h891 => ?_)
      · skip
        refine aw_il5 L_law_896 ?_
        refine aw_zne L_law_898 (fun h898 => ?_) (fun h898 => ?_)
        · skip
          exact absurd rfl h898
        · skip
          refine aw_al3 L_law_901 ?_
          refine aw_c L_law_902 ?_
          refine aw_la L_law_903 (wx_out hW) (show (0 : Int) = ((0 : Nat) : Int) from rfl) (by omega) ?_
          rw [e1]
          refine aw_il6 L_law_904 ?_
          refine aw_i2l L_law_906 ?_
          refine aw_lcmp L_law_907 (fun h907 => ?_) (fun z907 hz907 h907 => ?_)
          · skip
            refine aw_zeq L_law_908 (fun h908 => ?_) (fun h908 => ?_)
            · skip
              exact aw_go L_law_913 (hK _ _ _ _ _ hX2 hS2 (by omega) (by omega) (by omega))
            · skip
              exact absurd rfl h908
          · skip
            refine aw_zeq L_law_908 (fun h908 => ?_) (fun h908 => ?_)
            · skip
              exact absurd rfl h907
            · skip
              exact absurd rfl h907
      · skip
        exact absurd rfl h891
    · exfalso
      have q9 := ctT_lt z3 _ z2
      first | contradiction | omega
    · exfalso
      have q9 := ctT_lt z3 _ z2
      first | contradiction | omega
  · show aw _ _ _ _ _ _ _ _ _
    have hS1 : MS Pn T (g) nd gv fs wn pr fi tm gm := MS_fr hS (fun x y q1 q2 q3 => rfl)
    refine aw_is5 L_law_871 ?_
    refine aw_al2 L_law_873 ?_
    refine aw_sl0 L_law_874 ?_
    refine aw_il4 L_law_875 ?_
    refine aw_c L_law_877 ?_
    refine aw_add L_law_878 (by constructor <;> omega) ?_
    refine aw_sld L_law_879 (show (ix : Int) + 1 = ((ix + 1 : Nat) : Int) by omega) (by omega) ?_
    rw [hp1]
    refine aw_V1 L_law_880 rfl rfl rfl (wx_o4 hW) ?_
    refine c_M_top hW hS1 hX.2.1 (fun y0 y1 y2 y3 y4 => ?_) (fun y0 => ?_) (fun y0 y1 => ?_)
    · exfalso
      have q9 := ctT_lt y3 _ y2
      first | contradiction | omega
    · have hS2 := (MS_th hS1 1).1
      have e0 : (upA (g) (2 * T + 269) 0 1) (2 * T + 269) 0 = 1 := upA_eq _ _ _ _
      have hX2 := XS_lo (g' := upA (g) (2 * T + 269) 0 1) hX hT8.1 (fun x y q => (upA_ne (by omega)))
      show aw _ _ _ _ _ _ _ _ _
      refine aw_is6 L_law_883 ?_
      refine aw_al2 L_law_885 ?_
      refine aw_V0 L_law_886 rfl rfl (wx_o4 hW) ?_
      refine c_M_thrown hW ?_
      rw [e0]
      show aw _ _ _ _ _ _ _ _ _
      refine aw_il5 L_law_889 ?_
      refine aw_ceq L_law_891 (fun h891 => ?_) (fun h891 => ?_)
      · skip
        refine aw_il5 L_law_896 ?_
        refine aw_zne L_law_898 (fun h898 => ?_) (fun h898 => ?_)
        · skip
          exact aw_go L_law_913 (hK _ _ _ _ _ hX2 hS2 (by omega) (by omega) (by omega))
        · skip
          exact absurd h898 (by decide)
      · skip
        exact absurd rfl h891
    · exfalso
      first | contradiction | omega
  · show aw _ _ _ _ _ _ _ _ _
    have hS1 : MS Pn T (g) nd gv fs wn pr fi tm gm := MS_fr hS (fun x y q1 q2 q3 => rfl)
    refine aw_is5 L_law_871 ?_
    refine aw_al2 L_law_873 ?_
    refine aw_sl0 L_law_874 ?_
    refine aw_il4 L_law_875 ?_
    refine aw_c L_law_877 ?_
    refine aw_add L_law_878 (by constructor <;> omega) ?_
    refine aw_sld L_law_879 (show (ix : Int) + 1 = ((ix + 1 : Nat) : Int) by omega) (by omega) ?_
    rw [hp1]
    refine aw_V1 L_law_880 rfl rfl rfl (wx_o4 hW) ?_
    refine c_M_top hW hS1 hX.2.1 (fun y0 y1 y2 y3 y4 => ?_) (fun y0 => ?_) (fun y0 y1 => ?_)
    · exfalso
      have q9 := ctT_lt y3 _ y2
      first | contradiction | omega
    · exfalso
      first | contradiction | omega
    · have hS2 := (MS_th hS1 2).1
      have e0 : (upA (g) (2 * T + 269) 0 2) (2 * T + 269) 0 = 2 := upA_eq _ _ _ _
      have hX2 := XS_lo (g' := upA (g) (2 * T + 269) 0 2) hX hT8.1 (fun x y q => (upA_ne (by omega)))
      show aw _ _ _ _ _ _ _ _ _
      refine aw_is6 L_law_883 ?_
      refine aw_al2 L_law_885 ?_
      refine aw_V0 L_law_886 rfl rfl (wx_o4 hW) ?_
      refine c_M_thrown hW ?_
      rw [e0]
      show aw _ _ _ _ _ _ _ _ _
      refine aw_il5 L_law_889 ?_
      refine aw_ceq L_law_891 (fun h891 => ?_) (fun h891 => ?_)
      · skip
        refine aw_il5 L_law_896 ?_
        refine aw_zne L_law_898 (fun h898 => ?_) (fun h898 => ?_)
        · skip
          exact aw_go L_law_913 (hK _ _ _ _ _ hX2 hS2 (by omega) (by omega) (by omega))
        · skip
          exact absurd h898 (by decide)
      · skip
        exact absurd rfl h891
theorem l_covered {x5 x6 : Option aA}  (hn : E.1.2.2.1 ≤ 2562) (hi : ix + 5 ≤ E.1.2.2.1) (hW : WX S Pn T) (hX : XS Pn T g nd gv fs wn pr fi tm gm) (hS : MS Pn T g nd gv fs wn pr fi tm gm) (ha : 1 ≤ a) (hb : 6 ≤ b) (hfi : fi ≤ 100000)  (hK : ∀ {nd' gv' : Nat → Nat → Int} {fs' wn' pr' : Nat → Int} {fi' : Nat} {tm' gm' : Prop} (g' : aG) (a' b' : Nat) (x5 x6 : Option aA), XS Pn T g' nd' gv' fs' wn' pr' fi' tm' gm' → MS Pn T g' nd' gv' fs' wn' pr' fi' tm' gm' → fi' ≤ fi + 1 → a ≤ a' + 1 → b ≤ b' + 6 → aw l E L_law 12 1286 [some sV, some (rV 0), some (rV (2 * T + 269)), some (rV (2 * T + 283)), some (iV (ix : Int)), x5, x6] [] (S, g', a', b', false) P) : aw l E L_law 12 916 [some sV, some (rV 0), some (rV (2 * T + 269)), some (rV (2 * T + 283)), some (iV (ix : Int)), x5, x6] [] (S, g, a, b, false) P := by
  have hT8 := wx_T hW
  have hp6 := wx_P hW
  refine aw_al1 L_law_916 ?_
  refine aw_al3 L_law_917 ?_
  refine aw_S2 L_law_918 rfl rfl rfl rfl ?_
  refine c_L_covered hW hX ha hb (fun z0 => ?_) (fun z0 => ?_)
  · show aw _ _ _ _ _ _ _ _ _
    have hS1 : MS Pn T (upA g (2 * T + 283) 0 (tf (cvT Pn (grT Pn T nd gv fs 200).2 wn))) nd gv fs wn pr fi tm gm := MS_fr hS (fun x y q1 q2 q3 => (upA_ne (by omega)))
    refine aw_is5 L_law_921 ?_
    refine aw_al2 L_law_923 ?_
    refine aw_V0 L_law_924 rfl rfl (wx_o4 hW) ?_
    refine c_M_covered hW hS1 hX.2.1 (fun y0 => ?_) (fun y0 => ?_)
    · have hS2 := (MS_th hS1 0).1
      have e0 : (upA (upA g (2 * T + 283) 0 (tf (cvT Pn (grT Pn T nd gv fs 200).2 wn))) (2 * T + 269) 0 0) (2 * T + 269) 0 = 0 := upA_eq _ _ _ _
      have hX2 := XS_lo (g' := upA (upA g (2 * T + 283) 0 (tf (cvT Pn (grT Pn T nd gv fs 200).2 wn))) (2 * T + 269) 0 0) hX hT8.1 (fun x y q => (upA_ne (by omega)).trans ((upA_ne (by omega))))
      have e1 : (upA (upA g (2 * T + 283) 0 (tf (cvT Pn (grT Pn T nd gv fs 200).2 wn))) (2 * T + 269) 0 0) (2 * T + 283) 0 = (tf (cvT Pn (grT Pn T nd gv fs 200).2 wn)) := (upA_ne (by omega)).trans (upA_eq _ _ _ _)
      show aw _ _ _ _ _ _ _ _ _
      refine aw_is6 L_law_927 ?_
      refine aw_al2 L_law_929 ?_
      refine aw_V0 L_law_930 rfl rfl (wx_o4 hW) ?_
      refine c_M_thrown hW ?_
      rw [e0]
      show aw _ _ _ _ _ _ _ _ _
      refine aw_il5 L_law_933 ?_
      refine aw_ceq L_law_935 (fun h935 => ?_) (fun h935 => ?_)
      · skip
        refine aw_il5 L_law_940 ?_
        refine aw_zne L_law_942 (fun h942 => ?_) (fun h942 => ?_)
        · skip
          exact absurd rfl h942
        · skip
          refine aw_al3 L_law_945 ?_
          refine aw_c L_law_946 ?_
          refine aw_la L_law_947 (wx_out hW) (show (0 : Int) = ((0 : Nat) : Int) from rfl) (by omega) ?_
          rw [e1]
          refine aw_il6 L_law_948 ?_
          refine aw_zeq L_law_950 (fun h950 => ?_) (fun h950 => ?_)
          · skip
            refine aw_lc L_law_957 ?_
            refine aw_lcmp L_law_958 (fun h958 => ?_) (fun z958 hz958 h958 => ?_)
            · skip
              refine aw_zeq L_law_959 (fun h959 => ?_) (fun h959 => ?_)
              · skip
                exact aw_go L_law_964 (hK _ _ _ _ _ hX2 hS2 (by omega) (by omega) (by omega))
              · skip
                exact absurd rfl h959
            · skip
              refine aw_zeq L_law_959 (fun h959 => ?_) (fun h959 => ?_)
              · skip
                exact absurd h950 h958
              · skip
                exact absurd h950 h958
          · skip
            refine aw_lc L_law_953 ?_
            refine aw_go L_law_954 ?_
            refine aw_lcmp L_law_958 (fun h958 => ?_) (fun z958 hz958 h958 => ?_)
            · skip
              refine aw_zeq L_law_959 (fun h959 => ?_) (fun h959 => ?_)
              · skip
                exact aw_go L_law_964 (hK _ _ _ _ _ hX2 hS2 (by omega) (by omega) (by omega))
              · skip
                exact absurd rfl h959
            · skip
              refine aw_zeq L_law_959 (fun h959 => ?_) (fun h959 => ?_)
              · skip
                exact absurd (cI_p (nz h950)) h958
              · skip
                exact absurd (cI_p (nz h950)) h958
      · skip
        exact absurd rfl h935
    · exfalso
      first | contradiction | omega
  · show aw _ _ _ _ _ _ _ _ _
    have hS1 : MS Pn T (g) nd gv fs wn pr fi tm gm := MS_fr hS (fun x y q1 q2 q3 => rfl)
    refine aw_is5 L_law_921 ?_
    refine aw_al2 L_law_923 ?_
    refine aw_V0 L_law_924 rfl rfl (wx_o4 hW) ?_
    refine c_M_covered hW hS1 hX.2.1 (fun y0 => ?_) (fun y0 => ?_)
    · exfalso
      first | contradiction | omega
    · have hS2 := (MS_th hS1 1).1
      have e0 : (upA (g) (2 * T + 269) 0 1) (2 * T + 269) 0 = 1 := upA_eq _ _ _ _
      have hX2 := XS_lo (g' := upA (g) (2 * T + 269) 0 1) hX hT8.1 (fun x y q => (upA_ne (by omega)))
      show aw _ _ _ _ _ _ _ _ _
      refine aw_is6 L_law_927 ?_
      refine aw_al2 L_law_929 ?_
      refine aw_V0 L_law_930 rfl rfl (wx_o4 hW) ?_
      refine c_M_thrown hW ?_
      rw [e0]
      show aw _ _ _ _ _ _ _ _ _
      refine aw_il5 L_law_933 ?_
      refine aw_ceq L_law_935 (fun h935 => ?_) (fun h935 => ?_)
      · skip
        refine aw_il5 L_law_940 ?_
        refine aw_zne L_law_942 (fun h942 => ?_) (fun h942 => ?_)
        · skip
          exact aw_go L_law_964 (hK _ _ _ _ _ hX2 hS2 (by omega) (by omega) (by omega))
        · skip
          exact absurd h942 (by decide)
      · skip
        exact absurd rfl h935
theorem l_lives {x5 x6 : Option aA} {t : Int} (hn : E.1.2.2.1 ≤ 2562) (hi : ix + 5 ≤ E.1.2.2.1) (hW : WX S Pn T) (hX : XS Pn T g nd gv fs wn pr fi tm gm) (hS : MS Pn T g nd gv fs wn pr fi tm gm) (ha : 1 ≤ a) (hb : 6 ≤ b) (hfi : fi ≤ 100000) (hp1 : (E.1.2.2.2 (ix + 1)).toInt = t) (hK : ∀ {nd' gv' : Nat → Nat → Int} {fs' wn' pr' : Nat → Int} {fi' : Nat} {tm' gm' : Prop} (g' : aG) (a' b' : Nat) (x5 x6 : Option aA), XS Pn T g' nd' gv' fs' wn' pr' fi' tm' gm' → MS Pn T g' nd' gv' fs' wn' pr' fi' tm' gm' → fi' ≤ fi + 1 → a ≤ a' + 1 → b ≤ b' + 6 → aw l E L_law 12 1286 [some sV, some (rV 0), some (rV (2 * T + 269)), some (rV (2 * T + 283)), some (iV (ix : Int)), x5, x6] [] (S, g', a', b', false) P) : aw l E L_law 12 967 [some sV, some (rV 0), some (rV (2 * T + 269)), some (rV (2 * T + 283)), some (iV (ix : Int)), x5, x6] [] (S, g, a, b, false) P := by
  have hT8 := wx_T hW
  have hp6 := wx_P hW
  refine aw_al1 L_law_967 ?_
  refine aw_sl0 L_law_968 ?_
  refine aw_il4 L_law_969 ?_
  refine aw_c L_law_971 ?_
  refine aw_add L_law_972 (by constructor <;> omega) ?_
  refine aw_sld L_law_973 (show (ix : Int) + 1 = ((ix + 1 : Nat) : Int) by omega) (by omega) ?_
  rw [hp1]
  refine aw_al3 L_law_974 ?_
  refine aw_S3 L_law_975 rfl rfl rfl rfl rfl ?_
  refine c_L_lives hW hX ha hb (fun z0 z1 z2 z3 => ?_) (fun z0 => ?_) (fun z0 z1 => ?_)
  · show aw _ _ _ _ _ _ _ _ _
    have hS1 : MS Pn T (upA g (2 * T + 283) 0 (tf (cvT Pn (grT Pn T nd gv fs 200).2 (nd z1)))) nd gv fs wn pr fi tm gm := MS_fr hS (fun x y q1 q2 q3 => (upA_ne (by omega)))
    refine aw_is5 L_law_978 ?_
    refine aw_al2 L_law_980 ?_
    refine aw_sl0 L_law_981 ?_
    refine aw_il4 L_law_982 ?_
    refine aw_c L_law_984 ?_
    refine aw_add L_law_985 (by constructor <;> omega) ?_
    refine aw_sld L_law_986 (show (ix : Int) + 1 = ((ix + 1 : Nat) : Int) by omega) (by omega) ?_
    rw [hp1]
    refine aw_V1 L_law_987 rfl rfl rfl (wx_o4 hW) ?_
    refine c_M_lives hW hS1 hX.2.1 (fun y0 y1 y2 y3 => ?_) (fun y0 => ?_) (fun y0 y1 => ?_)
    · have e_t : z1 = y1 := by omega
      subst e_t
      have hS2 := (MS_th hS1 0).1
      have e0 : (upA (upA g (2 * T + 283) 0 (tf (cvT Pn (grT Pn T nd gv fs 200).2 (nd z1)))) (2 * T + 269) 0 0) (2 * T + 269) 0 = 0 := upA_eq _ _ _ _
      have hX2 := XS_lo (g' := upA (upA g (2 * T + 283) 0 (tf (cvT Pn (grT Pn T nd gv fs 200).2 (nd z1)))) (2 * T + 269) 0 0) hX hT8.1 (fun x y q => (upA_ne (by omega)).trans ((upA_ne (by omega))))
      have e1 : (upA (upA g (2 * T + 283) 0 (tf (cvT Pn (grT Pn T nd gv fs 200).2 (nd z1)))) (2 * T + 269) 0 0) (2 * T + 283) 0 = (tf (cvT Pn (grT Pn T nd gv fs 200).2 (nd z1))) := (upA_ne (by omega)).trans (upA_eq _ _ _ _)
      show aw _ _ _ _ _ _ _ _ _
      refine aw_is6 L_law_990 ?_
      refine aw_al2 L_law_992 ?_
      refine aw_V0 L_law_993 rfl rfl (wx_o4 hW) ?_
      refine c_M_thrown hW ?_
      rw [e0]
      show aw _ _ _ _ _ _ _ _ _
      refine aw_il5 L_law_996 ?_
      refine aw_ceq L_law_998 (fun h998 => ?_) (fun h998 => ?_)
      · skip
        refine aw_il5 L_law_1003 ?_
        refine aw_zne L_law_1005 (fun h1005 => ?_) (fun h1005 => ?_)
        · skip
          exact absurd rfl h1005
        · skip
          refine aw_al3 L_law_1008 ?_
          refine aw_c L_law_1009 ?_
          refine aw_la L_law_1010 (wx_out hW) (show (0 : Int) = ((0 : Nat) : Int) from rfl) (by omega) ?_
          rw [e1]
          refine aw_il6 L_law_1011 ?_
          refine aw_zeq L_law_1013 (fun h1013 => ?_) (fun h1013 => ?_)
          · skip
            refine aw_lc L_law_1020 ?_
            refine aw_lcmp L_law_1021 (fun h1021 => ?_) (fun z1021 hz1021 h1021 => ?_)
            · skip
              refine aw_zeq L_law_1022 (fun h1022 => ?_) (fun h1022 => ?_)
              · skip
                exact aw_go L_law_1027 (hK _ _ _ _ _ hX2 hS2 (by omega) (by omega) (by omega))
              · skip
                exact absurd rfl h1022
            · skip
              refine aw_zeq L_law_1022 (fun h1022 => ?_) (fun h1022 => ?_)
              · skip
                exact absurd h1013 h1021
              · skip
                exact absurd h1013 h1021
          · skip
            refine aw_lc L_law_1016 ?_
            refine aw_go L_law_1017 ?_
            refine aw_lcmp L_law_1021 (fun h1021 => ?_) (fun z1021 hz1021 h1021 => ?_)
            · skip
              refine aw_zeq L_law_1022 (fun h1022 => ?_) (fun h1022 => ?_)
              · skip
                exact aw_go L_law_1027 (hK _ _ _ _ _ hX2 hS2 (by omega) (by omega) (by omega))
              · skip
                exact absurd rfl h1022
            · skip
              refine aw_zeq L_law_1022 (fun h1022 => ?_) (fun h1022 => ?_)
              · skip
                exact absurd (cI_p (nz h1013)) h1021
              · skip
                exact absurd (cI_p (nz h1013)) h1021
      · skip
        exact absurd rfl h998
    · exfalso
      first | contradiction | omega
    · exfalso
      first | contradiction | omega
  · show aw _ _ _ _ _ _ _ _ _
    have hS1 : MS Pn T (g) nd gv fs wn pr fi tm gm := MS_fr hS (fun x y q1 q2 q3 => rfl)
    refine aw_is5 L_law_978 ?_
    refine aw_al2 L_law_980 ?_
    refine aw_sl0 L_law_981 ?_
    refine aw_il4 L_law_982 ?_
    refine aw_c L_law_984 ?_
    refine aw_add L_law_985 (by constructor <;> omega) ?_
    refine aw_sld L_law_986 (show (ix : Int) + 1 = ((ix + 1 : Nat) : Int) by omega) (by omega) ?_
    rw [hp1]
    refine aw_V1 L_law_987 rfl rfl rfl (wx_o4 hW) ?_
    refine c_M_lives hW hS1 hX.2.1 (fun y0 y1 y2 y3 => ?_) (fun y0 => ?_) (fun y0 y1 => ?_)
    · exfalso
      first | contradiction | omega
    · have hS2 := (MS_th hS1 1).1
      have e0 : (upA (g) (2 * T + 269) 0 1) (2 * T + 269) 0 = 1 := upA_eq _ _ _ _
      have hX2 := XS_lo (g' := upA (g) (2 * T + 269) 0 1) hX hT8.1 (fun x y q => (upA_ne (by omega)))
      show aw _ _ _ _ _ _ _ _ _
      refine aw_is6 L_law_990 ?_
      refine aw_al2 L_law_992 ?_
      refine aw_V0 L_law_993 rfl rfl (wx_o4 hW) ?_
      refine c_M_thrown hW ?_
      rw [e0]
      show aw _ _ _ _ _ _ _ _ _
      refine aw_il5 L_law_996 ?_
      refine aw_ceq L_law_998 (fun h998 => ?_) (fun h998 => ?_)
      · skip
        refine aw_il5 L_law_1003 ?_
        refine aw_zne L_law_1005 (fun h1005 => ?_) (fun h1005 => ?_)
        · skip
          exact aw_go L_law_1027 (hK _ _ _ _ _ hX2 hS2 (by omega) (by omega) (by omega))
        · skip
          exact absurd h1005 (by decide)
      · skip
        exact absurd rfl h998
    · exfalso
      first | contradiction | omega
  · show aw _ _ _ _ _ _ _ _ _
    have hS1 : MS Pn T (g) nd gv fs wn pr fi tm gm := MS_fr hS (fun x y q1 q2 q3 => rfl)
    refine aw_is5 L_law_978 ?_
    refine aw_al2 L_law_980 ?_
    refine aw_sl0 L_law_981 ?_
    refine aw_il4 L_law_982 ?_
    refine aw_c L_law_984 ?_
    refine aw_add L_law_985 (by constructor <;> omega) ?_
    refine aw_sld L_law_986 (show (ix : Int) + 1 = ((ix + 1 : Nat) : Int) by omega) (by omega) ?_
    rw [hp1]
    refine aw_V1 L_law_987 rfl rfl rfl (wx_o4 hW) ?_
    refine c_M_lives hW hS1 hX.2.1 (fun y0 y1 y2 y3 => ?_) (fun y0 => ?_) (fun y0 y1 => ?_)
    · exfalso
      first | contradiction | omega
    · exfalso
      first | contradiction | omega
    · have hS2 := (MS_th hS1 2).1
      have e0 : (upA (g) (2 * T + 269) 0 2) (2 * T + 269) 0 = 2 := upA_eq _ _ _ _
      have hX2 := XS_lo (g' := upA (g) (2 * T + 269) 0 2) hX hT8.1 (fun x y q => (upA_ne (by omega)))
      show aw _ _ _ _ _ _ _ _ _
      refine aw_is6 L_law_990 ?_
      refine aw_al2 L_law_992 ?_
      refine aw_V0 L_law_993 rfl rfl (wx_o4 hW) ?_
      refine c_M_thrown hW ?_
      rw [e0]
      show aw _ _ _ _ _ _ _ _ _
      refine aw_il5 L_law_996 ?_
      refine aw_ceq L_law_998 (fun h998 => ?_) (fun h998 => ?_)
      · skip
        refine aw_il5 L_law_1003 ?_
        refine aw_zne L_law_1005 (fun h1005 => ?_) (fun h1005 => ?_)
        · skip
          exact aw_go L_law_1027 (hK _ _ _ _ _ hX2 hS2 (by omega) (by omega) (by omega))
        · skip
          exact absurd h1005 (by decide)
      · skip
        exact absurd rfl h998
theorem l_dead {x5 x6 : Option aA}  (hn : E.1.2.2.1 ≤ 2562) (hi : ix + 5 ≤ E.1.2.2.1) (hW : WX S Pn T) (hX : XS Pn T g nd gv fs wn pr fi tm gm) (hS : MS Pn T g nd gv fs wn pr fi tm gm) (ha : 1 ≤ a) (hb : 6 ≤ b) (hfi : fi ≤ 100000)  (hK : ∀ {nd' gv' : Nat → Nat → Int} {fs' wn' pr' : Nat → Int} {fi' : Nat} {tm' gm' : Prop} (g' : aG) (a' b' : Nat) (x5 x6 : Option aA), XS Pn T g' nd' gv' fs' wn' pr' fi' tm' gm' → MS Pn T g' nd' gv' fs' wn' pr' fi' tm' gm' → fi' ≤ fi + 1 → a ≤ a' + 1 → b ≤ b' + 6 → aw l E L_law 12 1286 [some sV, some (rV 0), some (rV (2 * T + 269)), some (rV (2 * T + 283)), some (iV (ix : Int)), x5, x6] [] (S, g', a', b', false) P) : aw l E L_law 12 1030 [some sV, some (rV 0), some (rV (2 * T + 269)), some (rV (2 * T + 283)), some (iV (ix : Int)), x5, x6] [] (S, g, a, b, false) P := by
  have hT8 := wx_T hW
  have hp6 := wx_P hW
  refine aw_al1 L_law_1030 ?_
  refine aw_al3 L_law_1031 ?_
  refine aw_S2 L_law_1032 rfl rfl rfl rfl ?_
  refine c_L_dead hW hX ha hb (fun z0 => ?_) (fun z0 => ?_)
  · show aw _ _ _ _ _ _ _ _ _
    have hS1 : MS Pn T (upA g (2 * T + 283) 0 (fnd (suT Pn T nd (grT Pn T nd gv fs 200).2) (grT Pn T nd gv fs 200).2.1 0)) nd gv fs wn pr fi tm gm := MS_fr hS (fun x y q1 q2 q3 => (upA_ne (by omega)))
    refine aw_is5 L_law_1035 ?_
    refine aw_al2 L_law_1037 ?_
    refine aw_V0 L_law_1038 rfl rfl (wx_o4 hW) ?_
    refine c_M_dead hW hS1 hX.2.1 (fun y0 => ?_) (fun y0 => ?_)
    · have hS2 := (MS_th hS1 0).1
      have e0 : (upA (upA g (2 * T + 283) 0 (fnd (suT Pn T nd (grT Pn T nd gv fs 200).2) (grT Pn T nd gv fs 200).2.1 0)) (2 * T + 269) 0 0) (2 * T + 269) 0 = 0 := upA_eq _ _ _ _
      have hX2 := XS_lo (g' := upA (upA g (2 * T + 283) 0 (fnd (suT Pn T nd (grT Pn T nd gv fs 200).2) (grT Pn T nd gv fs 200).2.1 0)) (2 * T + 269) 0 0) hX hT8.1 (fun x y q => (upA_ne (by omega)).trans ((upA_ne (by omega))))
      have e1 : (upA (upA g (2 * T + 283) 0 (fnd (suT Pn T nd (grT Pn T nd gv fs 200).2) (grT Pn T nd gv fs 200).2.1 0)) (2 * T + 269) 0 0) (2 * T + 283) 0 = (fnd (suT Pn T nd (grT Pn T nd gv fs 200).2) (grT Pn T nd gv fs 200).2.1 0) := (upA_ne (by omega)).trans (upA_eq _ _ _ _)
      show aw _ _ _ _ _ _ _ _ _
      refine aw_is6 L_law_1041 ?_
      refine aw_al2 L_law_1043 ?_
      refine aw_V0 L_law_1044 rfl rfl (wx_o4 hW) ?_
      refine c_M_thrown hW ?_
      rw [e0]
      show aw _ _ _ _ _ _ _ _ _
      refine aw_il5 L_law_1047 ?_
      refine aw_ceq L_law_1049 (fun h1049 => ?_) (fun h1049 => ?_)
      · skip
        refine aw_il5 L_law_1054 ?_
        refine aw_zne L_law_1056 (fun h1056 => ?_) (fun h1056 => ?_)
        · skip
          exact absurd rfl h1056
        · skip
          refine aw_al3 L_law_1059 ?_
          refine aw_c L_law_1060 ?_
          refine aw_la L_law_1061 (wx_out hW) (show (0 : Int) = ((0 : Nat) : Int) from rfl) (by omega) ?_
          rw [e1]
          refine aw_il6 L_law_1062 ?_
          refine aw_i2l L_law_1064 ?_
          refine aw_lcmp L_law_1065 (fun h1065 => ?_) (fun z1065 hz1065 h1065 => ?_)
          · skip
            refine aw_zeq L_law_1066 (fun h1066 => ?_) (fun h1066 => ?_)
            · skip
              exact aw_go L_law_1071 (hK _ _ _ _ _ hX2 hS2 (by omega) (by omega) (by omega))
            · skip
              exact absurd rfl h1066
          · skip
            refine aw_zeq L_law_1066 (fun h1066 => ?_) (fun h1066 => ?_)
            · skip
              exact absurd rfl h1065
            · skip
              exact absurd rfl h1065
      · skip
        exact absurd rfl h1049
    · exfalso
      first | contradiction | omega
  · show aw _ _ _ _ _ _ _ _ _
    have hS1 : MS Pn T (g) nd gv fs wn pr fi tm gm := MS_fr hS (fun x y q1 q2 q3 => rfl)
    refine aw_is5 L_law_1035 ?_
    refine aw_al2 L_law_1037 ?_
    refine aw_V0 L_law_1038 rfl rfl (wx_o4 hW) ?_
    refine c_M_dead hW hS1 hX.2.1 (fun y0 => ?_) (fun y0 => ?_)
    · exfalso
      first | contradiction | omega
    · have hS2 := (MS_th hS1 1).1
      have e0 : (upA (g) (2 * T + 269) 0 1) (2 * T + 269) 0 = 1 := upA_eq _ _ _ _
      have hX2 := XS_lo (g' := upA (g) (2 * T + 269) 0 1) hX hT8.1 (fun x y q => (upA_ne (by omega)))
      show aw _ _ _ _ _ _ _ _ _
      refine aw_is6 L_law_1041 ?_
      refine aw_al2 L_law_1043 ?_
      refine aw_V0 L_law_1044 rfl rfl (wx_o4 hW) ?_
      refine c_M_thrown hW ?_
      rw [e0]
      show aw _ _ _ _ _ _ _ _ _
      refine aw_il5 L_law_1047 ?_
      refine aw_ceq L_law_1049 (fun h1049 => ?_) (fun h1049 => ?_)
      · skip
        refine aw_il5 L_law_1054 ?_
        refine aw_zne L_law_1056 (fun h1056 => ?_) (fun h1056 => ?_)
        · skip
          exact aw_go L_law_1071 (hK _ _ _ _ _ hX2 hS2 (by omega) (by omega) (by omega))
        · skip
          exact absurd h1056 (by decide)
      · skip
        exact absurd rfl h1049
theorem l_back {x5 x6 : Option aA}  (hn : E.1.2.2.1 ≤ 2562) (hi : ix + 5 ≤ E.1.2.2.1) (hW : WX S Pn T) (hX : XS Pn T g nd gv fs wn pr fi tm gm) (hS : MS Pn T g nd gv fs wn pr fi tm gm) (ha : 1 ≤ a) (hb : 6 ≤ b) (hfi : fi ≤ 100000)  (hK : ∀ {nd' gv' : Nat → Nat → Int} {fs' wn' pr' : Nat → Int} {fi' : Nat} {tm' gm' : Prop} (g' : aG) (a' b' : Nat) (x5 x6 : Option aA), XS Pn T g' nd' gv' fs' wn' pr' fi' tm' gm' → MS Pn T g' nd' gv' fs' wn' pr' fi' tm' gm' → fi' ≤ fi + 1 → a ≤ a' + 1 → b ≤ b' + 6 → aw l E L_law 12 1286 [some sV, some (rV 0), some (rV (2 * T + 269)), some (rV (2 * T + 283)), some (iV (ix : Int)), x5, x6] [] (S, g', a', b', false) P) : aw l E L_law 12 1074 [some sV, some (rV 0), some (rV (2 * T + 269)), some (rV (2 * T + 283)), some (iV (ix : Int)), x5, x6] [] (S, g, a, b, false) P := by
  have hT8 := wx_T hW
  have hp6 := wx_P hW
  refine aw_al1 L_law_1074 ?_
  refine aw_al3 L_law_1075 ?_
  refine aw_S2 L_law_1076 rfl rfl rfl rfl ?_
  refine c_L_back hW hX ha hb (fun z0 z1 z2 z3 => ?_) (fun z0 z1 z2 z3 => ?_)
  · show aw _ _ _ _ _ _ _ _ _
    have hS1 : MS Pn T (upA z1 (2 * T + 283) 0 (kcG (gtG Pn T nd gv wn 48).2 (gtG Pn T nd gv wn 48).2.1 : Int)) nd gv fs wn pr fi tm gm := MS_fr hS (fun x y q1 q2 q3 => (upA_ne (by omega)).trans (z3 x y (by omega)))
    refine aw_is5 L_law_1079 ?_
    refine aw_al2 L_law_1081 ?_
    refine aw_V0 L_law_1082 rfl rfl (wx_o4 hW) ?_
    refine c_M_back hW hS1 hX.2.1 (fun p hp => (hX.2.2.1 p hp).2) (fun y0 y1 y2 y3 y4 => ?_) (fun y0 y1 y2 y3 y4 => ?_)
    · have hS2 := y2
      have e0 := y3
      have hX2 := XS_lo (g' := y1) z2 hT8.1 (fun x y q => (y4 x y (Or.inl q)).trans ((upA_ne (by omega))))
      have e1 : (y1) (2 * T + 283) 0 = (kcG (gtG Pn T nd gv wn 48).2 (gtG Pn T nd gv wn 48).2.1 : Int) := (y4 _ _ (Or.inr rfl)).trans (upA_eq _ _ _ _)
      show aw _ _ _ _ _ _ _ _ _
      refine aw_is6 L_law_1085 ?_
      refine aw_al2 L_law_1087 ?_
      refine aw_V0 L_law_1088 rfl rfl (wx_o4 hW) ?_
      refine c_M_thrown hW ?_
      rw [e0]
      show aw _ _ _ _ _ _ _ _ _
      refine aw_il5 L_law_1091 ?_
      refine aw_ceq L_law_1093 (fun h1093 => ?_) (fun h1093 => ?_)
      · skip
        refine aw_il5 L_law_1098 ?_
        refine aw_zne L_law_1100 (fun h1100 => ?_) (fun h1100 => ?_)
        · skip
          exact absurd rfl h1100
        · skip
          refine aw_al3 L_law_1103 ?_
          refine aw_c L_law_1104 ?_
          refine aw_la L_law_1105 (wx_out hW) (show (0 : Int) = ((0 : Nat) : Int) from rfl) (by omega) ?_
          rw [e1]
          refine aw_il6 L_law_1106 ?_
          refine aw_i2l L_law_1108 ?_
          refine aw_lcmp L_law_1109 (fun h1109 => ?_) (fun z1109 hz1109 h1109 => ?_)
          · skip
            refine aw_zeq L_law_1110 (fun h1110 => ?_) (fun h1110 => ?_)
            · skip
              exact aw_go L_law_1115 (hK _ _ _ _ _ hX2 hS2 (by omega) (by omega) (by omega))
            · skip
              exact absurd rfl h1110
          · skip
            refine aw_zeq L_law_1110 (fun h1110 => ?_) (fun h1110 => ?_)
            · skip
              exact absurd rfl h1109
            · skip
              exact absurd rfl h1109
      · skip
        exact absurd rfl h1093
    · exfalso
      have q9 := z0.symm.trans y0
      exact absurd q9 (by decide)
  · show aw _ _ _ _ _ _ _ _ _
    have hS1 : MS Pn T (z1) nd gv fs wn pr fi tm gm := MS_fr hS (fun x y q1 q2 q3 => z3 x y (by omega))
    refine aw_is5 L_law_1079 ?_
    refine aw_al2 L_law_1081 ?_
    refine aw_V0 L_law_1082 rfl rfl (wx_o4 hW) ?_
    refine c_M_back hW hS1 hX.2.1 (fun p hp => (hX.2.2.1 p hp).2) (fun y0 y1 y2 y3 y4 => ?_) (fun y0 y1 y2 y3 y4 => ?_)
    · exfalso
      have q9 := z0.symm.trans y0
      exact absurd q9 (by decide)
    · have hS2 := y2
      have e0 := y3
      have hX2 := XS_lo (g' := y1) z2 hT8.1 (fun x y q => (y4 x y (Or.inl q)))
      show aw _ _ _ _ _ _ _ _ _
      refine aw_is6 L_law_1085 ?_
      refine aw_al2 L_law_1087 ?_
      refine aw_V0 L_law_1088 rfl rfl (wx_o4 hW) ?_
      refine c_M_thrown hW ?_
      rw [e0]
      show aw _ _ _ _ _ _ _ _ _
      refine aw_il5 L_law_1091 ?_
      refine aw_ceq L_law_1093 (fun h1093 => ?_) (fun h1093 => ?_)
      · skip
        refine aw_il5 L_law_1098 ?_
        refine aw_zne L_law_1100 (fun h1100 => ?_) (fun h1100 => ?_)
        · skip
          exact aw_go L_law_1115 (hK _ _ _ _ _ hX2 hS2 (by omega) (by omega) (by omega))
        · skip
          exact absurd h1100 (by decide)
      · skip
        exact absurd rfl h1093
theorem l_goal {x5 x6 : Option aA} {k p : Int} (hn : E.1.2.2.1 ≤ 2562) (hi : ix + 5 ≤ E.1.2.2.1) (hW : WX S Pn T) (hX : XS Pn T g nd gv fs wn pr fi tm gm) (hS : MS Pn T g nd gv fs wn pr fi tm gm) (ha : 1 ≤ a) (hb : 6 ≤ b) (hfi : fi ≤ 100000) (hp1 : (E.1.2.2.2 (ix + 1)).toInt = k) (hp2 : (E.1.2.2.2 (ix + 2)).toInt = p) (hK : ∀ {nd' gv' : Nat → Nat → Int} {fs' wn' pr' : Nat → Int} {fi' : Nat} {tm' gm' : Prop} (g' : aG) (a' b' : Nat) (x5 x6 : Option aA), XS Pn T g' nd' gv' fs' wn' pr' fi' tm' gm' → MS Pn T g' nd' gv' fs' wn' pr' fi' tm' gm' → fi' ≤ fi + 1 → a ≤ a' + 1 → b ≤ b' + 6 → aw l E L_law 12 1286 [some sV, some (rV 0), some (rV (2 * T + 269)), some (rV (2 * T + 283)), some (iV (ix : Int)), x5, x6] [] (S, g', a', b', false) P) : aw l E L_law 12 1118 [some sV, some (rV 0), some (rV (2 * T + 269)), some (rV (2 * T + 283)), some (iV (ix : Int)), x5, x6] [] (S, g, a, b, false) P := by
  have hT8 := wx_T hW
  have hp6 := wx_P hW
  have hok : okI k := by rw [← hp1]; exact okT _
  refine aw_al1 L_law_1118 ?_
  refine aw_sl0 L_law_1119 ?_
  refine aw_il4 L_law_1120 ?_
  refine aw_c L_law_1122 ?_
  refine aw_add L_law_1123 (by constructor <;> omega) ?_
  refine aw_sld L_law_1124 (show (ix : Int) + 1 = ((ix + 1 : Nat) : Int) by omega) (by omega) ?_
  rw [hp1]
  refine aw_sl0 L_law_1125 ?_
  refine aw_il4 L_law_1126 ?_
  refine aw_c L_law_1128 ?_
  refine aw_add L_law_1129 (by constructor <;> omega) ?_
  refine aw_sld L_law_1130 (show (ix : Int) + 2 = ((ix + 2 : Nat) : Int) by omega) (by omega) ?_
  rw [hp2]
  refine aw_al3 L_law_1131 ?_
  refine aw_S4 L_law_1132 rfl rfl rfl rfl rfl rfl ?_
  refine c_L_goal hW hX ha hb hok (fun z0 z1 z2 z3 z4 z5 z6 => ?_) (fun z0 => ?_) (fun z0 z1 => ?_)
  · show aw _ _ _ _ _ _ _ _ _
    have hS1 : MS Pn T (upA g (2 * T + 283) 0 ((gtG Pn T nd gv wn 48).2.2.1 z1 z2)) nd gv fs wn pr fi tm gm := MS_fr hS (fun x y q1 q2 q3 => (upA_ne (by omega)))
    refine aw_is5 L_law_1135 ?_
    refine aw_al2 L_law_1137 ?_
    refine aw_sl0 L_law_1138 ?_
    refine aw_il4 L_law_1139 ?_
    refine aw_c L_law_1141 ?_
    refine aw_add L_law_1142 (by constructor <;> omega) ?_
    refine aw_sld L_law_1143 (show (ix : Int) + 1 = ((ix + 1 : Nat) : Int) by omega) (by omega) ?_
    rw [hp1]
    refine aw_sl0 L_law_1144 ?_
    refine aw_il4 L_law_1145 ?_
    refine aw_c L_law_1147 ?_
    refine aw_add L_law_1148 (by constructor <;> omega) ?_
    refine aw_sld L_law_1149 (show (ix : Int) + 2 = ((ix + 2 : Nat) : Int) by omega) (by omega) ?_
    rw [hp2]
    refine aw_V2 L_law_1150 rfl rfl rfl rfl (wx_o4 hW) ?_
    refine c_M_goal hW hS1 hX.2.1 (fun p hp => (hX.2.2.1 p hp).2) (fun y0 y1 y2 y3 y4 y5 y6 => ?_) (fun y0 => ?_) (fun y0 y1 => ?_)
    · have e_j : z1 = y1 := by omega
      subst e_j
      have e_p : z2 = y2 := by omega
      subst e_p
      have hS2 := (MS_th hS1 0).1
      have e0 : (upA (upA g (2 * T + 283) 0 ((gtG Pn T nd gv wn 48).2.2.1 z1 z2)) (2 * T + 269) 0 0) (2 * T + 269) 0 = 0 := upA_eq _ _ _ _
      have hX2 := XS_lo (g' := upA (upA g (2 * T + 283) 0 ((gtG Pn T nd gv wn 48).2.2.1 z1 z2)) (2 * T + 269) 0 0) hX hT8.1 (fun x y q => (upA_ne (by omega)).trans ((upA_ne (by omega))))
      have e1 : (upA (upA g (2 * T + 283) 0 ((gtG Pn T nd gv wn 48).2.2.1 z1 z2)) (2 * T + 269) 0 0) (2 * T + 283) 0 = ((gtG Pn T nd gv wn 48).2.2.1 z1 z2) := (upA_ne (by omega)).trans (upA_eq _ _ _ _)
      show aw _ _ _ _ _ _ _ _ _
      refine aw_is6 L_law_1153 ?_
      refine aw_al2 L_law_1155 ?_
      refine aw_V0 L_law_1156 rfl rfl (wx_o4 hW) ?_
      refine c_M_thrown hW ?_
      rw [e0]
      show aw _ _ _ _ _ _ _ _ _
      refine aw_il5 L_law_1159 ?_
      refine aw_ceq L_law_1161 (fun h1161 => ?_) (fun h1161 => ?_)
      · skip
        refine aw_il5 L_law_1166 ?_
        refine aw_zne L_law_1168 (fun h1168 => ?_) (fun h1168 => ?_)
        · skip
          exact absurd rfl h1168
        · skip
          refine aw_al3 L_law_1171 ?_
          refine aw_c L_law_1172 ?_
          refine aw_la L_law_1173 (wx_out hW) (show (0 : Int) = ((0 : Nat) : Int) from rfl) (by omega) ?_
          rw [e1]
          refine aw_il6 L_law_1174 ?_
          refine aw_i2l L_law_1176 ?_
          refine aw_lcmp L_law_1177 (fun h1177 => ?_) (fun z1177 hz1177 h1177 => ?_)
          · skip
            refine aw_zeq L_law_1178 (fun h1178 => ?_) (fun h1178 => ?_)
            · skip
              exact aw_go L_law_1183 (hK _ _ _ _ _ hX2 hS2 (by omega) (by omega) (by omega))
            · skip
              exact absurd rfl h1178
          · skip
            refine aw_zeq L_law_1178 (fun h1178 => ?_) (fun h1178 => ?_)
            · skip
              exact absurd rfl h1177
            · skip
              exact absurd rfl h1177
      · skip
        exact absurd rfl h1161
    · exfalso
      first | contradiction | omega
    · exfalso
      first | contradiction | omega
  · show aw _ _ _ _ _ _ _ _ _
    have hS1 : MS Pn T (g) nd gv fs wn pr fi tm gm := MS_fr hS (fun x y q1 q2 q3 => rfl)
    refine aw_is5 L_law_1135 ?_
    refine aw_al2 L_law_1137 ?_
    refine aw_sl0 L_law_1138 ?_
    refine aw_il4 L_law_1139 ?_
    refine aw_c L_law_1141 ?_
    refine aw_add L_law_1142 (by constructor <;> omega) ?_
    refine aw_sld L_law_1143 (show (ix : Int) + 1 = ((ix + 1 : Nat) : Int) by omega) (by omega) ?_
    rw [hp1]
    refine aw_sl0 L_law_1144 ?_
    refine aw_il4 L_law_1145 ?_
    refine aw_c L_law_1147 ?_
    refine aw_add L_law_1148 (by constructor <;> omega) ?_
    refine aw_sld L_law_1149 (show (ix : Int) + 2 = ((ix + 2 : Nat) : Int) by omega) (by omega) ?_
    rw [hp2]
    refine aw_V2 L_law_1150 rfl rfl rfl rfl (wx_o4 hW) ?_
    refine c_M_goal hW hS1 hX.2.1 (fun p hp => (hX.2.2.1 p hp).2) (fun y0 y1 y2 y3 y4 y5 y6 => ?_) (fun y0 => ?_) (fun y0 y1 => ?_)
    · exfalso
      first | contradiction | omega
    · have hS2 := (MS_th hS1 1).1
      have e0 : (upA (g) (2 * T + 269) 0 1) (2 * T + 269) 0 = 1 := upA_eq _ _ _ _
      have hX2 := XS_lo (g' := upA (g) (2 * T + 269) 0 1) hX hT8.1 (fun x y q => (upA_ne (by omega)))
      show aw _ _ _ _ _ _ _ _ _
      refine aw_is6 L_law_1153 ?_
      refine aw_al2 L_law_1155 ?_
      refine aw_V0 L_law_1156 rfl rfl (wx_o4 hW) ?_
      refine c_M_thrown hW ?_
      rw [e0]
      show aw _ _ _ _ _ _ _ _ _
      refine aw_il5 L_law_1159 ?_
      refine aw_ceq L_law_1161 (fun h1161 => ?_) (fun h1161 => ?_)
      · skip
        refine aw_il5 L_law_1166 ?_
        refine aw_zne L_law_1168 (fun h1168 => ?_) (fun h1168 => ?_)
        · skip
          exact aw_go L_law_1183 (hK _ _ _ _ _ hX2 hS2 (by omega) (by omega) (by omega))
        · skip
          exact absurd h1168 (by decide)
      · skip
        exact absurd rfl h1161
    · exfalso
      first | contradiction | omega
  · show aw _ _ _ _ _ _ _ _ _
    have hS1 : MS Pn T (g) nd gv fs wn pr fi tm gm := MS_fr hS (fun x y q1 q2 q3 => rfl)
    refine aw_is5 L_law_1135 ?_
    refine aw_al2 L_law_1137 ?_
    refine aw_sl0 L_law_1138 ?_
    refine aw_il4 L_law_1139 ?_
    refine aw_c L_law_1141 ?_
    refine aw_add L_law_1142 (by constructor <;> omega) ?_
    refine aw_sld L_law_1143 (show (ix : Int) + 1 = ((ix + 1 : Nat) : Int) by omega) (by omega) ?_
    rw [hp1]
    refine aw_sl0 L_law_1144 ?_
    refine aw_il4 L_law_1145 ?_
    refine aw_c L_law_1147 ?_
    refine aw_add L_law_1148 (by constructor <;> omega) ?_
    refine aw_sld L_law_1149 (show (ix : Int) + 2 = ((ix + 2 : Nat) : Int) by omega) (by omega) ?_
    rw [hp2]
    refine aw_V2 L_law_1150 rfl rfl rfl rfl (wx_o4 hW) ?_
    refine c_M_goal hW hS1 hX.2.1 (fun p hp => (hX.2.2.1 p hp).2) (fun y0 y1 y2 y3 y4 y5 y6 => ?_) (fun y0 => ?_) (fun y0 y1 => ?_)
    · exfalso
      first | contradiction | omega
    · exfalso
      first | contradiction | omega
    · have hS2 := (MS_th hS1 2).1
      have e0 : (upA (g) (2 * T + 269) 0 2) (2 * T + 269) 0 = 2 := upA_eq _ _ _ _
      have hX2 := XS_lo (g' := upA (g) (2 * T + 269) 0 2) hX hT8.1 (fun x y q => (upA_ne (by omega)))
      show aw _ _ _ _ _ _ _ _ _
      refine aw_is6 L_law_1153 ?_
      refine aw_al2 L_law_1155 ?_
      refine aw_V0 L_law_1156 rfl rfl (wx_o4 hW) ?_
      refine c_M_thrown hW ?_
      rw [e0]
      show aw _ _ _ _ _ _ _ _ _
      refine aw_il5 L_law_1159 ?_
      refine aw_ceq L_law_1161 (fun h1161 => ?_) (fun h1161 => ?_)
      · skip
        refine aw_il5 L_law_1166 ?_
        refine aw_zne L_law_1168 (fun h1168 => ?_) (fun h1168 => ?_)
        · skip
          exact aw_go L_law_1183 (hK _ _ _ _ _ hX2 hS2 (by omega) (by omega) (by omega))
        · skip
          exact absurd h1168 (by decide)
      · skip
        exact absurd rfl h1161
theorem l_length {x5 x6 : Option aA}  (hn : E.1.2.2.1 ≤ 2562) (hi : ix + 5 ≤ E.1.2.2.1) (hW : WX S Pn T) (hX : XS Pn T g nd gv fs wn pr fi tm gm) (hS : MS Pn T g nd gv fs wn pr fi tm gm) (ha : 1 ≤ a) (hb : 6 ≤ b) (hfi : fi ≤ 100000)  (hK : ∀ {nd' gv' : Nat → Nat → Int} {fs' wn' pr' : Nat → Int} {fi' : Nat} {tm' gm' : Prop} (g' : aG) (a' b' : Nat) (x5 x6 : Option aA), XS Pn T g' nd' gv' fs' wn' pr' fi' tm' gm' → MS Pn T g' nd' gv' fs' wn' pr' fi' tm' gm' → fi' ≤ fi + 1 → a ≤ a' + 1 → b ≤ b' + 6 → aw l E L_law 12 1286 [some sV, some (rV 0), some (rV (2 * T + 269)), some (rV (2 * T + 283)), some (iV (ix : Int)), x5, x6] [] (S, g', a', b', false) P) : aw l E L_law 12 1186 [some sV, some (rV 0), some (rV (2 * T + 269)), some (rV (2 * T + 283)), some (iV (ix : Int)), x5, x6] [] (S, g, a, b, false) P := by
  have hT8 := wx_T hW
  have hp6 := wx_P hW
  refine aw_al1 L_law_1186 ?_
  refine aw_al3 L_law_1187 ?_
  refine aw_S2 L_law_1188 rfl rfl rfl rfl ?_
  refine c_L_length hW hX ha hb (fun z0 z1 z2 z3 => ?_) (fun z0 => ?_) (fun z0 z1 => ?_)
  · show aw _ _ _ _ _ _ _ _ _
    have hS1 : MS Pn T (upA g (2 * T + 283) 0 ((gtG Pn T nd gv wn 48).2.2.2.2.2.1 z1 : Int)) nd gv fs wn pr fi tm gm := MS_fr hS (fun x y q1 q2 q3 => (upA_ne (by omega)))
    refine aw_is5 L_law_1191 ?_
    refine aw_al2 L_law_1193 ?_
    refine aw_V0 L_law_1194 rfl rfl (wx_o4 hW) ?_
    refine c_M_length hW hS1 hX.2.1 (fun p hp => (hX.2.2.1 p hp).2) (fun y0 y1 y2 y3 => ?_) (fun y0 => ?_) (fun y0 y1 => ?_)
    · have e_j : z1 = y1 := by omega
      subst e_j
      have hS2 := (MS_th hS1 0).1
      have e0 : (upA (upA g (2 * T + 283) 0 ((gtG Pn T nd gv wn 48).2.2.2.2.2.1 z1 : Int)) (2 * T + 269) 0 0) (2 * T + 269) 0 = 0 := upA_eq _ _ _ _
      have hX2 := XS_lo (g' := upA (upA g (2 * T + 283) 0 ((gtG Pn T nd gv wn 48).2.2.2.2.2.1 z1 : Int)) (2 * T + 269) 0 0) hX hT8.1 (fun x y q => (upA_ne (by omega)).trans ((upA_ne (by omega))))
      have e1 : (upA (upA g (2 * T + 283) 0 ((gtG Pn T nd gv wn 48).2.2.2.2.2.1 z1 : Int)) (2 * T + 269) 0 0) (2 * T + 283) 0 = ((gtG Pn T nd gv wn 48).2.2.2.2.2.1 z1 : Int) := (upA_ne (by omega)).trans (upA_eq _ _ _ _)
      show aw _ _ _ _ _ _ _ _ _
      refine aw_is6 L_law_1197 ?_
      refine aw_al2 L_law_1199 ?_
      refine aw_V0 L_law_1200 rfl rfl (wx_o4 hW) ?_
      refine c_M_thrown hW ?_
      rw [e0]
      show aw _ _ _ _ _ _ _ _ _
      refine aw_il5 L_law_1203 ?_
      refine aw_ceq L_law_1205 (fun h1205 => ?_) (fun h1205 => ?_)
      · skip
        refine aw_il5 L_law_1210 ?_
        refine aw_zne L_law_1212 (fun h1212 => ?_) (fun h1212 => ?_)
        · skip
          exact absurd rfl h1212
        · skip
          refine aw_al3 L_law_1215 ?_
          refine aw_c L_law_1216 ?_
          refine aw_la L_law_1217 (wx_out hW) (show (0 : Int) = ((0 : Nat) : Int) from rfl) (by omega) ?_
          rw [e1]
          refine aw_il6 L_law_1218 ?_
          refine aw_i2l L_law_1220 ?_
          refine aw_lcmp L_law_1221 (fun h1221 => ?_) (fun z1221 hz1221 h1221 => ?_)
          · skip
            refine aw_zeq L_law_1222 (fun h1222 => ?_) (fun h1222 => ?_)
            · skip
              exact aw_go L_law_1227 (hK _ _ _ _ _ hX2 hS2 (by omega) (by omega) (by omega))
            · skip
              exact absurd rfl h1222
          · skip
            refine aw_zeq L_law_1222 (fun h1222 => ?_) (fun h1222 => ?_)
            · skip
              exact absurd rfl h1221
            · skip
              exact absurd rfl h1221
      · skip
        exact absurd rfl h1205
    · exfalso
      first | contradiction | omega
    · exfalso
      first | contradiction | omega
  · show aw _ _ _ _ _ _ _ _ _
    have hS1 : MS Pn T (g) nd gv fs wn pr fi tm gm := MS_fr hS (fun x y q1 q2 q3 => rfl)
    refine aw_is5 L_law_1191 ?_
    refine aw_al2 L_law_1193 ?_
    refine aw_V0 L_law_1194 rfl rfl (wx_o4 hW) ?_
    refine c_M_length hW hS1 hX.2.1 (fun p hp => (hX.2.2.1 p hp).2) (fun y0 y1 y2 y3 => ?_) (fun y0 => ?_) (fun y0 y1 => ?_)
    · exfalso
      first | contradiction | omega
    · have hS2 := (MS_th hS1 1).1
      have e0 : (upA (g) (2 * T + 269) 0 1) (2 * T + 269) 0 = 1 := upA_eq _ _ _ _
      have hX2 := XS_lo (g' := upA (g) (2 * T + 269) 0 1) hX hT8.1 (fun x y q => (upA_ne (by omega)))
      show aw _ _ _ _ _ _ _ _ _
      refine aw_is6 L_law_1197 ?_
      refine aw_al2 L_law_1199 ?_
      refine aw_V0 L_law_1200 rfl rfl (wx_o4 hW) ?_
      refine c_M_thrown hW ?_
      rw [e0]
      show aw _ _ _ _ _ _ _ _ _
      refine aw_il5 L_law_1203 ?_
      refine aw_ceq L_law_1205 (fun h1205 => ?_) (fun h1205 => ?_)
      · skip
        refine aw_il5 L_law_1210 ?_
        refine aw_zne L_law_1212 (fun h1212 => ?_) (fun h1212 => ?_)
        · skip
          exact aw_go L_law_1227 (hK _ _ _ _ _ hX2 hS2 (by omega) (by omega) (by omega))
        · skip
          exact absurd h1212 (by decide)
      · skip
        exact absurd rfl h1205
    · exfalso
      first | contradiction | omega
  · show aw _ _ _ _ _ _ _ _ _
    have hS1 : MS Pn T (g) nd gv fs wn pr fi tm gm := MS_fr hS (fun x y q1 q2 q3 => rfl)
    refine aw_is5 L_law_1191 ?_
    refine aw_al2 L_law_1193 ?_
    refine aw_V0 L_law_1194 rfl rfl (wx_o4 hW) ?_
    refine c_M_length hW hS1 hX.2.1 (fun p hp => (hX.2.2.1 p hp).2) (fun y0 y1 y2 y3 => ?_) (fun y0 => ?_) (fun y0 y1 => ?_)
    · exfalso
      first | contradiction | omega
    · exfalso
      first | contradiction | omega
    · have hS2 := (MS_th hS1 2).1
      have e0 : (upA (g) (2 * T + 269) 0 2) (2 * T + 269) 0 = 2 := upA_eq _ _ _ _
      have hX2 := XS_lo (g' := upA (g) (2 * T + 269) 0 2) hX hT8.1 (fun x y q => (upA_ne (by omega)))
      show aw _ _ _ _ _ _ _ _ _
      refine aw_is6 L_law_1197 ?_
      refine aw_al2 L_law_1199 ?_
      refine aw_V0 L_law_1200 rfl rfl (wx_o4 hW) ?_
      refine c_M_thrown hW ?_
      rw [e0]
      show aw _ _ _ _ _ _ _ _ _
      refine aw_il5 L_law_1203 ?_
      refine aw_ceq L_law_1205 (fun h1205 => ?_) (fun h1205 => ?_)
      · skip
        refine aw_il5 L_law_1210 ?_
        refine aw_zne L_law_1212 (fun h1212 => ?_) (fun h1212 => ?_)
        · skip
          exact aw_go L_law_1227 (hK _ _ _ _ _ hX2 hS2 (by omega) (by omega) (by omega))
        · skip
          exact absurd h1212 (by decide)
      · skip
        exact absurd rfl h1205
theorem l_way {x5 x6 : Option aA} {i : Int} (hn : E.1.2.2.1 ≤ 2562) (hi : ix + 5 ≤ E.1.2.2.1) (hW : WX S Pn T) (hX : XS Pn T g nd gv fs wn pr fi tm gm) (hS : MS Pn T g nd gv fs wn pr fi tm gm) (ha : 1 ≤ a) (hb : 6 ≤ b) (hfi : fi ≤ 100000) (hp1 : (E.1.2.2.2 (ix + 1)).toInt = i) (hK : ∀ {nd' gv' : Nat → Nat → Int} {fs' wn' pr' : Nat → Int} {fi' : Nat} {tm' gm' : Prop} (g' : aG) (a' b' : Nat) (x5 x6 : Option aA), XS Pn T g' nd' gv' fs' wn' pr' fi' tm' gm' → MS Pn T g' nd' gv' fs' wn' pr' fi' tm' gm' → fi' ≤ fi + 1 → a ≤ a' + 1 → b ≤ b' + 6 → aw l E L_law 12 1286 [some sV, some (rV 0), some (rV (2 * T + 269)), some (rV (2 * T + 283)), some (iV (ix : Int)), x5, x6] [] (S, g', a', b', false) P) : aw l E L_law 12 1230 [some sV, some (rV 0), some (rV (2 * T + 269)), some (rV (2 * T + 283)), some (iV (ix : Int)), x5, x6] [] (S, g, a, b, false) P := by
  have hT8 := wx_T hW
  have hp6 := wx_P hW
  refine aw_al1 L_law_1230 ?_
  refine aw_sl0 L_law_1231 ?_
  refine aw_il4 L_law_1232 ?_
  refine aw_c L_law_1234 ?_
  refine aw_add L_law_1235 (by constructor <;> omega) ?_
  refine aw_sld L_law_1236 (show (ix : Int) + 1 = ((ix + 1 : Nat) : Int) by omega) (by omega) ?_
  rw [hp1]
  refine aw_al3 L_law_1237 ?_
  refine aw_S3 L_law_1238 rfl rfl rfl rfl rfl ?_
  refine c_L_way hW hX ha hb (fun z0 z1 z2 z3 z4 z5 z6 => ?_) (fun z0 => ?_) (fun z0 z1 => ?_) (fun z0 z1 z2 z3 z4 => ?_)
  · show aw _ _ _ _ _ _ _ _ _
    have hS1 : MS Pn T (upA g (2 * T + 283) 0 ((gtG Pn T nd gv wn 48).2.2.2.2.1 (upT (gtG Pn T nd gv wn 48).2.2.2.1 z2 z1) : Int)) nd gv fs wn pr fi tm gm := MS_fr hS (fun x y q1 q2 q3 => (upA_ne (by omega)))
    refine aw_is5 L_law_1241 ?_
    refine aw_al2 L_law_1243 ?_
    refine aw_sl0 L_law_1244 ?_
    refine aw_il4 L_law_1245 ?_
    refine aw_c L_law_1247 ?_
    refine aw_add L_law_1248 (by constructor <;> omega) ?_
    refine aw_sld L_law_1249 (show (ix : Int) + 1 = ((ix + 1 : Nat) : Int) by omega) (by omega) ?_
    rw [hp1]
    refine aw_V1 L_law_1250 rfl rfl rfl (wx_o4 hW) ?_
    refine c_M_way hW hS1 hX.2.1 (fun p hp => (hX.2.2.1 p hp).2) (fun y0 y1 y2 y3 y4 y5 y6 => ?_) (fun y0 => ?_) (fun y0 y1 => ?_) (fun y0 y1 y2 y3 y4 => ?_)
    · have e_j : z1 = y1 := by omega
      subst e_j
      have e_i : z2 = y2 := by omega
      subst e_i
      have hS2 := (MS_th hS1 0).1
      have e0 : (upA (upA g (2 * T + 283) 0 ((gtG Pn T nd gv wn 48).2.2.2.2.1 (upT (gtG Pn T nd gv wn 48).2.2.2.1 z2 z1) : Int)) (2 * T + 269) 0 0) (2 * T + 269) 0 = 0 := upA_eq _ _ _ _
      have hX2 := XS_lo (g' := upA (upA g (2 * T + 283) 0 ((gtG Pn T nd gv wn 48).2.2.2.2.1 (upT (gtG Pn T nd gv wn 48).2.2.2.1 z2 z1) : Int)) (2 * T + 269) 0 0) hX hT8.1 (fun x y q => (upA_ne (by omega)).trans ((upA_ne (by omega))))
      have e1 : (upA (upA g (2 * T + 283) 0 ((gtG Pn T nd gv wn 48).2.2.2.2.1 (upT (gtG Pn T nd gv wn 48).2.2.2.1 z2 z1) : Int)) (2 * T + 269) 0 0) (2 * T + 283) 0 = ((gtG Pn T nd gv wn 48).2.2.2.2.1 (upT (gtG Pn T nd gv wn 48).2.2.2.1 z2 z1) : Int) := (upA_ne (by omega)).trans (upA_eq _ _ _ _)
      show aw _ _ _ _ _ _ _ _ _
      refine aw_is6 L_law_1253 ?_
      refine aw_al2 L_law_1255 ?_
      refine aw_V0 L_law_1256 rfl rfl (wx_o4 hW) ?_
      refine c_M_thrown hW ?_
      rw [e0]
      show aw _ _ _ _ _ _ _ _ _
      refine aw_il5 L_law_1259 ?_
      refine aw_ceq L_law_1261 (fun h1261 => ?_) (fun h1261 => ?_)
      · skip
        refine aw_il5 L_law_1266 ?_
        refine aw_zne L_law_1268 (fun h1268 => ?_) (fun h1268 => ?_)
        · skip
          exact absurd rfl h1268
        · skip
          refine aw_al3 L_law_1271 ?_
          refine aw_c L_law_1272 ?_
          refine aw_la L_law_1273 (wx_out hW) (show (0 : Int) = ((0 : Nat) : Int) from rfl) (by omega) ?_
          rw [e1]
          refine aw_il6 L_law_1274 ?_
          refine aw_i2l L_law_1276 ?_
          refine aw_lcmp L_law_1277 (fun h1277 => ?_) (fun z1277 hz1277 h1277 => ?_)
          · skip
            refine aw_zeq L_law_1278 (fun h1278 => ?_) (fun h1278 => ?_)
            · skip
              exact aw_go L_law_1283 (hK _ _ _ _ _ hX2 hS2 (by omega) (by omega) (by omega))
            · skip
              exact absurd rfl h1278
          · skip
            refine aw_zeq L_law_1278 (fun h1278 => ?_) (fun h1278 => ?_)
            · skip
              exact absurd rfl h1277
            · skip
              exact absurd rfl h1277
      · skip
        exact absurd rfl h1261
    · exfalso
      first | contradiction | omega
    · exfalso
      first | contradiction | omega
    · exfalso
      have e_j : z1 = y1 := by omega
      subst e_j
      first | contradiction | omega
  · show aw _ _ _ _ _ _ _ _ _
    have hS1 : MS Pn T (g) nd gv fs wn pr fi tm gm := MS_fr hS (fun x y q1 q2 q3 => rfl)
    refine aw_is5 L_law_1241 ?_
    refine aw_al2 L_law_1243 ?_
    refine aw_sl0 L_law_1244 ?_
    refine aw_il4 L_law_1245 ?_
    refine aw_c L_law_1247 ?_
    refine aw_add L_law_1248 (by constructor <;> omega) ?_
    refine aw_sld L_law_1249 (show (ix : Int) + 1 = ((ix + 1 : Nat) : Int) by omega) (by omega) ?_
    rw [hp1]
    refine aw_V1 L_law_1250 rfl rfl rfl (wx_o4 hW) ?_
    refine c_M_way hW hS1 hX.2.1 (fun p hp => (hX.2.2.1 p hp).2) (fun y0 y1 y2 y3 y4 y5 y6 => ?_) (fun y0 => ?_) (fun y0 y1 => ?_) (fun y0 y1 y2 y3 y4 => ?_)
    · exfalso
      first | contradiction | omega
    · have hS2 := (MS_th hS1 1).1
      have e0 : (upA (g) (2 * T + 269) 0 1) (2 * T + 269) 0 = 1 := upA_eq _ _ _ _
      have hX2 := XS_lo (g' := upA (g) (2 * T + 269) 0 1) hX hT8.1 (fun x y q => (upA_ne (by omega)))
      show aw _ _ _ _ _ _ _ _ _
      refine aw_is6 L_law_1253 ?_
      refine aw_al2 L_law_1255 ?_
      refine aw_V0 L_law_1256 rfl rfl (wx_o4 hW) ?_
      refine c_M_thrown hW ?_
      rw [e0]
      show aw _ _ _ _ _ _ _ _ _
      refine aw_il5 L_law_1259 ?_
      refine aw_ceq L_law_1261 (fun h1261 => ?_) (fun h1261 => ?_)
      · skip
        refine aw_il5 L_law_1266 ?_
        refine aw_zne L_law_1268 (fun h1268 => ?_) (fun h1268 => ?_)
        · skip
          exact aw_go L_law_1283 (hK _ _ _ _ _ hX2 hS2 (by omega) (by omega) (by omega))
        · skip
          exact absurd h1268 (by decide)
      · skip
        exact absurd rfl h1261
    · exfalso
      first | contradiction | omega
    · exfalso
      first | contradiction | omega
  · show aw _ _ _ _ _ _ _ _ _
    have hS1 : MS Pn T (g) nd gv fs wn pr fi tm gm := MS_fr hS (fun x y q1 q2 q3 => rfl)
    refine aw_is5 L_law_1241 ?_
    refine aw_al2 L_law_1243 ?_
    refine aw_sl0 L_law_1244 ?_
    refine aw_il4 L_law_1245 ?_
    refine aw_c L_law_1247 ?_
    refine aw_add L_law_1248 (by constructor <;> omega) ?_
    refine aw_sld L_law_1249 (show (ix : Int) + 1 = ((ix + 1 : Nat) : Int) by omega) (by omega) ?_
    rw [hp1]
    refine aw_V1 L_law_1250 rfl rfl rfl (wx_o4 hW) ?_
    refine c_M_way hW hS1 hX.2.1 (fun p hp => (hX.2.2.1 p hp).2) (fun y0 y1 y2 y3 y4 y5 y6 => ?_) (fun y0 => ?_) (fun y0 y1 => ?_) (fun y0 y1 y2 y3 y4 => ?_)
    · exfalso
      first | contradiction | omega
    · exfalso
      first | contradiction | omega
    · have hS2 := (MS_th hS1 2).1
      have e0 : (upA (g) (2 * T + 269) 0 2) (2 * T + 269) 0 = 2 := upA_eq _ _ _ _
      have hX2 := XS_lo (g' := upA (g) (2 * T + 269) 0 2) hX hT8.1 (fun x y q => (upA_ne (by omega)))
      show aw _ _ _ _ _ _ _ _ _
      refine aw_is6 L_law_1253 ?_
      refine aw_al2 L_law_1255 ?_
      refine aw_V0 L_law_1256 rfl rfl (wx_o4 hW) ?_
      refine c_M_thrown hW ?_
      rw [e0]
      show aw _ _ _ _ _ _ _ _ _
      refine aw_il5 L_law_1259 ?_
      refine aw_ceq L_law_1261 (fun h1261 => ?_) (fun h1261 => ?_)
      · skip
        refine aw_il5 L_law_1266 ?_
        refine aw_zne L_law_1268 (fun h1268 => ?_) (fun h1268 => ?_)
        · skip
          exact aw_go L_law_1283 (hK _ _ _ _ _ hX2 hS2 (by omega) (by omega) (by omega))
        · skip
          exact absurd h1268 (by decide)
      · skip
        exact absurd rfl h1261
    · exfalso
      first | contradiction | omega
  · show aw _ _ _ _ _ _ _ _ _
    have hS1 : MS Pn T (g) nd gv fs wn pr fi tm gm := MS_fr hS (fun x y q1 q2 q3 => rfl)
    refine aw_is5 L_law_1241 ?_
    refine aw_al2 L_law_1243 ?_
    refine aw_sl0 L_law_1244 ?_
    refine aw_il4 L_law_1245 ?_
    refine aw_c L_law_1247 ?_
    refine aw_add L_law_1248 (by constructor <;> omega) ?_
    refine aw_sld L_law_1249 (show (ix : Int) + 1 = ((ix + 1 : Nat) : Int) by omega) (by omega) ?_
    rw [hp1]
    refine aw_V1 L_law_1250 rfl rfl rfl (wx_o4 hW) ?_
    refine c_M_way hW hS1 hX.2.1 (fun p hp => (hX.2.2.1 p hp).2) (fun y0 y1 y2 y3 y4 y5 y6 => ?_) (fun y0 => ?_) (fun y0 y1 => ?_) (fun y0 y1 y2 y3 y4 => ?_)
    · exfalso
      have e_j : z1 = y1 := by omega
      subst e_j
      first | contradiction | omega
    · exfalso
      first | contradiction | omega
    · exfalso
      first | contradiction | omega
    · have e_j : z1 = y1 := by omega
      subst e_j
      have hS2 := (MS_th hS1 3).1
      have e0 : (upA (g) (2 * T + 269) 0 3) (2 * T + 269) 0 = 3 := upA_eq _ _ _ _
      have hX2 := XS_lo (g' := upA (g) (2 * T + 269) 0 3) hX hT8.1 (fun x y q => (upA_ne (by omega)))
      show aw _ _ _ _ _ _ _ _ _
      refine aw_is6 L_law_1253 ?_
      refine aw_al2 L_law_1255 ?_
      refine aw_V0 L_law_1256 rfl rfl (wx_o4 hW) ?_
      refine c_M_thrown hW ?_
      rw [e0]
      show aw _ _ _ _ _ _ _ _ _
      refine aw_il5 L_law_1259 ?_
      refine aw_ceq L_law_1261 (fun h1261 => ?_) (fun h1261 => ?_)
      · skip
        refine aw_il5 L_law_1266 ?_
        refine aw_zne L_law_1268 (fun h1268 => ?_) (fun h1268 => ?_)
        · skip
          exact aw_go L_law_1283 (hK _ _ _ _ _ hX2 hS2 (by omega) (by omega) (by omega))
        · skip
          exact absurd h1268 (by decide)
      · skip
        exact absurd rfl h1261
theorem l_reset {x5 x6 : Option aA} (hW : WX S Pn T) (hX : XS Pn T g nd gv fs wn pr fi tm gm) (hS : MS Pn T g nd gv fs wn pr fi tm gm) (hK : ∀ {nd' gv' : Nat → Nat → Int} {fs' wn' pr' : Nat → Int} {fi' : Nat} {tm' gm' : Prop} (g' : aG) (a' b' : Nat) (x5 x6 : Option aA), XS Pn T g' nd' gv' fs' wn' pr' fi' tm' gm' → MS Pn T g' nd' gv' fs' wn' pr' fi' tm' gm' → fi' ≤ fi + 1 → a ≤ a' + 1 → b ≤ b' + 6 → aw l E L_law 12 1286 [some sV, some (rV 0), some (rV (2 * T + 269)), some (rV (2 * T + 283)), some (iV (ix : Int)), x5, x6] [] (S, g', a', b', false) P) : aw l E L_law 12 499 [some sV, some (rV 0), some (rV (2 * T + 269)), some (rV (2 * T + 283)), some (iV (ix : Int)), x5, x6] [] (S, g, a, b, false) P := by
  have hT8 := wx_T hW
  refine aw_al1 L_law_499 ?_
  refine aw_V0 L_law_500 rfl rfl (wx_o3 hW) ?_
  refine c_reset hW hX (fun g1 hX1 hF1 => ?_)
  show aw _ _ _ _ _ _ _ _ _
  have hS1 : MS Pn T g1 nd gv fs wn pr fi tm gm := MS_fr hS (fun x y q1 q2 q3 => hF1 x y (by omega))
  refine aw_al2 L_law_503 ?_
  refine aw_V0 L_law_504 rfl rfl (wx_o4 hW) ?_
  refine c_M_reset hW hS1 (fun g2 hS2 hF2 => ?_)
  have hX2 := XS_lo (g' := g2) hX1 hT8.1 (fun x y q => hF2 x y (Or.inl q))
  show aw _ _ _ _ _ _ _ _ _
  refine aw_ceq L_law_507 (fun h507 => ?_) (fun h507 => ?_)
  · skip
    exact hK _ _ _ _ _ hX2 hS2 (by omega) (by omega) (by omega)
  · skip
    exact absurd rfl h507
end LW
