/-! the law: what a call of both sides comes to -/
abbrev QL : Post := fun v _ => v = some (.int 1)
section LAWA
variable {X : XG} {l : Launch} {cc : ByteArray} {own nm : String} {rt : Option FieldType} {nL fr : Nat} {Q : Post} {kb nb pc pcn : Nat} {L : List (Option Value)} {st : List Value} {h : Hp} {b Ln : Nat} {xs : Nat → Int32}
theorem aw_arg {j : Nat} (c : Nat) {ii : Int} (hj : 7 * j + c < Ln) (h448 : Ln ≤ 448) (h0 : L[0]? = some (some (.ref b))) (h3 : L[3]? = some (some (.int (nI (7 * j))))) (d0 : decode cc pc = .ok (.aload_n 0, 1)) (d1 : decode cc (pc + 1) = .ok (.iload_n 3, 1)) (d2 : decode cc (pc + 2) = .ok (.iconst ii, 1)) (hv : Int32.ofInt ii = nI c) (d3 : decode cc (pc + 3) = .ok (.iadd, 1)) (d4 : decode cc (pc + 4) = .ok (.iaload, 1)) (hp : pcn = pc + 5)
    (kk : AW X l cc own nm rt nL fr (some (b, Ln, xs)) Q kb nb pcn L (.int (xs (7 * j + c)) :: st) h) : AW X l cc own nm rt nL fr (some (b, Ln, xs)) Q kb nb pc L st h := by
  subst hp
  refine aw_alo 0 (pcn := pc + 1) rfl d0 rfl h0 (rf_some _) ?_
  refine aw_ilo 3 (pcn := pc + 2) rfl d1 rfl h3 ?_
  refine aw_iconst (v := nI c) (pcn := pc + 3) d2 rfl hv ?_
  refine aw_iaddN (pcn := pc + 4) d3 rfl ?_
  refine aw_sald (pcn := pc + 5) rfl d4 rfl (vp_in_nI hj (by omega)) ?_
  rw [nI_clamp (by omega)]
  exact kk
theorem aw_argB {j : Nat} (c : Nat) {ii : Int} (hj : 7 * j + c < Ln) (h448 : Ln ≤ 448) (h0 : L[0]? = some (some (.ref b))) (h3 : L[3]? = some (some (.int (nI (7 * j))))) (d0 : decode cc pc = .ok (.aload_n 0, 1)) (d1 : decode cc (pc + 1) = .ok (.iload_n 3, 1)) (d2 : decode cc (pc + 2) = .ok (.bipush ii, 2)) (hv : (Int8.ofInt ii).toInt32 = nI c) (d3 : decode cc (pc + 4) = .ok (.iadd, 1)) (d4 : decode cc (pc + 5) = .ok (.iaload, 1)) (hp : pcn = pc + 6)
    (kk : AW X l cc own nm rt nL fr (some (b, Ln, xs)) Q kb nb pcn L (.int (xs (7 * j + c)) :: st) h) : AW X l cc own nm rt nL fr (some (b, Ln, xs)) Q kb nb pc L st h := by
  subst hp
  refine aw_alo 0 (pcn := pc + 1) rfl d0 rfl h0 (rf_some _) ?_
  refine aw_ilo 3 (pcn := pc + 2) rfl d1 rfl h3 ?_
  refine aw_bipush (v := nI c) (pcn := pc + 4) d2 rfl hv ?_
  refine aw_iaddN (pcn := pc + 5) d3 rfl ?_
  refine aw_sald (pcn := pc + 6) rfl d4 rfl (vp_in_nI hj (by omega)) ?_
  rw [nI_clamp (by omega)]
  exact kk
end LAWA
/-- what the loop owes behind a call: any world in which both sides hold the same numbers -/
def NX (X : XG) (l : Launch) (nm : String) (b Ln : Nat) (xs : Nat → Int32) (kb nb j : Nat) (G : NM) : Prop := ∀ (Γ : NM) (ow : Nat → Nat × Nat) (h : Hp) (T : TB) (C N Z hN : Nat), Γ 0 0 = G 0 0 → Γ 14 0 = G 14 0 → WD Γ ow h T T hN → Iv (j + 1) T C N Z hN → AW X l cL_law RL nm (some .boolean) 4 9 (some (b, Ln, xs)) QL kb nb 1164 [some (.ref b), some (.ref (Γ 0 0)), some (.ref (Γ 14 0)), some (.int (nI (7 * j)))] [] h
section LAWO
variable {X : XG} {l : Launch} {nm : String} {b Ln : Nat} {xs : Nat → Int32} {kb nb j : Nat} {Γ : NM} {ow : Nat → Nat × Nat} {h : Hp} {T : TB} {C N Z hN : Nat}
set_option maxHeartbeats 1600000 in
set_option maxRecDepth 20000 in
theorem lw_channel (hj : 7 * j + 7 ≤ Ln) (h448 : Ln ≤ 448) (hW : WD Γ ow h T T hN) (hI : Iv j T C N Z hN) (K : NX X l nm b Ln xs kb nb j Γ) : AW X l cL_law RL nm (some .boolean) 4 9 (some (b, Ln, xs)) QL (4800 + kb) (19200 + nb) 152 [some (.ref b), some (.ref (Γ 0 0)), some (.ref (Γ 14 0)), some (.int (nI (7 * j)))] [] h := by
  obtain ⟨C', N', Z', hI'⟩ := k_channel hI (xs (7 * j + 1)) (xs (7 * j + 2)) (xs (7 * j + 3))
  refine aw_alo 1 (pcn := 153) rfl dL_law_152 rfl rfl (rf_some _) ?_
  refine aw_arg 1 (pcn := 158) (by omega) h448 rfl rfl dL_law_153 dL_law_154 dL_law_155 (by decide) dL_law_156 dL_law_157 rfl ?_
  refine aw_arg 2 (pcn := 163) (by omega) h448 rfl rfl dL_law_158 dL_law_159 dL_law_160 (by decide) dL_law_161 dL_law_162 rfl ?_
  refine aw_arg 3 (pcn := 168) (by omega) h448 rfl rfl dL_law_163 dL_law_164 dL_law_165 (by decide) dL_law_166 dL_law_167 rfl ?_
  refine aw_Vi (pcn := 171) (c_a_channel hW hI (Nat.le_refl _) _ _ _) mf_X6_channel mv_X6_channel hW.sc rfl ml_L_13 rfl (by decide) (by omega) (by omega) (by exact Nat.le_of_ble_eq_true rfl) rfl dL_law_168 rfl (fun r h hq => ?_)
  obtain ⟨rfl, Γ', ow', hg, hW⟩ := hq
  have e0 : Γ' 0 0 = Γ 0 0 := hg 0 0 (Or.inl ⟨by decide, rfl⟩)
  have e14 : Γ' 14 0 = Γ 14 0 := hg 14 0 vld_o
  rw [← e0, ← e14]
  refine aw_alo 2 (pcn := 172) rfl dL_law_171 rfl rfl (rf_some _) ?_
  refine aw_arg 1 (pcn := 177) (by omega) h448 rfl rfl dL_law_172 dL_law_173 dL_law_174 (by decide) dL_law_175 dL_law_176 rfl ?_
  refine aw_arg 2 (pcn := 182) (by omega) h448 rfl rfl dL_law_177 dL_law_178 dL_law_179 (by decide) dL_law_180 dL_law_181 rfl ?_
  refine aw_arg 3 (pcn := 187) (by omega) h448 rfl rfl dL_law_182 dL_law_183 dL_law_184 (by decide) dL_law_185 dL_law_186 rfl ?_
  refine aw_Vi (pcn := 190) (r_a_channel hW hI _ _ _) mf_X7_channel mv_X7_channel hW.mo rfl ml_L_17 rfl (by decide) (by omega) (by omega) (by exact Nat.le_of_ble_eq_true rfl) rfl dL_law_187 rfl (fun r h hq => ?_)
  obtain ⟨rfl, hW⟩ := hq
  refine aw_icmp_eq (t := 1164) (pcn := 193) dL_law_190 rfl (by decide) (fun _ => ?_) (fun q => absurd rfl q)
  exact AW.le (by omega) (by omega) (K Γ' ow' _ _ _ _ _ _ e0 e14 hW hI')
set_option maxHeartbeats 1600000 in
set_option maxRecDepth 20000 in
theorem lw_state (hj : 7 * j + 7 ≤ Ln) (h448 : Ln ≤ 448) (hW : WD Γ ow h T T hN) (hI : Iv j T C N Z hN) (K : NX X l nm b Ln xs kb nb j Γ) : AW X l cL_law RL nm (some .boolean) 4 9 (some (b, Ln, xs)) QL (4800 + kb) (19200 + nb) 195 [some (.ref b), some (.ref (Γ 0 0)), some (.ref (Γ 14 0)), some (.int (nI (7 * j)))] [] h := by
  obtain ⟨C', N', Z', hI'⟩ := k_state hI (xs (7 * j + 1))
  refine aw_alo 1 (pcn := 196) rfl dL_law_195 rfl rfl (rf_some _) ?_
  refine aw_arg 1 (pcn := 201) (by omega) h448 rfl rfl dL_law_196 dL_law_197 dL_law_198 (by decide) dL_law_199 dL_law_200 rfl ?_
  refine aw_Vi (pcn := 204) (c_a_state hW hI _) mf_X6_state mv_X6_state hW.sc rfl ml_L_18 rfl (by decide) (by omega) (by omega) (by exact Nat.le_of_ble_eq_true rfl) rfl dL_law_201 rfl (fun r h hq => ?_)
  obtain ⟨rfl, Γ', ow', hg, hW⟩ := hq
  have e0 : Γ' 0 0 = Γ 0 0 := hg 0 0 (Or.inl ⟨by decide, rfl⟩)
  have e14 : Γ' 14 0 = Γ 14 0 := hg 14 0 vld_o
  rw [← e0, ← e14]
  refine aw_alo 2 (pcn := 205) rfl dL_law_204 rfl rfl (rf_some _) ?_
  refine aw_arg 1 (pcn := 210) (by omega) h448 rfl rfl dL_law_205 dL_law_206 dL_law_207 (by decide) dL_law_208 dL_law_209 rfl ?_
  refine aw_Vi (pcn := 213) (r_a_state hW hI _) mf_X7_state mv_X7_state hW.mo rfl ml_L_22 rfl (by decide) (by omega) (by omega) (by exact Nat.le_of_ble_eq_true rfl) rfl dL_law_210 rfl (fun r h hq => ?_)
  obtain ⟨rfl, hW⟩ := hq
  refine aw_icmp_eq (t := 1164) (pcn := 216) dL_law_213 rfl (by decide) (fun _ => ?_) (fun q => absurd rfl q)
  exact AW.le (by omega) (by omega) (K Γ' ow' _ _ _ _ _ _ e0 e14 hW hI')
set_option maxHeartbeats 1600000 in
set_option maxRecDepth 20000 in
theorem lw_change (hj : 7 * j + 7 ≤ Ln) (h448 : Ln ≤ 448) (hW : WD Γ ow h T T hN) (hI : Iv j T C N Z hN) (K : NX X l nm b Ln xs kb nb j Γ) : AW X l cL_law RL nm (some .boolean) 4 9 (some (b, Ln, xs)) QL (4800 + kb) (19200 + nb) 218 [some (.ref b), some (.ref (Γ 0 0)), some (.ref (Γ 14 0)), some (.int (nI (7 * j)))] [] h := by
  obtain ⟨C', N', Z', hI'⟩ := k_change hI (xs (7 * j + 1)) (xs (7 * j + 2)) (xs (7 * j + 3)) (xs (7 * j + 4))
  refine aw_alo 1 (pcn := 219) rfl dL_law_218 rfl rfl (rf_some _) ?_
  refine aw_arg 1 (pcn := 224) (by omega) h448 rfl rfl dL_law_219 dL_law_220 dL_law_221 (by decide) dL_law_222 dL_law_223 rfl ?_
  refine aw_arg 2 (pcn := 229) (by omega) h448 rfl rfl dL_law_224 dL_law_225 dL_law_226 (by decide) dL_law_227 dL_law_228 rfl ?_
  refine aw_arg 3 (pcn := 234) (by omega) h448 rfl rfl dL_law_229 dL_law_230 dL_law_231 (by decide) dL_law_232 dL_law_233 rfl ?_
  refine aw_arg 4 (pcn := 239) (by omega) h448 rfl rfl dL_law_234 dL_law_235 dL_law_236 (by decide) dL_law_237 dL_law_238 rfl ?_
  refine aw_Vi (pcn := 242) (c_a_change hW hI _ _ _ _) mf_X6_change mv_X6_change hW.sc rfl ml_L_23 rfl (by decide) (by omega) (by omega) (by exact Nat.le_of_ble_eq_true rfl) rfl dL_law_239 rfl (fun r h hq => ?_)
  obtain ⟨rfl, hW⟩ := hq
  refine aw_alo 2 (pcn := 243) rfl dL_law_242 rfl rfl (rf_some _) ?_
  refine aw_arg 1 (pcn := 248) (by omega) h448 rfl rfl dL_law_243 dL_law_244 dL_law_245 (by decide) dL_law_246 dL_law_247 rfl ?_
  refine aw_arg 2 (pcn := 253) (by omega) h448 rfl rfl dL_law_248 dL_law_249 dL_law_250 (by decide) dL_law_251 dL_law_252 rfl ?_
  refine aw_arg 3 (pcn := 258) (by omega) h448 rfl rfl dL_law_253 dL_law_254 dL_law_255 (by decide) dL_law_256 dL_law_257 rfl ?_
  refine aw_arg 4 (pcn := 263) (by omega) h448 rfl rfl dL_law_258 dL_law_259 dL_law_260 (by decide) dL_law_261 dL_law_262 rfl ?_
  refine aw_Vi (pcn := 266) (r_a_change hW hI _ _ _ _) mf_X7_change mv_X7_change hW.mo rfl ml_L_27 rfl (by decide) (by omega) (by omega) (by exact Nat.le_of_ble_eq_true rfl) rfl dL_law_263 rfl (fun r h hq => ?_)
  obtain ⟨rfl, hW⟩ := hq
  refine aw_icmp_eq (t := 1164) (pcn := 269) dL_law_266 rfl (by decide) (fun _ => ?_) (fun q => absurd rfl q)
  exact AW.le (by omega) (by omega) (K Γ ow _ _ _ _ _ _ rfl rfl hW hI')
set_option maxHeartbeats 1600000 in
set_option maxRecDepth 20000 in
theorem lw_lock (hj : 7 * j + 7 ≤ Ln) (h448 : Ln ≤ 448) (hW : WD Γ ow h T T hN) (hI : Iv j T C N Z hN) (K : NX X l nm b Ln xs kb nb j Γ) : AW X l cL_law RL nm (some .boolean) 4 9 (some (b, Ln, xs)) QL (4800 + kb) (19200 + nb) 271 [some (.ref b), some (.ref (Γ 0 0)), some (.ref (Γ 14 0)), some (.int (nI (7 * j)))] [] h := by
  obtain ⟨C', N', Z', hI'⟩ := k_lock hI (xs (7 * j + 1)) (xs (7 * j + 2)) (xs (7 * j + 3)) (xs (7 * j + 4)) (xs (7 * j + 5)) (xs (7 * j + 6))
  refine aw_alo 1 (pcn := 272) rfl dL_law_271 rfl rfl (rf_some _) ?_
  refine aw_arg 1 (pcn := 277) (by omega) h448 rfl rfl dL_law_272 dL_law_273 dL_law_274 (by decide) dL_law_275 dL_law_276 rfl ?_
  refine aw_arg 2 (pcn := 282) (by omega) h448 rfl rfl dL_law_277 dL_law_278 dL_law_279 (by decide) dL_law_280 dL_law_281 rfl ?_
  refine aw_arg 3 (pcn := 287) (by omega) h448 rfl rfl dL_law_282 dL_law_283 dL_law_284 (by decide) dL_law_285 dL_law_286 rfl ?_
  refine aw_arg 4 (pcn := 292) (by omega) h448 rfl rfl dL_law_287 dL_law_288 dL_law_289 (by decide) dL_law_290 dL_law_291 rfl ?_
  refine aw_arg 5 (pcn := 297) (by omega) h448 rfl rfl dL_law_292 dL_law_293 dL_law_294 (by decide) dL_law_295 dL_law_296 rfl ?_
  refine aw_argB 6 (pcn := 303) (by omega) h448 rfl rfl dL_law_297 dL_law_298 dL_law_299 (by decide) dL_law_301 dL_law_302 rfl ?_
  refine aw_Vi (pcn := 306) (c_a_lock hW hI _ _ _ _ _ _) mf_X6_lock mv_X6_lock hW.sc rfl ml_L_28 rfl (by decide) (by omega) (by omega) (by exact Nat.le_of_ble_eq_true rfl) rfl dL_law_303 rfl (fun r h hq => ?_)
  obtain ⟨rfl, hW⟩ := hq
  refine aw_alo 2 (pcn := 307) rfl dL_law_306 rfl rfl (rf_some _) ?_
  refine aw_arg 1 (pcn := 312) (by omega) h448 rfl rfl dL_law_307 dL_law_308 dL_law_309 (by decide) dL_law_310 dL_law_311 rfl ?_
  refine aw_arg 2 (pcn := 317) (by omega) h448 rfl rfl dL_law_312 dL_law_313 dL_law_314 (by decide) dL_law_315 dL_law_316 rfl ?_
  refine aw_arg 3 (pcn := 322) (by omega) h448 rfl rfl dL_law_317 dL_law_318 dL_law_319 (by decide) dL_law_320 dL_law_321 rfl ?_
  refine aw_arg 4 (pcn := 327) (by omega) h448 rfl rfl dL_law_322 dL_law_323 dL_law_324 (by decide) dL_law_325 dL_law_326 rfl ?_
  refine aw_arg 5 (pcn := 332) (by omega) h448 rfl rfl dL_law_327 dL_law_328 dL_law_329 (by decide) dL_law_330 dL_law_331 rfl ?_
  refine aw_argB 6 (pcn := 338) (by omega) h448 rfl rfl dL_law_332 dL_law_333 dL_law_334 (by decide) dL_law_336 dL_law_337 rfl ?_
  refine aw_Vi (pcn := 341) (r_a_lock hW hI _ _ _ _ _ _) mf_X7_lock mv_X7_lock hW.mo rfl ml_L_32 rfl (by decide) (by omega) (by omega) (by exact Nat.le_of_ble_eq_true rfl) rfl dL_law_338 rfl (fun r h hq => ?_)
  obtain ⟨rfl, hW⟩ := hq
  refine aw_icmp_eq (t := 1164) (pcn := 344) dL_law_341 rfl (by decide) (fun _ => ?_) (fun q => absurd rfl q)
  exact AW.le (by omega) (by omega) (K Γ ow _ _ _ _ _ _ rfl rfl hW hI')
set_option maxHeartbeats 1600000 in
set_option maxRecDepth 20000 in
theorem lw_unlock (hj : 7 * j + 7 ≤ Ln) (h448 : Ln ≤ 448) (hW : WD Γ ow h T T hN) (hI : Iv j T C N Z hN) (K : NX X l nm b Ln xs kb nb j Γ) : AW X l cL_law RL nm (some .boolean) 4 9 (some (b, Ln, xs)) QL (4800 + kb) (19200 + nb) 346 [some (.ref b), some (.ref (Γ 0 0)), some (.ref (Γ 14 0)), some (.int (nI (7 * j)))] [] h := by
  by_cases hq0 : xs (7 * j + 3) = 0
  · obtain ⟨C', N', Z', hI'⟩ := k_unlock hI (xs (7 * j + 1)) (xs (7 * j + 2)) (nI 0)
    refine aw_alo 1 (pcn := 347) rfl dL_law_346 rfl rfl (rf_some _) ?_
    refine aw_arg 1 (pcn := 352) (by omega) h448 rfl rfl dL_law_347 dL_law_348 dL_law_349 (by decide) dL_law_350 dL_law_351 rfl ?_
    refine aw_arg 2 (pcn := 357) (by omega) h448 rfl rfl dL_law_352 dL_law_353 dL_law_354 (by decide) dL_law_355 dL_law_356 rfl ?_
    refine aw_arg 3 (pcn := 362) (by omega) h448 rfl rfl dL_law_357 dL_law_358 dL_law_359 (by decide) dL_law_360 dL_law_361 rfl ?_
    refine aw_if_eq (t := 369) (pcn := 365) dL_law_362 rfl (by decide) (fun _ => ?_) (fun q => absurd hq0 q)
    refine aw_iconst (v := nI 0) (pcn := 370) dL_law_369 rfl (by decide) ?_
    refine aw_Vi (pcn := 373) (c_a_unlock hW hI _ _ _) mf_X6_unlock mv_X6_unlock hW.sc rfl ml_L_33 rfl (by decide) (by omega) (by omega) (by exact Nat.le_of_ble_eq_true rfl) rfl dL_law_370 rfl (fun r h hq => ?_)
    obtain ⟨rfl, hW⟩ := hq
    refine aw_alo 2 (pcn := 374) rfl dL_law_373 rfl rfl (rf_some _) ?_
    refine aw_arg 1 (pcn := 379) (by omega) h448 rfl rfl dL_law_374 dL_law_375 dL_law_376 (by decide) dL_law_377 dL_law_378 rfl ?_
    refine aw_arg 2 (pcn := 384) (by omega) h448 rfl rfl dL_law_379 dL_law_380 dL_law_381 (by decide) dL_law_382 dL_law_383 rfl ?_
    refine aw_arg 3 (pcn := 389) (by omega) h448 rfl rfl dL_law_384 dL_law_385 dL_law_386 (by decide) dL_law_387 dL_law_388 rfl ?_
    refine aw_if_eq (t := 396) (pcn := 392) dL_law_389 rfl (by decide) (fun _ => ?_) (fun q => absurd hq0 q)
    refine aw_iconst (v := nI 0) (pcn := 397) dL_law_396 rfl (by decide) ?_
    refine aw_Vi (pcn := 400) (r_a_unlock hW hI _ _ _) mf_X7_unlock mv_X7_unlock hW.mo rfl ml_L_37 rfl (by decide) (by omega) (by omega) (by exact Nat.le_of_ble_eq_true rfl) rfl dL_law_397 rfl (fun r h hq => ?_)
    obtain ⟨rfl, hW⟩ := hq
    refine aw_icmp_eq (t := 1164) (pcn := 403) dL_law_400 rfl (by decide) (fun _ => ?_) (fun q => absurd rfl q)
    exact AW.le (by omega) (by omega) (K Γ ow _ _ _ _ _ _ rfl rfl hW hI')
  · obtain ⟨C', N', Z', hI'⟩ := k_unlock hI (xs (7 * j + 1)) (xs (7 * j + 2)) (nI 1)
    refine aw_alo 1 (pcn := 347) rfl dL_law_346 rfl rfl (rf_some _) ?_
    refine aw_arg 1 (pcn := 352) (by omega) h448 rfl rfl dL_law_347 dL_law_348 dL_law_349 (by decide) dL_law_350 dL_law_351 rfl ?_
    refine aw_arg 2 (pcn := 357) (by omega) h448 rfl rfl dL_law_352 dL_law_353 dL_law_354 (by decide) dL_law_355 dL_law_356 rfl ?_
    refine aw_arg 3 (pcn := 362) (by omega) h448 rfl rfl dL_law_357 dL_law_358 dL_law_359 (by decide) dL_law_360 dL_law_361 rfl ?_
    refine aw_if_eq (t := 369) (pcn := 365) dL_law_362 rfl (by decide) (fun q => absurd q hq0) (fun _ => ?_)
    refine aw_iconst (v := nI 1) (pcn := 366) dL_law_365 rfl (by decide) ?_
    refine aw_goto (t := 370) dL_law_366 (by decide) ?_
    refine aw_Vi (pcn := 373) (c_a_unlock hW hI _ _ _) mf_X6_unlock mv_X6_unlock hW.sc rfl ml_L_33 rfl (by decide) (by omega) (by omega) (by exact Nat.le_of_ble_eq_true rfl) rfl dL_law_370 rfl (fun r h hq => ?_)
    obtain ⟨rfl, hW⟩ := hq
    refine aw_alo 2 (pcn := 374) rfl dL_law_373 rfl rfl (rf_some _) ?_
    refine aw_arg 1 (pcn := 379) (by omega) h448 rfl rfl dL_law_374 dL_law_375 dL_law_376 (by decide) dL_law_377 dL_law_378 rfl ?_
    refine aw_arg 2 (pcn := 384) (by omega) h448 rfl rfl dL_law_379 dL_law_380 dL_law_381 (by decide) dL_law_382 dL_law_383 rfl ?_
    refine aw_arg 3 (pcn := 389) (by omega) h448 rfl rfl dL_law_384 dL_law_385 dL_law_386 (by decide) dL_law_387 dL_law_388 rfl ?_
    refine aw_if_eq (t := 396) (pcn := 392) dL_law_389 rfl (by decide) (fun q => absurd q hq0) (fun _ => ?_)
    refine aw_iconst (v := nI 1) (pcn := 393) dL_law_392 rfl (by decide) ?_
    refine aw_goto (t := 397) dL_law_393 (by decide) ?_
    refine aw_Vi (pcn := 400) (r_a_unlock hW hI _ _ _) mf_X7_unlock mv_X7_unlock hW.mo rfl ml_L_37 rfl (by decide) (by omega) (by omega) (by exact Nat.le_of_ble_eq_true rfl) rfl dL_law_397 rfl (fun r h hq => ?_)
    obtain ⟨rfl, hW⟩ := hq
    refine aw_icmp_eq (t := 1164) (pcn := 403) dL_law_400 rfl (by decide) (fun _ => ?_) (fun q => absurd rfl q)
    exact AW.le (by omega) (by omega) (K Γ ow _ _ _ _ _ _ rfl rfl hW hI')
set_option maxHeartbeats 1600000 in
set_option maxRecDepth 20000 in
theorem lw_game (hj : 7 * j + 7 ≤ Ln) (h448 : Ln ≤ 448) (hW : WD Γ ow h T T hN) (hI : Iv j T C N Z hN) (K : NX X l nm b Ln xs kb nb j Γ) : AW X l cL_law RL nm (some .boolean) 4 9 (some (b, Ln, xs)) QL (4800 + kb) (19200 + nb) 405 [some (.ref b), some (.ref (Γ 0 0)), some (.ref (Γ 14 0)), some (.int (nI (7 * j)))] [] h := by
  obtain ⟨C', N', Z', hI'⟩ := k_game hI (xs (7 * j + 1)) (xs (7 * j + 2)) (xs (7 * j + 3)) (xs (7 * j + 4)) (xs (7 * j + 5))
  refine aw_alo 1 (pcn := 406) rfl dL_law_405 rfl rfl (rf_some _) ?_
  refine aw_arg 1 (pcn := 411) (by omega) h448 rfl rfl dL_law_406 dL_law_407 dL_law_408 (by decide) dL_law_409 dL_law_410 rfl ?_
  refine aw_arg 2 (pcn := 416) (by omega) h448 rfl rfl dL_law_411 dL_law_412 dL_law_413 (by decide) dL_law_414 dL_law_415 rfl ?_
  refine aw_arg 3 (pcn := 421) (by omega) h448 rfl rfl dL_law_416 dL_law_417 dL_law_418 (by decide) dL_law_419 dL_law_420 rfl ?_
  refine aw_arg 4 (pcn := 426) (by omega) h448 rfl rfl dL_law_421 dL_law_422 dL_law_423 (by decide) dL_law_424 dL_law_425 rfl ?_
  refine aw_arg 5 (pcn := 431) (by omega) h448 rfl rfl dL_law_426 dL_law_427 dL_law_428 (by decide) dL_law_429 dL_law_430 rfl ?_
  refine aw_Vi (pcn := 434) (c_a_game hW hI _ _ _ _ _) mf_X6_game mv_X6_game hW.sc rfl ml_L_38 rfl (by decide) (by omega) (by omega) (by exact Nat.le_of_ble_eq_true rfl) rfl dL_law_431 rfl (fun r h hq => ?_)
  obtain ⟨rfl, hW⟩ := hq
  refine aw_alo 2 (pcn := 435) rfl dL_law_434 rfl rfl (rf_some _) ?_
  refine aw_arg 1 (pcn := 440) (by omega) h448 rfl rfl dL_law_435 dL_law_436 dL_law_437 (by decide) dL_law_438 dL_law_439 rfl ?_
  refine aw_arg 2 (pcn := 445) (by omega) h448 rfl rfl dL_law_440 dL_law_441 dL_law_442 (by decide) dL_law_443 dL_law_444 rfl ?_
  refine aw_arg 3 (pcn := 450) (by omega) h448 rfl rfl dL_law_445 dL_law_446 dL_law_447 (by decide) dL_law_448 dL_law_449 rfl ?_
  refine aw_arg 4 (pcn := 455) (by omega) h448 rfl rfl dL_law_450 dL_law_451 dL_law_452 (by decide) dL_law_453 dL_law_454 rfl ?_
  refine aw_arg 5 (pcn := 460) (by omega) h448 rfl rfl dL_law_455 dL_law_456 dL_law_457 (by decide) dL_law_458 dL_law_459 rfl ?_
  refine aw_Vi (pcn := 463) (r_a_game hW hI _ _ _ _ _) mf_X7_game mv_X7_game hW.mo rfl ml_L_42 rfl (by decide) (by omega) (by omega) (by exact Nat.le_of_ble_eq_true rfl) rfl dL_law_460 rfl (fun r h hq => ?_)
  obtain ⟨rfl, hW⟩ := hq
  refine aw_icmp_eq (t := 1164) (pcn := 466) dL_law_463 rfl (by decide) (fun _ => ?_) (fun q => absurd rfl q)
  exact AW.le (by omega) (by omega) (K Γ ow _ _ _ _ _ _ rfl rfl hW hI')
set_option maxHeartbeats 1600000 in
set_option maxRecDepth 20000 in
theorem lw_move (hj : 7 * j + 7 ≤ Ln) (h448 : Ln ≤ 448) (hW : WD Γ ow h T T hN) (hI : Iv j T C N Z hN) (K : NX X l nm b Ln xs kb nb j Γ) : AW X l cL_law RL nm (some .boolean) 4 9 (some (b, Ln, xs)) QL (4800 + kb) (19200 + nb) 468 [some (.ref b), some (.ref (Γ 0 0)), some (.ref (Γ 14 0)), some (.int (nI (7 * j)))] [] h := by
  obtain ⟨C', N', Z', hI'⟩ := k_move hI (xs (7 * j + 1)) (xs (7 * j + 2))
  refine aw_alo 1 (pcn := 469) rfl dL_law_468 rfl rfl (rf_some _) ?_
  refine aw_arg 1 (pcn := 474) (by omega) h448 rfl rfl dL_law_469 dL_law_470 dL_law_471 (by decide) dL_law_472 dL_law_473 rfl ?_
  refine aw_arg 2 (pcn := 479) (by omega) h448 rfl rfl dL_law_474 dL_law_475 dL_law_476 (by decide) dL_law_477 dL_law_478 rfl ?_
  refine aw_Vi (pcn := 482) (c_a_move hW hI _ _) mf_X6_move mv_X6_move hW.sc rfl ml_L_43 rfl (by decide) (by omega) (by omega) (by exact Nat.le_of_ble_eq_true rfl) rfl dL_law_479 rfl (fun r h hq => ?_)
  obtain ⟨rfl, hW⟩ := hq
  refine aw_alo 2 (pcn := 483) rfl dL_law_482 rfl rfl (rf_some _) ?_
  refine aw_arg 1 (pcn := 488) (by omega) h448 rfl rfl dL_law_483 dL_law_484 dL_law_485 (by decide) dL_law_486 dL_law_487 rfl ?_
  refine aw_arg 2 (pcn := 493) (by omega) h448 rfl rfl dL_law_488 dL_law_489 dL_law_490 (by decide) dL_law_491 dL_law_492 rfl ?_
  refine aw_Vi (pcn := 496) (r_a_move hW hI _ _) mf_X7_move mv_X7_move hW.mo rfl ml_L_47 rfl (by decide) (by omega) (by omega) (by exact Nat.le_of_ble_eq_true rfl) rfl dL_law_493 rfl (fun r h hq => ?_)
  obtain ⟨rfl, hW⟩ := hq
  refine aw_icmp_eq (t := 1164) (pcn := 499) dL_law_496 rfl (by decide) (fun _ => ?_) (fun q => absurd rfl q)
  exact AW.le (by omega) (by omega) (K Γ ow _ _ _ _ _ _ rfl rfl hW hI')
set_option maxHeartbeats 1600000 in
set_option maxRecDepth 20000 in
theorem lw_out (hj : 7 * j + 7 ≤ Ln) (h448 : Ln ≤ 448) (hW : WD Γ ow h T T hN) (hI : Iv j T C N Z hN) (K : NX X l nm b Ln xs kb nb j Γ) : AW X l cL_law RL nm (some .boolean) 4 9 (some (b, Ln, xs)) QL (4800 + kb) (19200 + nb) 501 [some (.ref b), some (.ref (Γ 0 0)), some (.ref (Γ 14 0)), some (.int (nI (7 * j)))] [] h := by
  obtain ⟨C', N', Z', hI'⟩ := k_outs hI (xs (7 * j + 1)) (xs (7 * j + 2)) (xs (7 * j + 3))
  refine aw_alo 1 (pcn := 502) rfl dL_law_501 rfl rfl (rf_some _) ?_
  refine aw_arg 1 (pcn := 507) (by omega) h448 rfl rfl dL_law_502 dL_law_503 dL_law_504 (by decide) dL_law_505 dL_law_506 rfl ?_
  refine aw_arg 2 (pcn := 512) (by omega) h448 rfl rfl dL_law_507 dL_law_508 dL_law_509 (by decide) dL_law_510 dL_law_511 rfl ?_
  refine aw_arg 3 (pcn := 517) (by omega) h448 rfl rfl dL_law_512 dL_law_513 dL_law_514 (by decide) dL_law_515 dL_law_516 rfl ?_
  refine aw_Vi (pcn := 520) (c_a_out hW hI _ _ _) mf_X6_out mv_X6_out hW.sc rfl ml_L_48 rfl (by decide) (by omega) (by omega) (by exact Nat.le_of_ble_eq_true rfl) rfl dL_law_517 rfl (fun r h hq => ?_)
  obtain ⟨rfl, hW⟩ := hq
  refine aw_alo 2 (pcn := 521) rfl dL_law_520 rfl rfl (rf_some _) ?_
  refine aw_arg 1 (pcn := 526) (by omega) h448 rfl rfl dL_law_521 dL_law_522 dL_law_523 (by decide) dL_law_524 dL_law_525 rfl ?_
  refine aw_arg 2 (pcn := 531) (by omega) h448 rfl rfl dL_law_526 dL_law_527 dL_law_528 (by decide) dL_law_529 dL_law_530 rfl ?_
  refine aw_arg 3 (pcn := 536) (by omega) h448 rfl rfl dL_law_531 dL_law_532 dL_law_533 (by decide) dL_law_534 dL_law_535 rfl ?_
  refine aw_Vi (pcn := 539) (r_a_out hW hI _ _ _) mf_X7_out mv_X7_out hW.mo rfl ml_L_51 rfl (by decide) (by omega) (by omega) (by exact Nat.le_of_ble_eq_true rfl) rfl dL_law_536 rfl (fun r h hq => ?_)
  obtain ⟨rfl, hW⟩ := hq
  refine aw_icmp_eq (t := 1164) (pcn := 542) dL_law_539 rfl (by decide) (fun _ => ?_) (fun q => absurd rfl q)
  exact AW.le (by omega) (by omega) (K Γ ow _ _ _ _ _ _ rfl rfl hW hI')
set_option maxHeartbeats 1600000 in
set_option maxRecDepth 20000 in
theorem lw_sign (hj : 7 * j + 7 ≤ Ln) (h448 : Ln ≤ 448) (hW : WD Γ ow h T T hN) (hI : Iv j T C N Z hN) (K : NX X l nm b Ln xs kb nb j Γ) : AW X l cL_law RL nm (some .boolean) 4 9 (some (b, Ln, xs)) QL (4800 + kb) (19200 + nb) 544 [some (.ref b), some (.ref (Γ 0 0)), some (.ref (Γ 14 0)), some (.int (nI (7 * j)))] [] h := by
  obtain ⟨C', N', Z', hI'⟩ := k_sign hI (xs (7 * j + 1)) (xs (7 * j + 2))
  refine aw_alo 1 (pcn := 545) rfl dL_law_544 rfl rfl (rf_some _) ?_
  refine aw_arg 1 (pcn := 550) (by omega) h448 rfl rfl dL_law_545 dL_law_546 dL_law_547 (by decide) dL_law_548 dL_law_549 rfl ?_
  refine aw_arg 2 (pcn := 555) (by omega) h448 rfl rfl dL_law_550 dL_law_551 dL_law_552 (by decide) dL_law_553 dL_law_554 rfl ?_
  refine aw_Vi (pcn := 558) (c_a_sign hW hI _ _) mf_X6_sign mv_X6_sign hW.sc rfl ml_L_52 rfl (by decide) (by omega) (by omega) (by exact Nat.le_of_ble_eq_true rfl) rfl dL_law_555 rfl (fun r h hq => ?_)
  obtain ⟨rfl, hW⟩ := hq
  refine aw_alo 2 (pcn := 559) rfl dL_law_558 rfl rfl (rf_some _) ?_
  refine aw_arg 1 (pcn := 564) (by omega) h448 rfl rfl dL_law_559 dL_law_560 dL_law_561 (by decide) dL_law_562 dL_law_563 rfl ?_
  refine aw_arg 2 (pcn := 569) (by omega) h448 rfl rfl dL_law_564 dL_law_565 dL_law_566 (by decide) dL_law_567 dL_law_568 rfl ?_
  refine aw_Vi (pcn := 572) (r_a_sign hW hI _ _) mf_X7_sign mv_X7_sign hW.mo rfl ml_L_55 rfl (by decide) (by omega) (by omega) (by exact Nat.le_of_ble_eq_true rfl) rfl dL_law_569 rfl (fun r h hq => ?_)
  obtain ⟨rfl, hW⟩ := hq
  refine aw_icmp_eq (t := 1164) (pcn := 575) dL_law_572 rfl (by decide) (fun _ => ?_) (fun q => absurd rfl q)
  exact AW.le (by omega) (by omega) (K Γ ow _ _ _ _ _ _ rfl rfl hW hI')
set_option maxHeartbeats 1600000 in
set_option maxRecDepth 20000 in
theorem lw_show (hj : 7 * j + 7 ≤ Ln) (h448 : Ln ≤ 448) (hW : WD Γ ow h T T hN) (hI : Iv j T C N Z hN) (K : NX X l nm b Ln xs kb nb j Γ) : AW X l cL_law RL nm (some .boolean) 4 9 (some (b, Ln, xs)) QL (4800 + kb) (19200 + nb) 577 [some (.ref b), some (.ref (Γ 0 0)), some (.ref (Γ 14 0)), some (.int (nI (7 * j)))] [] h := by
  obtain ⟨C', N', Z', hI'⟩ := k_show hI (xs (7 * j + 1)) (xs (7 * j + 2))
  refine aw_alo 1 (pcn := 578) rfl dL_law_577 rfl rfl (rf_some _) ?_
  refine aw_arg 1 (pcn := 583) (by omega) h448 rfl rfl dL_law_578 dL_law_579 dL_law_580 (by decide) dL_law_581 dL_law_582 rfl ?_
  refine aw_arg 2 (pcn := 588) (by omega) h448 rfl rfl dL_law_583 dL_law_584 dL_law_585 (by decide) dL_law_586 dL_law_587 rfl ?_
  refine aw_Vi (pcn := 591) (c_a_show hW hI _ _) mf_X6_show mv_X6_show hW.sc rfl ml_L_56 rfl (by decide) (by omega) (by omega) (by exact Nat.le_of_ble_eq_true rfl) rfl dL_law_588 rfl (fun r h hq => ?_)
  obtain ⟨rfl, hW⟩ := hq
  refine aw_alo 2 (pcn := 592) rfl dL_law_591 rfl rfl (rf_some _) ?_
  refine aw_arg 1 (pcn := 597) (by omega) h448 rfl rfl dL_law_592 dL_law_593 dL_law_594 (by decide) dL_law_595 dL_law_596 rfl ?_
  refine aw_arg 2 (pcn := 602) (by omega) h448 rfl rfl dL_law_597 dL_law_598 dL_law_599 (by decide) dL_law_600 dL_law_601 rfl ?_
  refine aw_Vi (pcn := 605) (r_a_show hW hI _ _) mf_X7_show mv_X7_show hW.mo rfl ml_L_59 rfl (by decide) (by omega) (by omega) (by exact Nat.le_of_ble_eq_true rfl) rfl dL_law_602 rfl (fun r h hq => ?_)
  obtain ⟨rfl, hW⟩ := hq
  refine aw_icmp_eq (t := 1164) (pcn := 608) dL_law_605 rfl (by decide) (fun _ => ?_) (fun q => absurd rfl q)
  exact AW.le (by omega) (by omega) (K Γ ow _ _ _ _ _ _ rfl rfl hW hI')
set_option maxHeartbeats 1600000 in
set_option maxRecDepth 20000 in
theorem lw_agree (hj : 7 * j + 7 ≤ Ln) (h448 : Ln ≤ 448) (hW : WD Γ ow h T T hN) (hI : Iv j T C N Z hN) (K : NX X l nm b Ln xs kb nb j Γ) : AW X l cL_law RL nm (some .boolean) 4 9 (some (b, Ln, xs)) QL (4800 + kb) (19200 + nb) 610 [some (.ref b), some (.ref (Γ 0 0)), some (.ref (Γ 14 0)), some (.int (nI (7 * j)))] [] h := by
  obtain ⟨C', N', Z', hI'⟩ := k_agree hI (by omega) (xs (7 * j + 1)) (xs (7 * j + 2))
  refine aw_alo 1 (pcn := 611) rfl dL_law_610 rfl rfl (rf_some _) ?_
  refine aw_arg 1 (pcn := 616) (by omega) h448 rfl rfl dL_law_611 dL_law_612 dL_law_613 (by decide) dL_law_614 dL_law_615 rfl ?_
  refine aw_arg 2 (pcn := 621) (by omega) h448 rfl rfl dL_law_616 dL_law_617 dL_law_618 (by decide) dL_law_619 dL_law_620 rfl ?_
  refine aw_Vi (pcn := 624) (c_a_agree hW hI _ _) mf_X6_agree mv_X6_agree hW.sc rfl ml_L_60 rfl (by decide) (by omega) (by omega) (by exact Nat.le_of_ble_eq_true rfl) rfl dL_law_621 rfl (fun r h hq => ?_)
  obtain ⟨rfl, hW⟩ := hq
  refine aw_alo 2 (pcn := 625) rfl dL_law_624 rfl rfl (rf_some _) ?_
  refine aw_arg 1 (pcn := 630) (by omega) h448 rfl rfl dL_law_625 dL_law_626 dL_law_627 (by decide) dL_law_628 dL_law_629 rfl ?_
  refine aw_arg 2 (pcn := 635) (by omega) h448 rfl rfl dL_law_630 dL_law_631 dL_law_632 (by decide) dL_law_633 dL_law_634 rfl ?_
  refine aw_Vi (pcn := 638) (r_a_agree hW hI _ _) mf_X7_agree mv_X7_agree hW.mo rfl ml_L_63 rfl (by decide) (by omega) (by omega) (by exact Nat.le_of_ble_eq_true rfl) rfl dL_law_635 rfl (fun r h hq => ?_)
  obtain ⟨rfl, hW⟩ := hq
  refine aw_icmp_eq (t := 1164) (pcn := 641) dL_law_638 rfl (by decide) (fun _ => ?_) (fun q => absurd rfl q)
  exact AW.le (by omega) (by omega) (K Γ ow _ _ _ _ _ _ rfl rfl hW hI')
set_option maxHeartbeats 1600000 in
set_option maxRecDepth 20000 in
theorem lw_secret (hj : 7 * j + 7 ≤ Ln) (h448 : Ln ≤ 448) (hW : WD Γ ow h T T hN) (hI : Iv j T C N Z hN) (K : NX X l nm b Ln xs kb nb j Γ) : AW X l cL_law RL nm (some .boolean) 4 9 (some (b, Ln, xs)) QL (4800 + kb) (19200 + nb) 643 [some (.ref b), some (.ref (Γ 0 0)), some (.ref (Γ 14 0)), some (.int (nI (7 * j)))] [] h := by
  obtain ⟨C', N', Z', hI'⟩ := k_secret hI (xs (7 * j + 1))
  refine aw_alo 1 (pcn := 644) rfl dL_law_643 rfl rfl (rf_some _) ?_
  refine aw_arg 1 (pcn := 649) (by omega) h448 rfl rfl dL_law_644 dL_law_645 dL_law_646 (by decide) dL_law_647 dL_law_648 rfl ?_
  refine aw_Vi (pcn := 652) (c_a_secret hW hI _) mf_X6_secret mv_X6_secret hW.sc rfl ml_L_64 rfl (by decide) (by omega) (by omega) (by exact Nat.le_of_ble_eq_true rfl) rfl dL_law_649 rfl (fun r h hq => ?_)
  obtain ⟨rfl, hW⟩ := hq
  refine aw_alo 2 (pcn := 653) rfl dL_law_652 rfl rfl (rf_some _) ?_
  refine aw_arg 1 (pcn := 658) (by omega) h448 rfl rfl dL_law_653 dL_law_654 dL_law_655 (by decide) dL_law_656 dL_law_657 rfl ?_
  refine aw_Vi (pcn := 661) (r_a_secret hW hI _) mf_X7_secret mv_X7_secret hW.mo rfl ml_L_67 rfl (by decide) (by omega) (by omega) (by exact Nat.le_of_ble_eq_true rfl) rfl dL_law_658 rfl (fun r h hq => ?_)
  obtain ⟨rfl, hW⟩ := hq
  refine aw_icmp_eq (t := 1164) (pcn := 664) dL_law_661 rfl (by decide) (fun _ => ?_) (fun q => absurd rfl q)
  exact AW.le (by omega) (by omega) (K Γ ow _ _ _ _ _ _ rfl rfl hW hI')
set_option maxHeartbeats 1600000 in
set_option maxRecDepth 20000 in
theorem lw_tell (hj : 7 * j + 7 ≤ Ln) (h448 : Ln ≤ 448) (hW : WD Γ ow h T T hN) (hI : Iv j T C N Z hN) (K : NX X l nm b Ln xs kb nb j Γ) : AW X l cL_law RL nm (some .boolean) 4 9 (some (b, Ln, xs)) QL (4800 + kb) (19200 + nb) 666 [some (.ref b), some (.ref (Γ 0 0)), some (.ref (Γ 14 0)), some (.int (nI (7 * j)))] [] h := by
  obtain ⟨C', N', Z', hI'⟩ := k_tell hI (xs (7 * j + 1)) (xs (7 * j + 2)) (xs (7 * j + 3))
  refine aw_alo 1 (pcn := 667) rfl dL_law_666 rfl rfl (rf_some _) ?_
  refine aw_arg 1 (pcn := 672) (by omega) h448 rfl rfl dL_law_667 dL_law_668 dL_law_669 (by decide) dL_law_670 dL_law_671 rfl ?_
  refine aw_arg 2 (pcn := 677) (by omega) h448 rfl rfl dL_law_672 dL_law_673 dL_law_674 (by decide) dL_law_675 dL_law_676 rfl ?_
  refine aw_arg 3 (pcn := 682) (by omega) h448 rfl rfl dL_law_677 dL_law_678 dL_law_679 (by decide) dL_law_680 dL_law_681 rfl ?_
  refine aw_Vi (pcn := 685) (c_a_tell hW hI _ _ _) mf_X6_tell mv_X6_tell hW.sc rfl ml_L_68 rfl (by decide) (by omega) (by omega) (by exact Nat.le_of_ble_eq_true rfl) rfl dL_law_682 rfl (fun r h hq => ?_)
  obtain ⟨rfl, hW⟩ := hq
  refine aw_alo 2 (pcn := 686) rfl dL_law_685 rfl rfl (rf_some _) ?_
  refine aw_arg 1 (pcn := 691) (by omega) h448 rfl rfl dL_law_686 dL_law_687 dL_law_688 (by decide) dL_law_689 dL_law_690 rfl ?_
  refine aw_arg 2 (pcn := 696) (by omega) h448 rfl rfl dL_law_691 dL_law_692 dL_law_693 (by decide) dL_law_694 dL_law_695 rfl ?_
  refine aw_arg 3 (pcn := 701) (by omega) h448 rfl rfl dL_law_696 dL_law_697 dL_law_698 (by decide) dL_law_699 dL_law_700 rfl ?_
  refine aw_Vi (pcn := 704) (r_a_tell hW hI _ _ _) mf_X7_tell mv_X7_tell hW.mo rfl ml_L_71 rfl (by decide) (by omega) (by omega) (by exact Nat.le_of_ble_eq_true rfl) rfl dL_law_701 rfl (fun r h hq => ?_)
  obtain ⟨rfl, hW⟩ := hq
  refine aw_icmp_eq (t := 1164) (pcn := 707) dL_law_704 rfl (by decide) (fun _ => ?_) (fun q => absurd rfl q)
  exact AW.le (by omega) (by omega) (K Γ ow _ _ _ _ _ _ rfl rfl hW hI')
set_option maxHeartbeats 1600000 in
set_option maxRecDepth 20000 in
theorem lw_claim (hj : 7 * j + 7 ≤ Ln) (h448 : Ln ≤ 448) (hW : WD Γ ow h T T hN) (hI : Iv j T C N Z hN) (K : NX X l nm b Ln xs kb nb j Γ) : AW X l cL_law RL nm (some .boolean) 4 9 (some (b, Ln, xs)) QL (4800 + kb) (19200 + nb) 709 [some (.ref b), some (.ref (Γ 0 0)), some (.ref (Γ 14 0)), some (.int (nI (7 * j)))] [] h := by
  obtain ⟨C', N', Z', hI'⟩ := k_claim hI (xs (7 * j + 1)) (xs (7 * j + 2)) (xs (7 * j + 3))
  refine aw_alo 1 (pcn := 710) rfl dL_law_709 rfl rfl (rf_some _) ?_
  refine aw_arg 1 (pcn := 715) (by omega) h448 rfl rfl dL_law_710 dL_law_711 dL_law_712 (by decide) dL_law_713 dL_law_714 rfl ?_
  refine aw_arg 2 (pcn := 720) (by omega) h448 rfl rfl dL_law_715 dL_law_716 dL_law_717 (by decide) dL_law_718 dL_law_719 rfl ?_
  refine aw_arg 3 (pcn := 725) (by omega) h448 rfl rfl dL_law_720 dL_law_721 dL_law_722 (by decide) dL_law_723 dL_law_724 rfl ?_
  refine aw_Vi (pcn := 728) (c_a_claim hW hI _ _ _) mf_X6_claim mv_X6_claim hW.sc rfl ml_L_72 rfl (by decide) (by omega) (by omega) (by exact Nat.le_of_ble_eq_true rfl) rfl dL_law_725 rfl (fun r h hq => ?_)
  obtain ⟨rfl, hW⟩ := hq
  refine aw_alo 2 (pcn := 729) rfl dL_law_728 rfl rfl (rf_some _) ?_
  refine aw_arg 1 (pcn := 734) (by omega) h448 rfl rfl dL_law_729 dL_law_730 dL_law_731 (by decide) dL_law_732 dL_law_733 rfl ?_
  refine aw_arg 2 (pcn := 739) (by omega) h448 rfl rfl dL_law_734 dL_law_735 dL_law_736 (by decide) dL_law_737 dL_law_738 rfl ?_
  refine aw_arg 3 (pcn := 744) (by omega) h448 rfl rfl dL_law_739 dL_law_740 dL_law_741 (by decide) dL_law_742 dL_law_743 rfl ?_
  refine aw_Vi (pcn := 747) (r_a_claim hW hI _ _ _) mf_X7_claim mv_X7_claim hW.mo rfl ml_L_75 rfl (by decide) (by omega) (by omega) (by exact Nat.le_of_ble_eq_true rfl) rfl dL_law_744 rfl (fun r h hq => ?_)
  obtain ⟨rfl, hW⟩ := hq
  refine aw_icmp_eq (t := 1164) (pcn := 750) dL_law_747 rfl (by decide) (fun _ => ?_) (fun q => absurd rfl q)
  exact AW.le (by omega) (by omega) (K Γ ow _ _ _ _ _ _ rfl rfl hW hI')
set_option maxHeartbeats 1600000 in
set_option maxRecDepth 20000 in
theorem lw_step (hj : 7 * j + 7 ≤ Ln) (h448 : Ln ≤ 448) (hW : WD Γ ow h T T hN) (hI : Iv j T C N Z hN) (K : NX X l nm b Ln xs kb nb j Γ) : AW X l cL_law RL nm (some .boolean) 4 9 (some (b, Ln, xs)) QL (4800 + kb) (19200 + nb) 752 [some (.ref b), some (.ref (Γ 0 0)), some (.ref (Γ 14 0)), some (.int (nI (7 * j)))] [] h := by
  obtain ⟨C', N', Z', hI'⟩ := k_step hI (xs (7 * j + 1)) (xs (7 * j + 2)) (xs (7 * j + 3))
  refine aw_alo 1 (pcn := 753) rfl dL_law_752 rfl rfl (rf_some _) ?_
  refine aw_arg 1 (pcn := 758) (by omega) h448 rfl rfl dL_law_753 dL_law_754 dL_law_755 (by decide) dL_law_756 dL_law_757 rfl ?_
  refine aw_arg 2 (pcn := 763) (by omega) h448 rfl rfl dL_law_758 dL_law_759 dL_law_760 (by decide) dL_law_761 dL_law_762 rfl ?_
  refine aw_arg 3 (pcn := 768) (by omega) h448 rfl rfl dL_law_763 dL_law_764 dL_law_765 (by decide) dL_law_766 dL_law_767 rfl ?_
  refine aw_Vi (pcn := 771) (c_a_step hW hI _ _ _) mf_X6_step mv_X6_step hW.sc rfl ml_L_76 rfl (by decide) (by omega) (by omega) (by exact Nat.le_of_ble_eq_true rfl) rfl dL_law_768 rfl (fun r h hq => ?_)
  obtain ⟨rfl, hW⟩ := hq
  refine aw_alo 2 (pcn := 772) rfl dL_law_771 rfl rfl (rf_some _) ?_
  refine aw_arg 1 (pcn := 777) (by omega) h448 rfl rfl dL_law_772 dL_law_773 dL_law_774 (by decide) dL_law_775 dL_law_776 rfl ?_
  refine aw_arg 2 (pcn := 782) (by omega) h448 rfl rfl dL_law_777 dL_law_778 dL_law_779 (by decide) dL_law_780 dL_law_781 rfl ?_
  refine aw_arg 3 (pcn := 787) (by omega) h448 rfl rfl dL_law_782 dL_law_783 dL_law_784 (by decide) dL_law_785 dL_law_786 rfl ?_
  refine aw_Vi (pcn := 790) (r_a_step hW hI _ _ _) mf_X7_step mv_X7_step hW.mo rfl ml_L_79 rfl (by decide) (by omega) (by omega) (by exact Nat.le_of_ble_eq_true rfl) rfl dL_law_787 rfl (fun r h hq => ?_)
  obtain ⟨rfl, hW⟩ := hq
  refine aw_icmp_eq (t := 1164) (pcn := 793) dL_law_790 rfl (by decide) (fun _ => ?_) (fun q => absurd rfl q)
  exact AW.le (by omega) (by omega) (K Γ ow _ _ _ _ _ _ rfl rfl hW hI')
set_option maxHeartbeats 1600000 in
set_option maxRecDepth 20000 in
theorem lw_watch (hj : 7 * j + 7 ≤ Ln) (h448 : Ln ≤ 448) (hW : WD Γ ow h T T hN) (hI : Iv j T C N Z hN) (K : NX X l nm b Ln xs kb nb j Γ) : AW X l cL_law RL nm (some .boolean) 4 9 (some (b, Ln, xs)) QL (4800 + kb) (19200 + nb) 795 [some (.ref b), some (.ref (Γ 0 0)), some (.ref (Γ 14 0)), some (.int (nI (7 * j)))] [] h := by
  by_cases hq0 : xs (7 * j + 2) = 0
  · obtain ⟨C', N', Z', hI'⟩ := k_watch hI (xs (7 * j + 1)) (on := nI 0) (Or.inl rfl)
    refine aw_alo 1 (pcn := 796) rfl dL_law_795 rfl rfl (rf_some _) ?_
    refine aw_arg 1 (pcn := 801) (by omega) h448 rfl rfl dL_law_796 dL_law_797 dL_law_798 (by decide) dL_law_799 dL_law_800 rfl ?_
    refine aw_arg 2 (pcn := 806) (by omega) h448 rfl rfl dL_law_801 dL_law_802 dL_law_803 (by decide) dL_law_804 dL_law_805 rfl ?_
    refine aw_if_eq (t := 813) (pcn := 809) dL_law_806 rfl (by decide) (fun _ => ?_) (fun q => absurd hq0 q)
    refine aw_iconst (v := nI 0) (pcn := 814) dL_law_813 rfl (by decide) ?_
    refine aw_Vi (pcn := 817) (c_a_watch hW hI _ _ (Or.inl rfl)) mf_X6_watch mv_X6_watch hW.sc rfl ml_L_80 rfl (by decide) (by omega) (by omega) (by exact Nat.le_of_ble_eq_true rfl) rfl dL_law_814 rfl (fun r h hq => ?_)
    obtain ⟨rfl, hW⟩ := hq
    refine aw_alo 2 (pcn := 818) rfl dL_law_817 rfl rfl (rf_some _) ?_
    refine aw_arg 1 (pcn := 823) (by omega) h448 rfl rfl dL_law_818 dL_law_819 dL_law_820 (by decide) dL_law_821 dL_law_822 rfl ?_
    refine aw_arg 2 (pcn := 828) (by omega) h448 rfl rfl dL_law_823 dL_law_824 dL_law_825 (by decide) dL_law_826 dL_law_827 rfl ?_
    refine aw_if_eq (t := 835) (pcn := 831) dL_law_828 rfl (by decide) (fun _ => ?_) (fun q => absurd hq0 q)
    refine aw_iconst (v := nI 0) (pcn := 836) dL_law_835 rfl (by decide) ?_
    refine aw_Vi (pcn := 839) (r_a_watch hW hI _ _ (Or.inl rfl)) mf_X7_watch mv_X7_watch hW.mo rfl ml_L_84 rfl (by decide) (by omega) (by omega) (by exact Nat.le_of_ble_eq_true rfl) rfl dL_law_836 rfl (fun r h hq => ?_)
    obtain ⟨rfl, hW⟩ := hq
    refine aw_icmp_eq (t := 1164) (pcn := 842) dL_law_839 rfl (by decide) (fun _ => ?_) (fun q => absurd rfl q)
    exact AW.le (by omega) (by omega) (K Γ ow _ _ _ _ _ _ rfl rfl hW hI')
  · obtain ⟨C', N', Z', hI'⟩ := k_watch hI (xs (7 * j + 1)) (on := nI 1) (Or.inr rfl)
    refine aw_alo 1 (pcn := 796) rfl dL_law_795 rfl rfl (rf_some _) ?_
    refine aw_arg 1 (pcn := 801) (by omega) h448 rfl rfl dL_law_796 dL_law_797 dL_law_798 (by decide) dL_law_799 dL_law_800 rfl ?_
    refine aw_arg 2 (pcn := 806) (by omega) h448 rfl rfl dL_law_801 dL_law_802 dL_law_803 (by decide) dL_law_804 dL_law_805 rfl ?_
    refine aw_if_eq (t := 813) (pcn := 809) dL_law_806 rfl (by decide) (fun q => absurd q hq0) (fun _ => ?_)
    refine aw_iconst (v := nI 1) (pcn := 810) dL_law_809 rfl (by decide) ?_
    refine aw_goto (t := 814) dL_law_810 (by decide) ?_
    refine aw_Vi (pcn := 817) (c_a_watch hW hI _ _ (Or.inr rfl)) mf_X6_watch mv_X6_watch hW.sc rfl ml_L_80 rfl (by decide) (by omega) (by omega) (by exact Nat.le_of_ble_eq_true rfl) rfl dL_law_814 rfl (fun r h hq => ?_)
    obtain ⟨rfl, hW⟩ := hq
    refine aw_alo 2 (pcn := 818) rfl dL_law_817 rfl rfl (rf_some _) ?_
    refine aw_arg 1 (pcn := 823) (by omega) h448 rfl rfl dL_law_818 dL_law_819 dL_law_820 (by decide) dL_law_821 dL_law_822 rfl ?_
    refine aw_arg 2 (pcn := 828) (by omega) h448 rfl rfl dL_law_823 dL_law_824 dL_law_825 (by decide) dL_law_826 dL_law_827 rfl ?_
    refine aw_if_eq (t := 835) (pcn := 831) dL_law_828 rfl (by decide) (fun q => absurd q hq0) (fun _ => ?_)
    refine aw_iconst (v := nI 1) (pcn := 832) dL_law_831 rfl (by decide) ?_
    refine aw_goto (t := 836) dL_law_832 (by decide) ?_
    refine aw_Vi (pcn := 839) (r_a_watch hW hI _ _ (Or.inr rfl)) mf_X7_watch mv_X7_watch hW.mo rfl ml_L_84 rfl (by decide) (by omega) (by omega) (by exact Nat.le_of_ble_eq_true rfl) rfl dL_law_836 rfl (fun r h hq => ?_)
    obtain ⟨rfl, hW⟩ := hq
    refine aw_icmp_eq (t := 1164) (pcn := 842) dL_law_839 rfl (by decide) (fun _ => ?_) (fun q => absurd rfl q)
    exact AW.le (by omega) (by omega) (K Γ ow _ _ _ _ _ _ rfl rfl hW hI')
set_option maxHeartbeats 1600000 in
set_option maxRecDepth 20000 in
theorem lw_height (hj : 7 * j + 7 ≤ Ln) (h448 : Ln ≤ 448) (hW : WD Γ ow h T T hN) (hI : Iv j T C N Z hN) (K : NX X l nm b Ln xs kb nb j Γ) : AW X l cL_law RL nm (some .boolean) 4 9 (some (b, Ln, xs)) QL (4800 + kb) (19200 + nb) 844 [some (.ref b), some (.ref (Γ 0 0)), some (.ref (Γ 14 0)), some (.int (nI (7 * j)))] [] h := by
  obtain ⟨C', N', Z', hI'⟩ := k_height hI (xs (7 * j + 1))
  refine aw_alo 1 (pcn := 845) rfl dL_law_844 rfl rfl (rf_some _) ?_
  refine aw_arg 1 (pcn := 850) (by omega) h448 rfl rfl dL_law_845 dL_law_846 dL_law_847 (by decide) dL_law_848 dL_law_849 rfl ?_
  refine aw_Vi (pcn := 853) (c_a_height hW hI _ (fun q => (hI.omN q).om.1)) mf_X6_height mv_X6_height hW.sc rfl ml_L_85 rfl (by decide) (by omega) (by omega) (by exact Nat.le_of_ble_eq_true rfl) rfl dL_law_850 rfl (fun r h hq => ?_)
  obtain ⟨rfl, hW⟩ := hq
  refine aw_alo 2 (pcn := 854) rfl dL_law_853 rfl rfl (rf_some _) ?_
  refine aw_arg 1 (pcn := 859) (by omega) h448 rfl rfl dL_law_854 dL_law_855 dL_law_856 (by decide) dL_law_857 dL_law_858 rfl ?_
  refine aw_Vi (pcn := 862) (r_height hW hI.n64 hI.C8 (fun q => (hI.omN q).om.1) _) mf_X7_height mv_X7_height hW.mo rfl ml_L_88 rfl (by decide) (by omega) (by omega) (by exact Nat.le_of_ble_eq_true rfl) rfl dL_law_859 rfl (fun r h hq => ?_)
  obtain ⟨rfl, hW⟩ := hq
  refine aw_icmp_eq (t := 1164) (pcn := 865) dL_law_862 rfl (by decide) (fun _ => ?_) (fun q => absurd rfl q)
  exact AW.le (by omega) (by omega) (K Γ ow _ _ _ _ _ _ rfl rfl hW hI')
set_option maxHeartbeats 1600000 in
set_option maxRecDepth 20000 in
theorem lw_hop (hj : 7 * j + 7 ≤ Ln) (h448 : Ln ≤ 448) (hW : WD Γ ow h T T hN) (hI : Iv j T C N Z hN) (K : NX X l nm b Ln xs kb nb j Γ) : AW X l cL_law RL nm (some .boolean) 4 9 (some (b, Ln, xs)) QL (4800 + kb) (19200 + nb) 867 [some (.ref b), some (.ref (Γ 0 0)), some (.ref (Γ 14 0)), some (.int (nI (7 * j)))] [] h := by
  obtain ⟨C', N', Z', hI'⟩ := k_hop hI (xs (7 * j + 1)) (xs (7 * j + 2)) (xs (7 * j + 3))
  refine aw_alo 1 (pcn := 868) rfl dL_law_867 rfl rfl (rf_some _) ?_
  refine aw_arg 1 (pcn := 873) (by omega) h448 rfl rfl dL_law_868 dL_law_869 dL_law_870 (by decide) dL_law_871 dL_law_872 rfl ?_
  refine aw_arg 2 (pcn := 878) (by omega) h448 rfl rfl dL_law_873 dL_law_874 dL_law_875 (by decide) dL_law_876 dL_law_877 rfl ?_
  refine aw_arg 3 (pcn := 883) (by omega) h448 rfl rfl dL_law_878 dL_law_879 dL_law_880 (by decide) dL_law_881 dL_law_882 rfl ?_
  refine aw_Vi (pcn := 886) (c_a_hop hW hI _ _ _ rfl) mf_X6_hop mv_X6_hop hW.sc rfl ml_L_89 rfl (by decide) (by omega) (by omega) (by exact Nat.le_of_ble_eq_true rfl) rfl dL_law_883 rfl (fun r h hq => ?_)
  obtain ⟨rfl, hW⟩ := hq
  refine aw_alo 2 (pcn := 887) rfl dL_law_886 rfl rfl (rf_some _) ?_
  refine aw_arg 1 (pcn := 892) (by omega) h448 rfl rfl dL_law_887 dL_law_888 dL_law_889 (by decide) dL_law_890 dL_law_891 rfl ?_
  refine aw_arg 2 (pcn := 897) (by omega) h448 rfl rfl dL_law_892 dL_law_893 dL_law_894 (by decide) dL_law_895 dL_law_896 rfl ?_
  refine aw_arg 3 (pcn := 902) (by omega) h448 rfl rfl dL_law_897 dL_law_898 dL_law_899 (by decide) dL_law_900 dL_law_901 rfl ?_
  refine aw_Vi (pcn := 905) (r_a_hop hW hI _ _ _) mf_X7_hop mv_X7_hop hW.mo rfl ml_L_92 rfl (by decide) (by omega) (by omega) (by exact Nat.le_of_ble_eq_true rfl) rfl dL_law_902 rfl (fun r h hq => ?_)
  obtain ⟨rfl, hW⟩ := hq
  refine aw_icmp_eq (t := 1164) (pcn := 908) dL_law_905 rfl (by decide) (fun _ => ?_) (fun q => absurd rfl q)
  exact AW.le (by omega) (by omega) (K Γ ow _ _ _ _ _ _ rfl rfl hW hI')
set_option maxHeartbeats 1600000 in
set_option maxRecDepth 20000 in
theorem lw_pay (hj : 7 * j + 7 ≤ Ln) (h448 : Ln ≤ 448) (hW : WD Γ ow h T T hN) (hI : Iv j T C N Z hN) (K : NX X l nm b Ln xs kb nb j Γ) : AW X l cL_law RL nm (some .boolean) 4 9 (some (b, Ln, xs)) QL (4800 + kb) (19200 + nb) 910 [some (.ref b), some (.ref (Γ 0 0)), some (.ref (Γ 14 0)), some (.int (nI (7 * j)))] [] h := by
  obtain ⟨h0, hH⟩ := hI.hop0
  by_cases hv : inR (xs (7 * j + 1)) (nI 1) (nI 60000) = true
  · have hv0 : (0 : Int32) ≤ xs (7 * j + 1) := by
      unfold inR at hv
      rw [Bool.and_eq_true] at hv
      exact Int32.le_trans (by decide) (of_decide_eq_true hv.1)
    have hp : PyOK j (up T 20 0 (nI 0)) C N Z hN (xs (7 * j + 1)) (xs (7 * j + 2)) := h0.pyOK hI.h4 hH hv0
    obtain ⟨C', N', Z', hI'⟩ := k_pay hI (xs (7 * j + 1)) (xs (7 * j + 2))
    refine aw_alo 1 (pcn := 911) rfl dL_law_910 rfl rfl (rf_some _) ?_
    refine aw_arg 1 (pcn := 916) (by omega) h448 rfl rfl dL_law_911 dL_law_912 dL_law_913 (by decide) dL_law_914 dL_law_915 rfl ?_
    refine aw_arg 2 (pcn := 921) (by omega) h448 rfl rfl dL_law_916 dL_law_917 dL_law_918 (by decide) dL_law_919 dL_law_920 rfl ?_
    refine aw_Vi (pcn := 924) (c_a_pay hW rfl _ _ h0 hI.h20 hI.h4 hH hp (Nat.le_refl _) hI.h4) mf_X6_pay mv_X6_pay hW.sc rfl ml_L_93 rfl (by decide) (by omega) (by omega) (by exact Nat.le_of_ble_eq_true rfl) rfl dL_law_921 rfl (fun r h hq => ?_)
    obtain ⟨rfl, Γ', ow', hg, hW⟩ := hq
    have e0 : Γ' 0 0 = Γ 0 0 := hg 0 0 (Or.inl ⟨by decide, rfl⟩)
    have e14 : Γ' 14 0 = Γ 14 0 := hg 14 0 vld_o
    rw [← e0, ← e14]
    refine aw_alo 2 (pcn := 925) rfl dL_law_924 rfl rfl (rf_some _) ?_
    refine aw_arg 1 (pcn := 930) (by omega) h448 rfl rfl dL_law_925 dL_law_926 dL_law_927 (by decide) dL_law_928 dL_law_929 rfl ?_
    refine aw_arg 2 (pcn := 935) (by omega) h448 rfl rfl dL_law_930 dL_law_931 dL_law_932 (by decide) dL_law_933 dL_law_934 rfl ?_
    refine aw_Vi (pcn := 938) (r_a_pay hW rfl _ _ h0 hI.h20 hI.h4 hH hp) mf_X7_pay mv_X7_pay hW.mo rfl ml_L_96 rfl (by decide) (by omega) (by omega) (by exact Nat.le_of_ble_eq_true rfl) rfl dL_law_935 rfl (fun r h hq => ?_)
    obtain ⟨rfl, hW⟩ := hq
    have hW := hW.nhle (Nat.zero_le _)
    refine aw_icmp_eq (t := 1164) (pcn := 941) dL_law_938 rfl (by decide) (fun _ => ?_) (fun q => absurd rfl q)
    exact AW.le (by omega) (by omega) (K Γ' ow' _ _ _ _ _ _ e0 e14 hW hI')
  · have hv : inR (xs (7 * j + 1)) (nI 1) (nI 60000) = false := by
      cases e : inR (xs (7 * j + 1)) (nI 1) (nI 60000) with
      | false => rfl
      | true => exact absurd e hv
    have hI' := h0.succ
    refine aw_alo 1 (pcn := 911) rfl dL_law_910 rfl rfl (rf_some _) ?_
    refine aw_arg 1 (pcn := 916) (by omega) h448 rfl rfl dL_law_911 dL_law_912 dL_law_913 (by decide) dL_law_914 dL_law_915 rfl ?_
    refine aw_arg 2 (pcn := 921) (by omega) h448 rfl rfl dL_law_916 dL_law_917 dL_law_918 (by decide) dL_law_919 dL_law_920 rfl ?_
    refine aw_Vi (pcn := 924) (c_payN hW _ _ hv) mf_X6_pay mv_X6_pay hW.sc rfl ml_L_93 rfl (by decide) (by omega) (by omega) (by exact Nat.le_of_ble_eq_true rfl) rfl dL_law_921 rfl (fun r h hq => ?_)
    obtain ⟨rfl, hW⟩ := hq
    refine aw_alo 2 (pcn := 925) rfl dL_law_924 rfl rfl (rf_some _) ?_
    refine aw_arg 1 (pcn := 930) (by omega) h448 rfl rfl dL_law_925 dL_law_926 dL_law_927 (by decide) dL_law_928 dL_law_929 rfl ?_
    refine aw_arg 2 (pcn := 935) (by omega) h448 rfl rfl dL_law_930 dL_law_931 dL_law_932 (by decide) dL_law_933 dL_law_934 rfl ?_
    refine aw_Vi (pcn := 938) (r_payN hW _ _ hv) mf_X7_pay mv_X7_pay hW.mo rfl ml_L_96 rfl (by decide) (by omega) (by omega) (by exact Nat.le_of_ble_eq_true rfl) rfl dL_law_935 rfl (fun r h hq => ?_)
    obtain ⟨rfl, hW⟩ := hq
    have hW := hW.nhle (Nat.zero_le _)
    refine aw_icmp_eq (t := 1164) (pcn := 941) dL_law_938 rfl (by decide) (fun _ => ?_) (fun q => absurd rfl q)
    exact AW.le (by omega) (by omega) (K Γ ow _ _ _ _ _ _ rfl rfl hW hI')
set_option maxHeartbeats 1600000 in
set_option maxRecDepth 20000 in
theorem lw_account (hj : 7 * j + 7 ≤ Ln) (h448 : Ln ≤ 448) (hW : WD Γ ow h T T hN) (hI : Iv j T C N Z hN) (K : NX X l nm b Ln xs kb nb j Γ) : AW X l cL_law RL nm (some .boolean) 4 9 (some (b, Ln, xs)) QL (4800 + kb) (19200 + nb) 943 [some (.ref b), some (.ref (Γ 0 0)), some (.ref (Γ 14 0)), some (.int (nI (7 * j)))] [] h := by
  have hI' := hI.succ
  refine aw_alo 1 (pcn := 944) rfl dL_law_943 rfl rfl (rf_some _) ?_
  refine aw_arg 1 (pcn := 949) (by omega) h448 rfl rfl dL_law_944 dL_law_945 dL_law_946 (by decide) dL_law_947 dL_law_948 rfl ?_
  refine aw_Vi (pcn := 952) (c_a_account hW hI _) mf_X6_account mv_X6_account hW.sc rfl ml_L_97 rfl (by decide) (by omega) (by omega) (by exact Nat.le_of_ble_eq_true rfl) rfl dL_law_949 rfl (fun r h hq => ?_)
  obtain ⟨rfl, hq⟩ := hq
  obtain rfl := hq.symm
  refine aw_alo 2 (pcn := 953) rfl dL_law_952 rfl rfl (rf_some _) ?_
  refine aw_arg 1 (pcn := 958) (by omega) h448 rfl rfl dL_law_953 dL_law_954 dL_law_955 (by decide) dL_law_956 dL_law_957 rfl ?_
  refine aw_Vi (pcn := 961) (r_a_account hW hI _) mf_X7_account mv_X7_account hW.mo rfl ml_L_100 rfl (by decide) (by omega) (by omega) (by exact Nat.le_of_ble_eq_true rfl) rfl dL_law_958 rfl (fun r h hq => ?_)
  obtain ⟨rfl, hq⟩ := hq
  obtain rfl := hq.symm
  refine aw_icmp_eq (t := 1164) (pcn := 964) dL_law_961 rfl (by decide) (fun _ => ?_) (fun q => absurd rfl q)
  exact AW.le (by omega) (by omega) (K Γ ow _ _ _ _ _ _ rfl rfl hW hI')
set_option maxHeartbeats 1600000 in
set_option maxRecDepth 20000 in
theorem lw_told (hj : 7 * j + 7 ≤ Ln) (h448 : Ln ≤ 448) (hW : WD Γ ow h T T hN) (hI : Iv j T C N Z hN) (K : NX X l nm b Ln xs kb nb j Γ) : AW X l cL_law RL nm (some .boolean) 4 9 (some (b, Ln, xs)) QL (4800 + kb) (19200 + nb) 966 [some (.ref b), some (.ref (Γ 0 0)), some (.ref (Γ 14 0)), some (.int (nI (7 * j)))] [] h := by
  have hI' := hI.succ
  refine aw_alo 1 (pcn := 967) rfl dL_law_966 rfl rfl (rf_some _) ?_
  refine aw_arg 1 (pcn := 972) (by omega) h448 rfl rfl dL_law_967 dL_law_968 dL_law_969 (by decide) dL_law_970 dL_law_971 rfl ?_
  refine aw_arg 2 (pcn := 977) (by omega) h448 rfl rfl dL_law_972 dL_law_973 dL_law_974 (by decide) dL_law_975 dL_law_976 rfl ?_
  refine aw_Vi (pcn := 980) (c_a_told hW hI _ _) mf_X6_told mv_X6_told hW.sc rfl ml_L_101 rfl (by decide) (by omega) (by omega) (by exact Nat.le_of_ble_eq_true rfl) rfl dL_law_977 rfl (fun r h hq => ?_)
  obtain ⟨rfl, hq⟩ := hq
  obtain rfl := hq.symm
  refine aw_alo 2 (pcn := 981) rfl dL_law_980 rfl rfl (rf_some _) ?_
  refine aw_arg 1 (pcn := 986) (by omega) h448 rfl rfl dL_law_981 dL_law_982 dL_law_983 (by decide) dL_law_984 dL_law_985 rfl ?_
  refine aw_arg 2 (pcn := 991) (by omega) h448 rfl rfl dL_law_986 dL_law_987 dL_law_988 (by decide) dL_law_989 dL_law_990 rfl ?_
  refine aw_Vi (pcn := 994) (r_a_told hW hI _ _) mf_X7_told mv_X7_told hW.mo rfl ml_L_104 rfl (by decide) (by omega) (by omega) (by exact Nat.le_of_ble_eq_true rfl) rfl dL_law_991 rfl (fun r h hq => ?_)
  obtain ⟨rfl, hq⟩ := hq
  obtain rfl := hq.symm
  refine aw_icmp_eq (t := 1164) (pcn := 997) dL_law_994 rfl (by decide) (fun _ => ?_) (fun q => absurd rfl q)
  exact AW.le (by omega) (by omega) (K Γ ow _ _ _ _ _ _ rfl rfl hW hI')
set_option maxHeartbeats 1600000 in
set_option maxRecDepth 20000 in
theorem lw_of (hj : 7 * j + 7 ≤ Ln) (h448 : Ln ≤ 448) (hW : WD Γ ow h T T hN) (hI : Iv j T C N Z hN) (K : NX X l nm b Ln xs kb nb j Γ) : AW X l cL_law RL nm (some .boolean) 4 9 (some (b, Ln, xs)) QL (4800 + kb) (19200 + nb) 999 [some (.ref b), some (.ref (Γ 0 0)), some (.ref (Γ 14 0)), some (.int (nI (7 * j)))] [] h := by
  have hI' := hI.succ
  refine aw_alo 1 (pcn := 1000) rfl dL_law_999 rfl rfl (rf_some _) ?_
  refine aw_arg 1 (pcn := 1005) (by omega) h448 rfl rfl dL_law_1000 dL_law_1001 dL_law_1002 (by decide) dL_law_1003 dL_law_1004 rfl ?_
  refine aw_arg 2 (pcn := 1010) (by omega) h448 rfl rfl dL_law_1005 dL_law_1006 dL_law_1007 (by decide) dL_law_1008 dL_law_1009 rfl ?_
  refine aw_Vi (pcn := 1013) (c_a_of hW hI _ _) mf_X6_of mv_X6_of hW.sc rfl ml_L_105 rfl (by decide) (by omega) (by omega) (by exact Nat.le_of_ble_eq_true rfl) rfl dL_law_1010 rfl (fun r h hq => ?_)
  obtain ⟨rfl, hq⟩ := hq
  obtain rfl := hq.symm
  refine aw_alo 2 (pcn := 1014) rfl dL_law_1013 rfl rfl (rf_some _) ?_
  refine aw_arg 1 (pcn := 1019) (by omega) h448 rfl rfl dL_law_1014 dL_law_1015 dL_law_1016 (by decide) dL_law_1017 dL_law_1018 rfl ?_
  refine aw_arg 2 (pcn := 1024) (by omega) h448 rfl rfl dL_law_1019 dL_law_1020 dL_law_1021 (by decide) dL_law_1022 dL_law_1023 rfl ?_
  refine aw_Vi (pcn := 1027) (r_a_of hW hI _ _) mf_X7_of mv_X7_of hW.mo rfl ml_L_108 rfl (by decide) (by omega) (by omega) (by exact Nat.le_of_ble_eq_true rfl) rfl dL_law_1024 rfl (fun r h hq => ?_)
  obtain ⟨rfl, hq⟩ := hq
  obtain rfl := hq.symm
  refine aw_icmp_eq (t := 1164) (pcn := 1030) dL_law_1027 rfl (by decide) (fun _ => ?_) (fun q => absurd rfl q)
  exact AW.le (by omega) (by omega) (K Γ ow _ _ _ _ _ _ rfl rfl hW hI')
set_option maxHeartbeats 1600000 in
set_option maxRecDepth 20000 in
theorem lw_share (hj : 7 * j + 7 ≤ Ln) (h448 : Ln ≤ 448) (hW : WD Γ ow h T T hN) (hI : Iv j T C N Z hN) (K : NX X l nm b Ln xs kb nb j Γ) : AW X l cL_law RL nm (some .boolean) 4 9 (some (b, Ln, xs)) QL (4800 + kb) (19200 + nb) 1032 [some (.ref b), some (.ref (Γ 0 0)), some (.ref (Γ 14 0)), some (.int (nI (7 * j)))] [] h := by
  have hI' := hI.succ
  refine aw_alo 1 (pcn := 1033) rfl dL_law_1032 rfl rfl (rf_some _) ?_
  refine aw_arg 1 (pcn := 1038) (by omega) h448 rfl rfl dL_law_1033 dL_law_1034 dL_law_1035 (by decide) dL_law_1036 dL_law_1037 rfl ?_
  refine aw_arg 2 (pcn := 1043) (by omega) h448 rfl rfl dL_law_1038 dL_law_1039 dL_law_1040 (by decide) dL_law_1041 dL_law_1042 rfl ?_
  refine aw_arg 3 (pcn := 1048) (by omega) h448 rfl rfl dL_law_1043 dL_law_1044 dL_law_1045 (by decide) dL_law_1046 dL_law_1047 rfl ?_
  refine aw_Vi (pcn := 1051) (c_a_share hW hI _ _ _) mf_X6_share mv_X6_share hW.sc rfl ml_L_109 rfl (by decide) (by omega) (by omega) (by exact Nat.le_of_ble_eq_true rfl) rfl dL_law_1048 rfl (fun r h hq => ?_)
  obtain ⟨rfl, hq⟩ := hq
  obtain rfl := hq.symm
  refine aw_alo 2 (pcn := 1052) rfl dL_law_1051 rfl rfl (rf_some _) ?_
  refine aw_arg 1 (pcn := 1057) (by omega) h448 rfl rfl dL_law_1052 dL_law_1053 dL_law_1054 (by decide) dL_law_1055 dL_law_1056 rfl ?_
  refine aw_arg 2 (pcn := 1062) (by omega) h448 rfl rfl dL_law_1057 dL_law_1058 dL_law_1059 (by decide) dL_law_1060 dL_law_1061 rfl ?_
  refine aw_arg 3 (pcn := 1067) (by omega) h448 rfl rfl dL_law_1062 dL_law_1063 dL_law_1064 (by decide) dL_law_1065 dL_law_1066 rfl ?_
  refine aw_Vi (pcn := 1070) (r_a_share hW hI _ _ _) mf_X7_share mv_X7_share hW.mo rfl ml_L_112 rfl (by decide) (by omega) (by omega) (by exact Nat.le_of_ble_eq_true rfl) rfl dL_law_1067 rfl (fun r h hq => ?_)
  obtain ⟨rfl, hq⟩ := hq
  obtain rfl := hq.symm
  refine aw_icmp_eq (t := 1164) (pcn := 1073) dL_law_1070 rfl (by decide) (fun _ => ?_) (fun q => absurd rfl q)
  exact AW.le (by omega) (by omega) (K Γ ow _ _ _ _ _ _ rfl rfl hW hI')
set_option maxHeartbeats 1600000 in
set_option maxRecDepth 20000 in
theorem lw_locked (hj : 7 * j + 7 ≤ Ln) (h448 : Ln ≤ 448) (hW : WD Γ ow h T T hN) (hI : Iv j T C N Z hN) (K : NX X l nm b Ln xs kb nb j Γ) : AW X l cL_law RL nm (some .boolean) 4 9 (some (b, Ln, xs)) QL (4800 + kb) (19200 + nb) 1075 [some (.ref b), some (.ref (Γ 0 0)), some (.ref (Γ 14 0)), some (.int (nI (7 * j)))] [] h := by
  have hI' := hI.succ
  refine aw_alo 1 (pcn := 1076) rfl dL_law_1075 rfl rfl (rf_some _) ?_
  refine aw_arg 1 (pcn := 1081) (by omega) h448 rfl rfl dL_law_1076 dL_law_1077 dL_law_1078 (by decide) dL_law_1079 dL_law_1080 rfl ?_
  refine aw_arg 2 (pcn := 1086) (by omega) h448 rfl rfl dL_law_1081 dL_law_1082 dL_law_1083 (by decide) dL_law_1084 dL_law_1085 rfl ?_
  refine aw_arg 3 (pcn := 1091) (by omega) h448 rfl rfl dL_law_1086 dL_law_1087 dL_law_1088 (by decide) dL_law_1089 dL_law_1090 rfl ?_
  refine aw_Vi (pcn := 1094) (c_a_locked hW hI _ _ _) mf_X6_locked mv_X6_locked hW.sc rfl ml_L_113 rfl (by decide) (by omega) (by omega) (by exact Nat.le_of_ble_eq_true rfl) rfl dL_law_1091 rfl (fun r h hq => ?_)
  obtain ⟨rfl, hq⟩ := hq
  obtain rfl := hq.symm
  refine aw_alo 2 (pcn := 1095) rfl dL_law_1094 rfl rfl (rf_some _) ?_
  refine aw_arg 1 (pcn := 1100) (by omega) h448 rfl rfl dL_law_1095 dL_law_1096 dL_law_1097 (by decide) dL_law_1098 dL_law_1099 rfl ?_
  refine aw_arg 2 (pcn := 1105) (by omega) h448 rfl rfl dL_law_1100 dL_law_1101 dL_law_1102 (by decide) dL_law_1103 dL_law_1104 rfl ?_
  refine aw_arg 3 (pcn := 1110) (by omega) h448 rfl rfl dL_law_1105 dL_law_1106 dL_law_1107 (by decide) dL_law_1108 dL_law_1109 rfl ?_
  refine aw_Vi (pcn := 1113) (r_a_locked hW hI _ _ _) mf_X7_locked mv_X7_locked hW.mo rfl ml_L_116 rfl (by decide) (by omega) (by omega) (by exact Nat.le_of_ble_eq_true rfl) rfl dL_law_1110 rfl (fun r h hq => ?_)
  obtain ⟨rfl, hq⟩ := hq
  obtain rfl := hq.symm
  refine aw_icmp_eq (t := 1164) (pcn := 1116) dL_law_1113 rfl (by decide) (fun _ => ?_) (fun q => absurd rfl q)
  exact AW.le (by omega) (by omega) (K Γ ow _ _ _ _ _ _ rfl rfl hW hI')
set_option maxHeartbeats 1600000 in
set_option maxRecDepth 20000 in
theorem lw_knows (hj : 7 * j + 7 ≤ Ln) (h448 : Ln ≤ 448) (hW : WD Γ ow h T T hN) (hI : Iv j T C N Z hN) (K : NX X l nm b Ln xs kb nb j Γ) : AW X l cL_law RL nm (some .boolean) 4 9 (some (b, Ln, xs)) QL (4800 + kb) (19200 + nb) 1118 [some (.ref b), some (.ref (Γ 0 0)), some (.ref (Γ 14 0)), some (.int (nI (7 * j)))] [] h := by
  have hI' := hI.succ
  refine aw_alo 1 (pcn := 1119) rfl dL_law_1118 rfl rfl (rf_some _) ?_
  refine aw_arg 1 (pcn := 1124) (by omega) h448 rfl rfl dL_law_1119 dL_law_1120 dL_law_1121 (by decide) dL_law_1122 dL_law_1123 rfl ?_
  refine aw_Vi (pcn := 1127) (c_a_knows hW hI _) mf_X6_knows mv_X6_knows hW.sc rfl ml_L_117 rfl (by decide) (by omega) (by omega) (by exact Nat.le_of_ble_eq_true rfl) rfl dL_law_1124 rfl (fun r h hq => ?_)
  obtain ⟨rfl, hq⟩ := hq
  obtain rfl := hq.symm
  refine aw_alo 2 (pcn := 1128) rfl dL_law_1127 rfl rfl (rf_some _) ?_
  refine aw_arg 1 (pcn := 1133) (by omega) h448 rfl rfl dL_law_1128 dL_law_1129 dL_law_1130 (by decide) dL_law_1131 dL_law_1132 rfl ?_
  refine aw_Vi (pcn := 1136) (r_a_knows hW hI _) mf_X7_knows mv_X7_knows hW.mo rfl ml_L_120 rfl (by decide) (by omega) (by omega) (by exact Nat.le_of_ble_eq_true rfl) rfl dL_law_1133 rfl (fun r h hq => ?_)
  obtain ⟨rfl, hq⟩ := hq
  obtain rfl := hq.symm
  refine aw_icmp_eq (t := 1164) (pcn := 1139) dL_law_1136 rfl (by decide) (fun _ => ?_) (fun q => absurd rfl q)
  exact AW.le (by omega) (by omega) (K Γ ow _ _ _ _ _ _ rfl rfl hW hI')
set_option maxHeartbeats 1600000 in
set_option maxRecDepth 20000 in
theorem lw_count (hj : 7 * j + 7 ≤ Ln) (h448 : Ln ≤ 448) (hW : WD Γ ow h T T hN) (hI : Iv j T C N Z hN) (K : NX X l nm b Ln xs kb nb j Γ) : AW X l cL_law RL nm (some .boolean) 4 9 (some (b, Ln, xs)) QL (4800 + kb) (19200 + nb) 1141 [some (.ref b), some (.ref (Γ 0 0)), some (.ref (Γ 14 0)), some (.int (nI (7 * j)))] [] h := by
  have hI' := hI.succ
  refine aw_alo 1 (pcn := 1142) rfl dL_law_1141 rfl rfl (rf_some _) ?_
  refine aw_arg 1 (pcn := 1147) (by omega) h448 rfl rfl dL_law_1142 dL_law_1143 dL_law_1144 (by decide) dL_law_1145 dL_law_1146 rfl ?_
  refine aw_Vi (pcn := 1150) (c_a_count hW hI _) mf_X6_count mv_X6_count hW.sc rfl ml_L_121 rfl (by decide) (by omega) (by omega) (by exact Nat.le_of_ble_eq_true rfl) rfl dL_law_1147 rfl (fun r h hq => ?_)
  obtain ⟨rfl, hq⟩ := hq
  obtain rfl := hq.symm
  refine aw_alo 2 (pcn := 1151) rfl dL_law_1150 rfl rfl (rf_some _) ?_
  refine aw_arg 1 (pcn := 1156) (by omega) h448 rfl rfl dL_law_1151 dL_law_1152 dL_law_1153 (by decide) dL_law_1154 dL_law_1155 rfl ?_
  refine aw_Vi (pcn := 1159) (r_a_count hW hI _) mf_X7_count mv_X7_count hW.mo rfl ml_L_124 rfl (by decide) (by omega) (by omega) (by exact Nat.le_of_ble_eq_true rfl) rfl dL_law_1156 rfl (fun r h hq => ?_)
  obtain ⟨rfl, hq⟩ := hq
  obtain rfl := hq.symm
  refine aw_icmp_eq (t := 1164) (pcn := 1162) dL_law_1159 rfl (by decide) (fun _ => ?_) (fun q => absurd rfl q)
  exact AW.le (by omega) (by omega) (K Γ ow _ _ _ _ _ _ rfl rfl hW hI')
end LAWO
