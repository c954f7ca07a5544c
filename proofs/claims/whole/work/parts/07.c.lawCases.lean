/-! PART 07.c: the law's cases -/
section LCASES
variable {w : wD} {x : wX} {Q : State → Prop} {σ : wSt} {b n : Nat} {xs : Nat → Int32}
theorem law_state (C : Cf w x cL_law 4 RL 9 328) (hw : wOK w) (X : Cx w x b n xs) (hn : n ≤ 2560) {i : Nat} (hi : i + 5 ≤ n) (h : wSim σ) (kk : ∀ σ2 : wSt, wSim σ2 → G w x 4 Q 927 [(0, .ref b), (1, .ref (w.2.2.2.1 0 0)), (2, .ref (w.2.2.2.1 20 0)), (3, .int (nI i))] [] σ2) : G w x 4 Q 144 [(0, .ref b), (1, .ref (w.2.2.2.1 0 0)), (2, .ref (w.2.2.2.1 20 0)), (3, .int (nI i))] [] σ := by
  refine G.aload_n C 1 dL_law_144 rfl rfl ?_
  refine G.aload_n C 0 dL_law_145 rfl rfl ?_
  refine G.iload_n C 3 dL_law_146 rfl rfl ?_
  refine G.iconst C (v := 1) dL_law_147 rfl ?_
  refine G.iadd C dL_law_148 ?_
  refine G.sld C X dL_law_149 (sc_1 hi hn) ?_
  refine G.aload_n C 0 dL_law_150 rfl rfl ?_
  refine G.iload_n C 3 dL_law_151 rfl rfl ?_
  refine G.iconst C (v := 2) dL_law_152 rfl ?_
  refine G.iadd C dL_law_153 ?_
  refine G.sld C X dL_law_154 (sc_2 hi hn) ?_
  refine G.aload_n C 0 dL_law_155 rfl rfl ?_
  refine G.iload_n C 3 dL_law_156 rfl rfl ?_
  refine G.iconst C (v := 3) dL_law_157 rfl ?_
  refine G.iadd C dL_law_158 ?_
  refine G.sld C X dL_law_159 (sc_3 hi hn) ?_
  obtain ⟨P5, hM5, hP5⟩ := sim_state hw h (xs (nI i + 1).toNatClampNeg) (xs (nI i + 2).toNatClampNeg) (xs (nI i + 3).toNatClampNeg)
  refine G.callV C (g := 0) (i := 0) (S := []) none hM5 dL_law_160 (by decide) rfl rfl rfl uv_X5_state ul_RL_13 rfl rfl ⟨by decide, by decide⟩ (Nat.le_of_ble_eq_true rfl) (fun r τ h5 => ?_)
  obtain ⟨P6, hM6, hP6⟩ := hP5 r τ h5
  refine G.aload_n C 2 dL_law_163 rfl rfl ?_
  refine G.aload_n C 0 dL_law_164 rfl rfl ?_
  refine G.iload_n C 3 dL_law_165 rfl rfl ?_
  refine G.iconst C (v := 1) dL_law_166 rfl ?_
  refine G.iadd C dL_law_167 ?_
  refine G.sld C X dL_law_168 (sc_1 hi hn) ?_
  refine G.aload_n C 0 dL_law_169 rfl rfl ?_
  refine G.iload_n C 3 dL_law_170 rfl rfl ?_
  refine G.iconst C (v := 2) dL_law_171 rfl ?_
  refine G.iadd C dL_law_172 ?_
  refine G.sld C X dL_law_173 (sc_2 hi hn) ?_
  refine G.aload_n C 0 dL_law_174 rfl rfl ?_
  refine G.iload_n C 3 dL_law_175 rfl rfl ?_
  refine G.iconst C (v := 3) dL_law_176 rfl ?_
  refine G.iadd C dL_law_177 ?_
  refine G.sld C X dL_law_178 (sc_3 hi hn) ?_
  refine G.callV C (g := 20) (i := 0) (S := [.int r]) none hM6 dL_law_179 (by decide) rfl rfl rfl uv_X6_state ul_RL_17 rfl rfl ⟨by decide, by decide⟩ (Nat.le_of_ble_eq_true rfl) (fun r2 τ2 h6 => ?_)
  obtain ⟨e9, h9⟩ := hP6 r2 τ2 h6
  exact G.icmp_eq C (tgt := 927) dL_law_182 (by decide) (fun _ => kk τ2 h9) (fun q => absurd e9 q)
theorem law_about (C : Cf w x cL_law 4 RL 9 328) (hw : wOK w) (X : Cx w x b n xs) (hn : n ≤ 2560) {i : Nat} (hi : i + 5 ≤ n) (h : wSim σ) (kk : ∀ σ2 : wSt, wSim σ2 → G w x 4 Q 927 [(0, .ref b), (1, .ref (w.2.2.2.1 0 0)), (2, .ref (w.2.2.2.1 20 0)), (3, .int (nI i))] [] σ2) : G w x 4 Q 187 [(0, .ref b), (1, .ref (w.2.2.2.1 0 0)), (2, .ref (w.2.2.2.1 20 0)), (3, .int (nI i))] [] σ := by
  refine G.aload_n C 1 dL_law_187 rfl rfl ?_
  refine G.aload_n C 0 dL_law_188 rfl rfl ?_
  refine G.iload_n C 3 dL_law_189 rfl rfl ?_
  refine G.iconst C (v := 1) dL_law_190 rfl ?_
  refine G.iadd C dL_law_191 ?_
  refine G.sld C X dL_law_192 (sc_1 hi hn) ?_
  refine G.aload_n C 0 dL_law_193 rfl rfl ?_
  refine G.iload_n C 3 dL_law_194 rfl rfl ?_
  refine G.iconst C (v := 2) dL_law_195 rfl ?_
  refine G.iadd C dL_law_196 ?_
  refine G.sld C X dL_law_197 (sc_2 hi hn) ?_
  obtain ⟨P5, hM5, hP5⟩ := sim_about hw h (xs (nI i + 1).toNatClampNeg) (xs (nI i + 2).toNatClampNeg)
  refine G.callV C (g := 0) (i := 0) (S := []) none hM5 dL_law_198 (by decide) rfl rfl rfl uv_X5_about ul_RL_18 rfl rfl ⟨by decide, by decide⟩ (Nat.le_of_ble_eq_true rfl) (fun r τ h5 => ?_)
  obtain ⟨P6, hM6, hP6⟩ := hP5 r τ h5
  refine G.aload_n C 2 dL_law_201 rfl rfl ?_
  refine G.aload_n C 0 dL_law_202 rfl rfl ?_
  refine G.iload_n C 3 dL_law_203 rfl rfl ?_
  refine G.iconst C (v := 1) dL_law_204 rfl ?_
  refine G.iadd C dL_law_205 ?_
  refine G.sld C X dL_law_206 (sc_1 hi hn) ?_
  refine G.aload_n C 0 dL_law_207 rfl rfl ?_
  refine G.iload_n C 3 dL_law_208 rfl rfl ?_
  refine G.iconst C (v := 2) dL_law_209 rfl ?_
  refine G.iadd C dL_law_210 ?_
  refine G.sld C X dL_law_211 (sc_2 hi hn) ?_
  refine G.callV C (g := 20) (i := 0) (S := [.int r]) none hM6 dL_law_212 (by decide) rfl rfl rfl uv_X6_about ul_RL_22 rfl rfl ⟨by decide, by decide⟩ (Nat.le_of_ble_eq_true rfl) (fun r2 τ2 h6 => ?_)
  obtain ⟨e9, h9⟩ := hP6 r2 τ2 h6
  exact G.icmp_eq C (tgt := 927) dL_law_215 (by decide) (fun _ => kk τ2 h9) (fun q => absurd e9 q)
theorem law_set (C : Cf w x cL_law 4 RL 9 328) (hw : wOK w) (X : Cx w x b n xs) (hn : n ≤ 2560) {i : Nat} (hi : i + 5 ≤ n) (h : wSim σ) (kk : ∀ σ2 : wSt, wSim σ2 → G w x 4 Q 927 [(0, .ref b), (1, .ref (w.2.2.2.1 0 0)), (2, .ref (w.2.2.2.1 20 0)), (3, .int (nI i))] [] σ2) : G w x 4 Q 220 [(0, .ref b), (1, .ref (w.2.2.2.1 0 0)), (2, .ref (w.2.2.2.1 20 0)), (3, .int (nI i))] [] σ := by
  refine G.aload_n C 1 dL_law_220 rfl rfl ?_
  refine G.aload_n C 0 dL_law_221 rfl rfl ?_
  refine G.iload_n C 3 dL_law_222 rfl rfl ?_
  refine G.iconst C (v := 1) dL_law_223 rfl ?_
  refine G.iadd C dL_law_224 ?_
  refine G.sld C X dL_law_225 (sc_1 hi hn) ?_
  refine G.aload_n C 0 dL_law_226 rfl rfl ?_
  refine G.iload_n C 3 dL_law_227 rfl rfl ?_
  refine G.iconst C (v := 2) dL_law_228 rfl ?_
  refine G.iadd C dL_law_229 ?_
  refine G.sld C X dL_law_230 (sc_2 hi hn) ?_
  obtain ⟨P5, hM5, hP5⟩ := sim_set hw h (xs (nI i + 1).toNatClampNeg) (xs (nI i + 2).toNatClampNeg)
  refine G.callV C (g := 0) (i := 0) (S := []) none hM5 dL_law_231 (by decide) rfl rfl rfl uv_X5_set ul_RL_23 rfl rfl ⟨by decide, by decide⟩ (Nat.le_of_ble_eq_true rfl) (fun r τ h5 => ?_)
  obtain ⟨P6, hM6, hP6⟩ := hP5 r τ h5
  refine G.aload_n C 2 dL_law_234 rfl rfl ?_
  refine G.aload_n C 0 dL_law_235 rfl rfl ?_
  refine G.iload_n C 3 dL_law_236 rfl rfl ?_
  refine G.iconst C (v := 1) dL_law_237 rfl ?_
  refine G.iadd C dL_law_238 ?_
  refine G.sld C X dL_law_239 (sc_1 hi hn) ?_
  refine G.aload_n C 0 dL_law_240 rfl rfl ?_
  refine G.iload_n C 3 dL_law_241 rfl rfl ?_
  refine G.iconst C (v := 2) dL_law_242 rfl ?_
  refine G.iadd C dL_law_243 ?_
  refine G.sld C X dL_law_244 (sc_2 hi hn) ?_
  refine G.callV C (g := 20) (i := 0) (S := [.int r]) none hM6 dL_law_245 (by decide) rfl rfl rfl uv_X6_set ul_RL_26 rfl rfl ⟨by decide, by decide⟩ (Nat.le_of_ble_eq_true rfl) (fun r2 τ2 h6 => ?_)
  obtain ⟨e9, h9⟩ := hP6 r2 τ2 h6
  exact G.icmp_eq C (tgt := 927) dL_law_248 (by decide) (fun _ => kk τ2 h9) (fun q => absurd e9 q)
theorem law_quarrel (C : Cf w x cL_law 4 RL 9 328) (hw : wOK w) (X : Cx w x b n xs) (hn : n ≤ 2560) {i : Nat} (hi : i + 5 ≤ n) (h : wSim σ) (kk : ∀ σ2 : wSt, wSim σ2 → G w x 4 Q 927 [(0, .ref b), (1, .ref (w.2.2.2.1 0 0)), (2, .ref (w.2.2.2.1 20 0)), (3, .int (nI i))] [] σ2) : G w x 4 Q 253 [(0, .ref b), (1, .ref (w.2.2.2.1 0 0)), (2, .ref (w.2.2.2.1 20 0)), (3, .int (nI i))] [] σ := by
  refine G.aload_n C 1 dL_law_253 rfl rfl ?_
  refine G.aload_n C 0 dL_law_254 rfl rfl ?_
  refine G.iload_n C 3 dL_law_255 rfl rfl ?_
  refine G.iconst C (v := 1) dL_law_256 rfl ?_
  refine G.iadd C dL_law_257 ?_
  refine G.sld C X dL_law_258 (sc_1 hi hn) ?_
  obtain ⟨P5, hM5, hP5⟩ := sim_quarrel hw h (xs (nI i + 1).toNatClampNeg)
  refine G.callV C (g := 0) (i := 0) (S := []) none hM5 dL_law_259 (by decide) rfl rfl rfl uv_X5_quarrel ul_RL_27 rfl rfl ⟨by decide, by decide⟩ (Nat.le_of_ble_eq_true rfl) (fun r τ h5 => ?_)
  obtain ⟨P6, hM6, hP6⟩ := hP5 r τ h5
  refine G.aload_n C 2 dL_law_262 rfl rfl ?_
  refine G.aload_n C 0 dL_law_263 rfl rfl ?_
  refine G.iload_n C 3 dL_law_264 rfl rfl ?_
  refine G.iconst C (v := 1) dL_law_265 rfl ?_
  refine G.iadd C dL_law_266 ?_
  refine G.sld C X dL_law_267 (sc_1 hi hn) ?_
  refine G.callV C (g := 20) (i := 0) (S := [.int r]) none hM6 dL_law_268 (by decide) rfl rfl rfl uv_X6_quarrel ul_RL_31 rfl rfl ⟨by decide, by decide⟩ (Nat.le_of_ble_eq_true rfl) (fun r2 τ2 h6 => ?_)
  obtain ⟨e9, h9⟩ := hP6 r2 τ2 h6
  exact G.icmp_eq C (tgt := 927) dL_law_271 (by decide) (fun _ => kk τ2 h9) (fun q => absurd e9 q)
theorem law_best (C : Cf w x cL_law 4 RL 9 328) (hw : wOK w) (X : Cx w x b n xs) (hn : n ≤ 2560) {i : Nat} (hi : i + 5 ≤ n) (h : wSim σ) (kk : ∀ σ2 : wSt, wSim σ2 → G w x 4 Q 927 [(0, .ref b), (1, .ref (w.2.2.2.1 0 0)), (2, .ref (w.2.2.2.1 20 0)), (3, .int (nI i))] [] σ2) : G w x 4 Q 276 [(0, .ref b), (1, .ref (w.2.2.2.1 0 0)), (2, .ref (w.2.2.2.1 20 0)), (3, .int (nI i))] [] σ := by
  refine G.aload_n C 1 dL_law_276 rfl rfl ?_
  refine G.aload_n C 0 dL_law_277 rfl rfl ?_
  refine G.iload_n C 3 dL_law_278 rfl rfl ?_
  refine G.iconst C (v := 1) dL_law_279 rfl ?_
  refine G.iadd C dL_law_280 ?_
  refine G.sld C X dL_law_281 (sc_1 hi hn) ?_
  obtain ⟨P5, hM5, hP5⟩ := sim_best hw h (xs (nI i + 1).toNatClampNeg)
  refine G.callV C (g := 0) (i := 0) (S := []) none hM5 dL_law_282 (by decide) rfl rfl rfl uv_X5_best ul_RL_32 rfl rfl ⟨by decide, by decide⟩ (Nat.le_of_ble_eq_true rfl) (fun r τ h5 => ?_)
  obtain ⟨P6, hM6, hP6⟩ := hP5 r τ h5
  refine G.aload_n C 2 dL_law_285 rfl rfl ?_
  refine G.aload_n C 0 dL_law_286 rfl rfl ?_
  refine G.iload_n C 3 dL_law_287 rfl rfl ?_
  refine G.iconst C (v := 1) dL_law_288 rfl ?_
  refine G.iadd C dL_law_289 ?_
  refine G.sld C X dL_law_290 (sc_1 hi hn) ?_
  refine G.callV C (g := 20) (i := 0) (S := [.int r]) none hM6 dL_law_291 (by decide) rfl rfl rfl uv_X6_best ul_RL_35 rfl rfl ⟨by decide, by decide⟩ (Nat.le_of_ble_eq_true rfl) (fun r2 τ2 h6 => ?_)
  obtain ⟨e9, h9⟩ := hP6 r2 τ2 h6
  exact G.icmp_eq C (tgt := 927) dL_law_294 (by decide) (fun _ => kk τ2 h9) (fun q => absurd e9 q)
theorem law_leaf (C : Cf w x cL_law 4 RL 9 328) (hw : wOK w) (X : Cx w x b n xs) (hn : n ≤ 2560) {i : Nat} (hi : i + 5 ≤ n) (h : wSim σ) (kk : ∀ σ2 : wSt, wSim σ2 → G w x 4 Q 927 [(0, .ref b), (1, .ref (w.2.2.2.1 0 0)), (2, .ref (w.2.2.2.1 20 0)), (3, .int (nI i))] [] σ2) : G w x 4 Q 299 [(0, .ref b), (1, .ref (w.2.2.2.1 0 0)), (2, .ref (w.2.2.2.1 20 0)), (3, .int (nI i))] [] σ := by
  refine G.aload_n C 1 dL_law_299 rfl rfl ?_
  refine G.aload_n C 0 dL_law_300 rfl rfl ?_
  refine G.iload_n C 3 dL_law_301 rfl rfl ?_
  refine G.iconst C (v := 1) dL_law_302 rfl ?_
  refine G.iadd C dL_law_303 ?_
  refine G.sld C X dL_law_304 (sc_1 hi hn) ?_
  refine G.aload_n C 0 dL_law_305 rfl rfl ?_
  refine G.iload_n C 3 dL_law_306 rfl rfl ?_
  refine G.iconst C (v := 2) dL_law_307 rfl ?_
  refine G.iadd C dL_law_308 ?_
  refine G.sld C X dL_law_309 (sc_2 hi hn) ?_
  refine G.aload_n C 0 dL_law_310 rfl rfl ?_
  refine G.iload_n C 3 dL_law_311 rfl rfl ?_
  refine G.iconst C (v := 3) dL_law_312 rfl ?_
  refine G.iadd C dL_law_313 ?_
  refine G.sld C X dL_law_314 (sc_3 hi hn) ?_
  refine G.aload_n C 0 dL_law_315 rfl rfl ?_
  refine G.iload_n C 3 dL_law_316 rfl rfl ?_
  refine G.iconst C (v := 4) dL_law_317 rfl ?_
  refine G.iadd C dL_law_318 ?_
  refine G.sld C X dL_law_319 (sc_4 hi hn) ?_
  obtain ⟨P5, hM5, hP5⟩ := sim_leaf hw h (xs (nI i + 1).toNatClampNeg) (xs (nI i + 2).toNatClampNeg) (xs (nI i + 3).toNatClampNeg) (xs (nI i + 4).toNatClampNeg)
  refine G.callV C (g := 0) (i := 0) (S := []) none hM5 dL_law_320 (by decide) rfl rfl rfl uv_X5_leaf ul_RL_36 rfl rfl ⟨by decide, by decide⟩ (Nat.le_of_ble_eq_true rfl) (fun r τ h5 => ?_)
  obtain ⟨P6, hM6, hP6⟩ := hP5 r τ h5
  refine G.aload_n C 2 dL_law_323 rfl rfl ?_
  refine G.aload_n C 0 dL_law_324 rfl rfl ?_
  refine G.iload_n C 3 dL_law_325 rfl rfl ?_
  refine G.iconst C (v := 1) dL_law_326 rfl ?_
  refine G.iadd C dL_law_327 ?_
  refine G.sld C X dL_law_328 (sc_1 hi hn) ?_
  refine G.aload_n C 0 dL_law_329 rfl rfl ?_
  refine G.iload_n C 3 dL_law_330 rfl rfl ?_
  refine G.iconst C (v := 2) dL_law_331 rfl ?_
  refine G.iadd C dL_law_332 ?_
  refine G.sld C X dL_law_333 (sc_2 hi hn) ?_
  refine G.aload_n C 0 dL_law_334 rfl rfl ?_
  refine G.iload_n C 3 dL_law_335 rfl rfl ?_
  refine G.iconst C (v := 3) dL_law_336 rfl ?_
  refine G.iadd C dL_law_337 ?_
  refine G.sld C X dL_law_338 (sc_3 hi hn) ?_
  refine G.aload_n C 0 dL_law_339 rfl rfl ?_
  refine G.iload_n C 3 dL_law_340 rfl rfl ?_
  refine G.iconst C (v := 4) dL_law_341 rfl ?_
  refine G.iadd C dL_law_342 ?_
  refine G.sld C X dL_law_343 (sc_4 hi hn) ?_
  refine G.callV C (g := 20) (i := 0) (S := [.int r]) none hM6 dL_law_344 (by decide) rfl rfl rfl uv_X6_leaf ul_RL_40 rfl rfl ⟨by decide, by decide⟩ (Nat.le_of_ble_eq_true rfl) (fun r2 τ2 h6 => ?_)
  obtain ⟨e9, h9⟩ := hP6 r2 τ2 h6
  exact G.icmp_eq C (tgt := 927) dL_law_347 (by decide) (fun _ => kk τ2 h9) (fun q => absurd e9 q)
theorem law_see (C : Cf w x cL_law 4 RL 9 328) (hw : wOK w) (X : Cx w x b n xs) (hn : n ≤ 2560) {i : Nat} (hi : i + 5 ≤ n) (h : wSim σ) (kk : ∀ σ2 : wSt, wSim σ2 → G w x 4 Q 927 [(0, .ref b), (1, .ref (w.2.2.2.1 0 0)), (2, .ref (w.2.2.2.1 20 0)), (3, .int (nI i))] [] σ2) : G w x 4 Q 352 [(0, .ref b), (1, .ref (w.2.2.2.1 0 0)), (2, .ref (w.2.2.2.1 20 0)), (3, .int (nI i))] [] σ := by
  refine G.aload_n C 1 dL_law_352 rfl rfl ?_
  refine G.aload_n C 0 dL_law_353 rfl rfl ?_
  refine G.iload_n C 3 dL_law_354 rfl rfl ?_
  refine G.iconst C (v := 1) dL_law_355 rfl ?_
  refine G.iadd C dL_law_356 ?_
  refine G.sld C X dL_law_357 (sc_1 hi hn) ?_
  refine G.aload_n C 0 dL_law_358 rfl rfl ?_
  refine G.iload_n C 3 dL_law_359 rfl rfl ?_
  refine G.iconst C (v := 2) dL_law_360 rfl ?_
  refine G.iadd C dL_law_361 ?_
  refine G.sld C X dL_law_362 (sc_2 hi hn) ?_
  refine G.aload_n C 0 dL_law_363 rfl rfl ?_
  refine G.iload_n C 3 dL_law_364 rfl rfl ?_
  refine G.iconst C (v := 3) dL_law_365 rfl ?_
  refine G.iadd C dL_law_366 ?_
  refine G.sld C X dL_law_367 (sc_3 hi hn) ?_
  obtain ⟨P5, hM5, hP5⟩ := sim_see hw h (xs (nI i + 1).toNatClampNeg) (xs (nI i + 2).toNatClampNeg) (xs (nI i + 3).toNatClampNeg)
  refine G.callV C (g := 0) (i := 0) (S := []) none hM5 dL_law_368 (by decide) rfl rfl rfl uv_X5_see ul_RL_41 rfl rfl ⟨by decide, by decide⟩ (Nat.le_of_ble_eq_true rfl) (fun r τ h5 => ?_)
  obtain ⟨P6, hM6, hP6⟩ := hP5 r τ h5
  refine G.aload_n C 2 dL_law_371 rfl rfl ?_
  refine G.aload_n C 0 dL_law_372 rfl rfl ?_
  refine G.iload_n C 3 dL_law_373 rfl rfl ?_
  refine G.iconst C (v := 1) dL_law_374 rfl ?_
  refine G.iadd C dL_law_375 ?_
  refine G.sld C X dL_law_376 (sc_1 hi hn) ?_
  refine G.aload_n C 0 dL_law_377 rfl rfl ?_
  refine G.iload_n C 3 dL_law_378 rfl rfl ?_
  refine G.iconst C (v := 2) dL_law_379 rfl ?_
  refine G.iadd C dL_law_380 ?_
  refine G.sld C X dL_law_381 (sc_2 hi hn) ?_
  refine G.aload_n C 0 dL_law_382 rfl rfl ?_
  refine G.iload_n C 3 dL_law_383 rfl rfl ?_
  refine G.iconst C (v := 3) dL_law_384 rfl ?_
  refine G.iadd C dL_law_385 ?_
  refine G.sld C X dL_law_386 (sc_3 hi hn) ?_
  refine G.callV C (g := 20) (i := 0) (S := [.int r]) none hM6 dL_law_387 (by decide) rfl rfl rfl uv_X6_see ul_RL_44 rfl rfl ⟨by decide, by decide⟩ (Nat.le_of_ble_eq_true rfl) (fun r2 τ2 h6 => ?_)
  obtain ⟨e9, h9⟩ := hP6 r2 τ2 h6
  exact G.icmp_eq C (tgt := 927) dL_law_390 (by decide) (fun _ => kk τ2 h9) (fun q => absurd e9 q)
theorem law_candidates (C : Cf w x cL_law 4 RL 9 328) (hw : wOK w) (X : Cx w x b n xs) (hn : n ≤ 2560) {i : Nat} (hi : i + 5 ≤ n) (h : wSim σ) (kk : ∀ σ2 : wSt, wSim σ2 → G w x 4 Q 927 [(0, .ref b), (1, .ref (w.2.2.2.1 0 0)), (2, .ref (w.2.2.2.1 20 0)), (3, .int (nI i))] [] σ2) : G w x 4 Q 395 [(0, .ref b), (1, .ref (w.2.2.2.1 0 0)), (2, .ref (w.2.2.2.1 20 0)), (3, .int (nI i))] [] σ := by
  refine G.aload_n C 1 dL_law_395 rfl rfl ?_
  refine G.aload_n C 0 dL_law_396 rfl rfl ?_
  refine G.iload_n C 3 dL_law_397 rfl rfl ?_
  refine G.iconst C (v := 1) dL_law_398 rfl ?_
  refine G.iadd C dL_law_399 ?_
  refine G.sld C X dL_law_400 (sc_1 hi hn) ?_
  obtain ⟨P5, hM5, hP5⟩ := sim_candidates hw h (xs (nI i + 1).toNatClampNeg)
  refine G.callV C (g := 0) (i := 0) (S := []) none hM5 dL_law_401 (by decide) rfl rfl rfl uv_X5_candidates ul_RL_45 rfl rfl ⟨by decide, by decide⟩ (Nat.le_of_ble_eq_true rfl) (fun r τ h5 => ?_)
  obtain ⟨P6, hM6, hP6⟩ := hP5 r τ h5
  refine G.aload_n C 2 dL_law_404 rfl rfl ?_
  refine G.aload_n C 0 dL_law_405 rfl rfl ?_
  refine G.iload_n C 3 dL_law_406 rfl rfl ?_
  refine G.iconst C (v := 1) dL_law_407 rfl ?_
  refine G.iadd C dL_law_408 ?_
  refine G.sld C X dL_law_409 (sc_1 hi hn) ?_
  refine G.callV C (g := 20) (i := 0) (S := [.int r]) none hM6 dL_law_410 (by decide) rfl rfl rfl uv_X6_candidates ul_RL_48 rfl rfl ⟨by decide, by decide⟩ (Nat.le_of_ble_eq_true rfl) (fun r2 τ2 h6 => ?_)
  obtain ⟨e9, h9⟩ := hP6 r2 τ2 h6
  exact G.icmp_eq C (tgt := 927) dL_law_413 (by decide) (fun _ => kk τ2 h9) (fun q => absurd e9 q)
theorem law_mould (C : Cf w x cL_law 4 RL 9 328) (hw : wOK w) (X : Cx w x b n xs) (hn : n ≤ 2560) {i : Nat} (hi : i + 5 ≤ n) (h : wSim σ) (kk : ∀ σ2 : wSt, wSim σ2 → G w x 4 Q 927 [(0, .ref b), (1, .ref (w.2.2.2.1 0 0)), (2, .ref (w.2.2.2.1 20 0)), (3, .int (nI i))] [] σ2) : G w x 4 Q 418 [(0, .ref b), (1, .ref (w.2.2.2.1 0 0)), (2, .ref (w.2.2.2.1 20 0)), (3, .int (nI i))] [] σ := by
  refine G.aload_n C 1 dL_law_418 rfl rfl ?_
  refine G.aload_n C 0 dL_law_419 rfl rfl ?_
  refine G.iload_n C 3 dL_law_420 rfl rfl ?_
  refine G.iconst C (v := 1) dL_law_421 rfl ?_
  refine G.iadd C dL_law_422 ?_
  refine G.sld C X dL_law_423 (sc_1 hi hn) ?_
  refine G.aload_n C 0 dL_law_424 rfl rfl ?_
  refine G.iload_n C 3 dL_law_425 rfl rfl ?_
  refine G.iconst C (v := 2) dL_law_426 rfl ?_
  refine G.iadd C dL_law_427 ?_
  refine G.sld C X dL_law_428 (sc_2 hi hn) ?_
  obtain ⟨P5, hM5, hP5⟩ := sim_mould hw h (xs (nI i + 1).toNatClampNeg) (xs (nI i + 2).toNatClampNeg)
  refine G.callV C (g := 0) (i := 0) (S := []) none hM5 dL_law_429 (by decide) rfl rfl rfl uv_X5_mould ul_RL_49 rfl rfl ⟨by decide, by decide⟩ (Nat.le_of_ble_eq_true rfl) (fun r τ h5 => ?_)
  obtain ⟨P6, hM6, hP6⟩ := hP5 r τ h5
  refine G.aload_n C 2 dL_law_432 rfl rfl ?_
  refine G.aload_n C 0 dL_law_433 rfl rfl ?_
  refine G.iload_n C 3 dL_law_434 rfl rfl ?_
  refine G.iconst C (v := 1) dL_law_435 rfl ?_
  refine G.iadd C dL_law_436 ?_
  refine G.sld C X dL_law_437 (sc_1 hi hn) ?_
  refine G.aload_n C 0 dL_law_438 rfl rfl ?_
  refine G.iload_n C 3 dL_law_439 rfl rfl ?_
  refine G.iconst C (v := 2) dL_law_440 rfl ?_
  refine G.iadd C dL_law_441 ?_
  refine G.sld C X dL_law_442 (sc_2 hi hn) ?_
  refine G.callV C (g := 20) (i := 0) (S := [.int r]) none hM6 dL_law_443 (by decide) rfl rfl rfl uv_X6_mould ul_RL_52 rfl rfl ⟨by decide, by decide⟩ (Nat.le_of_ble_eq_true rfl) (fun r2 τ2 h6 => ?_)
  obtain ⟨e9, h9⟩ := hP6 r2 τ2 h6
  exact G.icmp_eq C (tgt := 927) dL_law_446 (by decide) (fun _ => kk τ2 h9) (fun q => absurd e9 q)
theorem law_paper (C : Cf w x cL_law 4 RL 9 328) (hw : wOK w) (X : Cx w x b n xs) (hn : n ≤ 2560) {i : Nat} (hi : i + 5 ≤ n) (h : wSim σ) (kk : ∀ σ2 : wSt, wSim σ2 → G w x 4 Q 927 [(0, .ref b), (1, .ref (w.2.2.2.1 0 0)), (2, .ref (w.2.2.2.1 20 0)), (3, .int (nI i))] [] σ2) : G w x 4 Q 451 [(0, .ref b), (1, .ref (w.2.2.2.1 0 0)), (2, .ref (w.2.2.2.1 20 0)), (3, .int (nI i))] [] σ := by
  refine G.aload_n C 1 dL_law_451 rfl rfl ?_
  refine G.aload_n C 0 dL_law_452 rfl rfl ?_
  refine G.iload_n C 3 dL_law_453 rfl rfl ?_
  refine G.iconst C (v := 1) dL_law_454 rfl ?_
  refine G.iadd C dL_law_455 ?_
  refine G.sld C X dL_law_456 (sc_1 hi hn) ?_
  refine G.aload_n C 0 dL_law_457 rfl rfl ?_
  refine G.iload_n C 3 dL_law_458 rfl rfl ?_
  refine G.iconst C (v := 2) dL_law_459 rfl ?_
  refine G.iadd C dL_law_460 ?_
  refine G.sld C X dL_law_461 (sc_2 hi hn) ?_
  obtain ⟨P5, hM5, hP5⟩ := sim_paper hw h (xs (nI i + 1).toNatClampNeg) (xs (nI i + 2).toNatClampNeg)
  refine G.callV C (g := 0) (i := 0) (S := []) none hM5 dL_law_462 (by decide) rfl rfl rfl uv_X5_paper ul_RL_53 rfl rfl ⟨by decide, by decide⟩ (Nat.le_of_ble_eq_true rfl) (fun r τ h5 => ?_)
  obtain ⟨P6, hM6, hP6⟩ := hP5 r τ h5
  refine G.aload_n C 2 dL_law_465 rfl rfl ?_
  refine G.aload_n C 0 dL_law_466 rfl rfl ?_
  refine G.iload_n C 3 dL_law_467 rfl rfl ?_
  refine G.iconst C (v := 1) dL_law_468 rfl ?_
  refine G.iadd C dL_law_469 ?_
  refine G.sld C X dL_law_470 (sc_1 hi hn) ?_
  refine G.aload_n C 0 dL_law_471 rfl rfl ?_
  refine G.iload_n C 3 dL_law_472 rfl rfl ?_
  refine G.iconst C (v := 2) dL_law_473 rfl ?_
  refine G.iadd C dL_law_474 ?_
  refine G.sld C X dL_law_475 (sc_2 hi hn) ?_
  refine G.callV C (g := 20) (i := 0) (S := [.int r]) none hM6 dL_law_476 (by decide) rfl rfl rfl uv_X6_paper ul_RL_56 rfl rfl ⟨by decide, by decide⟩ (Nat.le_of_ble_eq_true rfl) (fun r2 τ2 h6 => ?_)
  obtain ⟨e9, h9⟩ := hP6 r2 τ2 h6
  exact G.icmp_eq C (tgt := 927) dL_law_479 (by decide) (fun _ => kk τ2 h9) (fun q => absurd e9 q)
theorem law_imprint (C : Cf w x cL_law 4 RL 9 328) (hw : wOK w) (X : Cx w x b n xs) (hn : n ≤ 2560) {i : Nat} (hi : i + 5 ≤ n) (h : wSim σ) (kk : ∀ σ2 : wSt, wSim σ2 → G w x 4 Q 927 [(0, .ref b), (1, .ref (w.2.2.2.1 0 0)), (2, .ref (w.2.2.2.1 20 0)), (3, .int (nI i))] [] σ2) : G w x 4 Q 484 [(0, .ref b), (1, .ref (w.2.2.2.1 0 0)), (2, .ref (w.2.2.2.1 20 0)), (3, .int (nI i))] [] σ := by
  refine G.aload_n C 1 dL_law_484 rfl rfl ?_
  refine G.aload_n C 0 dL_law_485 rfl rfl ?_
  refine G.iload_n C 3 dL_law_486 rfl rfl ?_
  refine G.iconst C (v := 1) dL_law_487 rfl ?_
  refine G.iadd C dL_law_488 ?_
  refine G.sld C X dL_law_489 (sc_1 hi hn) ?_
  refine G.aload_n C 0 dL_law_490 rfl rfl ?_
  refine G.iload_n C 3 dL_law_491 rfl rfl ?_
  refine G.iconst C (v := 2) dL_law_492 rfl ?_
  refine G.iadd C dL_law_493 ?_
  refine G.sld C X dL_law_494 (sc_2 hi hn) ?_
  obtain ⟨P5, hM5, hP5⟩ := sim_imprint hw h (xs (nI i + 1).toNatClampNeg) (xs (nI i + 2).toNatClampNeg)
  refine G.callV C (g := 0) (i := 0) (S := []) none hM5 dL_law_495 (by decide) rfl rfl rfl uv_X5_imprint ul_RL_57 rfl rfl ⟨by decide, by decide⟩ (Nat.le_of_ble_eq_true rfl) (fun r τ h5 => ?_)
  obtain ⟨P6, hM6, hP6⟩ := hP5 r τ h5
  refine G.aload_n C 2 dL_law_498 rfl rfl ?_
  refine G.aload_n C 0 dL_law_499 rfl rfl ?_
  refine G.iload_n C 3 dL_law_500 rfl rfl ?_
  refine G.iconst C (v := 1) dL_law_501 rfl ?_
  refine G.iadd C dL_law_502 ?_
  refine G.sld C X dL_law_503 (sc_1 hi hn) ?_
  refine G.aload_n C 0 dL_law_504 rfl rfl ?_
  refine G.iload_n C 3 dL_law_505 rfl rfl ?_
  refine G.iconst C (v := 2) dL_law_506 rfl ?_
  refine G.iadd C dL_law_507 ?_
  refine G.sld C X dL_law_508 (sc_2 hi hn) ?_
  refine G.callV C (g := 20) (i := 0) (S := [.int r]) none hM6 dL_law_509 (by decide) rfl rfl rfl uv_X6_imprint ul_RL_60 rfl rfl ⟨by decide, by decide⟩ (Nat.le_of_ble_eq_true rfl) (fun r2 τ2 h6 => ?_)
  obtain ⟨e9, h9⟩ := hP6 r2 τ2 h6
  exact G.icmp_eq C (tgt := 927) dL_law_512 (by decide) (fun _ => kk τ2 h9) (fun q => absurd e9 q)
theorem law_span (C : Cf w x cL_law 4 RL 9 328) (hw : wOK w) (X : Cx w x b n xs) (hn : n ≤ 2560) {i : Nat} (hi : i + 5 ≤ n) (h : wSim σ) (kk : ∀ σ2 : wSt, wSim σ2 → G w x 4 Q 927 [(0, .ref b), (1, .ref (w.2.2.2.1 0 0)), (2, .ref (w.2.2.2.1 20 0)), (3, .int (nI i))] [] σ2) : G w x 4 Q 517 [(0, .ref b), (1, .ref (w.2.2.2.1 0 0)), (2, .ref (w.2.2.2.1 20 0)), (3, .int (nI i))] [] σ := by
  refine G.aload_n C 1 dL_law_517 rfl rfl ?_
  refine G.aload_n C 0 dL_law_518 rfl rfl ?_
  refine G.iload_n C 3 dL_law_519 rfl rfl ?_
  refine G.iconst C (v := 1) dL_law_520 rfl ?_
  refine G.iadd C dL_law_521 ?_
  refine G.sld C X dL_law_522 (sc_1 hi hn) ?_
  refine G.aload_n C 0 dL_law_523 rfl rfl ?_
  refine G.iload_n C 3 dL_law_524 rfl rfl ?_
  refine G.iconst C (v := 2) dL_law_525 rfl ?_
  refine G.iadd C dL_law_526 ?_
  refine G.sld C X dL_law_527 (sc_2 hi hn) ?_
  obtain ⟨P5, hM5, hP5⟩ := sim_span hw h (xs (nI i + 1).toNatClampNeg) (xs (nI i + 2).toNatClampNeg)
  refine G.callV C (g := 0) (i := 0) (S := []) none hM5 dL_law_528 (by decide) rfl rfl rfl uv_X5_span ul_RL_61 rfl rfl ⟨by decide, by decide⟩ (Nat.le_of_ble_eq_true rfl) (fun r τ h5 => ?_)
  obtain ⟨P6, hM6, hP6⟩ := hP5 r τ h5
  refine G.aload_n C 2 dL_law_531 rfl rfl ?_
  refine G.aload_n C 0 dL_law_532 rfl rfl ?_
  refine G.iload_n C 3 dL_law_533 rfl rfl ?_
  refine G.iconst C (v := 1) dL_law_534 rfl ?_
  refine G.iadd C dL_law_535 ?_
  refine G.sld C X dL_law_536 (sc_1 hi hn) ?_
  refine G.aload_n C 0 dL_law_537 rfl rfl ?_
  refine G.iload_n C 3 dL_law_538 rfl rfl ?_
  refine G.iconst C (v := 2) dL_law_539 rfl ?_
  refine G.iadd C dL_law_540 ?_
  refine G.sld C X dL_law_541 (sc_2 hi hn) ?_
  refine G.callV C (g := 20) (i := 0) (S := [.int r]) none hM6 dL_law_542 (by decide) rfl rfl rfl uv_X6_span ul_RL_64 rfl rfl ⟨by decide, by decide⟩ (Nat.le_of_ble_eq_true rfl) (fun r2 τ2 h6 => ?_)
  obtain ⟨e9, h9⟩ := hP6 r2 τ2 h6
  exact G.icmp_eq C (tgt := 927) dL_law_545 (by decide) (fun _ => kk τ2 h9) (fun q => absurd e9 q)
theorem law_price (C : Cf w x cL_law 4 RL 9 328) (hw : wOK w) (X : Cx w x b n xs) (hn : n ≤ 2560) {i : Nat} (hi : i + 5 ≤ n) (h : wSim σ) (kk : ∀ σ2 : wSt, wSim σ2 → G w x 4 Q 927 [(0, .ref b), (1, .ref (w.2.2.2.1 0 0)), (2, .ref (w.2.2.2.1 20 0)), (3, .int (nI i))] [] σ2) : G w x 4 Q 550 [(0, .ref b), (1, .ref (w.2.2.2.1 0 0)), (2, .ref (w.2.2.2.1 20 0)), (3, .int (nI i))] [] σ := by
  refine G.aload_n C 1 dL_law_550 rfl rfl ?_
  refine G.aload_n C 0 dL_law_551 rfl rfl ?_
  refine G.iload_n C 3 dL_law_552 rfl rfl ?_
  refine G.iconst C (v := 1) dL_law_553 rfl ?_
  refine G.iadd C dL_law_554 ?_
  refine G.sld C X dL_law_555 (sc_1 hi hn) ?_
  refine G.aload_n C 0 dL_law_556 rfl rfl ?_
  refine G.iload_n C 3 dL_law_557 rfl rfl ?_
  refine G.iconst C (v := 2) dL_law_558 rfl ?_
  refine G.iadd C dL_law_559 ?_
  refine G.sld C X dL_law_560 (sc_2 hi hn) ?_
  obtain ⟨P5, hM5, hP5⟩ := sim_price hw h (xs (nI i + 1).toNatClampNeg) (xs (nI i + 2).toNatClampNeg)
  refine G.callV C (g := 0) (i := 0) (S := []) none hM5 dL_law_561 (by decide) rfl rfl rfl uv_X5_price ul_RL_65 rfl rfl ⟨by decide, by decide⟩ (Nat.le_of_ble_eq_true rfl) (fun r τ h5 => ?_)
  obtain ⟨P6, hM6, hP6⟩ := hP5 r τ h5
  refine G.aload_n C 2 dL_law_564 rfl rfl ?_
  refine G.aload_n C 0 dL_law_565 rfl rfl ?_
  refine G.iload_n C 3 dL_law_566 rfl rfl ?_
  refine G.iconst C (v := 1) dL_law_567 rfl ?_
  refine G.iadd C dL_law_568 ?_
  refine G.sld C X dL_law_569 (sc_1 hi hn) ?_
  refine G.aload_n C 0 dL_law_570 rfl rfl ?_
  refine G.iload_n C 3 dL_law_571 rfl rfl ?_
  refine G.iconst C (v := 2) dL_law_572 rfl ?_
  refine G.iadd C dL_law_573 ?_
  refine G.sld C X dL_law_574 (sc_2 hi hn) ?_
  refine G.callV C (g := 20) (i := 0) (S := [.int r]) none hM6 dL_law_575 (by decide) rfl rfl rfl uv_X6_price ul_RL_68 rfl rfl ⟨by decide, by decide⟩ (Nat.le_of_ble_eq_true rfl) (fun r2 τ2 h6 => ?_)
  obtain ⟨e9, h9⟩ := hP6 r2 τ2 h6
  exact G.icmp_eq C (tgt := 927) dL_law_578 (by decide) (fun _ => kk τ2 h9) (fun q => absurd e9 q)
theorem law_map (C : Cf w x cL_law 4 RL 9 328) (hw : wOK w) (X : Cx w x b n xs) (hn : n ≤ 2560) {i : Nat} (hi : i + 5 ≤ n) (h : wSim σ) (kk : ∀ σ2 : wSt, wSim σ2 → G w x 4 Q 927 [(0, .ref b), (1, .ref (w.2.2.2.1 0 0)), (2, .ref (w.2.2.2.1 20 0)), (3, .int (nI i))] [] σ2) : G w x 4 Q 583 [(0, .ref b), (1, .ref (w.2.2.2.1 0 0)), (2, .ref (w.2.2.2.1 20 0)), (3, .int (nI i))] [] σ := by
  refine G.aload_n C 1 dL_law_583 rfl rfl ?_
  refine G.aload_n C 0 dL_law_584 rfl rfl ?_
  refine G.iload_n C 3 dL_law_585 rfl rfl ?_
  refine G.iconst C (v := 1) dL_law_586 rfl ?_
  refine G.iadd C dL_law_587 ?_
  refine G.sld C X dL_law_588 (sc_1 hi hn) ?_
  refine G.aload_n C 0 dL_law_589 rfl rfl ?_
  refine G.iload_n C 3 dL_law_590 rfl rfl ?_
  refine G.iconst C (v := 2) dL_law_591 rfl ?_
  refine G.iadd C dL_law_592 ?_
  refine G.sld C X dL_law_593 (sc_2 hi hn) ?_
  obtain ⟨P5, hM5, hP5⟩ := sim_map hw h (xs (nI i + 1).toNatClampNeg) (xs (nI i + 2).toNatClampNeg)
  refine G.callV C (g := 0) (i := 0) (S := []) none hM5 dL_law_594 (by decide) rfl rfl rfl uv_X5_map ul_RL_69 rfl rfl ⟨by decide, by decide⟩ (Nat.le_of_ble_eq_true rfl) (fun r τ h5 => ?_)
  obtain ⟨P6, hM6, hP6⟩ := hP5 r τ h5
  refine G.aload_n C 2 dL_law_597 rfl rfl ?_
  refine G.aload_n C 0 dL_law_598 rfl rfl ?_
  refine G.iload_n C 3 dL_law_599 rfl rfl ?_
  refine G.iconst C (v := 1) dL_law_600 rfl ?_
  refine G.iadd C dL_law_601 ?_
  refine G.sld C X dL_law_602 (sc_1 hi hn) ?_
  refine G.aload_n C 0 dL_law_603 rfl rfl ?_
  refine G.iload_n C 3 dL_law_604 rfl rfl ?_
  refine G.iconst C (v := 2) dL_law_605 rfl ?_
  refine G.iadd C dL_law_606 ?_
  refine G.sld C X dL_law_607 (sc_2 hi hn) ?_
  refine G.callV C (g := 20) (i := 0) (S := [.int r]) none hM6 dL_law_608 (by decide) rfl rfl rfl uv_X6_map ul_RL_72 rfl rfl ⟨by decide, by decide⟩ (Nat.le_of_ble_eq_true rfl) (fun r2 τ2 h6 => ?_)
  obtain ⟨e9, h9⟩ := hP6 r2 τ2 h6
  exact G.icmp_eq C (tgt := 927) dL_law_611 (by decide) (fun _ => kk τ2 h9) (fun q => absurd e9 q)
theorem law_cost (C : Cf w x cL_law 4 RL 9 328) (hw : wOK w) (X : Cx w x b n xs) (hn : n ≤ 2560) {i : Nat} (hi : i + 5 ≤ n) (h : wSim σ) (kk : ∀ σ2 : wSt, wSim σ2 → G w x 4 Q 927 [(0, .ref b), (1, .ref (w.2.2.2.1 0 0)), (2, .ref (w.2.2.2.1 20 0)), (3, .int (nI i))] [] σ2) : G w x 4 Q 616 [(0, .ref b), (1, .ref (w.2.2.2.1 0 0)), (2, .ref (w.2.2.2.1 20 0)), (3, .int (nI i))] [] σ := by
  refine G.aload_n C 1 dL_law_616 rfl rfl ?_
  refine G.aload_n C 0 dL_law_617 rfl rfl ?_
  refine G.iload_n C 3 dL_law_618 rfl rfl ?_
  refine G.iconst C (v := 1) dL_law_619 rfl ?_
  refine G.iadd C dL_law_620 ?_
  refine G.sld C X dL_law_621 (sc_1 hi hn) ?_
  refine G.aload_n C 0 dL_law_622 rfl rfl ?_
  refine G.iload_n C 3 dL_law_623 rfl rfl ?_
  refine G.iconst C (v := 2) dL_law_624 rfl ?_
  refine G.iadd C dL_law_625 ?_
  refine G.sld C X dL_law_626 (sc_2 hi hn) ?_
  obtain ⟨P5, hM5, hP5⟩ := sim_cost hw h (xs (nI i + 1).toNatClampNeg) (xs (nI i + 2).toNatClampNeg)
  refine G.callV C (g := 0) (i := 0) (S := []) none hM5 dL_law_627 (by decide) rfl rfl rfl uv_X5_cost ul_RL_73 rfl rfl ⟨by decide, by decide⟩ (Nat.le_of_ble_eq_true rfl) (fun r τ h5 => ?_)
  obtain ⟨P6, hM6, hP6⟩ := hP5 r τ h5
  refine G.aload_n C 2 dL_law_630 rfl rfl ?_
  refine G.aload_n C 0 dL_law_631 rfl rfl ?_
  refine G.iload_n C 3 dL_law_632 rfl rfl ?_
  refine G.iconst C (v := 1) dL_law_633 rfl ?_
  refine G.iadd C dL_law_634 ?_
  refine G.sld C X dL_law_635 (sc_1 hi hn) ?_
  refine G.aload_n C 0 dL_law_636 rfl rfl ?_
  refine G.iload_n C 3 dL_law_637 rfl rfl ?_
  refine G.iconst C (v := 2) dL_law_638 rfl ?_
  refine G.iadd C dL_law_639 ?_
  refine G.sld C X dL_law_640 (sc_2 hi hn) ?_
  refine G.callV C (g := 20) (i := 0) (S := [.int r]) none hM6 dL_law_641 (by decide) rfl rfl rfl uv_X6_cost ul_RL_76 rfl rfl ⟨by decide, by decide⟩ (Nat.le_of_ble_eq_true rfl) (fun r2 τ2 h6 => ?_)
  obtain ⟨e9, h9⟩ := hP6 r2 τ2 h6
  exact G.icmp_eq C (tgt := 927) dL_law_644 (by decide) (fun _ => kk τ2 h9) (fun q => absurd e9 q)
theorem law_from (C : Cf w x cL_law 4 RL 9 328) (hw : wOK w) (X : Cx w x b n xs) (hn : n ≤ 2560) {i : Nat} (hi : i + 5 ≤ n) (h : wSim σ) (kk : ∀ σ2 : wSt, wSim σ2 → G w x 4 Q 927 [(0, .ref b), (1, .ref (w.2.2.2.1 0 0)), (2, .ref (w.2.2.2.1 20 0)), (3, .int (nI i))] [] σ2) : G w x 4 Q 649 [(0, .ref b), (1, .ref (w.2.2.2.1 0 0)), (2, .ref (w.2.2.2.1 20 0)), (3, .int (nI i))] [] σ := by
  refine G.aload_n C 1 dL_law_649 rfl rfl ?_
  refine G.aload_n C 0 dL_law_650 rfl rfl ?_
  refine G.iload_n C 3 dL_law_651 rfl rfl ?_
  refine G.iconst C (v := 1) dL_law_652 rfl ?_
  refine G.iadd C dL_law_653 ?_
  refine G.sld C X dL_law_654 (sc_1 hi hn) ?_
  obtain ⟨P5, hM5, hP5⟩ := sim_from hw h (xs (nI i + 1).toNatClampNeg)
  refine G.callV C (g := 0) (i := 0) (S := []) none hM5 dL_law_655 (by decide) rfl rfl rfl uv_X5_from ul_RL_77 rfl rfl ⟨by decide, by decide⟩ (Nat.le_of_ble_eq_true rfl) (fun r τ h5 => ?_)
  obtain ⟨P6, hM6, hP6⟩ := hP5 r τ h5
  refine G.aload_n C 2 dL_law_658 rfl rfl ?_
  refine G.aload_n C 0 dL_law_659 rfl rfl ?_
  refine G.iload_n C 3 dL_law_660 rfl rfl ?_
  refine G.iconst C (v := 1) dL_law_661 rfl ?_
  refine G.iadd C dL_law_662 ?_
  refine G.sld C X dL_law_663 (sc_1 hi hn) ?_
  refine G.callV C (g := 20) (i := 0) (S := [.int r]) none hM6 dL_law_664 (by decide) rfl rfl rfl uv_X6_from ul_RL_80 rfl rfl ⟨by decide, by decide⟩ (Nat.le_of_ble_eq_true rfl) (fun r2 τ2 h6 => ?_)
  obtain ⟨e9, h9⟩ := hP6 r2 τ2 h6
  exact G.icmp_eq C (tgt := 927) dL_law_667 (by decide) (fun _ => kk τ2 h9) (fun q => absurd e9 q)
theorem law_rivals (C : Cf w x cL_law 4 RL 9 328) (hw : wOK w) (X : Cx w x b n xs) (hn : n ≤ 2560) {i : Nat} (hi : i + 5 ≤ n) (h : wSim σ) (kk : ∀ σ2 : wSt, wSim σ2 → G w x 4 Q 927 [(0, .ref b), (1, .ref (w.2.2.2.1 0 0)), (2, .ref (w.2.2.2.1 20 0)), (3, .int (nI i))] [] σ2) : G w x 4 Q 672 [(0, .ref b), (1, .ref (w.2.2.2.1 0 0)), (2, .ref (w.2.2.2.1 20 0)), (3, .int (nI i))] [] σ := by
  refine G.aload_n C 1 dL_law_672 rfl rfl ?_
  refine G.aload_n C 0 dL_law_673 rfl rfl ?_
  refine G.iload_n C 3 dL_law_674 rfl rfl ?_
  refine G.iconst C (v := 1) dL_law_675 rfl ?_
  refine G.iadd C dL_law_676 ?_
  refine G.sld C X dL_law_677 (sc_1 hi hn) ?_
  obtain ⟨P5, hM5, hP5⟩ := sim_rivals hw h (xs (nI i + 1).toNatClampNeg)
  refine G.callV C (g := 0) (i := 0) (S := []) none hM5 dL_law_678 (by decide) rfl rfl rfl uv_X5_rivals ul_RL_81 rfl rfl ⟨by decide, by decide⟩ (Nat.le_of_ble_eq_true rfl) (fun r τ h5 => ?_)
  obtain ⟨P6, hM6, hP6⟩ := hP5 r τ h5
  refine G.aload_n C 2 dL_law_681 rfl rfl ?_
  refine G.aload_n C 0 dL_law_682 rfl rfl ?_
  refine G.iload_n C 3 dL_law_683 rfl rfl ?_
  refine G.iconst C (v := 1) dL_law_684 rfl ?_
  refine G.iadd C dL_law_685 ?_
  refine G.sld C X dL_law_686 (sc_1 hi hn) ?_
  refine G.callV C (g := 20) (i := 0) (S := [.int r]) none hM6 dL_law_687 (by decide) rfl rfl rfl uv_X6_rivals ul_RL_84 rfl rfl ⟨by decide, by decide⟩ (Nat.le_of_ble_eq_true rfl) (fun r2 τ2 h6 => ?_)
  obtain ⟨e9, h9⟩ := hP6 r2 τ2 h6
  exact G.icmp_eq C (tgt := 927) dL_law_690 (by decide) (fun _ => kk τ2 h9) (fun q => absurd e9 q)
theorem law_life (C : Cf w x cL_law 4 RL 9 328) (hw : wOK w) (X : Cx w x b n xs) (hn : n ≤ 2560) {i : Nat} (hi : i + 5 ≤ n) (h : wSim σ) (kk : ∀ σ2 : wSt, wSim σ2 → G w x 4 Q 927 [(0, .ref b), (1, .ref (w.2.2.2.1 0 0)), (2, .ref (w.2.2.2.1 20 0)), (3, .int (nI i))] [] σ2) : G w x 4 Q 695 [(0, .ref b), (1, .ref (w.2.2.2.1 0 0)), (2, .ref (w.2.2.2.1 20 0)), (3, .int (nI i))] [] σ := by
  refine G.aload_n C 1 dL_law_695 rfl rfl ?_
  refine G.aload_n C 0 dL_law_696 rfl rfl ?_
  refine G.iload_n C 3 dL_law_697 rfl rfl ?_
  refine G.iconst C (v := 1) dL_law_698 rfl ?_
  refine G.iadd C dL_law_699 ?_
  refine G.sld C X dL_law_700 (sc_1 hi hn) ?_
  refine G.aload_n C 0 dL_law_701 rfl rfl ?_
  refine G.iload_n C 3 dL_law_702 rfl rfl ?_
  refine G.iconst C (v := 2) dL_law_703 rfl ?_
  refine G.iadd C dL_law_704 ?_
  refine G.sld C X dL_law_705 (sc_2 hi hn) ?_
  obtain ⟨P5, hM5, hP5⟩ := sim_life hw h (xs (nI i + 1).toNatClampNeg) (xs (nI i + 2).toNatClampNeg)
  refine G.callV C (g := 0) (i := 0) (S := []) none hM5 dL_law_706 (by decide) rfl rfl rfl uv_X5_life ul_RL_85 rfl rfl ⟨by decide, by decide⟩ (Nat.le_of_ble_eq_true rfl) (fun r τ h5 => ?_)
  obtain ⟨P6, hM6, hP6⟩ := hP5 r τ h5
  refine G.aload_n C 2 dL_law_709 rfl rfl ?_
  refine G.aload_n C 0 dL_law_710 rfl rfl ?_
  refine G.iload_n C 3 dL_law_711 rfl rfl ?_
  refine G.iconst C (v := 1) dL_law_712 rfl ?_
  refine G.iadd C dL_law_713 ?_
  refine G.sld C X dL_law_714 (sc_1 hi hn) ?_
  refine G.aload_n C 0 dL_law_715 rfl rfl ?_
  refine G.iload_n C 3 dL_law_716 rfl rfl ?_
  refine G.iconst C (v := 2) dL_law_717 rfl ?_
  refine G.iadd C dL_law_718 ?_
  refine G.sld C X dL_law_719 (sc_2 hi hn) ?_
  refine G.callV C (g := 20) (i := 0) (S := [.int r]) none hM6 dL_law_720 (by decide) rfl rfl rfl uv_X6_life ul_RL_88 rfl rfl ⟨by decide, by decide⟩ (Nat.le_of_ble_eq_true rfl) (fun r2 τ2 h6 => ?_)
  obtain ⟨e9, h9⟩ := hP6 r2 τ2 h6
  exact G.icmp_eq C (tgt := 927) dL_law_723 (by decide) (fun _ => kk τ2 h9) (fun q => absurd e9 q)
theorem law_hole (C : Cf w x cL_law 4 RL 9 328) (hw : wOK w) (X : Cx w x b n xs) (hn : n ≤ 2560) {i : Nat} (hi : i + 5 ≤ n) (h : wSim σ) (kk : ∀ σ2 : wSt, wSim σ2 → G w x 4 Q 927 [(0, .ref b), (1, .ref (w.2.2.2.1 0 0)), (2, .ref (w.2.2.2.1 20 0)), (3, .int (nI i))] [] σ2) : G w x 4 Q 728 [(0, .ref b), (1, .ref (w.2.2.2.1 0 0)), (2, .ref (w.2.2.2.1 20 0)), (3, .int (nI i))] [] σ := by
  refine G.aload_n C 1 dL_law_728 rfl rfl ?_
  refine G.aload_n C 0 dL_law_729 rfl rfl ?_
  refine G.iload_n C 3 dL_law_730 rfl rfl ?_
  refine G.iconst C (v := 1) dL_law_731 rfl ?_
  refine G.iadd C dL_law_732 ?_
  refine G.sld C X dL_law_733 (sc_1 hi hn) ?_
  refine G.aload_n C 0 dL_law_734 rfl rfl ?_
  refine G.iload_n C 3 dL_law_735 rfl rfl ?_
  refine G.iconst C (v := 2) dL_law_736 rfl ?_
  refine G.iadd C dL_law_737 ?_
  refine G.sld C X dL_law_738 (sc_2 hi hn) ?_
  refine G.aload_n C 0 dL_law_739 rfl rfl ?_
  refine G.iload_n C 3 dL_law_740 rfl rfl ?_
  refine G.iconst C (v := 3) dL_law_741 rfl ?_
  refine G.iadd C dL_law_742 ?_
  refine G.sld C X dL_law_743 (sc_3 hi hn) ?_
  obtain ⟨P5, hM5, hP5⟩ := sim_hole hw h (xs (nI i + 1).toNatClampNeg) (xs (nI i + 2).toNatClampNeg) (xs (nI i + 3).toNatClampNeg)
  refine G.callV C (g := 0) (i := 0) (S := []) none hM5 dL_law_744 (by decide) rfl rfl rfl uv_X5_hole ul_RL_89 rfl rfl ⟨by decide, by decide⟩ (Nat.le_of_ble_eq_true rfl) (fun r τ h5 => ?_)
  obtain ⟨P6, hM6, hP6⟩ := hP5 r τ h5
  refine G.aload_n C 2 dL_law_747 rfl rfl ?_
  refine G.aload_n C 0 dL_law_748 rfl rfl ?_
  refine G.iload_n C 3 dL_law_749 rfl rfl ?_
  refine G.iconst C (v := 1) dL_law_750 rfl ?_
  refine G.iadd C dL_law_751 ?_
  refine G.sld C X dL_law_752 (sc_1 hi hn) ?_
  refine G.aload_n C 0 dL_law_753 rfl rfl ?_
  refine G.iload_n C 3 dL_law_754 rfl rfl ?_
  refine G.iconst C (v := 2) dL_law_755 rfl ?_
  refine G.iadd C dL_law_756 ?_
  refine G.sld C X dL_law_757 (sc_2 hi hn) ?_
  refine G.aload_n C 0 dL_law_758 rfl rfl ?_
  refine G.iload_n C 3 dL_law_759 rfl rfl ?_
  refine G.iconst C (v := 3) dL_law_760 rfl ?_
  refine G.iadd C dL_law_761 ?_
  refine G.sld C X dL_law_762 (sc_3 hi hn) ?_
  refine G.callV C (g := 20) (i := 0) (S := [.int r]) none hM6 dL_law_763 (by decide) rfl rfl rfl uv_X6_hole ul_RL_92 rfl rfl ⟨by decide, by decide⟩ (Nat.le_of_ble_eq_true rfl) (fun r2 τ2 h6 => ?_)
  obtain ⟨e9, h9⟩ := hP6 r2 τ2 h6
  exact G.icmp_eq C (tgt := 927) dL_law_766 (by decide) (fun _ => kk τ2 h9) (fun q => absurd e9 q)
theorem law_fits (C : Cf w x cL_law 4 RL 9 328) (hw : wOK w) (X : Cx w x b n xs) (hn : n ≤ 2560) {i : Nat} (hi : i + 5 ≤ n) (h : wSim σ) (kk : ∀ σ2 : wSt, wSim σ2 → G w x 4 Q 927 [(0, .ref b), (1, .ref (w.2.2.2.1 0 0)), (2, .ref (w.2.2.2.1 20 0)), (3, .int (nI i))] [] σ2) : G w x 4 Q 771 [(0, .ref b), (1, .ref (w.2.2.2.1 0 0)), (2, .ref (w.2.2.2.1 20 0)), (3, .int (nI i))] [] σ := by
  refine G.aload_n C 1 dL_law_771 rfl rfl ?_
  refine G.aload_n C 0 dL_law_772 rfl rfl ?_
  refine G.iload_n C 3 dL_law_773 rfl rfl ?_
  refine G.iconst C (v := 1) dL_law_774 rfl ?_
  refine G.iadd C dL_law_775 ?_
  refine G.sld C X dL_law_776 (sc_1 hi hn) ?_
  refine G.aload_n C 0 dL_law_777 rfl rfl ?_
  refine G.iload_n C 3 dL_law_778 rfl rfl ?_
  refine G.iconst C (v := 2) dL_law_779 rfl ?_
  refine G.iadd C dL_law_780 ?_
  refine G.sld C X dL_law_781 (sc_2 hi hn) ?_
  refine G.aload_n C 0 dL_law_782 rfl rfl ?_
  refine G.iload_n C 3 dL_law_783 rfl rfl ?_
  refine G.iconst C (v := 3) dL_law_784 rfl ?_
  refine G.iadd C dL_law_785 ?_
  refine G.sld C X dL_law_786 (sc_3 hi hn) ?_
  obtain ⟨P5, hM5, hP5⟩ := sim_fits hw h (xs (nI i + 1).toNatClampNeg) (xs (nI i + 2).toNatClampNeg) (xs (nI i + 3).toNatClampNeg)
  refine G.callV C (g := 0) (i := 0) (S := []) none hM5 dL_law_787 (by decide) rfl rfl rfl uv_X5_fits ul_RL_93 rfl rfl ⟨by decide, by decide⟩ (Nat.le_of_ble_eq_true rfl) (fun r τ h5 => ?_)
  obtain ⟨P6, hM6, hP6⟩ := hP5 r τ h5
  refine G.aload_n C 2 dL_law_790 rfl rfl ?_
  refine G.aload_n C 0 dL_law_791 rfl rfl ?_
  refine G.iload_n C 3 dL_law_792 rfl rfl ?_
  refine G.iconst C (v := 1) dL_law_793 rfl ?_
  refine G.iadd C dL_law_794 ?_
  refine G.sld C X dL_law_795 (sc_1 hi hn) ?_
  refine G.aload_n C 0 dL_law_796 rfl rfl ?_
  refine G.iload_n C 3 dL_law_797 rfl rfl ?_
  refine G.iconst C (v := 2) dL_law_798 rfl ?_
  refine G.iadd C dL_law_799 ?_
  refine G.sld C X dL_law_800 (sc_2 hi hn) ?_
  refine G.aload_n C 0 dL_law_801 rfl rfl ?_
  refine G.iload_n C 3 dL_law_802 rfl rfl ?_
  refine G.iconst C (v := 3) dL_law_803 rfl ?_
  refine G.iadd C dL_law_804 ?_
  refine G.sld C X dL_law_805 (sc_3 hi hn) ?_
  refine G.callV C (g := 20) (i := 0) (S := [.int r]) none hM6 dL_law_806 (by decide) rfl rfl rfl uv_X6_fits ul_RL_96 rfl rfl ⟨by decide, by decide⟩ (Nat.le_of_ble_eq_true rfl) (fun r2 τ2 h6 => ?_)
  obtain ⟨e9, h9⟩ := hP6 r2 τ2 h6
  exact G.icmp_eq C (tgt := 927) dL_law_809 (by decide) (fun _ => kk τ2 h9) (fun q => absurd e9 q)
theorem law_shift (C : Cf w x cL_law 4 RL 9 328) (hw : wOK w) (X : Cx w x b n xs) (hn : n ≤ 2560) {i : Nat} (hi : i + 5 ≤ n) (h : wSim σ) (kk : ∀ σ2 : wSt, wSim σ2 → G w x 4 Q 927 [(0, .ref b), (1, .ref (w.2.2.2.1 0 0)), (2, .ref (w.2.2.2.1 20 0)), (3, .int (nI i))] [] σ2) : G w x 4 Q 814 [(0, .ref b), (1, .ref (w.2.2.2.1 0 0)), (2, .ref (w.2.2.2.1 20 0)), (3, .int (nI i))] [] σ := by
  refine G.aload_n C 1 dL_law_814 rfl rfl ?_
  refine G.aload_n C 0 dL_law_815 rfl rfl ?_
  refine G.iload_n C 3 dL_law_816 rfl rfl ?_
  refine G.iconst C (v := 1) dL_law_817 rfl ?_
  refine G.iadd C dL_law_818 ?_
  refine G.sld C X dL_law_819 (sc_1 hi hn) ?_
  refine G.aload_n C 0 dL_law_820 rfl rfl ?_
  refine G.iload_n C 3 dL_law_821 rfl rfl ?_
  refine G.iconst C (v := 2) dL_law_822 rfl ?_
  refine G.iadd C dL_law_823 ?_
  refine G.sld C X dL_law_824 (sc_2 hi hn) ?_
  refine G.aload_n C 0 dL_law_825 rfl rfl ?_
  refine G.iload_n C 3 dL_law_826 rfl rfl ?_
  refine G.iconst C (v := 3) dL_law_827 rfl ?_
  refine G.iadd C dL_law_828 ?_
  refine G.sld C X dL_law_829 (sc_3 hi hn) ?_
  obtain ⟨P5, hM5, hP5⟩ := sim_shift hw h (xs (nI i + 1).toNatClampNeg) (xs (nI i + 2).toNatClampNeg) (xs (nI i + 3).toNatClampNeg)
  refine G.callV C (g := 0) (i := 0) (S := []) none hM5 dL_law_830 (by decide) rfl rfl rfl uv_X5_shift ul_RL_97 rfl rfl ⟨by decide, by decide⟩ (Nat.le_of_ble_eq_true rfl) (fun r τ h5 => ?_)
  obtain ⟨P6, hM6, hP6⟩ := hP5 r τ h5
  refine G.aload_n C 2 dL_law_833 rfl rfl ?_
  refine G.aload_n C 0 dL_law_834 rfl rfl ?_
  refine G.iload_n C 3 dL_law_835 rfl rfl ?_
  refine G.iconst C (v := 1) dL_law_836 rfl ?_
  refine G.iadd C dL_law_837 ?_
  refine G.sld C X dL_law_838 (sc_1 hi hn) ?_
  refine G.aload_n C 0 dL_law_839 rfl rfl ?_
  refine G.iload_n C 3 dL_law_840 rfl rfl ?_
  refine G.iconst C (v := 2) dL_law_841 rfl ?_
  refine G.iadd C dL_law_842 ?_
  refine G.sld C X dL_law_843 (sc_2 hi hn) ?_
  refine G.aload_n C 0 dL_law_844 rfl rfl ?_
  refine G.iload_n C 3 dL_law_845 rfl rfl ?_
  refine G.iconst C (v := 3) dL_law_846 rfl ?_
  refine G.iadd C dL_law_847 ?_
  refine G.sld C X dL_law_848 (sc_3 hi hn) ?_
  refine G.callV C (g := 20) (i := 0) (S := [.int r]) none hM6 dL_law_849 (by decide) rfl rfl rfl uv_X6_shift ul_RL_100 rfl rfl ⟨by decide, by decide⟩ (Nat.le_of_ble_eq_true rfl) (fun r2 τ2 h6 => ?_)
  obtain ⟨e9, h9⟩ := hP6 r2 τ2 h6
  exact G.icmp_eq C (tgt := 927) dL_law_852 (by decide) (fun _ => kk τ2 h9) (fun q => absurd e9 q)
theorem law_home (C : Cf w x cL_law 4 RL 9 328) (hw : wOK w) (X : Cx w x b n xs) (hn : n ≤ 2560) {i : Nat} (hi : i + 5 ≤ n) (h : wSim σ) (kk : ∀ σ2 : wSt, wSim σ2 → G w x 4 Q 927 [(0, .ref b), (1, .ref (w.2.2.2.1 0 0)), (2, .ref (w.2.2.2.1 20 0)), (3, .int (nI i))] [] σ2) : G w x 4 Q 857 [(0, .ref b), (1, .ref (w.2.2.2.1 0 0)), (2, .ref (w.2.2.2.1 20 0)), (3, .int (nI i))] [] σ := by
  refine G.aload_n C 1 dL_law_857 rfl rfl ?_
  refine G.aload_n C 0 dL_law_858 rfl rfl ?_
  refine G.iload_n C 3 dL_law_859 rfl rfl ?_
  refine G.iconst C (v := 1) dL_law_860 rfl ?_
  refine G.iadd C dL_law_861 ?_
  refine G.sld C X dL_law_862 (sc_1 hi hn) ?_
  refine G.aload_n C 0 dL_law_863 rfl rfl ?_
  refine G.iload_n C 3 dL_law_864 rfl rfl ?_
  refine G.iconst C (v := 2) dL_law_865 rfl ?_
  refine G.iadd C dL_law_866 ?_
  refine G.sld C X dL_law_867 (sc_2 hi hn) ?_
  obtain ⟨P5, hM5, hP5⟩ := sim_home hw h (xs (nI i + 1).toNatClampNeg) (xs (nI i + 2).toNatClampNeg)
  refine G.callV C (g := 0) (i := 0) (S := []) none hM5 dL_law_868 (by decide) rfl rfl rfl uv_X5_home ul_RL_101 rfl rfl ⟨by decide, by decide⟩ (Nat.le_of_ble_eq_true rfl) (fun r τ h5 => ?_)
  obtain ⟨P6, hM6, hP6⟩ := hP5 r τ h5
  refine G.aload_n C 2 dL_law_871 rfl rfl ?_
  refine G.aload_n C 0 dL_law_872 rfl rfl ?_
  refine G.iload_n C 3 dL_law_873 rfl rfl ?_
  refine G.iconst C (v := 1) dL_law_874 rfl ?_
  refine G.iadd C dL_law_875 ?_
  refine G.sld C X dL_law_876 (sc_1 hi hn) ?_
  refine G.aload_n C 0 dL_law_877 rfl rfl ?_
  refine G.iload_n C 3 dL_law_878 rfl rfl ?_
  refine G.iconst C (v := 2) dL_law_879 rfl ?_
  refine G.iadd C dL_law_880 ?_
  refine G.sld C X dL_law_881 (sc_2 hi hn) ?_
  refine G.callV C (g := 20) (i := 0) (S := [.int r]) none hM6 dL_law_882 (by decide) rfl rfl rfl uv_X6_home ul_RL_104 rfl rfl ⟨by decide, by decide⟩ (Nat.le_of_ble_eq_true rfl) (fun r2 τ2 h6 => ?_)
  obtain ⟨e9, h9⟩ := hP6 r2 τ2 h6
  exact G.icmp_eq C (tgt := 927) dL_law_885 (by decide) (fun _ => kk τ2 h9) (fun q => absurd e9 q)
theorem law_count (C : Cf w x cL_law 4 RL 9 328) (hw : wOK w) (X : Cx w x b n xs) (hn : n ≤ 2560) {i : Nat} (hi : i + 5 ≤ n) (h : wSim σ) (kk : ∀ σ2 : wSt, wSim σ2 → G w x 4 Q 927 [(0, .ref b), (1, .ref (w.2.2.2.1 0 0)), (2, .ref (w.2.2.2.1 20 0)), (3, .int (nI i))] [] σ2) : G w x 4 Q 890 [(0, .ref b), (1, .ref (w.2.2.2.1 0 0)), (2, .ref (w.2.2.2.1 20 0)), (3, .int (nI i))] [] σ := by
  refine G.aload_n C 1 dL_law_890 rfl rfl ?_
  refine G.aload_n C 0 dL_law_891 rfl rfl ?_
  refine G.iload_n C 3 dL_law_892 rfl rfl ?_
  refine G.iconst C (v := 1) dL_law_893 rfl ?_
  refine G.iadd C dL_law_894 ?_
  refine G.sld C X dL_law_895 (sc_1 hi hn) ?_
  obtain ⟨P5, hM5, hP5⟩ := sim_count hw h (xs (nI i + 1).toNatClampNeg)
  refine G.callV C (g := 0) (i := 0) (S := []) none hM5 dL_law_896 (by decide) rfl rfl rfl uv_X5_count ul_RL_105 rfl rfl ⟨by decide, by decide⟩ (Nat.le_of_ble_eq_true rfl) (fun r τ h5 => ?_)
  obtain ⟨P6, hM6, hP6⟩ := hP5 r τ h5
  refine G.aload_n C 2 dL_law_899 rfl rfl ?_
  refine G.aload_n C 0 dL_law_900 rfl rfl ?_
  refine G.iload_n C 3 dL_law_901 rfl rfl ?_
  refine G.iconst C (v := 1) dL_law_902 rfl ?_
  refine G.iadd C dL_law_903 ?_
  refine G.sld C X dL_law_904 (sc_1 hi hn) ?_
  refine G.callV C (g := 20) (i := 0) (S := [.int r]) none hM6 dL_law_905 (by decide) rfl rfl rfl uv_X6_count ul_RL_108 rfl rfl ⟨by decide, by decide⟩ (Nat.le_of_ble_eq_true rfl) (fun r2 τ2 h6 => ?_)
  obtain ⟨e9, h9⟩ := hP6 r2 τ2 h6
  exact G.icmp_eq C (tgt := 927) dL_law_908 (by decide) (fun _ => kk τ2 h9) (fun q => absurd e9 q)
theorem law_trace (C : Cf w x cL_law 4 RL 9 328) (hw : wOK w) (X : Cx w x b n xs) (hn : n ≤ 2560) {i : Nat} (hi : i + 5 ≤ n) (h : wSim σ) (kk : ∀ σ2 : wSt, wSim σ2 → G w x 4 Q 927 [(0, .ref b), (1, .ref (w.2.2.2.1 0 0)), (2, .ref (w.2.2.2.1 20 0)), (3, .int (nI i))] [] σ2) : G w x 4 Q 913 [(0, .ref b), (1, .ref (w.2.2.2.1 0 0)), (2, .ref (w.2.2.2.1 20 0)), (3, .int (nI i))] [] σ := by
  refine G.aload_n C 1 dL_law_913 rfl rfl ?_
  obtain ⟨P5, hM5, hP5⟩ := sim_trace hw h 
  refine G.callVl C (g := 0) (i := 0) (S := []) none hM5 dL_law_914 (by decide) rfl rfl rfl uv_X5_trace ul_RL_109 rfl rfl ⟨by decide, by decide⟩ (Nat.le_of_ble_eq_true rfl) (fun r τ h5 => ?_)
  obtain ⟨P6, hM6, hP6⟩ := hP5 r τ h5
  refine G.aload_n C 2 dL_law_917 rfl rfl ?_
  refine G.callVl C (g := 20) (i := 0) (S := [.long r]) none hM6 dL_law_918 (by decide) rfl rfl rfl uv_X6_trace ul_RL_113 rfl rfl ⟨by decide, by decide⟩ (Nat.le_of_ble_eq_true rfl) (fun r2 τ2 h6 => ?_)
  obtain ⟨e9, h9⟩ := hP6 r2 τ2 h6
  refine G.lcmp C dL_law_921 ?_
  exact G.if_eq C (tgt := 927) dL_law_922 (by decide) (fun _ => kk τ2 h9) (fun q => absurd (lg_eq0 e9) q)
end LCASES
