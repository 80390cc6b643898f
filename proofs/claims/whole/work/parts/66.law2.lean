theorem kL_13 : CV "NearPlansLaw" 13 mX11_decision 3 := ⟨⟨all_in 376 (by decide +kernel) (by decide +kernel), wi_X11_decision, wse_X11_decision, wn_X11, wc_X11_decision⟩, by decide +kernel, by decide +kernel⟩
theorem kL_17 : CV "NearPlansLaw" 17 mX12_decision 3 := ⟨⟨all_in 861 (by decide +kernel) (by decide +kernel), wi_X12_decision, wse_X12_decision, wn_X12, wc_X12_decision⟩, by decide +kernel, by decide +kernel⟩
theorem kL_18 : CV "NearPlansLaw" 18 mX11_weight 3 := ⟨⟨all_in 387 (by decide +kernel) (by decide +kernel), wi_X11_weight, wse_X11_weight, wn_X11, wc_X11_weight⟩, by decide +kernel, by decide +kernel⟩
theorem kL_21 : CV "NearPlansLaw" 21 mX12_weight 3 := ⟨⟨all_in 868 (by decide +kernel) (by decide +kernel), wi_X12_weight, wse_X12_weight, wn_X12, wc_X12_weight⟩, by decide +kernel, by decide +kernel⟩
theorem kL_22 : CV "NearPlansLaw" 22 mX11_worth 3 := ⟨⟨all_in 395 (by decide +kernel) (by decide +kernel), wi_X11_worth, wse_X11_worth, wn_X11, wc_X11_worth⟩, by decide +kernel, by decide +kernel⟩
theorem kL_25 : CV "NearPlansLaw" 25 mX12_worth 3 := ⟨⟨all_in 876 (by decide +kernel) (by decide +kernel), wi_X12_worth, wse_X12_worth, wn_X12, wc_X12_worth⟩, by decide +kernel, by decide +kernel⟩
theorem kL_26 : CV "NearPlansLaw" 26 mX11_pin 2 := ⟨⟨all_in 399 (by decide +kernel) (by decide +kernel), wi_X11_pin, wse_X11_pin, wn_X11, wc_X11_pin⟩, by decide +kernel, by decide +kernel⟩
theorem kL_30 : CV "NearPlansLaw" 30 mX12_pin 2 := ⟨⟨all_in 880 (by decide +kernel) (by decide +kernel), wi_X12_pin, wse_X12_pin, wn_X12, wc_X12_pin⟩, by decide +kernel, by decide +kernel⟩
theorem kL_31 : CV "NearPlansLaw" 31 mX11_limit 2 := ⟨⟨all_in 407 (by decide +kernel) (by decide +kernel), wi_X11_limit, wse_X11_limit, wn_X11, wc_X11_limit⟩, by decide +kernel, by decide +kernel⟩
theorem kL_34 : CV "NearPlansLaw" 34 mX12_limit 2 := ⟨⟨all_in 888 (by decide +kernel) (by decide +kernel), wi_X12_limit, wse_X12_limit, wn_X12, wc_X12_limit⟩, by decide +kernel, by decide +kernel⟩
theorem kL_35 : CV "NearPlansLaw" 35 mX11_fact 1 := ⟨⟨all_in 411 (by decide +kernel) (by decide +kernel), wi_X11_fact, wse_X11_fact, wn_X11, wc_X11_fact⟩, by decide +kernel, by decide +kernel⟩
theorem kL_39 : CV "NearPlansLaw" 39 mX12_fact 1 := ⟨⟨all_in 892 (by decide +kernel) (by decide +kernel), wi_X12_fact, wse_X12_fact, wn_X12, wc_X12_fact⟩, by decide +kernel, by decide +kernel⟩
theorem kL_40 : CV "NearPlansLaw" 40 mX11_change 2 := ⟨⟨all_in 419 (by decide +kernel) (by decide +kernel), wi_X11_change, wse_X11_change, wn_X11, wc_X11_change⟩, by decide +kernel, by decide +kernel⟩
theorem kL_43 : CV "NearPlansLaw" 43 mX12_change 2 := ⟨⟨all_in 896 (by decide +kernel) (by decide +kernel), wi_X12_change, wse_X12_change, wn_X12, wc_X12_change⟩, by decide +kernel, by decide +kernel⟩
theorem kL_44 : CV "NearPlansLaw" 44 mX11_rule 4 := ⟨⟨all_in 427 (by decide +kernel) (by decide +kernel), wi_X11_rule, wse_X11_rule, wn_X11, wc_X11_rule⟩, by decide +kernel, by decide +kernel⟩
theorem kL_48 : CV "NearPlansLaw" 48 mX12_rule 4 := ⟨⟨all_in 900 (by decide +kernel) (by decide +kernel), wi_X12_rule, wse_X12_rule, wn_X12, wc_X12_rule⟩, by decide +kernel, by decide +kernel⟩
theorem kL_49 : CV "NearPlansLaw" 49 mX11_first 1 := ⟨⟨all_in 438 (by decide +kernel) (by decide +kernel), wi_X11_first, wse_X11_first, wn_X11, wc_X11_first⟩, by decide +kernel, by decide +kernel⟩
theorem kL_52 : CV "NearPlansLaw" 52 mX12_first 1 := ⟨⟨all_in 904 (by decide +kernel) (by decide +kernel), wi_X12_first, wse_X12_first, wn_X12, wc_X12_first⟩, by decide +kernel, by decide +kernel⟩
theorem kL_53 : CV "NearPlansLaw" 53 mX11_put 2 := ⟨⟨all_in 442 (by decide +kernel) (by decide +kernel), wi_X11_put, wse_X11_put, wn_X11, wc_X11_put⟩, by decide +kernel, by decide +kernel⟩
theorem kL_56 : CV "NearPlansLaw" 56 mX12_put 2 := ⟨⟨all_in 908 (by decide +kernel) (by decide +kernel), wi_X12_put, wse_X12_put, wn_X12, wc_X12_put⟩, by decide +kernel, by decide +kernel⟩
theorem kL_57 : CV "NearPlansLaw" 57 mX11_value 1 := ⟨⟨all_in 446 (by decide +kernel) (by decide +kernel), wi_X11_value, wse_X11_value, wn_X11, wc_X11_value⟩, by decide +kernel, by decide +kernel⟩
theorem kL_60 : CV "NearPlansLaw" 60 mX12_value 1 := ⟨⟨all_in 912 (by decide +kernel) (by decide +kernel), wi_X12_value, wse_X12_value, wn_X12, wc_X12_value⟩, by decide +kernel, by decide +kernel⟩
theorem kL_61 : CV "NearPlansLaw" 61 mX11_keep 0 := ⟨⟨all_in 450 (by decide +kernel) (by decide +kernel), wi_X11_keep, wse_X11_keep, wn_X11, wc_X11_keep⟩, by decide +kernel, by decide +kernel⟩
theorem kL_65 : CV "NearPlansLaw" 65 mX12_keep 0 := ⟨⟨all_in 916 (by decide +kernel) (by decide +kernel), wi_X12_keep, wse_X12_keep, wn_X12, wc_X12_keep⟩, by decide +kernel, by decide +kernel⟩
theorem kL_66 : CV "NearPlansLaw" 66 mX11_base 1 := ⟨⟨all_in 461 (by decide +kernel) (by decide +kernel), wi_X11_base, wse_X11_base, wn_X11, wc_X11_base⟩, by decide +kernel, by decide +kernel⟩
theorem kL_69 : CV "NearPlansLaw" 69 mX12_base 1 := ⟨⟨all_in 920 (by decide +kernel) (by decide +kernel), wi_X12_base, wse_X12_base, wn_X12, wc_X12_base⟩, by decide +kernel, by decide +kernel⟩
theorem kL_70 : CV "NearPlansLaw" 70 mX11_old 2 := ⟨⟨all_in 469 (by decide +kernel) (by decide +kernel), wi_X11_old, wse_X11_old, wn_X11, wc_X11_old⟩, by decide +kernel, by decide +kernel⟩
theorem kL_73 : CV "NearPlansLaw" 73 mX12_old 2 := ⟨⟨all_in 924 (by decide +kernel) (by decide +kernel), wi_X12_old, wse_X12_old, wn_X12, wc_X12_old⟩, by decide +kernel, by decide +kernel⟩
theorem kL_74 : CV "NearPlansLaw" 74 mX11_run 0 := ⟨⟨all_in 473 (by decide +kernel) (by decide +kernel), wi_X11_run, wse_X11_run, wn_X11, wc_X11_run⟩, by decide +kernel, by decide +kernel⟩
theorem kL_77 : CV "NearPlansLaw" 77 mX12_run 0 := ⟨⟨all_in 928 (by decide +kernel) (by decide +kernel), wi_X12_run, wse_X12_run, wn_X12, wc_X12_run⟩, by decide +kernel, by decide +kernel⟩
theorem kL_78 : CV "NearPlansLaw" 78 mX11_undo 0 := ⟨⟨all_in 580 (by decide +kernel) (by decide +kernel), wi_X11_undo, wse_X11_undo, wn_X11, wc_X11_undo⟩, by decide +kernel, by decide +kernel⟩
theorem kL_81 : CV "NearPlansLaw" 81 mX12_undo 0 := ⟨⟨all_in 968 (by decide +kernel) (by decide +kernel), wi_X12_undo, wse_X12_undo, wn_X12, wc_X12_undo⟩, by decide +kernel, by decide +kernel⟩
theorem kL_82 : CV "NearPlansLaw" 82 mX11_told 1 := ⟨⟨all_in 588 (by decide +kernel) (by decide +kernel), wi_X11_told, wse_X11_told, wn_X11, wc_X11_told⟩, by decide +kernel, by decide +kernel⟩
theorem kL_85 : CV "NearPlansLaw" 85 mX12_told 1 := ⟨⟨all_in 972 (by decide +kernel) (by decide +kernel), wi_X12_told, wse_X12_told, wn_X12, wc_X12_told⟩, by decide +kernel, by decide +kernel⟩
theorem kL_86 : CV "NearPlansLaw" 86 mX11_near 1 := ⟨⟨all_in 629 (by decide +kernel) (by decide +kernel), wi_X11_near, wse_X11_near, wn_X11, wc_X11_near⟩, by decide +kernel, by decide +kernel⟩
theorem kL_89 : CV "NearPlansLaw" 89 mX12_near 1 := ⟨⟨all_in 983 (by decide +kernel) (by decide +kernel), wi_X12_near, wse_X12_near, wn_X12, wc_X12_near⟩, by decide +kernel, by decide +kernel⟩
theorem kL_90 : CV "NearPlansLaw" 90 mX11_least 0 := ⟨⟨all_in 637 (by decide +kernel) (by decide +kernel), wi_X11_least, wse_X11_least, wn_X11, wc_X11_least⟩, by decide +kernel, by decide +kernel⟩
theorem kL_93 : CV "NearPlansLaw" 93 mX12_least 0 := ⟨⟨all_in 987 (by decide +kernel) (by decide +kernel), wi_X12_least, wse_X12_least, wn_X12, wc_X12_least⟩, by decide +kernel, by decide +kernel⟩
theorem kL_94 : CV "NearPlansLaw" 94 mX11_without 1 := ⟨⟨all_in 645 (by decide +kernel) (by decide +kernel), wi_X11_without, wse_X11_without, wn_X11, wc_X11_without⟩, by decide +kernel, by decide +kernel⟩
theorem kL_97 : CV "NearPlansLaw" 97 mX12_without 1 := ⟨⟨all_in 995 (by decide +kernel) (by decide +kernel), wi_X12_without, wse_X12_without, wn_X12, wc_X12_without⟩, by decide +kernel, by decide +kernel⟩
theorem kL_98 : CV "NearPlansLaw" 98 mX11_spare 1 := ⟨⟨all_in 657 (by decide +kernel) (by decide +kernel), wi_X11_spare, wse_X11_spare, wn_X11, wc_X11_spare⟩, by decide +kernel, by decide +kernel⟩
theorem kL_101 : CV "NearPlansLaw" 101 mX12_spare 1 := ⟨⟨all_in 999 (by decide +kernel) (by decide +kernel), wi_X12_spare, wse_X12_spare, wn_X12, wc_X12_spare⟩, by decide +kernel, by decide +kernel⟩
theorem kL_102 : CV "NearPlansLaw" 102 mX11_why 1 := ⟨⟨all_in 665 (by decide +kernel) (by decide +kernel), wi_X11_why, wse_X11_why, wn_X11, wc_X11_why⟩, by decide +kernel, by decide +kernel⟩
theorem kL_105 : CV "NearPlansLaw" 105 mX12_why 1 := ⟨⟨all_in 1003 (by decide +kernel) (by decide +kernel), wi_X12_why, wse_X12_why, wn_X12, wc_X12_why⟩, by decide +kernel, by decide +kernel⟩
theorem kL_106 : CV "NearPlansLaw" 106 mX11_way 1 := ⟨⟨all_in 683 (by decide +kernel) (by decide +kernel), wi_X11_way, wse_X11_way, wn_X11, wc_X11_way⟩, by decide +kernel, by decide +kernel⟩
theorem kL_109 : CV "NearPlansLaw" 109 mX12_way 1 := ⟨⟨all_in 1007 (by decide +kernel) (by decide +kernel), wi_X12_way, wse_X12_way, wn_X12, wc_X12_way⟩, by decide +kernel, by decide +kernel⟩
theorem kL_110 : CV "NearPlansLaw" 110 mX11_broken 1 := ⟨⟨all_in 723 (by decide +kernel) (by decide +kernel), wi_X11_broken, wse_X11_broken, wn_X11, wc_X11_broken⟩, by decide +kernel, by decide +kernel⟩
theorem kL_113 : CV "NearPlansLaw" 113 mX12_broken 1 := ⟨⟨all_in 1019 (by decide +kernel) (by decide +kernel), wi_X12_broken, wse_X12_broken, wn_X12, wc_X12_broken⟩, by decide +kernel, by decide +kernel⟩
theorem kL_114 : CV "NearPlansLaw" 114 mX11_clash 1 := ⟨⟨all_in 727 (by decide +kernel) (by decide +kernel), wi_X11_clash, wse_X11_clash, wn_X11, wc_X11_clash⟩, by decide +kernel, by decide +kernel⟩
theorem kL_117 : CV "NearPlansLaw" 117 mX12_clash 1 := ⟨⟨all_in 1023 (by decide +kernel) (by decide +kernel), wi_X12_clash, wse_X12_clash, wn_X12, wc_X12_clash⟩, by decide +kernel, by decide +kernel⟩
theorem lc_decision {L : Nat} {xs : Nat → Int32} {i : Nat} {σ : Mem} (hL : L ≤ 2560) (hi : i + 5 ≤ L) (hI : Inv σ) (kk : ∀ σ1, Inv σ1 → LV L xs i 823 [] σ1) : LV L xs i 148 [] σ := by
  refine l_x dL_law_148 ?_
  refine l_arg 1 dL_law_149 dL_law_150 dL_law_151 dL_law_152 dL_law_153 rfl (by omega) hL ?_
  refine l_arg 2 dL_law_154 dL_law_155 dL_law_156 dL_law_157 dL_law_158 rfl (by omega) hL ?_
  refine l_arg 3 dL_law_159 dL_law_160 dL_law_161 dL_law_162 dL_law_163 rfl (by omega) hL ?_
  refine l_call mX11_decision [.inl (xs (i + 1)).toInt, .inl (xs (i + 2)).toInt, .inl (xs (i + 3)).toInt] rfl dL_law_164 kL_13 rfl rfl rfl (Nat.le_of_ble_eq_true rfl) (b_decision (by decide) hI) (fun r σ1 h1 => ?_)
  refine l_m dL_law_167 ?_
  refine l_arg 1 dL_law_168 dL_law_169 dL_law_170 dL_law_171 dL_law_172 rfl (by omega) hL ?_
  refine l_arg 2 dL_law_173 dL_law_174 dL_law_175 dL_law_176 dL_law_177 rfl (by omega) hL ?_
  refine l_arg 3 dL_law_178 dL_law_179 dL_law_180 dL_law_181 dL_law_182 rfl (by omega) hL ?_
  refine l_call mX12_decision [.inl (xs (i + 1)).toInt, .inl (xs (i + 2)).toInt, .inl (xs (i + 3)).toInt] rfl dL_law_183 kL_17 rfl rfl rfl (Nat.le_of_ble_eq_true rfl) h1 (fun r1 σ2 h2 => ?_)
  obtain ⟨e, hI2⟩ := h2
  subst e
  refine l_cmp dL_law_186 (by decide) ?_
  exact kk _ hI2
theorem lc_weight {L : Nat} {xs : Nat → Int32} {i : Nat} {σ : Mem} (hL : L ≤ 2560) (hi : i + 5 ≤ L) (hI : Inv σ) (kk : ∀ σ1, Inv σ1 → LV L xs i 823 [] σ1) : LV L xs i 191 [] σ := by
  refine l_x dL_law_191 ?_
  refine l_arg 1 dL_law_192 dL_law_193 dL_law_194 dL_law_195 dL_law_196 rfl (by omega) hL ?_
  refine l_arg 2 dL_law_197 dL_law_198 dL_law_199 dL_law_200 dL_law_201 rfl (by omega) hL ?_
  refine l_arg 3 dL_law_202 dL_law_203 dL_law_204 dL_law_205 dL_law_206 rfl (by omega) hL ?_
  refine l_call mX11_weight [.inl (xs (i + 1)).toInt, .inl (xs (i + 2)).toInt, .inl (xs (i + 3)).toInt] rfl dL_law_207 kL_18 rfl rfl rfl (Nat.le_of_ble_eq_true rfl) (b_weight (by decide) hI) (fun r σ1 h1 => ?_)
  refine l_m dL_law_210 ?_
  refine l_arg 1 dL_law_211 dL_law_212 dL_law_213 dL_law_214 dL_law_215 rfl (by omega) hL ?_
  refine l_arg 2 dL_law_216 dL_law_217 dL_law_218 dL_law_219 dL_law_220 rfl (by omega) hL ?_
  refine l_arg 3 dL_law_221 dL_law_222 dL_law_223 dL_law_224 dL_law_225 rfl (by omega) hL ?_
  refine l_call mX12_weight [.inl (xs (i + 1)).toInt, .inl (xs (i + 2)).toInt, .inl (xs (i + 3)).toInt] rfl dL_law_226 kL_21 rfl rfl rfl (Nat.le_of_ble_eq_true rfl) h1 (fun r1 σ2 h2 => ?_)
  obtain ⟨e, hI2⟩ := h2
  subst e
  refine l_cmp dL_law_229 (by decide) ?_
  exact kk _ hI2
theorem lc_worth {L : Nat} {xs : Nat → Int32} {i : Nat} {σ : Mem} (hL : L ≤ 2560) (hi : i + 5 ≤ L) (hI : Inv σ) (kk : ∀ σ1, Inv σ1 → LV L xs i 823 [] σ1) : LV L xs i 234 [] σ := by
  refine l_x dL_law_234 ?_
  refine l_arg 1 dL_law_235 dL_law_236 dL_law_237 dL_law_238 dL_law_239 rfl (by omega) hL ?_
  refine l_arg 2 dL_law_240 dL_law_241 dL_law_242 dL_law_243 dL_law_244 rfl (by omega) hL ?_
  refine l_arg 3 dL_law_245 dL_law_246 dL_law_247 dL_law_248 dL_law_249 rfl (by omega) hL ?_
  refine l_call mX11_worth [.inl (xs (i + 1)).toInt, .inl (xs (i + 2)).toInt, .inl (xs (i + 3)).toInt] rfl dL_law_250 kL_22 rfl rfl rfl (Nat.le_of_ble_eq_true rfl) (b_worth (by decide) hI) (fun r σ1 h1 => ?_)
  refine l_m dL_law_253 ?_
  refine l_arg 1 dL_law_254 dL_law_255 dL_law_256 dL_law_257 dL_law_258 rfl (by omega) hL ?_
  refine l_arg 2 dL_law_259 dL_law_260 dL_law_261 dL_law_262 dL_law_263 rfl (by omega) hL ?_
  refine l_arg 3 dL_law_264 dL_law_265 dL_law_266 dL_law_267 dL_law_268 rfl (by omega) hL ?_
  refine l_call mX12_worth [.inl (xs (i + 1)).toInt, .inl (xs (i + 2)).toInt, .inl (xs (i + 3)).toInt] rfl dL_law_269 kL_25 rfl rfl rfl (Nat.le_of_ble_eq_true rfl) h1 (fun r1 σ2 h2 => ?_)
  obtain ⟨e, hI2⟩ := h2
  subst e
  refine l_cmp dL_law_272 (by decide) ?_
  exact kk _ hI2
theorem lc_pin {L : Nat} {xs : Nat → Int32} {i : Nat} {σ : Mem} (hL : L ≤ 2560) (hi : i + 5 ≤ L) (hI : Inv σ) (kk : ∀ σ1, Inv σ1 → LV L xs i 823 [] σ1) : LV L xs i 277 [] σ := by
  refine l_x dL_law_277 ?_
  refine l_arg 1 dL_law_278 dL_law_279 dL_law_280 dL_law_281 dL_law_282 rfl (by omega) hL ?_
  refine l_arg 2 dL_law_283 dL_law_284 dL_law_285 dL_law_286 dL_law_287 rfl (by omega) hL ?_
  refine l_call mX11_pin [.inl (xs (i + 1)).toInt, .inl (xs (i + 2)).toInt] rfl dL_law_288 kL_26 rfl rfl rfl (Nat.le_of_ble_eq_true rfl) (b_pin (by decide) hI) (fun r σ1 h1 => ?_)
  refine l_m dL_law_291 ?_
  refine l_arg 1 dL_law_292 dL_law_293 dL_law_294 dL_law_295 dL_law_296 rfl (by omega) hL ?_
  refine l_arg 2 dL_law_297 dL_law_298 dL_law_299 dL_law_300 dL_law_301 rfl (by omega) hL ?_
  refine l_call mX12_pin [.inl (xs (i + 1)).toInt, .inl (xs (i + 2)).toInt] rfl dL_law_302 kL_30 rfl rfl rfl (Nat.le_of_ble_eq_true rfl) h1 (fun r1 σ2 h2 => ?_)
  obtain ⟨e, hI2⟩ := h2
  subst e
  refine l_cmp dL_law_305 (by decide) ?_
  exact kk _ hI2
theorem lc_limit {L : Nat} {xs : Nat → Int32} {i : Nat} {σ : Mem} (hL : L ≤ 2560) (hi : i + 5 ≤ L) (hI : Inv σ) (kk : ∀ σ1, Inv σ1 → LV L xs i 823 [] σ1) : LV L xs i 310 [] σ := by
  refine l_x dL_law_310 ?_
  refine l_arg 1 dL_law_311 dL_law_312 dL_law_313 dL_law_314 dL_law_315 rfl (by omega) hL ?_
  refine l_arg 2 dL_law_316 dL_law_317 dL_law_318 dL_law_319 dL_law_320 rfl (by omega) hL ?_
  refine l_call mX11_limit [.inl (xs (i + 1)).toInt, .inl (xs (i + 2)).toInt] rfl dL_law_321 kL_31 rfl rfl rfl (Nat.le_of_ble_eq_true rfl) (b_limit (by decide) hI) (fun r σ1 h1 => ?_)
  refine l_m dL_law_324 ?_
  refine l_arg 1 dL_law_325 dL_law_326 dL_law_327 dL_law_328 dL_law_329 rfl (by omega) hL ?_
  refine l_arg 2 dL_law_330 dL_law_331 dL_law_332 dL_law_333 dL_law_334 rfl (by omega) hL ?_
  refine l_call mX12_limit [.inl (xs (i + 1)).toInt, .inl (xs (i + 2)).toInt] rfl dL_law_335 kL_34 rfl rfl rfl (Nat.le_of_ble_eq_true rfl) h1 (fun r1 σ2 h2 => ?_)
  obtain ⟨e, hI2⟩ := h2
  subst e
  refine l_cmp dL_law_338 (by decide) ?_
  exact kk _ hI2
theorem lc_fact {L : Nat} {xs : Nat → Int32} {i : Nat} {σ : Mem} (hL : L ≤ 2560) (hi : i + 5 ≤ L) (hI : Inv σ) (kk : ∀ σ1, Inv σ1 → LV L xs i 823 [] σ1) : LV L xs i 343 [] σ := by
  refine l_x dL_law_343 ?_
  refine l_arg 1 dL_law_344 dL_law_345 dL_law_346 dL_law_347 dL_law_348 rfl (by omega) hL ?_
  refine l_call mX11_fact [.inl (xs (i + 1)).toInt] rfl dL_law_349 kL_35 rfl rfl rfl (Nat.le_of_ble_eq_true rfl) (b_fact (by decide) hI) (fun r σ1 h1 => ?_)
  refine l_m dL_law_352 ?_
  refine l_arg 1 dL_law_353 dL_law_354 dL_law_355 dL_law_356 dL_law_357 rfl (by omega) hL ?_
  refine l_call mX12_fact [.inl (xs (i + 1)).toInt] rfl dL_law_358 kL_39 rfl rfl rfl (Nat.le_of_ble_eq_true rfl) h1 (fun r1 σ2 h2 => ?_)
  obtain ⟨e, hI2⟩ := h2
  subst e
  refine l_cmp dL_law_361 (by decide) ?_
  exact kk _ hI2
theorem lc_change {L : Nat} {xs : Nat → Int32} {i : Nat} {σ : Mem} (hL : L ≤ 2560) (hi : i + 5 ≤ L) (hI : Inv σ) (kk : ∀ σ1, Inv σ1 → LV L xs i 823 [] σ1) : LV L xs i 366 [] σ := by
  refine l_x dL_law_366 ?_
  refine l_arg 1 dL_law_367 dL_law_368 dL_law_369 dL_law_370 dL_law_371 rfl (by omega) hL ?_
  refine l_arg 2 dL_law_372 dL_law_373 dL_law_374 dL_law_375 dL_law_376 rfl (by omega) hL ?_
  refine l_call mX11_change [.inl (xs (i + 1)).toInt, .inl (xs (i + 2)).toInt] rfl dL_law_377 kL_40 rfl rfl rfl (Nat.le_of_ble_eq_true rfl) (b_change (by decide) hI) (fun r σ1 h1 => ?_)
  refine l_m dL_law_380 ?_
  refine l_arg 1 dL_law_381 dL_law_382 dL_law_383 dL_law_384 dL_law_385 rfl (by omega) hL ?_
  refine l_arg 2 dL_law_386 dL_law_387 dL_law_388 dL_law_389 dL_law_390 rfl (by omega) hL ?_
  refine l_call mX12_change [.inl (xs (i + 1)).toInt, .inl (xs (i + 2)).toInt] rfl dL_law_391 kL_43 rfl rfl rfl (Nat.le_of_ble_eq_true rfl) h1 (fun r1 σ2 h2 => ?_)
  obtain ⟨e, hI2⟩ := h2
  subst e
  refine l_cmp dL_law_394 (by decide) ?_
  exact kk _ hI2
theorem lc_rule {L : Nat} {xs : Nat → Int32} {i : Nat} {σ : Mem} (hL : L ≤ 2560) (hi : i + 5 ≤ L) (hI : Inv σ) (kk : ∀ σ1, Inv σ1 → LV L xs i 823 [] σ1) : LV L xs i 399 [] σ := by
  refine l_x dL_law_399 ?_
  refine l_arg 1 dL_law_400 dL_law_401 dL_law_402 dL_law_403 dL_law_404 rfl (by omega) hL ?_
  refine l_arg 2 dL_law_405 dL_law_406 dL_law_407 dL_law_408 dL_law_409 rfl (by omega) hL ?_
  refine l_arg 3 dL_law_410 dL_law_411 dL_law_412 dL_law_413 dL_law_414 rfl (by omega) hL ?_
  refine l_arg 4 dL_law_415 dL_law_416 dL_law_417 dL_law_418 dL_law_419 rfl (by omega) hL ?_
  refine l_call mX11_rule [.inl (xs (i + 1)).toInt, .inl (xs (i + 2)).toInt, .inl (xs (i + 3)).toInt, .inl (xs (i + 4)).toInt] rfl dL_law_420 kL_44 rfl rfl rfl (Nat.le_of_ble_eq_true rfl) (b_rule (by decide) hI) (fun r σ1 h1 => ?_)
  refine l_m dL_law_423 ?_
  refine l_arg 1 dL_law_424 dL_law_425 dL_law_426 dL_law_427 dL_law_428 rfl (by omega) hL ?_
  refine l_arg 2 dL_law_429 dL_law_430 dL_law_431 dL_law_432 dL_law_433 rfl (by omega) hL ?_
  refine l_arg 3 dL_law_434 dL_law_435 dL_law_436 dL_law_437 dL_law_438 rfl (by omega) hL ?_
  refine l_arg 4 dL_law_439 dL_law_440 dL_law_441 dL_law_442 dL_law_443 rfl (by omega) hL ?_
  refine l_call mX12_rule [.inl (xs (i + 1)).toInt, .inl (xs (i + 2)).toInt, .inl (xs (i + 3)).toInt, .inl (xs (i + 4)).toInt] rfl dL_law_444 kL_48 rfl rfl rfl (Nat.le_of_ble_eq_true rfl) h1 (fun r1 σ2 h2 => ?_)
  obtain ⟨e, hI2⟩ := h2
  subst e
  refine l_cmp dL_law_447 (by decide) ?_
  exact kk _ hI2
theorem lc_first {L : Nat} {xs : Nat → Int32} {i : Nat} {σ : Mem} (hL : L ≤ 2560) (hi : i + 5 ≤ L) (hI : Inv σ) (kk : ∀ σ1, Inv σ1 → LV L xs i 823 [] σ1) : LV L xs i 452 [] σ := by
  refine l_x dL_law_452 ?_
  refine l_arg 1 dL_law_453 dL_law_454 dL_law_455 dL_law_456 dL_law_457 rfl (by omega) hL ?_
  refine l_call mX11_first [.inl (xs (i + 1)).toInt] rfl dL_law_458 kL_49 rfl rfl rfl (Nat.le_of_ble_eq_true rfl) (b_first (by decide) hI) (fun r σ1 h1 => ?_)
  refine l_m dL_law_461 ?_
  refine l_arg 1 dL_law_462 dL_law_463 dL_law_464 dL_law_465 dL_law_466 rfl (by omega) hL ?_
  refine l_call mX12_first [.inl (xs (i + 1)).toInt] rfl dL_law_467 kL_52 rfl rfl rfl (Nat.le_of_ble_eq_true rfl) h1 (fun r1 σ2 h2 => ?_)
  obtain ⟨e, hI2⟩ := h2
  subst e
  refine l_cmp dL_law_470 (by decide) ?_
  exact kk _ hI2
theorem lc_put {L : Nat} {xs : Nat → Int32} {i : Nat} {σ : Mem} (hL : L ≤ 2560) (hi : i + 5 ≤ L) (hI : Inv σ) (kk : ∀ σ1, Inv σ1 → LV L xs i 823 [] σ1) : LV L xs i 475 [] σ := by
  refine l_x dL_law_475 ?_
  refine l_arg 1 dL_law_476 dL_law_477 dL_law_478 dL_law_479 dL_law_480 rfl (by omega) hL ?_
  refine l_arg 2 dL_law_481 dL_law_482 dL_law_483 dL_law_484 dL_law_485 rfl (by omega) hL ?_
  refine l_call mX11_put [.inl (xs (i + 1)).toInt, .inl (xs (i + 2)).toInt] rfl dL_law_486 kL_53 rfl rfl rfl (Nat.le_of_ble_eq_true rfl) (b_put (by decide) hI) (fun r σ1 h1 => ?_)
  refine l_m dL_law_489 ?_
  refine l_arg 1 dL_law_490 dL_law_491 dL_law_492 dL_law_493 dL_law_494 rfl (by omega) hL ?_
  refine l_arg 2 dL_law_495 dL_law_496 dL_law_497 dL_law_498 dL_law_499 rfl (by omega) hL ?_
  refine l_call mX12_put [.inl (xs (i + 1)).toInt, .inl (xs (i + 2)).toInt] rfl dL_law_500 kL_56 rfl rfl rfl (Nat.le_of_ble_eq_true rfl) h1 (fun r1 σ2 h2 => ?_)
  obtain ⟨e, hI2⟩ := h2
  subst e
  refine l_cmp dL_law_503 (by decide) ?_
  exact kk _ hI2
theorem lc_value {L : Nat} {xs : Nat → Int32} {i : Nat} {σ : Mem} (hL : L ≤ 2560) (hi : i + 5 ≤ L) (hI : Inv σ) (kk : ∀ σ1, Inv σ1 → LV L xs i 823 [] σ1) : LV L xs i 508 [] σ := by
  refine l_x dL_law_508 ?_
  refine l_arg 1 dL_law_509 dL_law_510 dL_law_511 dL_law_512 dL_law_513 rfl (by omega) hL ?_
  refine l_call mX11_value [.inl (xs (i + 1)).toInt] rfl dL_law_514 kL_57 rfl rfl rfl (Nat.le_of_ble_eq_true rfl) (b_value (by decide) hI) (fun r σ1 h1 => ?_)
  refine l_m dL_law_517 ?_
  refine l_arg 1 dL_law_518 dL_law_519 dL_law_520 dL_law_521 dL_law_522 rfl (by omega) hL ?_
  refine l_call mX12_value [.inl (xs (i + 1)).toInt] rfl dL_law_523 kL_60 rfl rfl rfl (Nat.le_of_ble_eq_true rfl) h1 (fun r1 σ2 h2 => ?_)
  obtain ⟨e, hI2⟩ := h2
  subst e
  refine l_cmp dL_law_526 (by decide) ?_
  exact kk _ hI2
theorem lc_keep {L : Nat} {xs : Nat → Int32} {i : Nat} {σ : Mem} (hL : L ≤ 2560) (hi : i + 5 ≤ L) (hI : Inv σ) (kk : ∀ σ1, Inv σ1 → LV L xs i 823 [] σ1) : LV L xs i 531 [] σ := by
  refine l_x dL_law_531 ?_
  refine l_call mX11_keep [] rfl dL_law_532 kL_61 rfl rfl rfl (Nat.le_of_ble_eq_true rfl) (b_keep (by decide) hI) (fun r σ1 h1 => ?_)
  refine l_m dL_law_535 ?_
  refine l_call mX12_keep [] rfl dL_law_536 kL_65 rfl rfl rfl (Nat.le_of_ble_eq_true rfl) h1 (fun r1 σ2 h2 => ?_)
  obtain ⟨e, hI2⟩ := h2
  subst e
  refine l_cmp dL_law_539 (by decide) ?_
  exact kk _ hI2
theorem lc_base {L : Nat} {xs : Nat → Int32} {i : Nat} {σ : Mem} (hL : L ≤ 2560) (hi : i + 5 ≤ L) (hI : Inv σ) (kk : ∀ σ1, Inv σ1 → LV L xs i 823 [] σ1) : LV L xs i 544 [] σ := by
  refine l_x dL_law_544 ?_
  refine l_arg 1 dL_law_545 dL_law_546 dL_law_547 dL_law_548 dL_law_549 rfl (by omega) hL ?_
  refine l_call mX11_base [.inl (xs (i + 1)).toInt] rfl dL_law_550 kL_66 rfl rfl rfl (Nat.le_of_ble_eq_true rfl) (b_base (by decide) hI) (fun r σ1 h1 => ?_)
  refine l_m dL_law_553 ?_
  refine l_arg 1 dL_law_554 dL_law_555 dL_law_556 dL_law_557 dL_law_558 rfl (by omega) hL ?_
  refine l_call mX12_base [.inl (xs (i + 1)).toInt] rfl dL_law_559 kL_69 rfl rfl rfl (Nat.le_of_ble_eq_true rfl) h1 (fun r1 σ2 h2 => ?_)
  obtain ⟨e, hI2⟩ := h2
  subst e
  refine l_cmp dL_law_562 (by decide) ?_
  exact kk _ hI2
theorem lc_old {L : Nat} {xs : Nat → Int32} {i : Nat} {σ : Mem} (hL : L ≤ 2560) (hi : i + 5 ≤ L) (hI : Inv σ) (kk : ∀ σ1, Inv σ1 → LV L xs i 823 [] σ1) : LV L xs i 567 [] σ := by
  refine l_x dL_law_567 ?_
  refine l_arg 1 dL_law_568 dL_law_569 dL_law_570 dL_law_571 dL_law_572 rfl (by omega) hL ?_
  refine l_arg 2 dL_law_573 dL_law_574 dL_law_575 dL_law_576 dL_law_577 rfl (by omega) hL ?_
  refine l_call mX11_old [.inl (xs (i + 1)).toInt, .inl (xs (i + 2)).toInt] rfl dL_law_578 kL_70 rfl rfl rfl (Nat.le_of_ble_eq_true rfl) (b_old (by decide) hI) (fun r σ1 h1 => ?_)
  refine l_m dL_law_581 ?_
  refine l_arg 1 dL_law_582 dL_law_583 dL_law_584 dL_law_585 dL_law_586 rfl (by omega) hL ?_
  refine l_arg 2 dL_law_587 dL_law_588 dL_law_589 dL_law_590 dL_law_591 rfl (by omega) hL ?_
  refine l_call mX12_old [.inl (xs (i + 1)).toInt, .inl (xs (i + 2)).toInt] rfl dL_law_592 kL_73 rfl rfl rfl (Nat.le_of_ble_eq_true rfl) h1 (fun r1 σ2 h2 => ?_)
  obtain ⟨e, hI2⟩ := h2
  subst e
  refine l_cmp dL_law_595 (by decide) ?_
  exact kk _ hI2
theorem lc_run {L : Nat} {xs : Nat → Int32} {i : Nat} {σ : Mem} (hL : L ≤ 2560) (hi : i + 5 ≤ L) (hI : Inv σ) (kk : ∀ σ1, Inv σ1 → LV L xs i 823 [] σ1) : LV L xs i 600 [] σ := by
  refine l_x dL_law_600 ?_
  refine l_call mX11_run [] rfl dL_law_601 kL_74 rfl rfl rfl (Nat.le_of_ble_eq_true rfl) (b_run (by decide) hI) (fun r σ1 h1 => ?_)
  refine l_m dL_law_604 ?_
  refine l_call mX12_run [] rfl dL_law_605 kL_77 rfl rfl rfl (Nat.le_of_ble_eq_true rfl) h1 (fun r1 σ2 h2 => ?_)
  obtain ⟨e, hI2⟩ := h2
  subst e
  refine l_cmp dL_law_608 (by decide) ?_
  exact kk _ hI2
theorem lc_undo {L : Nat} {xs : Nat → Int32} {i : Nat} {σ : Mem} (hL : L ≤ 2560) (hi : i + 5 ≤ L) (hI : Inv σ) (kk : ∀ σ1, Inv σ1 → LV L xs i 823 [] σ1) : LV L xs i 613 [] σ := by
  refine l_x dL_law_613 ?_
  refine l_call mX11_undo [] rfl dL_law_614 kL_78 rfl rfl rfl (Nat.le_of_ble_eq_true rfl) (b_undo (by decide) hI) (fun r σ1 h1 => ?_)
  refine l_m dL_law_617 ?_
  refine l_call mX12_undo [] rfl dL_law_618 kL_81 rfl rfl rfl (Nat.le_of_ble_eq_true rfl) h1 (fun r1 σ2 h2 => ?_)
  obtain ⟨e, hI2⟩ := h2
  subst e
  refine l_cmp dL_law_621 (by decide) ?_
  exact kk _ hI2
theorem lc_told {L : Nat} {xs : Nat → Int32} {i : Nat} {σ : Mem} (hL : L ≤ 2560) (hi : i + 5 ≤ L) (hI : Inv σ) (kk : ∀ σ1, Inv σ1 → LV L xs i 823 [] σ1) : LV L xs i 626 [] σ := by
  refine l_x dL_law_626 ?_
  refine l_arg 1 dL_law_627 dL_law_628 dL_law_629 dL_law_630 dL_law_631 rfl (by omega) hL ?_
  refine l_call mX11_told [.inl (xs (i + 1)).toInt] rfl dL_law_632 kL_82 rfl rfl rfl (Nat.le_of_ble_eq_true rfl) (b_told (by decide) hI) (fun r σ1 h1 => ?_)
  refine l_m dL_law_635 ?_
  refine l_arg 1 dL_law_636 dL_law_637 dL_law_638 dL_law_639 dL_law_640 rfl (by omega) hL ?_
  refine l_call mX12_told [.inl (xs (i + 1)).toInt] rfl dL_law_641 kL_85 rfl rfl rfl (Nat.le_of_ble_eq_true rfl) h1 (fun r1 σ2 h2 => ?_)
  obtain ⟨e, hI2⟩ := h2
  subst e
  refine l_cmp dL_law_644 (by decide) ?_
  exact kk _ hI2
theorem lc_near {L : Nat} {xs : Nat → Int32} {i : Nat} {σ : Mem} (hL : L ≤ 2560) (hi : i + 5 ≤ L) (hI : Inv σ) (kk : ∀ σ1, Inv σ1 → LV L xs i 823 [] σ1) : LV L xs i 649 [] σ := by
  refine l_x dL_law_649 ?_
  refine l_arg 1 dL_law_650 dL_law_651 dL_law_652 dL_law_653 dL_law_654 rfl (by omega) hL ?_
  refine l_call mX11_near [.inl (xs (i + 1)).toInt] rfl dL_law_655 kL_86 rfl rfl rfl (Nat.le_of_ble_eq_true rfl) (b_near (by decide) hI) (fun r σ1 h1 => ?_)
  refine l_m dL_law_658 ?_
  refine l_arg 1 dL_law_659 dL_law_660 dL_law_661 dL_law_662 dL_law_663 rfl (by omega) hL ?_
  refine l_call mX12_near [.inl (xs (i + 1)).toInt] rfl dL_law_664 kL_89 rfl rfl rfl (Nat.le_of_ble_eq_true rfl) h1 (fun r1 σ2 h2 => ?_)
  obtain ⟨e, hI2⟩ := h2
  subst e
  refine l_cmp dL_law_667 (by decide) ?_
  exact kk _ hI2
theorem lc_least {L : Nat} {xs : Nat → Int32} {i : Nat} {σ : Mem} (hL : L ≤ 2560) (hi : i + 5 ≤ L) (hI : Inv σ) (kk : ∀ σ1, Inv σ1 → LV L xs i 823 [] σ1) : LV L xs i 672 [] σ := by
  refine l_x dL_law_672 ?_
  refine l_call mX11_least [] rfl dL_law_673 kL_90 rfl rfl rfl (Nat.le_of_ble_eq_true rfl) (b_least (by decide) hI) (fun r σ1 h1 => ?_)
  refine l_m dL_law_676 ?_
  refine l_call mX12_least [] rfl dL_law_677 kL_93 rfl rfl rfl (Nat.le_of_ble_eq_true rfl) h1 (fun r1 σ2 h2 => ?_)
  obtain ⟨e, hI2⟩ := h2
  subst e
  refine l_cmp dL_law_680 (by decide) ?_
  exact kk _ hI2
theorem lc_without {L : Nat} {xs : Nat → Int32} {i : Nat} {σ : Mem} (hL : L ≤ 2560) (hi : i + 5 ≤ L) (hI : Inv σ) (kk : ∀ σ1, Inv σ1 → LV L xs i 823 [] σ1) : LV L xs i 685 [] σ := by
  refine l_x dL_law_685 ?_
  refine l_arg 1 dL_law_686 dL_law_687 dL_law_688 dL_law_689 dL_law_690 rfl (by omega) hL ?_
  refine l_call mX11_without [.inl (xs (i + 1)).toInt] rfl dL_law_691 kL_94 rfl rfl rfl (Nat.le_of_ble_eq_true rfl) (b_without (by decide) hI) (fun r σ1 h1 => ?_)
  refine l_m dL_law_694 ?_
  refine l_arg 1 dL_law_695 dL_law_696 dL_law_697 dL_law_698 dL_law_699 rfl (by omega) hL ?_
  refine l_call mX12_without [.inl (xs (i + 1)).toInt] rfl dL_law_700 kL_97 rfl rfl rfl (Nat.le_of_ble_eq_true rfl) h1 (fun r1 σ2 h2 => ?_)
  obtain ⟨e, hI2⟩ := h2
  subst e
  refine l_cmp dL_law_703 (by decide) ?_
  exact kk _ hI2
theorem lc_spare {L : Nat} {xs : Nat → Int32} {i : Nat} {σ : Mem} (hL : L ≤ 2560) (hi : i + 5 ≤ L) (hI : Inv σ) (kk : ∀ σ1, Inv σ1 → LV L xs i 823 [] σ1) : LV L xs i 708 [] σ := by
  refine l_x dL_law_708 ?_
  refine l_arg 1 dL_law_709 dL_law_710 dL_law_711 dL_law_712 dL_law_713 rfl (by omega) hL ?_
  refine l_call mX11_spare [.inl (xs (i + 1)).toInt] rfl dL_law_714 kL_98 rfl rfl rfl (Nat.le_of_ble_eq_true rfl) (b_spare (by decide) hI) (fun r σ1 h1 => ?_)
  refine l_m dL_law_717 ?_
  refine l_arg 1 dL_law_718 dL_law_719 dL_law_720 dL_law_721 dL_law_722 rfl (by omega) hL ?_
  refine l_call mX12_spare [.inl (xs (i + 1)).toInt] rfl dL_law_723 kL_101 rfl rfl rfl (Nat.le_of_ble_eq_true rfl) h1 (fun r1 σ2 h2 => ?_)
  obtain ⟨e, hI2⟩ := h2
  subst e
  refine l_cmp dL_law_726 (by decide) ?_
  exact kk _ hI2
theorem lc_why {L : Nat} {xs : Nat → Int32} {i : Nat} {σ : Mem} (hL : L ≤ 2560) (hi : i + 5 ≤ L) (hI : Inv σ) (kk : ∀ σ1, Inv σ1 → LV L xs i 823 [] σ1) : LV L xs i 731 [] σ := by
  refine l_x dL_law_731 ?_
  refine l_arg 1 dL_law_732 dL_law_733 dL_law_734 dL_law_735 dL_law_736 rfl (by omega) hL ?_
  refine l_call mX11_why [.inl (xs (i + 1)).toInt] rfl dL_law_737 kL_102 rfl rfl rfl (Nat.le_of_ble_eq_true rfl) (b_why (by decide) hI) (fun r σ1 h1 => ?_)
  refine l_m dL_law_740 ?_
  refine l_arg 1 dL_law_741 dL_law_742 dL_law_743 dL_law_744 dL_law_745 rfl (by omega) hL ?_
  refine l_call mX12_why [.inl (xs (i + 1)).toInt] rfl dL_law_746 kL_105 rfl rfl rfl (Nat.le_of_ble_eq_true rfl) h1 (fun r1 σ2 h2 => ?_)
  obtain ⟨e, hI2⟩ := h2
  subst e
  refine l_cmp dL_law_749 (by decide) ?_
  exact kk _ hI2
theorem lc_way {L : Nat} {xs : Nat → Int32} {i : Nat} {σ : Mem} (hL : L ≤ 2560) (hi : i + 5 ≤ L) (hI : Inv σ) (kk : ∀ σ1, Inv σ1 → LV L xs i 823 [] σ1) : LV L xs i 754 [] σ := by
  refine l_x dL_law_754 ?_
  refine l_arg 1 dL_law_755 dL_law_756 dL_law_757 dL_law_758 dL_law_759 rfl (by omega) hL ?_
  refine l_call mX11_way [.inl (xs (i + 1)).toInt] rfl dL_law_760 kL_106 rfl rfl rfl (Nat.le_of_ble_eq_true rfl) (b_way (by decide) hI) (fun r σ1 h1 => ?_)
  refine l_m dL_law_763 ?_
  refine l_arg 1 dL_law_764 dL_law_765 dL_law_766 dL_law_767 dL_law_768 rfl (by omega) hL ?_
  refine l_call mX12_way [.inl (xs (i + 1)).toInt] rfl dL_law_769 kL_109 rfl rfl rfl (Nat.le_of_ble_eq_true rfl) h1 (fun r1 σ2 h2 => ?_)
  obtain ⟨e, hI2⟩ := h2
  subst e
  refine l_cmp dL_law_772 (by decide) ?_
  exact kk _ hI2
theorem lc_broken {L : Nat} {xs : Nat → Int32} {i : Nat} {σ : Mem} (hL : L ≤ 2560) (hi : i + 5 ≤ L) (hI : Inv σ) (kk : ∀ σ1, Inv σ1 → LV L xs i 823 [] σ1) : LV L xs i 777 [] σ := by
  refine l_x dL_law_777 ?_
  refine l_arg 1 dL_law_778 dL_law_779 dL_law_780 dL_law_781 dL_law_782 rfl (by omega) hL ?_
  refine l_call mX11_broken [.inl (xs (i + 1)).toInt] rfl dL_law_783 kL_110 rfl rfl rfl (Nat.le_of_ble_eq_true rfl) (b_broken (by decide) hI) (fun r σ1 h1 => ?_)
  refine l_m dL_law_786 ?_
  refine l_arg 1 dL_law_787 dL_law_788 dL_law_789 dL_law_790 dL_law_791 rfl (by omega) hL ?_
  refine l_call mX12_broken [.inl (xs (i + 1)).toInt] rfl dL_law_792 kL_113 rfl rfl rfl (Nat.le_of_ble_eq_true rfl) h1 (fun r1 σ2 h2 => ?_)
  obtain ⟨e, hI2⟩ := h2
  subst e
  refine l_cmp dL_law_795 (by decide) ?_
  exact kk _ hI2
theorem lc_clash {L : Nat} {xs : Nat → Int32} {i : Nat} {σ : Mem} (hL : L ≤ 2560) (hi : i + 5 ≤ L) (hI : Inv σ) (kk : ∀ σ1, Inv σ1 → LV L xs i 823 [] σ1) : LV L xs i 800 [] σ := by
  refine l_x dL_law_800 ?_
  refine l_arg 1 dL_law_801 dL_law_802 dL_law_803 dL_law_804 dL_law_805 rfl (by omega) hL ?_
  refine l_call mX11_clash [.inl (xs (i + 1)).toInt] rfl dL_law_806 kL_114 rfl rfl rfl (Nat.le_of_ble_eq_true rfl) (b_clash (by decide) hI) (fun r σ1 h1 => ?_)
  refine l_m dL_law_809 ?_
  refine l_arg 1 dL_law_810 dL_law_811 dL_law_812 dL_law_813 dL_law_814 rfl (by omega) hL ?_
  refine l_call mX12_clash [.inl (xs (i + 1)).toInt] rfl dL_law_815 kL_117 rfl rfl rfl (Nat.le_of_ble_eq_true rfl) h1 (fun r1 σ2 h2 => ?_)
  obtain ⟨e, hI2⟩ := h2
  subst e
  refine l_cmp dL_law_818 (by decide) ?_
  exact kk _ hI2
theorem law_go {L : Nat} {xs : Nat → Int32} (hL : L ≤ 2560) : ∀ (n i : Nat), L + 5 - i < n → i ≤ L + 4 → ∀ σ, Inv σ → LV L xs i 18 [] σ := by
  intro n
  induction n with
  | zero => intro i h; omega
  | succ n ih =>
    intro i hn hi σ hI
    refine l_head hL hi (fun _ => l_end) (fun h5 => ?_)
    refine l_op hL (by omega) (fun w w0 w1 => ?_)
    have kk : ∀ σ1, Inv σ1 → LV L xs i 823 [] σ1 := fun σ1 h1 => l_next (ih (i + 5) (by omega) (by omega) σ1 h1)
    have hw : w = 0 ∨ w = 1 ∨ w = 2 ∨ w = 3 ∨ w = 4 ∨ w = 5 ∨ w = 6 ∨ w = 7 ∨ w = 8 ∨ w = 9 ∨ w = 10 ∨ w = 11 ∨ w = 12 ∨ w = 13 ∨ w = 14 ∨ w = 15 ∨ w = 16 ∨ w = 17 ∨ w = 18 ∨ w = 19 ∨ w = 20 ∨ w = 21 ∨ w = 22 ∨ w = 23 ∨ w = 24 ∨ 24 < w := by omega
    rcases hw with rfl | rfl | rfl | rfl | rfl | rfl | rfl | rfl | rfl | rfl | rfl | rfl | rfl | rfl | rfl | rfl | rfl | rfl | rfl | rfl | rfl | rfl | rfl | rfl | rfl | hw
    · exact l_tabIn 148 (by decide) (by decide) (off := 116) rfl (by decide) (lc_decision hL h5 hI kk)
    · exact l_tabIn 191 (by decide) (by decide) (off := 159) rfl (by decide) (lc_weight hL h5 hI kk)
    · exact l_tabIn 234 (by decide) (by decide) (off := 202) rfl (by decide) (lc_worth hL h5 hI kk)
    · exact l_tabIn 277 (by decide) (by decide) (off := 245) rfl (by decide) (lc_pin hL h5 hI kk)
    · exact l_tabIn 310 (by decide) (by decide) (off := 278) rfl (by decide) (lc_limit hL h5 hI kk)
    · exact l_tabIn 343 (by decide) (by decide) (off := 311) rfl (by decide) (lc_fact hL h5 hI kk)
    · exact l_tabIn 366 (by decide) (by decide) (off := 334) rfl (by decide) (lc_change hL h5 hI kk)
    · exact l_tabIn 399 (by decide) (by decide) (off := 367) rfl (by decide) (lc_rule hL h5 hI kk)
    · exact l_tabIn 452 (by decide) (by decide) (off := 420) rfl (by decide) (lc_first hL h5 hI kk)
    · exact l_tabIn 475 (by decide) (by decide) (off := 443) rfl (by decide) (lc_put hL h5 hI kk)
    · exact l_tabIn 508 (by decide) (by decide) (off := 476) rfl (by decide) (lc_value hL h5 hI kk)
    · exact l_tabIn 531 (by decide) (by decide) (off := 499) rfl (by decide) (lc_keep hL h5 hI kk)
    · exact l_tabIn 544 (by decide) (by decide) (off := 512) rfl (by decide) (lc_base hL h5 hI kk)
    · exact l_tabIn 567 (by decide) (by decide) (off := 535) rfl (by decide) (lc_old hL h5 hI kk)
    · exact l_tabIn 600 (by decide) (by decide) (off := 568) rfl (by decide) (lc_run hL h5 hI kk)
    · exact l_tabIn 613 (by decide) (by decide) (off := 581) rfl (by decide) (lc_undo hL h5 hI kk)
    · exact l_tabIn 626 (by decide) (by decide) (off := 594) rfl (by decide) (lc_told hL h5 hI kk)
    · exact l_tabIn 649 (by decide) (by decide) (off := 617) rfl (by decide) (lc_near hL h5 hI kk)
    · exact l_tabIn 672 (by decide) (by decide) (off := 640) rfl (by decide) (lc_least hL h5 hI kk)
    · exact l_tabIn 685 (by decide) (by decide) (off := 653) rfl (by decide) (lc_without hL h5 hI kk)
    · exact l_tabIn 708 (by decide) (by decide) (off := 676) rfl (by decide) (lc_spare hL h5 hI kk)
    · exact l_tabIn 731 (by decide) (by decide) (off := 699) rfl (by decide) (lc_why hL h5 hI kk)
    · exact l_tabIn 754 (by decide) (by decide) (off := 722) rfl (by decide) (lc_way hL h5 hI kk)
    · exact l_tabIn 777 (by decide) (by decide) (off := 745) rfl (by decide) (lc_broken hL h5 hI kk)
    · exact l_tabIn 800 (by decide) (by decide) (off := 768) rfl (by decide) (lc_clash hL h5 hI kk)
    · exact l_tabOut hw (kk σ hI)
