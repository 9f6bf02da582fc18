/-- a row's first n cells written -/
def wrL (σ : St) (r : Nat) (f : Nat → Int) (n : Nat) : St := (σ.1, (fun r' j => if r' = r ∧ j < n then f j else σ.2.1 r' j), σ.2.2)
theorem wr_0 (σ : St) (r : Nat) (f : Nat → Int) : wrL σ r f 0 = σ := by
  obtain ⟨a, b, c⟩ := σ
  show (a, (fun r' j => if r' = r ∧ j < 0 then f j else b r' j), c) = (a, b, c)
  have h : (fun r' j => if r' = r ∧ j < 0 then f j else b r' j) = b := by
    funext r' j
    rw [if_neg (fun q => Nat.not_lt_zero j q.2)]
  rw [h]
theorem wr_s {σ : St} {r : Nat} {f : Nat → Int} {i : Nat} {x : Int} (hx : f i = x) : upI (wrL σ r f i) r i x = wrL σ r f (i + 1) := by
  have h : (upI (wrL σ r f i) r i x).2.1 = (wrL σ r f (i + 1)).2.1 := by
    funext r' j
    rw [up_if]
    show (if r' = r ∧ j = i then x else (if r' = r ∧ j < i then f j else σ.2.1 r' j)) = (if r' = r ∧ j < i + 1 then f j else σ.2.1 r' j)
    by_cases h1 : r' = r ∧ j = i
    · rw [if_pos h1, if_pos ⟨h1.1, by omega⟩, h1.2, hx]
    · rw [if_neg h1]
      by_cases h2 : r' = r ∧ j < i
      · rw [if_pos h2, if_pos ⟨h2.1, by omega⟩]
      · rw [if_neg h2, if_neg (fun q => h2 ⟨q.1, by
          have h3 : j ≠ i := fun e => h1 ⟨q.1, e⟩
          omega⟩)]
  calc upI (wrL σ r f i) r i x = (σ.1, (upI (wrL σ r f i) r i x).2.1, σ.2.2) := rfl
    _ = wrL σ r f (i + 1) := by rw [h]; rfl
theorem Cel.wr {σ : St} {q : Nat} {k : Nat × Nat} (h : Cel σ q k) (r : Nat) (f : Nat → Int) (n : Nat) : Cel (wrL σ r f n) q k := h
def fM1 : Nat → Int := fun _ => -1
def fWd : Nat → Int := fun k => if k = 0 then 32 else txB 0 (k - 1)
section STO
variable {M : MT} {G : Gt} {d bc bs : Nat} {Qz : QZ} {pc : Nat} {ls : List (Option AV)} {st : List AV} {σ : St}
theorem AW_ws {r N : Nat} {f : Nat → Int} {x : Int} (i : Nat) (hd : decode M.2.1 pc = .ok (.iastore, 1)) (hk : Cel σ r (20, N)) (hi : i < N) (hx : f i = x) (k : AW M G d bc bs Qz (pc + 1) ls st (wrL σ r f (i + 1))) : AW M G d bc bs Qz pc ls (vI x :: vI (i : Int) :: vR r :: st) (wrL σ r f i) := by
  refine AW_iast hd (hk.wr r f i) (by omega) (by omega) ?_
  rw [Int.toNat_natCast, wr_s hx]
  exact k
end STO
def fWor (σ : St) : St := wrL σ 98 fM1 72
set_option maxRecDepth 100000 in
set_option maxHeartbeats 4000000 in
theorem s_wor {G : Gt} {d bc bs : Nat} {Qz : QZ} {ls : List (Option AV)} {σ : St} (hk : Cel σ 98 (20, 72)) (k : AW mX12_init G d bc bs Qz 394 ls [vR 98, vR 94] (fWor σ)) : AW mX12_init G d bc bs Qz 40 ls [vR 98, vR 94] σ := by
  rw [show AW mX12_init G d bc bs Qz 40 ls [vR 98, vR 94] σ = AW mX12_init G d bc bs Qz 40 ls [vR 98, vR 94] (wrL σ 98 fM1 0) by rw [wr_0]]
  refine AW_dup dX12_init_40 ?_
  refine AW_iconst dX12_init_41 ?_
  refine AW_iconst dX12_init_42 ?_
  refine AW_ws 0 dX12_init_43 hk (by decide) rfl ?_
  refine AW_dup dX12_init_44 ?_
  refine AW_iconst dX12_init_45 ?_
  refine AW_iconst dX12_init_46 ?_
  refine AW_ws 1 dX12_init_47 hk (by decide) rfl ?_
  refine AW_dup dX12_init_48 ?_
  refine AW_iconst dX12_init_49 ?_
  refine AW_iconst dX12_init_50 ?_
  refine AW_ws 2 dX12_init_51 hk (by decide) rfl ?_
  refine AW_dup dX12_init_52 ?_
  refine AW_iconst dX12_init_53 ?_
  refine AW_iconst dX12_init_54 ?_
  refine AW_ws 3 dX12_init_55 hk (by decide) rfl ?_
  refine AW_dup dX12_init_56 ?_
  refine AW_iconst dX12_init_57 ?_
  refine AW_iconst dX12_init_58 ?_
  refine AW_ws 4 dX12_init_59 hk (by decide) rfl ?_
  refine AW_dup dX12_init_60 ?_
  refine AW_iconst dX12_init_61 ?_
  refine AW_iconst dX12_init_62 ?_
  refine AW_ws 5 dX12_init_63 hk (by decide) rfl ?_
  refine AW_dup dX12_init_64 ?_
  refine AW_bipush dX12_init_65 ?_
  refine AW_iconst dX12_init_67 ?_
  refine AW_ws 6 dX12_init_68 hk (by decide) rfl ?_
  refine AW_dup dX12_init_69 ?_
  refine AW_bipush dX12_init_70 ?_
  refine AW_iconst dX12_init_72 ?_
  refine AW_ws 7 dX12_init_73 hk (by decide) rfl ?_
  refine AW_dup dX12_init_74 ?_
  refine AW_bipush dX12_init_75 ?_
  refine AW_iconst dX12_init_77 ?_
  refine AW_ws 8 dX12_init_78 hk (by decide) rfl ?_
  refine AW_dup dX12_init_79 ?_
  refine AW_bipush dX12_init_80 ?_
  refine AW_iconst dX12_init_82 ?_
  refine AW_ws 9 dX12_init_83 hk (by decide) rfl ?_
  refine AW_dup dX12_init_84 ?_
  refine AW_bipush dX12_init_85 ?_
  refine AW_iconst dX12_init_87 ?_
  refine AW_ws 10 dX12_init_88 hk (by decide) rfl ?_
  refine AW_dup dX12_init_89 ?_
  refine AW_bipush dX12_init_90 ?_
  refine AW_iconst dX12_init_92 ?_
  refine AW_ws 11 dX12_init_93 hk (by decide) rfl ?_
  refine AW_dup dX12_init_94 ?_
  refine AW_bipush dX12_init_95 ?_
  refine AW_iconst dX12_init_97 ?_
  refine AW_ws 12 dX12_init_98 hk (by decide) rfl ?_
  refine AW_dup dX12_init_99 ?_
  refine AW_bipush dX12_init_100 ?_
  refine AW_iconst dX12_init_102 ?_
  refine AW_ws 13 dX12_init_103 hk (by decide) rfl ?_
  refine AW_dup dX12_init_104 ?_
  refine AW_bipush dX12_init_105 ?_
  refine AW_iconst dX12_init_107 ?_
  refine AW_ws 14 dX12_init_108 hk (by decide) rfl ?_
  refine AW_dup dX12_init_109 ?_
  refine AW_bipush dX12_init_110 ?_
  refine AW_iconst dX12_init_112 ?_
  refine AW_ws 15 dX12_init_113 hk (by decide) rfl ?_
  refine AW_dup dX12_init_114 ?_
  refine AW_bipush dX12_init_115 ?_
  refine AW_iconst dX12_init_117 ?_
  refine AW_ws 16 dX12_init_118 hk (by decide) rfl ?_
  refine AW_dup dX12_init_119 ?_
  refine AW_bipush dX12_init_120 ?_
  refine AW_iconst dX12_init_122 ?_
  refine AW_ws 17 dX12_init_123 hk (by decide) rfl ?_
  refine AW_dup dX12_init_124 ?_
  refine AW_bipush dX12_init_125 ?_
  refine AW_iconst dX12_init_127 ?_
  refine AW_ws 18 dX12_init_128 hk (by decide) rfl ?_
  refine AW_dup dX12_init_129 ?_
  refine AW_bipush dX12_init_130 ?_
  refine AW_iconst dX12_init_132 ?_
  refine AW_ws 19 dX12_init_133 hk (by decide) rfl ?_
  refine AW_dup dX12_init_134 ?_
  refine AW_bipush dX12_init_135 ?_
  refine AW_iconst dX12_init_137 ?_
  refine AW_ws 20 dX12_init_138 hk (by decide) rfl ?_
  refine AW_dup dX12_init_139 ?_
  refine AW_bipush dX12_init_140 ?_
  refine AW_iconst dX12_init_142 ?_
  refine AW_ws 21 dX12_init_143 hk (by decide) rfl ?_
  refine AW_dup dX12_init_144 ?_
  refine AW_bipush dX12_init_145 ?_
  refine AW_iconst dX12_init_147 ?_
  refine AW_ws 22 dX12_init_148 hk (by decide) rfl ?_
  refine AW_dup dX12_init_149 ?_
  refine AW_bipush dX12_init_150 ?_
  refine AW_iconst dX12_init_152 ?_
  refine AW_ws 23 dX12_init_153 hk (by decide) rfl ?_
  refine AW_dup dX12_init_154 ?_
  refine AW_bipush dX12_init_155 ?_
  refine AW_iconst dX12_init_157 ?_
  refine AW_ws 24 dX12_init_158 hk (by decide) rfl ?_
  refine AW_dup dX12_init_159 ?_
  refine AW_bipush dX12_init_160 ?_
  refine AW_iconst dX12_init_162 ?_
  refine AW_ws 25 dX12_init_163 hk (by decide) rfl ?_
  refine AW_dup dX12_init_164 ?_
  refine AW_bipush dX12_init_165 ?_
  refine AW_iconst dX12_init_167 ?_
  refine AW_ws 26 dX12_init_168 hk (by decide) rfl ?_
  refine AW_dup dX12_init_169 ?_
  refine AW_bipush dX12_init_170 ?_
  refine AW_iconst dX12_init_172 ?_
  refine AW_ws 27 dX12_init_173 hk (by decide) rfl ?_
  refine AW_dup dX12_init_174 ?_
  refine AW_bipush dX12_init_175 ?_
  refine AW_iconst dX12_init_177 ?_
  refine AW_ws 28 dX12_init_178 hk (by decide) rfl ?_
  refine AW_dup dX12_init_179 ?_
  refine AW_bipush dX12_init_180 ?_
  refine AW_iconst dX12_init_182 ?_
  refine AW_ws 29 dX12_init_183 hk (by decide) rfl ?_
  refine AW_dup dX12_init_184 ?_
  refine AW_bipush dX12_init_185 ?_
  refine AW_iconst dX12_init_187 ?_
  refine AW_ws 30 dX12_init_188 hk (by decide) rfl ?_
  refine AW_dup dX12_init_189 ?_
  refine AW_bipush dX12_init_190 ?_
  refine AW_iconst dX12_init_192 ?_
  refine AW_ws 31 dX12_init_193 hk (by decide) rfl ?_
  refine AW_dup dX12_init_194 ?_
  refine AW_bipush dX12_init_195 ?_
  refine AW_iconst dX12_init_197 ?_
  refine AW_ws 32 dX12_init_198 hk (by decide) rfl ?_
  refine AW_dup dX12_init_199 ?_
  refine AW_bipush dX12_init_200 ?_
  refine AW_iconst dX12_init_202 ?_
  refine AW_ws 33 dX12_init_203 hk (by decide) rfl ?_
  refine AW_dup dX12_init_204 ?_
  refine AW_bipush dX12_init_205 ?_
  refine AW_iconst dX12_init_207 ?_
  refine AW_ws 34 dX12_init_208 hk (by decide) rfl ?_
  refine AW_dup dX12_init_209 ?_
  refine AW_bipush dX12_init_210 ?_
  refine AW_iconst dX12_init_212 ?_
  refine AW_ws 35 dX12_init_213 hk (by decide) rfl ?_
  refine AW_dup dX12_init_214 ?_
  refine AW_bipush dX12_init_215 ?_
  refine AW_iconst dX12_init_217 ?_
  refine AW_ws 36 dX12_init_218 hk (by decide) rfl ?_
  refine AW_dup dX12_init_219 ?_
  refine AW_bipush dX12_init_220 ?_
  refine AW_iconst dX12_init_222 ?_
  refine AW_ws 37 dX12_init_223 hk (by decide) rfl ?_
  refine AW_dup dX12_init_224 ?_
  refine AW_bipush dX12_init_225 ?_
  refine AW_iconst dX12_init_227 ?_
  refine AW_ws 38 dX12_init_228 hk (by decide) rfl ?_
  refine AW_dup dX12_init_229 ?_
  refine AW_bipush dX12_init_230 ?_
  refine AW_iconst dX12_init_232 ?_
  refine AW_ws 39 dX12_init_233 hk (by decide) rfl ?_
  refine AW_dup dX12_init_234 ?_
  refine AW_bipush dX12_init_235 ?_
  refine AW_iconst dX12_init_237 ?_
  refine AW_ws 40 dX12_init_238 hk (by decide) rfl ?_
  refine AW_dup dX12_init_239 ?_
  refine AW_bipush dX12_init_240 ?_
  refine AW_iconst dX12_init_242 ?_
  refine AW_ws 41 dX12_init_243 hk (by decide) rfl ?_
  refine AW_dup dX12_init_244 ?_
  refine AW_bipush dX12_init_245 ?_
  refine AW_iconst dX12_init_247 ?_
  refine AW_ws 42 dX12_init_248 hk (by decide) rfl ?_
  refine AW_dup dX12_init_249 ?_
  refine AW_bipush dX12_init_250 ?_
  refine AW_iconst dX12_init_252 ?_
  refine AW_ws 43 dX12_init_253 hk (by decide) rfl ?_
  refine AW_dup dX12_init_254 ?_
  refine AW_bipush dX12_init_255 ?_
  refine AW_iconst dX12_init_257 ?_
  refine AW_ws 44 dX12_init_258 hk (by decide) rfl ?_
  refine AW_dup dX12_init_259 ?_
  refine AW_bipush dX12_init_260 ?_
  refine AW_iconst dX12_init_262 ?_
  refine AW_ws 45 dX12_init_263 hk (by decide) rfl ?_
  refine AW_dup dX12_init_264 ?_
  refine AW_bipush dX12_init_265 ?_
  refine AW_iconst dX12_init_267 ?_
  refine AW_ws 46 dX12_init_268 hk (by decide) rfl ?_
  refine AW_dup dX12_init_269 ?_
  refine AW_bipush dX12_init_270 ?_
  refine AW_iconst dX12_init_272 ?_
  refine AW_ws 47 dX12_init_273 hk (by decide) rfl ?_
  refine AW_dup dX12_init_274 ?_
  refine AW_bipush dX12_init_275 ?_
  refine AW_iconst dX12_init_277 ?_
  refine AW_ws 48 dX12_init_278 hk (by decide) rfl ?_
  refine AW_dup dX12_init_279 ?_
  refine AW_bipush dX12_init_280 ?_
  refine AW_iconst dX12_init_282 ?_
  refine AW_ws 49 dX12_init_283 hk (by decide) rfl ?_
  refine AW_dup dX12_init_284 ?_
  refine AW_bipush dX12_init_285 ?_
  refine AW_iconst dX12_init_287 ?_
  refine AW_ws 50 dX12_init_288 hk (by decide) rfl ?_
  refine AW_dup dX12_init_289 ?_
  refine AW_bipush dX12_init_290 ?_
  refine AW_iconst dX12_init_292 ?_
  refine AW_ws 51 dX12_init_293 hk (by decide) rfl ?_
  refine AW_dup dX12_init_294 ?_
  refine AW_bipush dX12_init_295 ?_
  refine AW_iconst dX12_init_297 ?_
  refine AW_ws 52 dX12_init_298 hk (by decide) rfl ?_
  refine AW_dup dX12_init_299 ?_
  refine AW_bipush dX12_init_300 ?_
  refine AW_iconst dX12_init_302 ?_
  refine AW_ws 53 dX12_init_303 hk (by decide) rfl ?_
  refine AW_dup dX12_init_304 ?_
  refine AW_bipush dX12_init_305 ?_
  refine AW_iconst dX12_init_307 ?_
  refine AW_ws 54 dX12_init_308 hk (by decide) rfl ?_
  refine AW_dup dX12_init_309 ?_
  refine AW_bipush dX12_init_310 ?_
  refine AW_iconst dX12_init_312 ?_
  refine AW_ws 55 dX12_init_313 hk (by decide) rfl ?_
  refine AW_dup dX12_init_314 ?_
  refine AW_bipush dX12_init_315 ?_
  refine AW_iconst dX12_init_317 ?_
  refine AW_ws 56 dX12_init_318 hk (by decide) rfl ?_
  refine AW_dup dX12_init_319 ?_
  refine AW_bipush dX12_init_320 ?_
  refine AW_iconst dX12_init_322 ?_
  refine AW_ws 57 dX12_init_323 hk (by decide) rfl ?_
  refine AW_dup dX12_init_324 ?_
  refine AW_bipush dX12_init_325 ?_
  refine AW_iconst dX12_init_327 ?_
  refine AW_ws 58 dX12_init_328 hk (by decide) rfl ?_
  refine AW_dup dX12_init_329 ?_
  refine AW_bipush dX12_init_330 ?_
  refine AW_iconst dX12_init_332 ?_
  refine AW_ws 59 dX12_init_333 hk (by decide) rfl ?_
  refine AW_dup dX12_init_334 ?_
  refine AW_bipush dX12_init_335 ?_
  refine AW_iconst dX12_init_337 ?_
  refine AW_ws 60 dX12_init_338 hk (by decide) rfl ?_
  refine AW_dup dX12_init_339 ?_
  refine AW_bipush dX12_init_340 ?_
  refine AW_iconst dX12_init_342 ?_
  refine AW_ws 61 dX12_init_343 hk (by decide) rfl ?_
  refine AW_dup dX12_init_344 ?_
  refine AW_bipush dX12_init_345 ?_
  refine AW_iconst dX12_init_347 ?_
  refine AW_ws 62 dX12_init_348 hk (by decide) rfl ?_
  refine AW_dup dX12_init_349 ?_
  refine AW_bipush dX12_init_350 ?_
  refine AW_iconst dX12_init_352 ?_
  refine AW_ws 63 dX12_init_353 hk (by decide) rfl ?_
  refine AW_dup dX12_init_354 ?_
  refine AW_bipush dX12_init_355 ?_
  refine AW_iconst dX12_init_357 ?_
  refine AW_ws 64 dX12_init_358 hk (by decide) rfl ?_
  refine AW_dup dX12_init_359 ?_
  refine AW_bipush dX12_init_360 ?_
  refine AW_iconst dX12_init_362 ?_
  refine AW_ws 65 dX12_init_363 hk (by decide) rfl ?_
  refine AW_dup dX12_init_364 ?_
  refine AW_bipush dX12_init_365 ?_
  refine AW_iconst dX12_init_367 ?_
  refine AW_ws 66 dX12_init_368 hk (by decide) rfl ?_
  refine AW_dup dX12_init_369 ?_
  refine AW_bipush dX12_init_370 ?_
  refine AW_iconst dX12_init_372 ?_
  refine AW_ws 67 dX12_init_373 hk (by decide) rfl ?_
  refine AW_dup dX12_init_374 ?_
  refine AW_bipush dX12_init_375 ?_
  refine AW_iconst dX12_init_377 ?_
  refine AW_ws 68 dX12_init_378 hk (by decide) rfl ?_
  refine AW_dup dX12_init_379 ?_
  refine AW_bipush dX12_init_380 ?_
  refine AW_iconst dX12_init_382 ?_
  refine AW_ws 69 dX12_init_383 hk (by decide) rfl ?_
  refine AW_dup dX12_init_384 ?_
  refine AW_bipush dX12_init_385 ?_
  refine AW_iconst dX12_init_387 ?_
  refine AW_ws 70 dX12_init_388 hk (by decide) rfl ?_
  refine AW_dup dX12_init_389 ?_
  refine AW_bipush dX12_init_390 ?_
  refine AW_iconst dX12_init_392 ?_
  refine AW_ws 71 dX12_init_393 hk (by decide) rfl ?_
  exact k
def fWrd (σ : St) : St := wrL σ 104 fWd 65
set_option maxRecDepth 100000 in
set_option maxHeartbeats 4000000 in
theorem s_wrd {G : Gt} {d bc bs : Nat} {Qz : QZ} {ls : List (Option AV)} {σ : St} (hk : Cel σ 104 (20, 65)) (k : AW mX12_init G d bc bs Qz 850 ls [vR 104, vR 94] (fWrd σ)) : AW mX12_init G d bc bs Qz 466 ls [vR 104, vR 94] σ := by
  rw [show AW mX12_init G d bc bs Qz 466 ls [vR 104, vR 94] σ = AW mX12_init G d bc bs Qz 466 ls [vR 104, vR 94] (wrL σ 104 fWd 0) by rw [wr_0]]
  refine AW_dup dX12_init_466 ?_
  refine AW_iconst dX12_init_467 ?_
  refine AW_bipush dX12_init_468 ?_
  refine AW_ws 0 dX12_init_470 hk (by decide) rfl ?_
  refine AW_dup dX12_init_471 ?_
  refine AW_iconst dX12_init_472 ?_
  refine AW_bipush dX12_init_473 ?_
  refine AW_ws 1 dX12_init_475 hk (by decide) rfl ?_
  refine AW_dup dX12_init_476 ?_
  refine AW_iconst dX12_init_477 ?_
  refine AW_bipush dX12_init_478 ?_
  refine AW_ws 2 dX12_init_480 hk (by decide) rfl ?_
  refine AW_dup dX12_init_481 ?_
  refine AW_iconst dX12_init_482 ?_
  refine AW_bipush dX12_init_483 ?_
  refine AW_ws 3 dX12_init_485 hk (by decide) rfl ?_
  refine AW_dup dX12_init_486 ?_
  refine AW_iconst dX12_init_487 ?_
  refine AW_bipush dX12_init_488 ?_
  refine AW_ws 4 dX12_init_490 hk (by decide) rfl ?_
  refine AW_dup dX12_init_491 ?_
  refine AW_iconst dX12_init_492 ?_
  refine AW_bipush dX12_init_493 ?_
  refine AW_ws 5 dX12_init_495 hk (by decide) rfl ?_
  refine AW_dup dX12_init_496 ?_
  refine AW_bipush dX12_init_497 ?_
  refine AW_bipush dX12_init_499 ?_
  refine AW_ws 6 dX12_init_501 hk (by decide) rfl ?_
  refine AW_dup dX12_init_502 ?_
  refine AW_bipush dX12_init_503 ?_
  refine AW_bipush dX12_init_505 ?_
  refine AW_ws 7 dX12_init_507 hk (by decide) rfl ?_
  refine AW_dup dX12_init_508 ?_
  refine AW_bipush dX12_init_509 ?_
  refine AW_bipush dX12_init_511 ?_
  refine AW_ws 8 dX12_init_513 hk (by decide) rfl ?_
  refine AW_dup dX12_init_514 ?_
  refine AW_bipush dX12_init_515 ?_
  refine AW_bipush dX12_init_517 ?_
  refine AW_ws 9 dX12_init_519 hk (by decide) rfl ?_
  refine AW_dup dX12_init_520 ?_
  refine AW_bipush dX12_init_521 ?_
  refine AW_bipush dX12_init_523 ?_
  refine AW_ws 10 dX12_init_525 hk (by decide) rfl ?_
  refine AW_dup dX12_init_526 ?_
  refine AW_bipush dX12_init_527 ?_
  refine AW_bipush dX12_init_529 ?_
  refine AW_ws 11 dX12_init_531 hk (by decide) rfl ?_
  refine AW_dup dX12_init_532 ?_
  refine AW_bipush dX12_init_533 ?_
  refine AW_bipush dX12_init_535 ?_
  refine AW_ws 12 dX12_init_537 hk (by decide) rfl ?_
  refine AW_dup dX12_init_538 ?_
  refine AW_bipush dX12_init_539 ?_
  refine AW_bipush dX12_init_541 ?_
  refine AW_ws 13 dX12_init_543 hk (by decide) rfl ?_
  refine AW_dup dX12_init_544 ?_
  refine AW_bipush dX12_init_545 ?_
  refine AW_bipush dX12_init_547 ?_
  refine AW_ws 14 dX12_init_549 hk (by decide) rfl ?_
  refine AW_dup dX12_init_550 ?_
  refine AW_bipush dX12_init_551 ?_
  refine AW_bipush dX12_init_553 ?_
  refine AW_ws 15 dX12_init_555 hk (by decide) rfl ?_
  refine AW_dup dX12_init_556 ?_
  refine AW_bipush dX12_init_557 ?_
  refine AW_bipush dX12_init_559 ?_
  refine AW_ws 16 dX12_init_561 hk (by decide) rfl ?_
  refine AW_dup dX12_init_562 ?_
  refine AW_bipush dX12_init_563 ?_
  refine AW_bipush dX12_init_565 ?_
  refine AW_ws 17 dX12_init_567 hk (by decide) rfl ?_
  refine AW_dup dX12_init_568 ?_
  refine AW_bipush dX12_init_569 ?_
  refine AW_bipush dX12_init_571 ?_
  refine AW_ws 18 dX12_init_573 hk (by decide) rfl ?_
  refine AW_dup dX12_init_574 ?_
  refine AW_bipush dX12_init_575 ?_
  refine AW_bipush dX12_init_577 ?_
  refine AW_ws 19 dX12_init_579 hk (by decide) rfl ?_
  refine AW_dup dX12_init_580 ?_
  refine AW_bipush dX12_init_581 ?_
  refine AW_bipush dX12_init_583 ?_
  refine AW_ws 20 dX12_init_585 hk (by decide) rfl ?_
  refine AW_dup dX12_init_586 ?_
  refine AW_bipush dX12_init_587 ?_
  refine AW_bipush dX12_init_589 ?_
  refine AW_ws 21 dX12_init_591 hk (by decide) rfl ?_
  refine AW_dup dX12_init_592 ?_
  refine AW_bipush dX12_init_593 ?_
  refine AW_bipush dX12_init_595 ?_
  refine AW_ws 22 dX12_init_597 hk (by decide) rfl ?_
  refine AW_dup dX12_init_598 ?_
  refine AW_bipush dX12_init_599 ?_
  refine AW_bipush dX12_init_601 ?_
  refine AW_ws 23 dX12_init_603 hk (by decide) rfl ?_
  refine AW_dup dX12_init_604 ?_
  refine AW_bipush dX12_init_605 ?_
  refine AW_bipush dX12_init_607 ?_
  refine AW_ws 24 dX12_init_609 hk (by decide) rfl ?_
  refine AW_dup dX12_init_610 ?_
  refine AW_bipush dX12_init_611 ?_
  refine AW_bipush dX12_init_613 ?_
  refine AW_ws 25 dX12_init_615 hk (by decide) rfl ?_
  refine AW_dup dX12_init_616 ?_
  refine AW_bipush dX12_init_617 ?_
  refine AW_bipush dX12_init_619 ?_
  refine AW_ws 26 dX12_init_621 hk (by decide) rfl ?_
  refine AW_dup dX12_init_622 ?_
  refine AW_bipush dX12_init_623 ?_
  refine AW_bipush dX12_init_625 ?_
  refine AW_ws 27 dX12_init_627 hk (by decide) rfl ?_
  refine AW_dup dX12_init_628 ?_
  refine AW_bipush dX12_init_629 ?_
  refine AW_bipush dX12_init_631 ?_
  refine AW_ws 28 dX12_init_633 hk (by decide) rfl ?_
  refine AW_dup dX12_init_634 ?_
  refine AW_bipush dX12_init_635 ?_
  refine AW_bipush dX12_init_637 ?_
  refine AW_ws 29 dX12_init_639 hk (by decide) rfl ?_
  refine AW_dup dX12_init_640 ?_
  refine AW_bipush dX12_init_641 ?_
  refine AW_bipush dX12_init_643 ?_
  refine AW_ws 30 dX12_init_645 hk (by decide) rfl ?_
  refine AW_dup dX12_init_646 ?_
  refine AW_bipush dX12_init_647 ?_
  refine AW_bipush dX12_init_649 ?_
  refine AW_ws 31 dX12_init_651 hk (by decide) rfl ?_
  refine AW_dup dX12_init_652 ?_
  refine AW_bipush dX12_init_653 ?_
  refine AW_bipush dX12_init_655 ?_
  refine AW_ws 32 dX12_init_657 hk (by decide) rfl ?_
  refine AW_dup dX12_init_658 ?_
  refine AW_bipush dX12_init_659 ?_
  refine AW_bipush dX12_init_661 ?_
  refine AW_ws 33 dX12_init_663 hk (by decide) rfl ?_
  refine AW_dup dX12_init_664 ?_
  refine AW_bipush dX12_init_665 ?_
  refine AW_bipush dX12_init_667 ?_
  refine AW_ws 34 dX12_init_669 hk (by decide) rfl ?_
  refine AW_dup dX12_init_670 ?_
  refine AW_bipush dX12_init_671 ?_
  refine AW_bipush dX12_init_673 ?_
  refine AW_ws 35 dX12_init_675 hk (by decide) rfl ?_
  refine AW_dup dX12_init_676 ?_
  refine AW_bipush dX12_init_677 ?_
  refine AW_bipush dX12_init_679 ?_
  refine AW_ws 36 dX12_init_681 hk (by decide) rfl ?_
  refine AW_dup dX12_init_682 ?_
  refine AW_bipush dX12_init_683 ?_
  refine AW_bipush dX12_init_685 ?_
  refine AW_ws 37 dX12_init_687 hk (by decide) rfl ?_
  refine AW_dup dX12_init_688 ?_
  refine AW_bipush dX12_init_689 ?_
  refine AW_bipush dX12_init_691 ?_
  refine AW_ws 38 dX12_init_693 hk (by decide) rfl ?_
  refine AW_dup dX12_init_694 ?_
  refine AW_bipush dX12_init_695 ?_
  refine AW_bipush dX12_init_697 ?_
  refine AW_ws 39 dX12_init_699 hk (by decide) rfl ?_
  refine AW_dup dX12_init_700 ?_
  refine AW_bipush dX12_init_701 ?_
  refine AW_bipush dX12_init_703 ?_
  refine AW_ws 40 dX12_init_705 hk (by decide) rfl ?_
  refine AW_dup dX12_init_706 ?_
  refine AW_bipush dX12_init_707 ?_
  refine AW_bipush dX12_init_709 ?_
  refine AW_ws 41 dX12_init_711 hk (by decide) rfl ?_
  refine AW_dup dX12_init_712 ?_
  refine AW_bipush dX12_init_713 ?_
  refine AW_bipush dX12_init_715 ?_
  refine AW_ws 42 dX12_init_717 hk (by decide) rfl ?_
  refine AW_dup dX12_init_718 ?_
  refine AW_bipush dX12_init_719 ?_
  refine AW_bipush dX12_init_721 ?_
  refine AW_ws 43 dX12_init_723 hk (by decide) rfl ?_
  refine AW_dup dX12_init_724 ?_
  refine AW_bipush dX12_init_725 ?_
  refine AW_bipush dX12_init_727 ?_
  refine AW_ws 44 dX12_init_729 hk (by decide) rfl ?_
  refine AW_dup dX12_init_730 ?_
  refine AW_bipush dX12_init_731 ?_
  refine AW_bipush dX12_init_733 ?_
  refine AW_ws 45 dX12_init_735 hk (by decide) rfl ?_
  refine AW_dup dX12_init_736 ?_
  refine AW_bipush dX12_init_737 ?_
  refine AW_bipush dX12_init_739 ?_
  refine AW_ws 46 dX12_init_741 hk (by decide) rfl ?_
  refine AW_dup dX12_init_742 ?_
  refine AW_bipush dX12_init_743 ?_
  refine AW_bipush dX12_init_745 ?_
  refine AW_ws 47 dX12_init_747 hk (by decide) rfl ?_
  refine AW_dup dX12_init_748 ?_
  refine AW_bipush dX12_init_749 ?_
  refine AW_bipush dX12_init_751 ?_
  refine AW_ws 48 dX12_init_753 hk (by decide) rfl ?_
  refine AW_dup dX12_init_754 ?_
  refine AW_bipush dX12_init_755 ?_
  refine AW_bipush dX12_init_757 ?_
  refine AW_ws 49 dX12_init_759 hk (by decide) rfl ?_
  refine AW_dup dX12_init_760 ?_
  refine AW_bipush dX12_init_761 ?_
  refine AW_bipush dX12_init_763 ?_
  refine AW_ws 50 dX12_init_765 hk (by decide) rfl ?_
  refine AW_dup dX12_init_766 ?_
  refine AW_bipush dX12_init_767 ?_
  refine AW_bipush dX12_init_769 ?_
  refine AW_ws 51 dX12_init_771 hk (by decide) rfl ?_
  refine AW_dup dX12_init_772 ?_
  refine AW_bipush dX12_init_773 ?_
  refine AW_bipush dX12_init_775 ?_
  refine AW_ws 52 dX12_init_777 hk (by decide) rfl ?_
  refine AW_dup dX12_init_778 ?_
  refine AW_bipush dX12_init_779 ?_
  refine AW_bipush dX12_init_781 ?_
  refine AW_ws 53 dX12_init_783 hk (by decide) rfl ?_
  refine AW_dup dX12_init_784 ?_
  refine AW_bipush dX12_init_785 ?_
  refine AW_bipush dX12_init_787 ?_
  refine AW_ws 54 dX12_init_789 hk (by decide) rfl ?_
  refine AW_dup dX12_init_790 ?_
  refine AW_bipush dX12_init_791 ?_
  refine AW_bipush dX12_init_793 ?_
  refine AW_ws 55 dX12_init_795 hk (by decide) rfl ?_
  refine AW_dup dX12_init_796 ?_
  refine AW_bipush dX12_init_797 ?_
  refine AW_bipush dX12_init_799 ?_
  refine AW_ws 56 dX12_init_801 hk (by decide) rfl ?_
  refine AW_dup dX12_init_802 ?_
  refine AW_bipush dX12_init_803 ?_
  refine AW_bipush dX12_init_805 ?_
  refine AW_ws 57 dX12_init_807 hk (by decide) rfl ?_
  refine AW_dup dX12_init_808 ?_
  refine AW_bipush dX12_init_809 ?_
  refine AW_bipush dX12_init_811 ?_
  refine AW_ws 58 dX12_init_813 hk (by decide) rfl ?_
  refine AW_dup dX12_init_814 ?_
  refine AW_bipush dX12_init_815 ?_
  refine AW_bipush dX12_init_817 ?_
  refine AW_ws 59 dX12_init_819 hk (by decide) rfl ?_
  refine AW_dup dX12_init_820 ?_
  refine AW_bipush dX12_init_821 ?_
  refine AW_bipush dX12_init_823 ?_
  refine AW_ws 60 dX12_init_825 hk (by decide) rfl ?_
  refine AW_dup dX12_init_826 ?_
  refine AW_bipush dX12_init_827 ?_
  refine AW_bipush dX12_init_829 ?_
  refine AW_ws 61 dX12_init_831 hk (by decide) rfl ?_
  refine AW_dup dX12_init_832 ?_
  refine AW_bipush dX12_init_833 ?_
  refine AW_bipush dX12_init_835 ?_
  refine AW_ws 62 dX12_init_837 hk (by decide) rfl ?_
  refine AW_dup dX12_init_838 ?_
  refine AW_bipush dX12_init_839 ?_
  refine AW_bipush dX12_init_841 ?_
  refine AW_ws 63 dX12_init_843 hk (by decide) rfl ?_
  refine AW_dup dX12_init_844 ?_
  refine AW_bipush dX12_init_845 ?_
  refine AW_bipush dX12_init_847 ?_
  refine AW_ws 64 dX12_init_849 hk (by decide) rfl ?_
  exact k
