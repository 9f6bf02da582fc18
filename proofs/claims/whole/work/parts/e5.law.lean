-- the law's own walk
abbrev mL_law : MT := (x, cL_law, 4, ret)
def QL (G : Gt) : QZ := fun mc ms s _ below t => G.2.2.1 = s.heap.size → ∃ ou : Outcome, t.status = .running ∧ Ended t below ou ∧ ou = .returned (some (.int 1)) ∧ Framed s ou t [] mc ms
def sc (G : Gt) (j : Nat) : Int := (G.2.2.2.2.2 j).toInt
theorem kn_SC {G : Gt} {s : State} (h : Kn G s) : va_T .int (G.2.2.2.1 10) G.2.2.2.2.1 (fun j => .int (G.2.2.2.2.2 j)) (AG G) s s.heap := h.2.2.2.2.2.2.2.2.2.2.2.2.2.2.2.2.1
section LAW
variable {M : MT} {G : Gt} {d bc bs : Nat} {Qz : QZ} {pc : Nat} {ls : List (Option AV)} {st : List AV} {σ : St}
theorem AW_sld (q : Nat) {i : Int} (hd : decode M.2.1 pc = .ok (.iaload, 1)) (hq : i = (q : Int)) (hlt : q < G.2.2.2.2.1) (k : AW M G d bc bs Qz (pc + 1) ls (vI (sc G q) :: st) σ) : AW M G d bc bs Qz pc ls (vI i :: vR 10 :: st) σ := by
  subst hq
  refine AW_xiald (e := 10) (N := G.2.2.2.2.1) (f := fun j => .int (G.2.2.2.2.2 j)) (v := sc G q) hd (fun s h => kn_SC h) (by decide) (by decide) (by omega) (by omega) ?_ (inI _) k
  show Value.int (G.2.2.2.2.2 ((q : Int).toNat)) = .int (Int32.ofInt (sc G q))
  rw [Int.toNat_natCast]
  unfold sc
  rw [ofI]
theorem AW_slen (hd : decode M.2.1 pc = .ok (.arraylength, 1)) (hL : G.2.2.2.2.1 ≤ 3072) (k : AW M G d bc bs Qz (pc + 1) ls (vI (G.2.2.2.2.1 : Int) :: st) σ) : AW M G d bc bs Qz pc ls (vR 10 :: st) σ := AW_xalen (e := 10) (N := G.2.2.2.2.1) (f := fun j => .int (G.2.2.2.2.2 j)) (ty := .int) hd (fun s h => kn_SC h) (by decide) (by decide) (by omega) k
end LAW
def bcL (v N : Nat) : Nat := 2 * (600 - v) + (10080 - N)
def bsL (v N : Nat) : Nat := 60 * (600 - v) + 2 * (10080 - N)
abbrev lsL (v : Nat) : List (Option AV) := [some (vR 10), some (vR 16), some (vR 94), some (vI ((6 * v : Nat) : Int))]
/-- what stands behind a call -/
def Nxt (G : Gt) (d v : Nat) : Prop := ∀ (N : Nat) (σ : St), Ivl (v + 1) N σ → AW mL_law G d (bcL (v + 1) N) (bsL (v + 1) N) (QL G) 966 (lsL v) [] σ
theorem lc_sorts {G : Gt} {d : Nat} {σ : St} (hd : 61 ≤ d) {v N : Nat} (hI : Ivl v N σ) (hv : v < 600) (hl : 6 * v + 6 ≤ G.2.2.2.2.1) (hL : G.2.2.2.2.1 ≤ 3072) (K : Nxt G d v) : AW mL_law G d (bcL v N) (bsL v N) (QL G) 144 (lsL v) [] σ := by
  obtain ⟨c, s, N', e1, e2, e3, hM⟩ := o_sorts (G := G) (d := d - 1) (by omega) hv hI (sc G (6 * v + 1)) (sc G (6 * v + 2))
  have hN := hI.cap
  have hS := hI.1.1
  refine AW_up (bc := bcL (v + 1) N' + c) (bs := bsL (v + 1) N' + s) (by unfold bcL; omega) (by unfold bsL; omega) ?_
  refine AW_aload_n dL_law_144 rfl ?_
  refine AW_aload_n dL_law_145 rfl ?_
  refine AW_iload_n dL_law_146 rfl ?_
  refine AW_iconst dL_law_147 ?_
  refine AW_iaddE dL_law_148 (by omega) (by omega) ?_
  refine AW_sld (6 * v + 1) dL_law_149 (by omega) (by omega) ?_
  refine AW_aload_n dL_law_150 rfl ?_
  refine AW_iload_n dL_law_151 rfl ?_
  refine AW_iconst dL_law_152 ?_
  refine AW_iaddE dL_law_153 (by omega) (by omega) ?_
  refine AW_sld (6 * v + 2) dL_law_154 (by omega) (by omega) ?_
  refine AW_callVb2 (d' := d - 1) dL_law_155 (Or.inl lkL_13) mfX11_sorts (hS.cel rfl) ⟨_, rfl, rfl⟩ hM (by omega) (Nat.le_of_ble_eq_true rfl) ?_
  rintro _ ρ ⟨hS1, z, rfl, hM2⟩ -
  refine AW_aload_n dL_law_158 rfl ?_
  refine AW_aload_n dL_law_159 rfl ?_
  refine AW_iload_n dL_law_160 rfl ?_
  refine AW_iconst dL_law_161 ?_
  refine AW_iaddE dL_law_162 (by omega) (by omega) ?_
  refine AW_sld (6 * v + 1) dL_law_163 (by omega) (by omega) ?_
  refine AW_aload_n dL_law_164 rfl ?_
  refine AW_iload_n dL_law_165 rfl ?_
  refine AW_iconst dL_law_166 ?_
  refine AW_iaddE dL_law_167 (by omega) (by omega) ?_
  refine AW_sld (6 * v + 2) dL_law_168 (by omega) (by omega) ?_
  refine AW_callV2 (d' := d - 1) dL_law_169 (Or.inl lkL_17) mfX12_sorts (hS1.cel rfl) ⟨_, rfl, rfl⟩ hM2 (by omega) (Nat.le_of_ble_eq_true rfl) ?_
  rintro _ ρ2 ⟨rfl, hI2⟩ -
  exact AW_icmp_eq (tgt := 966) dL_law_172 (by decide) (fun _ => K N' ρ2 hI2) (fun h => absurd rfl h)
theorem lc_look {G : Gt} {d : Nat} {σ : St} (hd : 61 ≤ d) {v N : Nat} (hI : Ivl v N σ) (hv : v < 600) (hl : 6 * v + 6 ≤ G.2.2.2.2.1) (hL : G.2.2.2.2.1 ≤ 3072) (K : Nxt G d v) : AW mL_law G d (bcL v N) (bsL v N) (QL G) 177 (lsL v) [] σ := by
  obtain ⟨c, s, N', e1, e2, e3, hM⟩ := o_look (G := G) (d := d - 1) (by omega) hv hI (sc G (6 * v + 1)) (sc G (6 * v + 2)) (sc G (6 * v + 3)) (sc G (6 * v + 4))
  have hN := hI.cap
  have hS := hI.1.1
  refine AW_up (bc := bcL (v + 1) N' + c) (bs := bsL (v + 1) N' + s) (by unfold bcL; omega) (by unfold bsL; omega) ?_
  refine AW_aload_n dL_law_177 rfl ?_
  refine AW_aload_n dL_law_178 rfl ?_
  refine AW_iload_n dL_law_179 rfl ?_
  refine AW_iconst dL_law_180 ?_
  refine AW_iaddE dL_law_181 (by omega) (by omega) ?_
  refine AW_sld (6 * v + 1) dL_law_182 (by omega) (by omega) ?_
  refine AW_aload_n dL_law_183 rfl ?_
  refine AW_iload_n dL_law_184 rfl ?_
  refine AW_iconst dL_law_185 ?_
  refine AW_iaddE dL_law_186 (by omega) (by omega) ?_
  refine AW_sld (6 * v + 2) dL_law_187 (by omega) (by omega) ?_
  refine AW_aload_n dL_law_188 rfl ?_
  refine AW_iload_n dL_law_189 rfl ?_
  refine AW_iconst dL_law_190 ?_
  refine AW_iaddE dL_law_191 (by omega) (by omega) ?_
  refine AW_sld (6 * v + 3) dL_law_192 (by omega) (by omega) ?_
  refine AW_aload_n dL_law_193 rfl ?_
  refine AW_iload_n dL_law_194 rfl ?_
  refine AW_iconst dL_law_195 ?_
  refine AW_iaddE dL_law_196 (by omega) (by omega) ?_
  refine AW_sld (6 * v + 4) dL_law_197 (by omega) (by omega) ?_
  refine AW_callVb4 (d' := d - 1) dL_law_198 (Or.inl lkL_18) mfX11_look (hS.cel rfl) ⟨_, rfl, rfl⟩ hM (by omega) (Nat.le_of_ble_eq_true rfl) ?_
  rintro _ ρ ⟨hS1, z, rfl, hM2⟩ -
  refine AW_aload_n dL_law_201 rfl ?_
  refine AW_aload_n dL_law_202 rfl ?_
  refine AW_iload_n dL_law_203 rfl ?_
  refine AW_iconst dL_law_204 ?_
  refine AW_iaddE dL_law_205 (by omega) (by omega) ?_
  refine AW_sld (6 * v + 1) dL_law_206 (by omega) (by omega) ?_
  refine AW_aload_n dL_law_207 rfl ?_
  refine AW_iload_n dL_law_208 rfl ?_
  refine AW_iconst dL_law_209 ?_
  refine AW_iaddE dL_law_210 (by omega) (by omega) ?_
  refine AW_sld (6 * v + 2) dL_law_211 (by omega) (by omega) ?_
  refine AW_aload_n dL_law_212 rfl ?_
  refine AW_iload_n dL_law_213 rfl ?_
  refine AW_iconst dL_law_214 ?_
  refine AW_iaddE dL_law_215 (by omega) (by omega) ?_
  refine AW_sld (6 * v + 3) dL_law_216 (by omega) (by omega) ?_
  refine AW_aload_n dL_law_217 rfl ?_
  refine AW_iload_n dL_law_218 rfl ?_
  refine AW_iconst dL_law_219 ?_
  refine AW_iaddE dL_law_220 (by omega) (by omega) ?_
  refine AW_sld (6 * v + 4) dL_law_221 (by omega) (by omega) ?_
  refine AW_callV4 (d' := d - 1) dL_law_222 (Or.inl lkL_22) mfX12_look (hS1.cel rfl) ⟨_, rfl, rfl⟩ hM2 (by omega) (Nat.le_of_ble_eq_true rfl) ?_
  rintro _ ρ2 ⟨rfl, hI2⟩ -
  exact AW_icmp_eq (tgt := 966) dL_law_225 (by decide) (fun _ => K N' ρ2 hI2) (fun h => absurd rfl h)
theorem lc_worth {G : Gt} {d : Nat} {σ : St} (hd : 61 ≤ d) {v N : Nat} (hI : Ivl v N σ) (hv : v < 600) (hl : 6 * v + 6 ≤ G.2.2.2.2.1) (hL : G.2.2.2.2.1 ≤ 3072) (K : Nxt G d v) : AW mL_law G d (bcL v N) (bsL v N) (QL G) 230 (lsL v) [] σ := by
  obtain ⟨c, s, N', e1, e2, e3, hM⟩ := o_worth (G := G) (d := d - 1) (by omega) hv hI (sc G (6 * v + 1)) (sc G (6 * v + 2)) (sc G (6 * v + 3)) (sc G (6 * v + 4))
  have hN := hI.cap
  have hS := hI.1.1
  refine AW_up (bc := bcL (v + 1) N' + c) (bs := bsL (v + 1) N' + s) (by unfold bcL; omega) (by unfold bsL; omega) ?_
  refine AW_aload_n dL_law_230 rfl ?_
  refine AW_aload_n dL_law_231 rfl ?_
  refine AW_iload_n dL_law_232 rfl ?_
  refine AW_iconst dL_law_233 ?_
  refine AW_iaddE dL_law_234 (by omega) (by omega) ?_
  refine AW_sld (6 * v + 1) dL_law_235 (by omega) (by omega) ?_
  refine AW_aload_n dL_law_236 rfl ?_
  refine AW_iload_n dL_law_237 rfl ?_
  refine AW_iconst dL_law_238 ?_
  refine AW_iaddE dL_law_239 (by omega) (by omega) ?_
  refine AW_sld (6 * v + 2) dL_law_240 (by omega) (by omega) ?_
  refine AW_aload_n dL_law_241 rfl ?_
  refine AW_iload_n dL_law_242 rfl ?_
  refine AW_iconst dL_law_243 ?_
  refine AW_iaddE dL_law_244 (by omega) (by omega) ?_
  refine AW_sld (6 * v + 3) dL_law_245 (by omega) (by omega) ?_
  refine AW_aload_n dL_law_246 rfl ?_
  refine AW_iload_n dL_law_247 rfl ?_
  refine AW_iconst dL_law_248 ?_
  refine AW_iaddE dL_law_249 (by omega) (by omega) ?_
  refine AW_sld (6 * v + 4) dL_law_250 (by omega) (by omega) ?_
  refine AW_callVb4 (d' := d - 1) dL_law_251 (Or.inl lkL_23) mfX11_worth (hS.cel rfl) ⟨_, rfl, rfl⟩ hM (by omega) (Nat.le_of_ble_eq_true rfl) ?_
  rintro _ ρ ⟨hS1, z, rfl, hM2⟩ -
  refine AW_aload_n dL_law_254 rfl ?_
  refine AW_aload_n dL_law_255 rfl ?_
  refine AW_iload_n dL_law_256 rfl ?_
  refine AW_iconst dL_law_257 ?_
  refine AW_iaddE dL_law_258 (by omega) (by omega) ?_
  refine AW_sld (6 * v + 1) dL_law_259 (by omega) (by omega) ?_
  refine AW_aload_n dL_law_260 rfl ?_
  refine AW_iload_n dL_law_261 rfl ?_
  refine AW_iconst dL_law_262 ?_
  refine AW_iaddE dL_law_263 (by omega) (by omega) ?_
  refine AW_sld (6 * v + 2) dL_law_264 (by omega) (by omega) ?_
  refine AW_aload_n dL_law_265 rfl ?_
  refine AW_iload_n dL_law_266 rfl ?_
  refine AW_iconst dL_law_267 ?_
  refine AW_iaddE dL_law_268 (by omega) (by omega) ?_
  refine AW_sld (6 * v + 3) dL_law_269 (by omega) (by omega) ?_
  refine AW_aload_n dL_law_270 rfl ?_
  refine AW_iload_n dL_law_271 rfl ?_
  refine AW_iconst dL_law_272 ?_
  refine AW_iaddE dL_law_273 (by omega) (by omega) ?_
  refine AW_sld (6 * v + 4) dL_law_274 (by omega) (by omega) ?_
  refine AW_callV4 (d' := d - 1) dL_law_275 (Or.inl lkL_26) mfX12_worth (hS1.cel rfl) ⟨_, rfl, rfl⟩ hM2 (by omega) (Nat.le_of_ble_eq_true rfl) ?_
  rintro _ ρ2 ⟨rfl, hI2⟩ -
  exact AW_icmp_eq (tgt := 966) dL_law_278 (by decide) (fun _ => K N' ρ2 hI2) (fun h => absurd rfl h)
theorem lc_set {G : Gt} {d : Nat} {σ : St} (hd : 61 ≤ d) {v N : Nat} (hI : Ivl v N σ) (hv : v < 600) (hl : 6 * v + 6 ≤ G.2.2.2.2.1) (hL : G.2.2.2.2.1 ≤ 3072) (K : Nxt G d v) : AW mL_law G d (bcL v N) (bsL v N) (QL G) 283 (lsL v) [] σ := by
  obtain ⟨c, s, N', e1, e2, e3, hM⟩ := o_set (G := G) (d := d - 1) (by omega) hv hI (sc G (6 * v + 1)) (sc G (6 * v + 2))
  have hN := hI.cap
  have hS := hI.1.1
  refine AW_up (bc := bcL (v + 1) N' + c) (bs := bsL (v + 1) N' + s) (by unfold bcL; omega) (by unfold bsL; omega) ?_
  refine AW_aload_n dL_law_283 rfl ?_
  refine AW_aload_n dL_law_284 rfl ?_
  refine AW_iload_n dL_law_285 rfl ?_
  refine AW_iconst dL_law_286 ?_
  refine AW_iaddE dL_law_287 (by omega) (by omega) ?_
  refine AW_sld (6 * v + 1) dL_law_288 (by omega) (by omega) ?_
  refine AW_aload_n dL_law_289 rfl ?_
  refine AW_iload_n dL_law_290 rfl ?_
  refine AW_iconst dL_law_291 ?_
  refine AW_iaddE dL_law_292 (by omega) (by omega) ?_
  refine AW_sld (6 * v + 2) dL_law_293 (by omega) (by omega) ?_
  refine AW_callVb2 (d' := d - 1) dL_law_294 (Or.inl lkL_27) mfX11_set (hS.cel rfl) ⟨_, rfl, rfl⟩ hM (by omega) (Nat.le_of_ble_eq_true rfl) ?_
  rintro _ ρ ⟨hS1, z, rfl, hM2⟩ -
  refine AW_aload_n dL_law_297 rfl ?_
  refine AW_aload_n dL_law_298 rfl ?_
  refine AW_iload_n dL_law_299 rfl ?_
  refine AW_iconst dL_law_300 ?_
  refine AW_iaddE dL_law_301 (by omega) (by omega) ?_
  refine AW_sld (6 * v + 1) dL_law_302 (by omega) (by omega) ?_
  refine AW_aload_n dL_law_303 rfl ?_
  refine AW_iload_n dL_law_304 rfl ?_
  refine AW_iconst dL_law_305 ?_
  refine AW_iaddE dL_law_306 (by omega) (by omega) ?_
  refine AW_sld (6 * v + 2) dL_law_307 (by omega) (by omega) ?_
  refine AW_callV2 (d' := d - 1) dL_law_308 (Or.inl lkL_30) mfX12_set (hS1.cel rfl) ⟨_, rfl, rfl⟩ hM2 (by omega) (Nat.le_of_ble_eq_true rfl) ?_
  rintro _ ρ2 ⟨rfl, hI2⟩ -
  exact AW_icmp_eq (tgt := 966) dL_law_311 (by decide) (fun _ => K N' ρ2 hI2) (fun h => absurd rfl h)
theorem lc_classes {G : Gt} {d : Nat} {σ : St} (hd : 61 ≤ d) {v N : Nat} (hI : Ivl v N σ) (hv : v < 600) (hl : 6 * v + 6 ≤ G.2.2.2.2.1) (hL : G.2.2.2.2.1 ≤ 3072) (K : Nxt G d v) : AW mL_law G d (bcL v N) (bsL v N) (QL G) 316 (lsL v) [] σ := by
  obtain ⟨c, s, N', e1, e2, e3, hM⟩ := o_classes (G := G) (d := d - 1) (by omega) hv hI (sc G (6 * v + 1)) (sc G (6 * v + 2))
  have hN := hI.cap
  have hS := hI.1.1
  refine AW_up (bc := bcL (v + 1) N' + c) (bs := bsL (v + 1) N' + s) (by unfold bcL; omega) (by unfold bsL; omega) ?_
  refine AW_aload_n dL_law_316 rfl ?_
  refine AW_aload_n dL_law_317 rfl ?_
  refine AW_iload_n dL_law_318 rfl ?_
  refine AW_iconst dL_law_319 ?_
  refine AW_iaddE dL_law_320 (by omega) (by omega) ?_
  refine AW_sld (6 * v + 1) dL_law_321 (by omega) (by omega) ?_
  refine AW_aload_n dL_law_322 rfl ?_
  refine AW_iload_n dL_law_323 rfl ?_
  refine AW_iconst dL_law_324 ?_
  refine AW_iaddE dL_law_325 (by omega) (by omega) ?_
  refine AW_sld (6 * v + 2) dL_law_326 (by omega) (by omega) ?_
  refine AW_callVb2 (d' := d - 1) dL_law_327 (Or.inl lkL_31) mfX11_classes (hS.cel rfl) ⟨_, rfl, rfl⟩ hM (by omega) (Nat.le_of_ble_eq_true rfl) ?_
  rintro _ ρ ⟨hS1, z, rfl, hM2⟩ -
  refine AW_aload_n dL_law_330 rfl ?_
  refine AW_aload_n dL_law_331 rfl ?_
  refine AW_iload_n dL_law_332 rfl ?_
  refine AW_iconst dL_law_333 ?_
  refine AW_iaddE dL_law_334 (by omega) (by omega) ?_
  refine AW_sld (6 * v + 1) dL_law_335 (by omega) (by omega) ?_
  refine AW_aload_n dL_law_336 rfl ?_
  refine AW_iload_n dL_law_337 rfl ?_
  refine AW_iconst dL_law_338 ?_
  refine AW_iaddE dL_law_339 (by omega) (by omega) ?_
  refine AW_sld (6 * v + 2) dL_law_340 (by omega) (by omega) ?_
  refine AW_callV2 (d' := d - 1) dL_law_341 (Or.inl lkL_35) mfX12_classes (hS1.cel rfl) ⟨_, rfl, rfl⟩ hM2 (by omega) (Nat.le_of_ble_eq_true rfl) ?_
  rintro _ ρ2 ⟨rfl, hI2⟩ -
  exact AW_icmp_eq (tgt := 966) dL_law_344 (by decide) (fun _ => K N' ρ2 hI2) (fun h => absurd rfl h)
theorem lc_patience {G : Gt} {d : Nat} {σ : St} (hd : 61 ≤ d) {v N : Nat} (hI : Ivl v N σ) (hv : v < 600) (hl : 6 * v + 6 ≤ G.2.2.2.2.1) (hL : G.2.2.2.2.1 ≤ 3072) (K : Nxt G d v) : AW mL_law G d (bcL v N) (bsL v N) (QL G) 349 (lsL v) [] σ := by
  obtain ⟨c, s, N', e1, e2, e3, hM⟩ := o_patience (G := G) (d := d - 1) (by omega) hv hI (sc G (6 * v + 1)) (sc G (6 * v + 2)) (sc G (6 * v + 3))
  have hN := hI.cap
  have hS := hI.1.1
  refine AW_up (bc := bcL (v + 1) N' + c) (bs := bsL (v + 1) N' + s) (by unfold bcL; omega) (by unfold bsL; omega) ?_
  refine AW_aload_n dL_law_349 rfl ?_
  refine AW_aload_n dL_law_350 rfl ?_
  refine AW_iload_n dL_law_351 rfl ?_
  refine AW_iconst dL_law_352 ?_
  refine AW_iaddE dL_law_353 (by omega) (by omega) ?_
  refine AW_sld (6 * v + 1) dL_law_354 (by omega) (by omega) ?_
  refine AW_aload_n dL_law_355 rfl ?_
  refine AW_iload_n dL_law_356 rfl ?_
  refine AW_iconst dL_law_357 ?_
  refine AW_iaddE dL_law_358 (by omega) (by omega) ?_
  refine AW_sld (6 * v + 2) dL_law_359 (by omega) (by omega) ?_
  refine AW_aload_n dL_law_360 rfl ?_
  refine AW_iload_n dL_law_361 rfl ?_
  refine AW_iconst dL_law_362 ?_
  refine AW_iaddE dL_law_363 (by omega) (by omega) ?_
  refine AW_sld (6 * v + 3) dL_law_364 (by omega) (by omega) ?_
  refine AW_callVb3 (d' := d - 1) dL_law_365 (Or.inl lkL_36) mfX11_patience (hS.cel rfl) ⟨_, rfl, rfl⟩ hM (by omega) (Nat.le_of_ble_eq_true rfl) ?_
  rintro _ ρ ⟨hS1, z, rfl, hM2⟩ -
  refine AW_aload_n dL_law_368 rfl ?_
  refine AW_aload_n dL_law_369 rfl ?_
  refine AW_iload_n dL_law_370 rfl ?_
  refine AW_iconst dL_law_371 ?_
  refine AW_iaddE dL_law_372 (by omega) (by omega) ?_
  refine AW_sld (6 * v + 1) dL_law_373 (by omega) (by omega) ?_
  refine AW_aload_n dL_law_374 rfl ?_
  refine AW_iload_n dL_law_375 rfl ?_
  refine AW_iconst dL_law_376 ?_
  refine AW_iaddE dL_law_377 (by omega) (by omega) ?_
  refine AW_sld (6 * v + 2) dL_law_378 (by omega) (by omega) ?_
  refine AW_aload_n dL_law_379 rfl ?_
  refine AW_iload_n dL_law_380 rfl ?_
  refine AW_iconst dL_law_381 ?_
  refine AW_iaddE dL_law_382 (by omega) (by omega) ?_
  refine AW_sld (6 * v + 3) dL_law_383 (by omega) (by omega) ?_
  refine AW_callV3 (d' := d - 1) dL_law_384 (Or.inl lkL_40) mfX12_patience (hS1.cel rfl) ⟨_, rfl, rfl⟩ hM2 (by omega) (Nat.le_of_ble_eq_true rfl) ?_
  rintro _ ρ2 ⟨rfl, hI2⟩ -
  exact AW_icmp_eq (tgt := 966) dL_law_387 (by decide) (fun _ => K N' ρ2 hI2) (fun h => absurd rfl h)
theorem lc_pairs {G : Gt} {d : Nat} {σ : St} (hd : 61 ≤ d) {v N : Nat} (hI : Ivl v N σ) (hv : v < 600) (hl : 6 * v + 6 ≤ G.2.2.2.2.1) (hL : G.2.2.2.2.1 ≤ 3072) (K : Nxt G d v) : AW mL_law G d (bcL v N) (bsL v N) (QL G) 392 (lsL v) [] σ := by
  obtain ⟨c, s, N', e1, e2, e3, hM⟩ := o_pairs (G := G) (d := d - 1) (by omega) hv hI (sc G (6 * v + 1)) (sc G (6 * v + 2)) (sc G (6 * v + 3)) (sc G (6 * v + 4))
  have hN := hI.cap
  have hS := hI.1.1
  refine AW_up (bc := bcL (v + 1) N' + c) (bs := bsL (v + 1) N' + s) (by unfold bcL; omega) (by unfold bsL; omega) ?_
  refine AW_aload_n dL_law_392 rfl ?_
  refine AW_aload_n dL_law_393 rfl ?_
  refine AW_iload_n dL_law_394 rfl ?_
  refine AW_iconst dL_law_395 ?_
  refine AW_iaddE dL_law_396 (by omega) (by omega) ?_
  refine AW_sld (6 * v + 1) dL_law_397 (by omega) (by omega) ?_
  refine AW_aload_n dL_law_398 rfl ?_
  refine AW_iload_n dL_law_399 rfl ?_
  refine AW_iconst dL_law_400 ?_
  refine AW_iaddE dL_law_401 (by omega) (by omega) ?_
  refine AW_sld (6 * v + 2) dL_law_402 (by omega) (by omega) ?_
  refine AW_aload_n dL_law_403 rfl ?_
  refine AW_iload_n dL_law_404 rfl ?_
  refine AW_iconst dL_law_405 ?_
  refine AW_iaddE dL_law_406 (by omega) (by omega) ?_
  refine AW_sld (6 * v + 3) dL_law_407 (by omega) (by omega) ?_
  refine AW_aload_n dL_law_408 rfl ?_
  refine AW_iload_n dL_law_409 rfl ?_
  refine AW_iconst dL_law_410 ?_
  refine AW_iaddE dL_law_411 (by omega) (by omega) ?_
  refine AW_sld (6 * v + 4) dL_law_412 (by omega) (by omega) ?_
  refine AW_callVb4 (d' := d - 1) dL_law_413 (Or.inl lkL_41) mfX11_pairs (hS.cel rfl) ⟨_, rfl, rfl⟩ hM (by omega) (Nat.le_of_ble_eq_true rfl) ?_
  rintro _ ρ ⟨hS1, z, rfl, hM2⟩ -
  refine AW_aload_n dL_law_416 rfl ?_
  refine AW_aload_n dL_law_417 rfl ?_
  refine AW_iload_n dL_law_418 rfl ?_
  refine AW_iconst dL_law_419 ?_
  refine AW_iaddE dL_law_420 (by omega) (by omega) ?_
  refine AW_sld (6 * v + 1) dL_law_421 (by omega) (by omega) ?_
  refine AW_aload_n dL_law_422 rfl ?_
  refine AW_iload_n dL_law_423 rfl ?_
  refine AW_iconst dL_law_424 ?_
  refine AW_iaddE dL_law_425 (by omega) (by omega) ?_
  refine AW_sld (6 * v + 2) dL_law_426 (by omega) (by omega) ?_
  refine AW_aload_n dL_law_427 rfl ?_
  refine AW_iload_n dL_law_428 rfl ?_
  refine AW_iconst dL_law_429 ?_
  refine AW_iaddE dL_law_430 (by omega) (by omega) ?_
  refine AW_sld (6 * v + 3) dL_law_431 (by omega) (by omega) ?_
  refine AW_aload_n dL_law_432 rfl ?_
  refine AW_iload_n dL_law_433 rfl ?_
  refine AW_iconst dL_law_434 ?_
  refine AW_iaddE dL_law_435 (by omega) (by omega) ?_
  refine AW_sld (6 * v + 4) dL_law_436 (by omega) (by omega) ?_
  refine AW_callV4 (d' := d - 1) dL_law_437 (Or.inl lkL_45) mfX12_pairs (hS1.cel rfl) ⟨_, rfl, rfl⟩ hM2 (by omega) (Nat.le_of_ble_eq_true rfl) ?_
  rintro _ ρ2 ⟨rfl, hI2⟩ -
  exact AW_icmp_eq (tgt := 966) dL_law_440 (by decide) (fun _ => K N' ρ2 hI2) (fun h => absurd rfl h)
theorem lc_feed {G : Gt} {d : Nat} {σ : St} (hd : 61 ≤ d) {v N : Nat} (hI : Ivl v N σ) (hv : v < 600) (hl : 6 * v + 6 ≤ G.2.2.2.2.1) (hL : G.2.2.2.2.1 ≤ 3072) (K : Nxt G d v) : AW mL_law G d (bcL v N) (bsL v N) (QL G) 445 (lsL v) [] σ := by
  obtain ⟨c, s, N', e1, e2, e3, hM⟩ := o_feed (G := G) (d := d - 1) (by omega) hv hI (sc G (6 * v + 1)) (sc G (6 * v + 2)) (sc G (6 * v + 3)) (sc G (6 * v + 4)) (sc G (6 * v + 5))
  have hN := hI.cap
  have hS := hI.1.1
  refine AW_up (bc := bcL (v + 1) N' + c) (bs := bsL (v + 1) N' + s) (by unfold bcL; omega) (by unfold bsL; omega) ?_
  refine AW_aload_n dL_law_445 rfl ?_
  refine AW_aload_n dL_law_446 rfl ?_
  refine AW_iload_n dL_law_447 rfl ?_
  refine AW_iconst dL_law_448 ?_
  refine AW_iaddE dL_law_449 (by omega) (by omega) ?_
  refine AW_sld (6 * v + 1) dL_law_450 (by omega) (by omega) ?_
  refine AW_aload_n dL_law_451 rfl ?_
  refine AW_iload_n dL_law_452 rfl ?_
  refine AW_iconst dL_law_453 ?_
  refine AW_iaddE dL_law_454 (by omega) (by omega) ?_
  refine AW_sld (6 * v + 2) dL_law_455 (by omega) (by omega) ?_
  refine AW_aload_n dL_law_456 rfl ?_
  refine AW_iload_n dL_law_457 rfl ?_
  refine AW_iconst dL_law_458 ?_
  refine AW_iaddE dL_law_459 (by omega) (by omega) ?_
  refine AW_sld (6 * v + 3) dL_law_460 (by omega) (by omega) ?_
  refine AW_aload_n dL_law_461 rfl ?_
  refine AW_iload_n dL_law_462 rfl ?_
  refine AW_iconst dL_law_463 ?_
  refine AW_iaddE dL_law_464 (by omega) (by omega) ?_
  refine AW_sld (6 * v + 4) dL_law_465 (by omega) (by omega) ?_
  refine AW_aload_n dL_law_466 rfl ?_
  refine AW_iload_n dL_law_467 rfl ?_
  refine AW_iconst dL_law_468 ?_
  refine AW_iaddE dL_law_469 (by omega) (by omega) ?_
  refine AW_sld (6 * v + 5) dL_law_470 (by omega) (by omega) ?_
  refine AW_callVb5 (d' := d - 1) dL_law_471 (Or.inl lkL_46) mfX11_feed (hS.cel rfl) ⟨_, rfl, rfl⟩ hM (by omega) (Nat.le_of_ble_eq_true rfl) ?_
  rintro _ ρ ⟨hS1, z, rfl, hM2⟩ -
  refine AW_aload_n dL_law_474 rfl ?_
  refine AW_aload_n dL_law_475 rfl ?_
  refine AW_iload_n dL_law_476 rfl ?_
  refine AW_iconst dL_law_477 ?_
  refine AW_iaddE dL_law_478 (by omega) (by omega) ?_
  refine AW_sld (6 * v + 1) dL_law_479 (by omega) (by omega) ?_
  refine AW_aload_n dL_law_480 rfl ?_
  refine AW_iload_n dL_law_481 rfl ?_
  refine AW_iconst dL_law_482 ?_
  refine AW_iaddE dL_law_483 (by omega) (by omega) ?_
  refine AW_sld (6 * v + 2) dL_law_484 (by omega) (by omega) ?_
  refine AW_aload_n dL_law_485 rfl ?_
  refine AW_iload_n dL_law_486 rfl ?_
  refine AW_iconst dL_law_487 ?_
  refine AW_iaddE dL_law_488 (by omega) (by omega) ?_
  refine AW_sld (6 * v + 3) dL_law_489 (by omega) (by omega) ?_
  refine AW_aload_n dL_law_490 rfl ?_
  refine AW_iload_n dL_law_491 rfl ?_
  refine AW_iconst dL_law_492 ?_
  refine AW_iaddE dL_law_493 (by omega) (by omega) ?_
  refine AW_sld (6 * v + 4) dL_law_494 (by omega) (by omega) ?_
  refine AW_aload_n dL_law_495 rfl ?_
  refine AW_iload_n dL_law_496 rfl ?_
  refine AW_iconst dL_law_497 ?_
  refine AW_iaddE dL_law_498 (by omega) (by omega) ?_
  refine AW_sld (6 * v + 5) dL_law_499 (by omega) (by omega) ?_
  refine AW_callV5 (d' := d - 1) dL_law_500 (Or.inl lkL_50) mfX12_feed (hS1.cel rfl) ⟨_, rfl, rfl⟩ hM2 (by omega) (Nat.le_of_ble_eq_true rfl) ?_
  rintro _ ρ2 ⟨rfl, hI2⟩ -
  exact AW_icmp_eq (tgt := 966) dL_law_503 (by decide) (fun _ => K N' ρ2 hI2) (fun h => absurd rfl h)
theorem lc_end {G : Gt} {d : Nat} {σ : St} (hd : 61 ≤ d) {v N : Nat} (hI : Ivl v N σ) (hv : v < 600) (hl : 6 * v + 6 ≤ G.2.2.2.2.1) (hL : G.2.2.2.2.1 ≤ 3072) (K : Nxt G d v) : AW mL_law G d (bcL v N) (bsL v N) (QL G) 508 (lsL v) [] σ := by
  obtain ⟨c, s, N', e1, e2, e3, hM⟩ := o_end (G := G) (d := d - 1) (by omega) hv hI (sc G (6 * v + 1))
  have hN := hI.cap
  have hS := hI.1.1
  refine AW_up (bc := bcL (v + 1) N' + c) (bs := bsL (v + 1) N' + s) (by unfold bcL; omega) (by unfold bsL; omega) ?_
  refine AW_aload_n dL_law_508 rfl ?_
  refine AW_aload_n dL_law_509 rfl ?_
  refine AW_iload_n dL_law_510 rfl ?_
  refine AW_iconst dL_law_511 ?_
  refine AW_iaddE dL_law_512 (by omega) (by omega) ?_
  refine AW_sld (6 * v + 1) dL_law_513 (by omega) (by omega) ?_
  refine AW_callVb1 (d' := d - 1) dL_law_514 (Or.inl lkL_51) mfX11_end (hS.cel rfl) ⟨_, rfl, rfl⟩ hM (by omega) (Nat.le_of_ble_eq_true rfl) ?_
  rintro _ ρ ⟨hS1, z, rfl, hM2⟩ -
  refine AW_aload_n dL_law_517 rfl ?_
  refine AW_aload_n dL_law_518 rfl ?_
  refine AW_iload_n dL_law_519 rfl ?_
  refine AW_iconst dL_law_520 ?_
  refine AW_iaddE dL_law_521 (by omega) (by omega) ?_
  refine AW_sld (6 * v + 1) dL_law_522 (by omega) (by omega) ?_
  refine AW_callV1 (d' := d - 1) dL_law_523 (Or.inl lkL_55) mfX12_end (hS1.cel rfl) ⟨_, rfl, rfl⟩ hM2 (by omega) (Nat.le_of_ble_eq_true rfl) ?_
  rintro _ ρ2 ⟨rfl, hI2⟩ -
  exact AW_icmp_eq (tgt := 966) dL_law_526 (by decide) (fun _ => K N' ρ2 hI2) (fun h => absurd rfl h)
theorem lc_way {G : Gt} {d : Nat} {σ : St} (hd : 61 ≤ d) {v N : Nat} (hI : Ivl v N σ) (hv : v < 600) (hl : 6 * v + 6 ≤ G.2.2.2.2.1) (hL : G.2.2.2.2.1 ≤ 3072) (K : Nxt G d v) : AW mL_law G d (bcL v N) (bsL v N) (QL G) 531 (lsL v) [] σ := by
  obtain ⟨c, s, N', e1, e2, e3, hM⟩ := o_way (G := G) (d := d - 1) (by omega) hv hI (sc G (6 * v + 1))
  have hN := hI.cap
  have hS := hI.1.1
  refine AW_up (bc := bcL (v + 1) N' + c) (bs := bsL (v + 1) N' + s) (by unfold bcL; omega) (by unfold bsL; omega) ?_
  refine AW_aload_n dL_law_531 rfl ?_
  refine AW_aload_n dL_law_532 rfl ?_
  refine AW_iload_n dL_law_533 rfl ?_
  refine AW_iconst dL_law_534 ?_
  refine AW_iaddE dL_law_535 (by omega) (by omega) ?_
  refine AW_sld (6 * v + 1) dL_law_536 (by omega) (by omega) ?_
  refine AW_callVb1 (d' := d - 1) dL_law_537 (Or.inl lkL_56) mfX11_way (hS.cel rfl) ⟨_, rfl, rfl⟩ hM (by omega) (Nat.le_of_ble_eq_true rfl) ?_
  rintro _ ρ ⟨hS1, z, rfl, hM2⟩ -
  refine AW_aload_n dL_law_540 rfl ?_
  refine AW_aload_n dL_law_541 rfl ?_
  refine AW_iload_n dL_law_542 rfl ?_
  refine AW_iconst dL_law_543 ?_
  refine AW_iaddE dL_law_544 (by omega) (by omega) ?_
  refine AW_sld (6 * v + 1) dL_law_545 (by omega) (by omega) ?_
  refine AW_callV1 (d' := d - 1) dL_law_546 (Or.inl lkL_60) mfX12_way (hS1.cel rfl) ⟨_, rfl, rfl⟩ hM2 (by omega) (Nat.le_of_ble_eq_true rfl) ?_
  rintro _ ρ2 ⟨rfl, hI2⟩ -
  exact AW_icmp_eq (tgt := 966) dL_law_549 (by decide) (fun _ => K N' ρ2 hI2) (fun h => absurd rfl h)
theorem lc_fault {G : Gt} {d : Nat} {σ : St} (hd : 61 ≤ d) {v N : Nat} (hI : Ivl v N σ) (hv : v < 600) (hl : 6 * v + 6 ≤ G.2.2.2.2.1) (hL : G.2.2.2.2.1 ≤ 3072) (K : Nxt G d v) : AW mL_law G d (bcL v N) (bsL v N) (QL G) 554 (lsL v) [] σ := by
  obtain ⟨c, s, N', e1, e2, e3, hM⟩ := o_fault (G := G) (d := d - 1) (by omega) hv hI (sc G (6 * v + 1))
  have hN := hI.cap
  have hS := hI.1.1
  refine AW_up (bc := bcL (v + 1) N' + c) (bs := bsL (v + 1) N' + s) (by unfold bcL; omega) (by unfold bsL; omega) ?_
  refine AW_aload_n dL_law_554 rfl ?_
  refine AW_aload_n dL_law_555 rfl ?_
  refine AW_iload_n dL_law_556 rfl ?_
  refine AW_iconst dL_law_557 ?_
  refine AW_iaddE dL_law_558 (by omega) (by omega) ?_
  refine AW_sld (6 * v + 1) dL_law_559 (by omega) (by omega) ?_
  refine AW_callVb1 (d' := d - 1) dL_law_560 (Or.inl lkL_61) mfX11_fault (hS.cel rfl) ⟨_, rfl, rfl⟩ hM (by omega) (Nat.le_of_ble_eq_true rfl) ?_
  rintro _ ρ ⟨hS1, z, rfl, hM2⟩ -
  refine AW_aload_n dL_law_563 rfl ?_
  refine AW_aload_n dL_law_564 rfl ?_
  refine AW_iload_n dL_law_565 rfl ?_
  refine AW_iconst dL_law_566 ?_
  refine AW_iaddE dL_law_567 (by omega) (by omega) ?_
  refine AW_sld (6 * v + 1) dL_law_568 (by omega) (by omega) ?_
  refine AW_callV1 (d' := d - 1) dL_law_569 (Or.inl lkL_64) mfX12_fault (hS1.cel rfl) ⟨_, rfl, rfl⟩ hM2 (by omega) (Nat.le_of_ble_eq_true rfl) ?_
  rintro _ ρ2 ⟨rfl, hI2⟩ -
  exact AW_icmp_eq (tgt := 966) dL_law_572 (by decide) (fun _ => K N' ρ2 hI2) (fun h => absurd rfl h)
theorem lc_come {G : Gt} {d : Nat} {σ : St} (hd : 61 ≤ d) {v N : Nat} (hI : Ivl v N σ) (hv : v < 600) (hl : 6 * v + 6 ≤ G.2.2.2.2.1) (hL : G.2.2.2.2.1 ≤ 3072) (K : Nxt G d v) : AW mL_law G d (bcL v N) (bsL v N) (QL G) 577 (lsL v) [] σ := by
  obtain ⟨c, s, N', e1, e2, e3, hM⟩ := o_come (G := G) (d := d - 1) (by omega) hv hI (sc G (6 * v + 1)) (sc G (6 * v + 2)) (sc G (6 * v + 3))
  have hN := hI.cap
  have hS := hI.1.1
  refine AW_up (bc := bcL (v + 1) N' + c) (bs := bsL (v + 1) N' + s) (by unfold bcL; omega) (by unfold bsL; omega) ?_
  refine AW_aload_n dL_law_577 rfl ?_
  refine AW_aload_n dL_law_578 rfl ?_
  refine AW_iload_n dL_law_579 rfl ?_
  refine AW_iconst dL_law_580 ?_
  refine AW_iaddE dL_law_581 (by omega) (by omega) ?_
  refine AW_sld (6 * v + 1) dL_law_582 (by omega) (by omega) ?_
  refine AW_aload_n dL_law_583 rfl ?_
  refine AW_iload_n dL_law_584 rfl ?_
  refine AW_iconst dL_law_585 ?_
  refine AW_iaddE dL_law_586 (by omega) (by omega) ?_
  refine AW_sld (6 * v + 2) dL_law_587 (by omega) (by omega) ?_
  refine AW_aload_n dL_law_588 rfl ?_
  refine AW_iload_n dL_law_589 rfl ?_
  refine AW_iconst dL_law_590 ?_
  refine AW_iaddE dL_law_591 (by omega) (by omega) ?_
  refine AW_sld (6 * v + 3) dL_law_592 (by omega) (by omega) ?_
  refine AW_callVb3 (d' := d - 1) dL_law_593 (Or.inl lkL_65) mfX11_come (hS.cel rfl) ⟨_, rfl, rfl⟩ hM (by omega) (Nat.le_of_ble_eq_true rfl) ?_
  rintro _ ρ ⟨hS1, z, rfl, hM2⟩ -
  refine AW_aload_n dL_law_596 rfl ?_
  refine AW_aload_n dL_law_597 rfl ?_
  refine AW_iload_n dL_law_598 rfl ?_
  refine AW_iconst dL_law_599 ?_
  refine AW_iaddE dL_law_600 (by omega) (by omega) ?_
  refine AW_sld (6 * v + 1) dL_law_601 (by omega) (by omega) ?_
  refine AW_aload_n dL_law_602 rfl ?_
  refine AW_iload_n dL_law_603 rfl ?_
  refine AW_iconst dL_law_604 ?_
  refine AW_iaddE dL_law_605 (by omega) (by omega) ?_
  refine AW_sld (6 * v + 2) dL_law_606 (by omega) (by omega) ?_
  refine AW_aload_n dL_law_607 rfl ?_
  refine AW_iload_n dL_law_608 rfl ?_
  refine AW_iconst dL_law_609 ?_
  refine AW_iaddE dL_law_610 (by omega) (by omega) ?_
  refine AW_sld (6 * v + 3) dL_law_611 (by omega) (by omega) ?_
  refine AW_callV3 (d' := d - 1) dL_law_612 (Or.inl lkL_68) mfX12_come (hS1.cel rfl) ⟨_, rfl, rfl⟩ hM2 (by omega) (Nat.le_of_ble_eq_true rfl) ?_
  rintro _ ρ2 ⟨rfl, hI2⟩ -
  exact AW_icmp_eq (tgt := 966) dL_law_615 (by decide) (fun _ => K N' ρ2 hI2) (fun h => absurd rfl h)
theorem lc_state {G : Gt} {d : Nat} {σ : St} (hd : 61 ≤ d) {v N : Nat} (hI : Ivl v N σ) (hv : v < 600) (hl : 6 * v + 6 ≤ G.2.2.2.2.1) (hL : G.2.2.2.2.1 ≤ 3072) (K : Nxt G d v) : AW mL_law G d (bcL v N) (bsL v N) (QL G) 620 (lsL v) [] σ := by
  obtain ⟨c, s, N', e1, e2, e3, hM⟩ := o_state (G := G) (d := d - 1) (by omega) hv hI (sc G (6 * v + 1))
  have hN := hI.cap
  have hS := hI.1.1
  refine AW_up (bc := bcL (v + 1) N' + c) (bs := bsL (v + 1) N' + s) (by unfold bcL; omega) (by unfold bsL; omega) ?_
  refine AW_aload_n dL_law_620 rfl ?_
  refine AW_aload_n dL_law_621 rfl ?_
  refine AW_iload_n dL_law_622 rfl ?_
  refine AW_iconst dL_law_623 ?_
  refine AW_iaddE dL_law_624 (by omega) (by omega) ?_
  refine AW_sld (6 * v + 1) dL_law_625 (by omega) (by omega) ?_
  refine AW_callVb1 (d' := d - 1) dL_law_626 (Or.inl lkL_69) mfX11_state (hS.cel rfl) ⟨_, rfl, rfl⟩ hM (by omega) (Nat.le_of_ble_eq_true rfl) ?_
  rintro _ ρ ⟨hS1, z, rfl, hM2⟩ -
  refine AW_aload_n dL_law_629 rfl ?_
  refine AW_aload_n dL_law_630 rfl ?_
  refine AW_iload_n dL_law_631 rfl ?_
  refine AW_iconst dL_law_632 ?_
  refine AW_iaddE dL_law_633 (by omega) (by omega) ?_
  refine AW_sld (6 * v + 1) dL_law_634 (by omega) (by omega) ?_
  refine AW_callV1 (d' := d - 1) dL_law_635 (Or.inl lkL_72) mfX12_state (hS1.cel rfl) ⟨_, rfl, rfl⟩ hM2 (by omega) (Nat.le_of_ble_eq_true rfl) ?_
  rintro _ ρ2 ⟨rfl, hI2⟩ -
  exact AW_icmp_eq (tgt := 966) dL_law_638 (by decide) (fun _ => K N' ρ2 hI2) (fun h => absurd rfl h)
theorem lc_weeks {G : Gt} {d : Nat} {σ : St} (hd : 61 ≤ d) {v N : Nat} (hI : Ivl v N σ) (hv : v < 600) (hl : 6 * v + 6 ≤ G.2.2.2.2.1) (hL : G.2.2.2.2.1 ≤ 3072) (K : Nxt G d v) : AW mL_law G d (bcL v N) (bsL v N) (QL G) 643 (lsL v) [] σ := by
  obtain ⟨c, s, N', e1, e2, e3, hM⟩ := o_weeks (G := G) (d := d - 1) (by omega) hv hI (sc G (6 * v + 1))
  have hN := hI.cap
  have hS := hI.1.1
  refine AW_up (bc := bcL (v + 1) N' + c) (bs := bsL (v + 1) N' + s) (by unfold bcL; omega) (by unfold bsL; omega) ?_
  refine AW_aload_n dL_law_643 rfl ?_
  refine AW_aload_n dL_law_644 rfl ?_
  refine AW_iload_n dL_law_645 rfl ?_
  refine AW_iconst dL_law_646 ?_
  refine AW_iaddE dL_law_647 (by omega) (by omega) ?_
  refine AW_sld (6 * v + 1) dL_law_648 (by omega) (by omega) ?_
  refine AW_callVb1 (d' := d - 1) dL_law_649 (Or.inl lkL_73) mfX11_weeks (hS.cel rfl) ⟨_, rfl, rfl⟩ hM (by omega) (Nat.le_of_ble_eq_true rfl) ?_
  rintro _ ρ ⟨hS1, z, rfl, hM2⟩ -
  refine AW_aload_n dL_law_652 rfl ?_
  refine AW_aload_n dL_law_653 rfl ?_
  refine AW_iload_n dL_law_654 rfl ?_
  refine AW_iconst dL_law_655 ?_
  refine AW_iaddE dL_law_656 (by omega) (by omega) ?_
  refine AW_sld (6 * v + 1) dL_law_657 (by omega) (by omega) ?_
  refine AW_callV1 (d' := d - 1) dL_law_658 (Or.inl lkL_76) mfX12_weeks (hS1.cel rfl) ⟨_, rfl, rfl⟩ hM2 (by omega) (Nat.le_of_ble_eq_true rfl) ?_
  rintro _ ρ2 ⟨rfl, hI2⟩ -
  exact AW_icmp_eq (tgt := 966) dL_law_661 (by decide) (fun _ => K N' ρ2 hI2) (fun h => absurd rfl h)
theorem lc_one {G : Gt} {d : Nat} {σ : St} (hd : 61 ≤ d) {v N : Nat} (hI : Ivl v N σ) (hv : v < 600) (hl : 6 * v + 6 ≤ G.2.2.2.2.1) (hL : G.2.2.2.2.1 ≤ 3072) (K : Nxt G d v) : AW mL_law G d (bcL v N) (bsL v N) (QL G) 666 (lsL v) [] σ := by
  obtain ⟨c, s, N', e1, e2, e3, hM⟩ := o_one (G := G) (d := d - 1) (by omega) hv hI (sc G (6 * v + 1)) (sc G (6 * v + 2))
  have hN := hI.cap
  have hS := hI.1.1
  refine AW_up (bc := bcL (v + 1) N' + c) (bs := bsL (v + 1) N' + s) (by unfold bcL; omega) (by unfold bsL; omega) ?_
  refine AW_aload_n dL_law_666 rfl ?_
  refine AW_aload_n dL_law_667 rfl ?_
  refine AW_iload_n dL_law_668 rfl ?_
  refine AW_iconst dL_law_669 ?_
  refine AW_iaddE dL_law_670 (by omega) (by omega) ?_
  refine AW_sld (6 * v + 1) dL_law_671 (by omega) (by omega) ?_
  refine AW_aload_n dL_law_672 rfl ?_
  refine AW_iload_n dL_law_673 rfl ?_
  refine AW_iconst dL_law_674 ?_
  refine AW_iaddE dL_law_675 (by omega) (by omega) ?_
  refine AW_sld (6 * v + 2) dL_law_676 (by omega) (by omega) ?_
  refine AW_callVb2 (d' := d - 1) dL_law_677 (Or.inl lkL_77) mfX11_one (hS.cel rfl) ⟨_, rfl, rfl⟩ hM (by omega) (Nat.le_of_ble_eq_true rfl) ?_
  rintro _ ρ ⟨hS1, z, rfl, hM2⟩ -
  refine AW_aload_n dL_law_680 rfl ?_
  refine AW_aload_n dL_law_681 rfl ?_
  refine AW_iload_n dL_law_682 rfl ?_
  refine AW_iconst dL_law_683 ?_
  refine AW_iaddE dL_law_684 (by omega) (by omega) ?_
  refine AW_sld (6 * v + 1) dL_law_685 (by omega) (by omega) ?_
  refine AW_aload_n dL_law_686 rfl ?_
  refine AW_iload_n dL_law_687 rfl ?_
  refine AW_iconst dL_law_688 ?_
  refine AW_iaddE dL_law_689 (by omega) (by omega) ?_
  refine AW_sld (6 * v + 2) dL_law_690 (by omega) (by omega) ?_
  refine AW_callV2 (d' := d - 1) dL_law_691 (Or.inl lkL_80) mfX12_one (hS1.cel rfl) ⟨_, rfl, rfl⟩ hM2 (by omega) (Nat.le_of_ble_eq_true rfl) ?_
  rintro _ ρ2 ⟨rfl, hI2⟩ -
  exact AW_icmp_eq (tgt := 966) dL_law_694 (by decide) (fun _ => K N' ρ2 hI2) (fun h => absurd rfl h)
theorem lc_all {G : Gt} {d : Nat} {σ : St} (hd : 61 ≤ d) {v N : Nat} (hI : Ivl v N σ) (hv : v < 600) (hl : 6 * v + 6 ≤ G.2.2.2.2.1) (hL : G.2.2.2.2.1 ≤ 3072) (K : Nxt G d v) : AW mL_law G d (bcL v N) (bsL v N) (QL G) 699 (lsL v) [] σ := by
  obtain ⟨c, s, N', e1, e2, e3, hM⟩ := o_all (G := G) (d := d - 1) (by omega) hv hI (sc G (6 * v + 1)) (sc G (6 * v + 2)) (sc G (6 * v + 3))
  have hN := hI.cap
  have hS := hI.1.1
  refine AW_up (bc := bcL (v + 1) N' + c) (bs := bsL (v + 1) N' + s) (by unfold bcL; omega) (by unfold bsL; omega) ?_
  refine AW_aload_n dL_law_699 rfl ?_
  refine AW_aload_n dL_law_700 rfl ?_
  refine AW_iload_n dL_law_701 rfl ?_
  refine AW_iconst dL_law_702 ?_
  refine AW_iaddE dL_law_703 (by omega) (by omega) ?_
  refine AW_sld (6 * v + 1) dL_law_704 (by omega) (by omega) ?_
  refine AW_aload_n dL_law_705 rfl ?_
  refine AW_iload_n dL_law_706 rfl ?_
  refine AW_iconst dL_law_707 ?_
  refine AW_iaddE dL_law_708 (by omega) (by omega) ?_
  refine AW_sld (6 * v + 2) dL_law_709 (by omega) (by omega) ?_
  refine AW_aload_n dL_law_710 rfl ?_
  refine AW_iload_n dL_law_711 rfl ?_
  refine AW_iconst dL_law_712 ?_
  refine AW_iaddE dL_law_713 (by omega) (by omega) ?_
  refine AW_sld (6 * v + 3) dL_law_714 (by omega) (by omega) ?_
  refine AW_callVb3 (d' := d - 1) dL_law_715 (Or.inl lkL_81) mfX11_all (hS.cel rfl) ⟨_, rfl, rfl⟩ hM (by omega) (Nat.le_of_ble_eq_true rfl) ?_
  rintro _ ρ ⟨hS1, z, rfl, hM2⟩ -
  refine AW_aload_n dL_law_718 rfl ?_
  refine AW_aload_n dL_law_719 rfl ?_
  refine AW_iload_n dL_law_720 rfl ?_
  refine AW_iconst dL_law_721 ?_
  refine AW_iaddE dL_law_722 (by omega) (by omega) ?_
  refine AW_sld (6 * v + 1) dL_law_723 (by omega) (by omega) ?_
  refine AW_aload_n dL_law_724 rfl ?_
  refine AW_iload_n dL_law_725 rfl ?_
  refine AW_iconst dL_law_726 ?_
  refine AW_iaddE dL_law_727 (by omega) (by omega) ?_
  refine AW_sld (6 * v + 2) dL_law_728 (by omega) (by omega) ?_
  refine AW_aload_n dL_law_729 rfl ?_
  refine AW_iload_n dL_law_730 rfl ?_
  refine AW_iconst dL_law_731 ?_
  refine AW_iaddE dL_law_732 (by omega) (by omega) ?_
  refine AW_sld (6 * v + 3) dL_law_733 (by omega) (by omega) ?_
  refine AW_callV3 (d' := d - 1) dL_law_734 (Or.inl lkL_84) mfX12_all (hS1.cel rfl) ⟨_, rfl, rfl⟩ hM2 (by omega) (Nat.le_of_ble_eq_true rfl) ?_
  rintro _ ρ2 ⟨rfl, hI2⟩ -
  exact AW_icmp_eq (tgt := 966) dL_law_737 (by decide) (fun _ => K N' ρ2 hI2) (fun h => absurd rfl h)
theorem lc_town {G : Gt} {d : Nat} {σ : St} (hd : 61 ≤ d) {v N : Nat} (hI : Ivl v N σ) (hv : v < 600) (hl : 6 * v + 6 ≤ G.2.2.2.2.1) (hL : G.2.2.2.2.1 ≤ 3072) (K : Nxt G d v) : AW mL_law G d (bcL v N) (bsL v N) (QL G) 742 (lsL v) [] σ := by
  obtain ⟨c, s, N', e1, e2, e3, hM⟩ := o_town (G := G) (d := d - 1) (by omega) hv hI (sc G (6 * v + 1))
  have hN := hI.cap
  have hS := hI.1.1
  refine AW_up (bc := bcL (v + 1) N' + c) (bs := bsL (v + 1) N' + s) (by unfold bcL; omega) (by unfold bsL; omega) ?_
  refine AW_aload_n dL_law_742 rfl ?_
  refine AW_aload_n dL_law_743 rfl ?_
  refine AW_iload_n dL_law_744 rfl ?_
  refine AW_iconst dL_law_745 ?_
  refine AW_iaddE dL_law_746 (by omega) (by omega) ?_
  refine AW_sld (6 * v + 1) dL_law_747 (by omega) (by omega) ?_
  refine AW_callVb1 (d' := d - 1) dL_law_748 (Or.inl lkL_85) mfX11_town (hS.cel rfl) ⟨_, rfl, rfl⟩ hM (by omega) (Nat.le_of_ble_eq_true rfl) ?_
  rintro _ ρ ⟨hS1, z, rfl, hM2⟩ -
  refine AW_aload_n dL_law_751 rfl ?_
  refine AW_aload_n dL_law_752 rfl ?_
  refine AW_iload_n dL_law_753 rfl ?_
  refine AW_iconst dL_law_754 ?_
  refine AW_iaddE dL_law_755 (by omega) (by omega) ?_
  refine AW_sld (6 * v + 1) dL_law_756 (by omega) (by omega) ?_
  refine AW_callV1 (d' := d - 1) dL_law_757 (Or.inl lkL_88) mfX12_town (hS1.cel rfl) ⟨_, rfl, rfl⟩ hM2 (by omega) (Nat.le_of_ble_eq_true rfl) ?_
  rintro _ ρ2 ⟨rfl, hI2⟩ -
  exact AW_icmp_eq (tgt := 966) dL_law_760 (by decide) (fun _ => K N' ρ2 hI2) (fun h => absurd rfl h)
theorem lc_feast {G : Gt} {d : Nat} {σ : St} (hd : 61 ≤ d) {v N : Nat} (hI : Ivl v N σ) (hv : v < 600) (hl : 6 * v + 6 ≤ G.2.2.2.2.1) (hL : G.2.2.2.2.1 ≤ 3072) (K : Nxt G d v) : AW mL_law G d (bcL v N) (bsL v N) (QL G) 765 (lsL v) [] σ := by
  obtain ⟨c, s, N', e1, e2, e3, hM⟩ := o_feast (G := G) (d := d - 1) (by omega) hv hI (sc G (6 * v + 1))
  have hN := hI.cap
  have hS := hI.1.1
  refine AW_up (bc := bcL (v + 1) N' + c) (bs := bsL (v + 1) N' + s) (by unfold bcL; omega) (by unfold bsL; omega) ?_
  refine AW_aload_n dL_law_765 rfl ?_
  refine AW_aload_n dL_law_766 rfl ?_
  refine AW_iload_n dL_law_767 rfl ?_
  refine AW_iconst dL_law_768 ?_
  refine AW_iaddE dL_law_769 (by omega) (by omega) ?_
  refine AW_sld (6 * v + 1) dL_law_770 (by omega) (by omega) ?_
  refine AW_callVb1 (d' := d - 1) dL_law_771 (Or.inl lkL_89) mfX11_feast (hS.cel rfl) ⟨_, rfl, rfl⟩ hM (by omega) (Nat.le_of_ble_eq_true rfl) ?_
  rintro _ ρ ⟨hS1, z, rfl, hM2⟩ -
  refine AW_aload_n dL_law_774 rfl ?_
  refine AW_aload_n dL_law_775 rfl ?_
  refine AW_iload_n dL_law_776 rfl ?_
  refine AW_iconst dL_law_777 ?_
  refine AW_iaddE dL_law_778 (by omega) (by omega) ?_
  refine AW_sld (6 * v + 1) dL_law_779 (by omega) (by omega) ?_
  refine AW_callV1 (d' := d - 1) dL_law_780 (Or.inl lkL_92) mfX12_feast (hS1.cel rfl) ⟨_, rfl, rfl⟩ hM2 (by omega) (Nat.le_of_ble_eq_true rfl) ?_
  rintro _ ρ2 ⟨rfl, hI2⟩ -
  exact AW_icmp_eq (tgt := 966) dL_law_783 (by decide) (fun _ => K N' ρ2 hI2) (fun h => absurd rfl h)
theorem lc_likes {G : Gt} {d : Nat} {σ : St} (hd : 61 ≤ d) {v N : Nat} (hI : Ivl v N σ) (hv : v < 600) (hl : 6 * v + 6 ≤ G.2.2.2.2.1) (hL : G.2.2.2.2.1 ≤ 3072) (K : Nxt G d v) : AW mL_law G d (bcL v N) (bsL v N) (QL G) 788 (lsL v) [] σ := by
  obtain ⟨c, s, N', e1, e2, e3, hM⟩ := o_likes (G := G) (d := d - 1) (by omega) hv hI (sc G (6 * v + 1)) (sc G (6 * v + 2)) (sc G (6 * v + 3)) (sc G (6 * v + 4))
  have hN := hI.cap
  have hS := hI.1.1
  refine AW_up (bc := bcL (v + 1) N' + c) (bs := bsL (v + 1) N' + s) (by unfold bcL; omega) (by unfold bsL; omega) ?_
  refine AW_aload_n dL_law_788 rfl ?_
  refine AW_aload_n dL_law_789 rfl ?_
  refine AW_iload_n dL_law_790 rfl ?_
  refine AW_iconst dL_law_791 ?_
  refine AW_iaddE dL_law_792 (by omega) (by omega) ?_
  refine AW_sld (6 * v + 1) dL_law_793 (by omega) (by omega) ?_
  refine AW_aload_n dL_law_794 rfl ?_
  refine AW_iload_n dL_law_795 rfl ?_
  refine AW_iconst dL_law_796 ?_
  refine AW_iaddE dL_law_797 (by omega) (by omega) ?_
  refine AW_sld (6 * v + 2) dL_law_798 (by omega) (by omega) ?_
  refine AW_aload_n dL_law_799 rfl ?_
  refine AW_iload_n dL_law_800 rfl ?_
  refine AW_iconst dL_law_801 ?_
  refine AW_iaddE dL_law_802 (by omega) (by omega) ?_
  refine AW_sld (6 * v + 3) dL_law_803 (by omega) (by omega) ?_
  refine AW_aload_n dL_law_804 rfl ?_
  refine AW_iload_n dL_law_805 rfl ?_
  refine AW_iconst dL_law_806 ?_
  refine AW_iaddE dL_law_807 (by omega) (by omega) ?_
  refine AW_sld (6 * v + 4) dL_law_808 (by omega) (by omega) ?_
  refine AW_callVb4 (d' := d - 1) dL_law_809 (Or.inl lkL_93) mfX11_likes (hS.cel rfl) ⟨_, rfl, rfl⟩ hM (by omega) (Nat.le_of_ble_eq_true rfl) ?_
  rintro _ ρ ⟨hS1, z, rfl, hM2⟩ -
  refine AW_aload_n dL_law_812 rfl ?_
  refine AW_aload_n dL_law_813 rfl ?_
  refine AW_iload_n dL_law_814 rfl ?_
  refine AW_iconst dL_law_815 ?_
  refine AW_iaddE dL_law_816 (by omega) (by omega) ?_
  refine AW_sld (6 * v + 1) dL_law_817 (by omega) (by omega) ?_
  refine AW_aload_n dL_law_818 rfl ?_
  refine AW_iload_n dL_law_819 rfl ?_
  refine AW_iconst dL_law_820 ?_
  refine AW_iaddE dL_law_821 (by omega) (by omega) ?_
  refine AW_sld (6 * v + 2) dL_law_822 (by omega) (by omega) ?_
  refine AW_aload_n dL_law_823 rfl ?_
  refine AW_iload_n dL_law_824 rfl ?_
  refine AW_iconst dL_law_825 ?_
  refine AW_iaddE dL_law_826 (by omega) (by omega) ?_
  refine AW_sld (6 * v + 3) dL_law_827 (by omega) (by omega) ?_
  refine AW_aload_n dL_law_828 rfl ?_
  refine AW_iload_n dL_law_829 rfl ?_
  refine AW_iconst dL_law_830 ?_
  refine AW_iaddE dL_law_831 (by omega) (by omega) ?_
  refine AW_sld (6 * v + 4) dL_law_832 (by omega) (by omega) ?_
  refine AW_callV4 (d' := d - 1) dL_law_833 (Or.inl lkL_96) mfX12_likes (hS1.cel rfl) ⟨_, rfl, rfl⟩ hM2 (by omega) (Nat.le_of_ble_eq_true rfl) ?_
  rintro _ ρ2 ⟨rfl, hI2⟩ -
  exact AW_icmp_eq (tgt := 966) dL_law_836 (by decide) (fun _ => K N' ρ2 hI2) (fun h => absurd rfl h)
theorem lc_holds {G : Gt} {d : Nat} {σ : St} (hd : 61 ≤ d) {v N : Nat} (hI : Ivl v N σ) (hv : v < 600) (hl : 6 * v + 6 ≤ G.2.2.2.2.1) (hL : G.2.2.2.2.1 ≤ 3072) (K : Nxt G d v) : AW mL_law G d (bcL v N) (bsL v N) (QL G) 841 (lsL v) [] σ := by
  obtain ⟨c, s, N', e1, e2, e3, hM⟩ := o_holds (G := G) (d := d - 1) (by omega) hv hI
  have hN := hI.cap
  have hS := hI.1.1
  refine AW_up (bc := bcL (v + 1) N' + c) (bs := bsL (v + 1) N' + s) (by unfold bcL; omega) (by unfold bsL; omega) ?_
  refine AW_aload_n dL_law_841 rfl ?_
  refine AW_callVb0 (d' := d - 1) dL_law_842 (Or.inl lkL_97) mfX11_holds (hS.cel rfl) ⟨_, rfl, rfl⟩ hM (by omega) (Nat.le_of_ble_eq_true rfl) ?_
  rintro _ ρ ⟨hS1, z, rfl, hM2⟩ -
  refine AW_aload_n dL_law_845 rfl ?_
  refine AW_callV0 (d' := d - 1) dL_law_846 (Or.inl lkL_101) mfX12_holds (hS1.cel rfl) ⟨_, rfl, rfl⟩ hM2 (by omega) (Nat.le_of_ble_eq_true rfl) ?_
  rintro _ ρ2 ⟨rfl, hI2⟩ -
  exact AW_icmp_eq (tgt := 966) dL_law_849 (by decide) (fun _ => K N' ρ2 hI2) (fun h => absurd rfl h)
theorem lc_pairing {G : Gt} {d : Nat} {σ : St} (hd : 61 ≤ d) {v N : Nat} (hI : Ivl v N σ) (hv : v < 600) (hl : 6 * v + 6 ≤ G.2.2.2.2.1) (hL : G.2.2.2.2.1 ≤ 3072) (K : Nxt G d v) : AW mL_law G d (bcL v N) (bsL v N) (QL G) 854 (lsL v) [] σ := by
  obtain ⟨c, s, N', e1, e2, e3, hM⟩ := o_pairing (G := G) (d := d - 1) (by omega) hv hI (sc G (6 * v + 1)) (sc G (6 * v + 2))
  have hN := hI.cap
  have hS := hI.1.1
  refine AW_up (bc := bcL (v + 1) N' + c) (bs := bsL (v + 1) N' + s) (by unfold bcL; omega) (by unfold bsL; omega) ?_
  refine AW_aload_n dL_law_854 rfl ?_
  refine AW_aload_n dL_law_855 rfl ?_
  refine AW_iload_n dL_law_856 rfl ?_
  refine AW_iconst dL_law_857 ?_
  refine AW_iaddE dL_law_858 (by omega) (by omega) ?_
  refine AW_sld (6 * v + 1) dL_law_859 (by omega) (by omega) ?_
  refine AW_aload_n dL_law_860 rfl ?_
  refine AW_iload_n dL_law_861 rfl ?_
  refine AW_iconst dL_law_862 ?_
  refine AW_iaddE dL_law_863 (by omega) (by omega) ?_
  refine AW_sld (6 * v + 2) dL_law_864 (by omega) (by omega) ?_
  refine AW_callVb2 (d' := d - 1) dL_law_865 (Or.inl lkL_102) mfX11_pairing (hS.cel rfl) ⟨_, rfl, rfl⟩ hM (by omega) (Nat.le_of_ble_eq_true rfl) ?_
  rintro _ ρ ⟨hS1, z, rfl, hM2⟩ -
  refine AW_aload_n dL_law_868 rfl ?_
  refine AW_aload_n dL_law_869 rfl ?_
  refine AW_iload_n dL_law_870 rfl ?_
  refine AW_iconst dL_law_871 ?_
  refine AW_iaddE dL_law_872 (by omega) (by omega) ?_
  refine AW_sld (6 * v + 1) dL_law_873 (by omega) (by omega) ?_
  refine AW_aload_n dL_law_874 rfl ?_
  refine AW_iload_n dL_law_875 rfl ?_
  refine AW_iconst dL_law_876 ?_
  refine AW_iaddE dL_law_877 (by omega) (by omega) ?_
  refine AW_sld (6 * v + 2) dL_law_878 (by omega) (by omega) ?_
  refine AW_callV2 (d' := d - 1) dL_law_879 (Or.inl lkL_105) mfX12_pairing (hS1.cel rfl) ⟨_, rfl, rfl⟩ hM2 (by omega) (Nat.le_of_ble_eq_true rfl) ?_
  rintro _ ρ2 ⟨rfl, hI2⟩ -
  exact AW_icmp_eq (tgt := 966) dL_law_882 (by decide) (fun _ => K N' ρ2 hI2) (fun h => absurd rfl h)
theorem lc_mended {G : Gt} {d : Nat} {σ : St} (hd : 61 ≤ d) {v N : Nat} (hI : Ivl v N σ) (hv : v < 600) (hl : 6 * v + 6 ≤ G.2.2.2.2.1) (hL : G.2.2.2.2.1 ≤ 3072) (K : Nxt G d v) : AW mL_law G d (bcL v N) (bsL v N) (QL G) 887 (lsL v) [] σ := by
  obtain ⟨c, s, N', e1, e2, e3, hM⟩ := o_mended (G := G) (d := d - 1) (by omega) hv hI
  have hN := hI.cap
  have hS := hI.1.1
  refine AW_up (bc := bcL (v + 1) N' + c) (bs := bsL (v + 1) N' + s) (by unfold bcL; omega) (by unfold bsL; omega) ?_
  refine AW_aload_n dL_law_887 rfl ?_
  refine AW_callVb0 (d' := d - 1) dL_law_888 (Or.inl lkL_106) mfX11_mended (hS.cel rfl) ⟨_, rfl, rfl⟩ hM (by omega) (Nat.le_of_ble_eq_true rfl) ?_
  rintro _ ρ ⟨hS1, z, rfl, hM2⟩ -
  refine AW_aload_n dL_law_891 rfl ?_
  refine AW_callV0 (d' := d - 1) dL_law_892 (Or.inl lkL_109) mfX12_mended (hS1.cel rfl) ⟨_, rfl, rfl⟩ hM2 (by omega) (Nat.le_of_ble_eq_true rfl) ?_
  rintro _ ρ2 ⟨rfl, hI2⟩ -
  exact AW_icmp_eq (tgt := 966) dL_law_895 (by decide) (fun _ => K N' ρ2 hI2) (fun h => absurd rfl h)
theorem lc_price {G : Gt} {d : Nat} {σ : St} (hd : 61 ≤ d) {v N : Nat} (hI : Ivl v N σ) (hv : v < 600) (hl : 6 * v + 6 ≤ G.2.2.2.2.1) (hL : G.2.2.2.2.1 ≤ 3072) (K : Nxt G d v) : AW mL_law G d (bcL v N) (bsL v N) (QL G) 900 (lsL v) [] σ := by
  obtain ⟨c, s, N', e1, e2, e3, hM⟩ := o_price (G := G) (d := d - 1) (by omega) hv hI (sc G (6 * v + 1)) (sc G (6 * v + 2))
  have hN := hI.cap
  have hS := hI.1.1
  refine AW_up (bc := bcL (v + 1) N' + c) (bs := bsL (v + 1) N' + s) (by unfold bcL; omega) (by unfold bsL; omega) ?_
  refine AW_aload_n dL_law_900 rfl ?_
  refine AW_aload_n dL_law_901 rfl ?_
  refine AW_iload_n dL_law_902 rfl ?_
  refine AW_iconst dL_law_903 ?_
  refine AW_iaddE dL_law_904 (by omega) (by omega) ?_
  refine AW_sld (6 * v + 1) dL_law_905 (by omega) (by omega) ?_
  refine AW_aload_n dL_law_906 rfl ?_
  refine AW_iload_n dL_law_907 rfl ?_
  refine AW_iconst dL_law_908 ?_
  refine AW_iaddE dL_law_909 (by omega) (by omega) ?_
  refine AW_sld (6 * v + 2) dL_law_910 (by omega) (by omega) ?_
  refine AW_callVb2 (d' := d - 1) dL_law_911 (Or.inl lkL_110) mfX11_price (hS.cel rfl) ⟨_, rfl, rfl⟩ hM (by omega) (Nat.le_of_ble_eq_true rfl) ?_
  rintro _ ρ ⟨hS1, z, rfl, hM2⟩ -
  refine AW_aload_n dL_law_914 rfl ?_
  refine AW_aload_n dL_law_915 rfl ?_
  refine AW_iload_n dL_law_916 rfl ?_
  refine AW_iconst dL_law_917 ?_
  refine AW_iaddE dL_law_918 (by omega) (by omega) ?_
  refine AW_sld (6 * v + 1) dL_law_919 (by omega) (by omega) ?_
  refine AW_aload_n dL_law_920 rfl ?_
  refine AW_iload_n dL_law_921 rfl ?_
  refine AW_iconst dL_law_922 ?_
  refine AW_iaddE dL_law_923 (by omega) (by omega) ?_
  refine AW_sld (6 * v + 2) dL_law_924 (by omega) (by omega) ?_
  refine AW_callV2 (d' := d - 1) dL_law_925 (Or.inl lkL_113) mfX12_price (hS1.cel rfl) ⟨_, rfl, rfl⟩ hM2 (by omega) (Nat.le_of_ble_eq_true rfl) ?_
  rintro _ ρ2 ⟨rfl, hI2⟩ -
  exact AW_icmp_eq (tgt := 966) dL_law_928 (by decide) (fun _ => K N' ρ2 hI2) (fun h => absurd rfl h)
theorem lc_sums {G : Gt} {d : Nat} {σ : St} (hd : 61 ≤ d) {v N : Nat} (hI : Ivl v N σ) (hv : v < 600) (hl : 6 * v + 6 ≤ G.2.2.2.2.1) (hL : G.2.2.2.2.1 ≤ 3072) (K : Nxt G d v) : AW mL_law G d (bcL v N) (bsL v N) (QL G) 933 (lsL v) [] σ := by
  obtain ⟨c, s, N', e1, e2, e3, hM⟩ := o_sums (G := G) (d := d - 1) (by omega) hv hI (sc G (6 * v + 1)) (sc G (6 * v + 2))
  have hN := hI.cap
  have hS := hI.1.1
  refine AW_up (bc := bcL (v + 1) N' + c) (bs := bsL (v + 1) N' + s) (by unfold bcL; omega) (by unfold bsL; omega) ?_
  refine AW_aload_n dL_law_933 rfl ?_
  refine AW_aload_n dL_law_934 rfl ?_
  refine AW_iload_n dL_law_935 rfl ?_
  refine AW_iconst dL_law_936 ?_
  refine AW_iaddE dL_law_937 (by omega) (by omega) ?_
  refine AW_sld (6 * v + 1) dL_law_938 (by omega) (by omega) ?_
  refine AW_aload_n dL_law_939 rfl ?_
  refine AW_iload_n dL_law_940 rfl ?_
  refine AW_iconst dL_law_941 ?_
  refine AW_iaddE dL_law_942 (by omega) (by omega) ?_
  refine AW_sld (6 * v + 2) dL_law_943 (by omega) (by omega) ?_
  refine AW_callVb2 (d' := d - 1) dL_law_944 (Or.inl lkL_114) mfX11_sums (hS.cel rfl) ⟨_, rfl, rfl⟩ hM (by omega) (Nat.le_of_ble_eq_true rfl) ?_
  rintro _ ρ ⟨hS1, z, rfl, hM2⟩ -
  refine AW_aload_n dL_law_947 rfl ?_
  refine AW_aload_n dL_law_948 rfl ?_
  refine AW_iload_n dL_law_949 rfl ?_
  refine AW_iconst dL_law_950 ?_
  refine AW_iaddE dL_law_951 (by omega) (by omega) ?_
  refine AW_sld (6 * v + 1) dL_law_952 (by omega) (by omega) ?_
  refine AW_aload_n dL_law_953 rfl ?_
  refine AW_iload_n dL_law_954 rfl ?_
  refine AW_iconst dL_law_955 ?_
  refine AW_iaddE dL_law_956 (by omega) (by omega) ?_
  refine AW_sld (6 * v + 2) dL_law_957 (by omega) (by omega) ?_
  refine AW_callV2 (d' := d - 1) dL_law_958 (Or.inl lkL_117) mfX12_sums (hS1.cel rfl) ⟨_, rfl, rfl⟩ hM2 (by omega) (Nat.le_of_ble_eq_true rfl) ?_
  rintro _ ρ2 ⟨rfl, hI2⟩ -
  exact AW_icmp_eq (tgt := 966) dL_law_961 (by decide) (fun _ => K N' ρ2 hI2) (fun h => absurd rfl h)
