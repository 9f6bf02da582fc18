theorem cd_max : Cond.code Lib.Math.max.name Lib.Math.max.code 2 (some .int) ∈ lw_g := mem_g 374 (by decide +kernel) rfl
theorem AW_mmax {M : MT} {G : Gt} {d bc bs : Nat} {Qz : QZ} {pc : Nat} {ls : List (Option AV)} {st : List AV} {σ : St} {idx : Nat} {a b : Int} (hd : decode M.2.1 pc = .ok (.invokestatic idx, 3)) (hl : LK M.1.cls idx mJ9_max_7cf53) (hd1 : 1 ≤ d) (hr : (st.map catA).sum ≤ 8) (k : AW M G d bc bs Qz (pc + 3) ls (vI (if a < b then b else a) :: st) σ) : AW M G d bc bs Qz pc ls (vI b :: vI a :: st) σ := by
  intro p l e s m args below meth c H locs cells slots mc ms lsM C hW hS h1 h2 hL hO
  have hts := C.2.2.2.2.2.2.2.1
  have hB := (OKs_cons.mp hO).1
  have hA := (OKs_cons.mp (OKs_cons.mp hO).2).1
  have hO2 := (OKs_cons.mp (OKs_cons.mp hO).2).2
  refine va_mmax C.1 C.2.1 (C.2.2.2.1.trans hL.2.1.symm) C.2.2.2.2.1 (hts_g hts hl) (hts_g hts mfJ9_max_7cf53.2) (hts_g hts mfJ9_max_7cf53.1.1) (hts_g hts cd_max) hd1 (by rw [cat_sum]; show _ ≤ 41 * d + 32; omega) (by show cells ≤ mc; omega) (by show slots ≤ ms; omega) hd ?_
  have hk := k p l e s m args below meth c H locs cells slots mc ms lsM C hW hS h1 h2 hL (OKs_cons.mpr ⟨by show InR _; split <;> assumption, hO2⟩)
  have e1 : (if Int32.ofInt a < Int32.ofInt b then Int32.ofInt b else Int32.ofInt a) = Int32.ofInt (if a < b then b else a) := by
    simp only [ltI hA hB]
    split <;> rfl
  rw [e1]
  exact hk
theorem cd_min : Cond.code Lib.Math.min.name Lib.Math.min.code 2 (some .int) ∈ lw_g := mem_g 408 (by decide +kernel) rfl
theorem AW_mmin {M : MT} {G : Gt} {d bc bs : Nat} {Qz : QZ} {pc : Nat} {ls : List (Option AV)} {st : List AV} {σ : St} {idx : Nat} {a b : Int} (hd : decode M.2.1 pc = .ok (.invokestatic idx, 3)) (hl : LK M.1.cls idx mJ9_min_7cf53) (hd1 : 1 ≤ d) (hr : (st.map catA).sum ≤ 8) (k : AW M G d bc bs Qz (pc + 3) ls (vI (if b < a then b else a) :: st) σ) : AW M G d bc bs Qz pc ls (vI b :: vI a :: st) σ := by
  intro p l e s m args below meth c H locs cells slots mc ms lsM C hW hS h1 h2 hL hO
  have hts := C.2.2.2.2.2.2.2.1
  have hB := (OKs_cons.mp hO).1
  have hA := (OKs_cons.mp (OKs_cons.mp hO).2).1
  have hO2 := (OKs_cons.mp (OKs_cons.mp hO).2).2
  refine va_mmin C.1 C.2.1 (C.2.2.2.1.trans hL.2.1.symm) C.2.2.2.2.1 (hts_g hts hl) (hts_g hts mfJ9_min_7cf53.2) (hts_g hts mfJ9_min_7cf53.1.1) (hts_g hts cd_min) hd1 (by rw [cat_sum]; show _ ≤ 41 * d + 32; omega) (by show cells ≤ mc; omega) (by show slots ≤ ms; omega) hd ?_
  have hk := k p l e s m args below meth c H locs cells slots mc ms lsM C hW hS h1 h2 hL (OKs_cons.mpr ⟨by show InR _; split <;> assumption, hO2⟩)
  have e1 : (if Int32.ofInt b < Int32.ofInt a then Int32.ofInt b else Int32.ofInt a) = Int32.ofInt (if b < a then b else a) := by
    simp only [ltI hB hA]
    split <;> rfl
  rw [e1]
  exact hk
