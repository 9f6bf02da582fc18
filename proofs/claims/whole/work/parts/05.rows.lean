section ROWS
variable {M : MT} {G : Gt} {d bc bs : Nat} {Qz : QZ} {pc : Nat} {ls : List (Option AV)} {st : List AV} {σ : St}
def aAnd (a b : Int) : Int := (Int32.ofInt a &&& Int32.ofInt b).toInt
def aOr (a b : Int) : Int := (Int32.ofInt a ||| Int32.ofInt b).toInt
def aShl (a b : Int) : Int := (Int32.ofInt a <<< (Int32.ofInt b &&& 31)).toInt
def aShr (a b : Int) : Int := (Int32.ofInt a >>> (Int32.ofInt b &&& 31)).toInt
def aUshr (a b : Int) : Int := ((Int32.ofInt a).toUInt32 >>> ((Int32.ofInt b).toUInt32 &&& Int32.toUInt32 31)).toInt32.toInt
def aI2b (a : Int) : Int := (Int32.ofInt a).toInt8.toInt32.toInt
def aI2c (a : Int) : Int := ((Int32.ofInt a).toUInt32 % 65536).toInt32.toInt
def aNz (a : Int) : Int := (vp_nar .boolean (Int32.ofInt a)).toInt
def aNb (a : Int) : Int := (vp_nar .byte (Int32.ofInt a)).toInt
theorem divI (a b : Int) (ha : InR a) (hb : InR b) : Int32.ofInt a / Int32.ofInt b = Int32.ofInt (wr (a.tdiv b)) := by
  apply Int32.toInt_inj.mp
  rw [Int32.toInt_div, toI ha, toI hb, toIw]
  show Int.bmod (a.tdiv b) (2 ^ 32) = wr (wr (a.tdiv b))
  rw [wr_id (wr_in _).1 (wr_in _).2]
  rfl
theorem remI (a b : Int) (ha : InR a) (hb : InR b) : Int32.ofInt a - Int32.ofInt a / Int32.ofInt b * Int32.ofInt b = Int32.ofInt (a.tmod b) := by
  rw [divI a b ha hb, of_wr, ← Int32.ofInt_mul, ← Int32.ofInt_sub]
  congr 1
  have := Int.mul_tdiv_add_tmod a b
  rw [Int.mul_comm] at this
  omega
theorem tmod_in {a b : Int} (ha : InR a) : InR (a.tmod b) := by
  unfold InR at *
  rcases Int.le_total 0 a with h | h
  · have h1 := Int.tmod_nonneg b h
    have h2 : a.tmod b ≤ a := by
      rw [Int.tmod_eq_emod_of_nonneg h]
      rcases Int.lt_trichotomy b 0 with hb | hb | hb
      · have := Int.emod_emod_of_dvd a (Int.dvd_refl b)
        have h5 := Int.emod_lt_of_neg a hb
        by_cases hh : a < -b
        · rw [← Int.emod_neg, Int.emod_eq_of_lt h hh]; exact Int.le_refl a
        · omega
      · subst hb; simp
      · by_cases hh : a < b
        · rw [Int.emod_eq_of_lt h hh]; exact Int.le_refl a
        · have := Int.emod_lt_of_pos a hb; omega
    omega
  · have h1 : (-a).tmod b = -(a.tmod b) := Int.neg_tmod a b
    have h0 : 0 ≤ -a := by omega
    have h3 := Int.tmod_nonneg b h0
    have h2 : (-a).tmod b ≤ -a := by
      rw [Int.tmod_eq_emod_of_nonneg h0]
      rcases Int.lt_trichotomy b 0 with hb | hb | hb
      · have h5 := Int.emod_lt_of_neg (-a) hb
        by_cases hh : -a < -b
        · rw [← Int.emod_neg, Int.emod_eq_of_lt h0 hh]; exact Int.le_refl _
        · omega
      · subst hb; simp
      · by_cases hh : -a < b
        · rw [Int.emod_eq_of_lt h0 hh]; exact Int.le_refl _
        · have := Int.emod_lt_of_pos (-a) hb; omega
    omega
theorem AW_iconst {n : Int} (hd : decode M.2.1 pc = .ok (.iconst n, 1)) (k : AW M G d bc bs Qz (pc + 1) ls (vI n :: st) σ) (hn : -2147483648 ≤ n ∧ n < 2147483648 := by decide) : AW M G d bc bs Qz pc ls st σ := by
  intro p l e s m args below meth c H locs cells slots mc ms lsM C hW hS h1 h2 hL hO
  exact lv_iconst C.1 C.2.1 hd rfl (k p l e s m args below meth c H locs cells slots mc ms lsM C hW hS h1 h2 hL (OKs_cons.mpr ⟨hn, hO⟩))
theorem AW_bipush {n : Int} (hd : decode M.2.1 pc = .ok (.bipush n, 2)) (k : AW M G d bc bs Qz (pc + 2) ls (vI n :: st) σ) (hv : (Int8.ofInt n).toInt32 = Int32.ofInt n := by decide +kernel) (hn : -2147483648 ≤ n ∧ n < 2147483648 := by decide) : AW M G d bc bs Qz pc ls st σ := by
  intro p l e s m args below meth c H locs cells slots mc ms lsM C hW hS h1 h2 hL hO
  exact lv_bipush C.1 C.2.1 hd hv (k p l e s m args below meth c H locs cells slots mc ms lsM C hW hS h1 h2 hL (OKs_cons.mpr ⟨hn, hO⟩))
theorem AW_sipush {n : Int} (hd : decode M.2.1 pc = .ok (.sipush n, 3)) (k : AW M G d bc bs Qz (pc + 3) ls (vI n :: st) σ) (hv : (Int16.ofInt n).toInt32 = Int32.ofInt n := by decide +kernel) (hn : -2147483648 ≤ n ∧ n < 2147483648 := by decide) : AW M G d bc bs Qz pc ls st σ := by
  intro p l e s m args below meth c H locs cells slots mc ms lsM C hW hS h1 h2 hL hO
  exact lv_sipush C.1 C.2.1 hd hv (k p l e s m args below meth c H locs cells slots mc ms lsM C hW hS h1 h2 hL (OKs_cons.mpr ⟨hn, hO⟩))
theorem AW_ldc {idx : Nat} {v : Int32} (n : Int) (hd : decode M.2.1 pc = .ok (.ldc idx, 2)) (hc : Cond.constant M.1.cls idx v ∈ lw_g) (k : AW M G d bc bs Qz (pc + 2) ls (vI n :: st) σ) (hv : Int32.ofInt n = v := by decide +kernel) (hn : -2147483648 ≤ n ∧ n < 2147483648 := by decide) : AW M G d bc bs Qz pc ls st σ := by
  intro p l e s m args below meth c H locs cells slots mc ms lsM C hW hS h1 h2 hL hO
  refine lv_ldc (v := v) C.1 C.2.1 C.2.2.2.2.1 (hts_g C.2.2.2.2.2.2.2.1 hc) hd ?_
  rw [← hv]
  exact k p l e s m args below meth c H locs cells slots mc ms lsM C hW hS h1 h2 hL (OKs_cons.mpr ⟨hn, hO⟩)
theorem AW_ldcw {idx : Nat} {v : Int32} (n : Int) (hd : decode M.2.1 pc = .ok (.ldc_w idx, 3)) (hc : Cond.constant M.1.cls idx v ∈ lw_g) (k : AW M G d bc bs Qz (pc + 3) ls (vI n :: st) σ) (hv : Int32.ofInt n = v := by decide +kernel) (hn : -2147483648 ≤ n ∧ n < 2147483648 := by decide) : AW M G d bc bs Qz pc ls st σ := by
  intro p l e s m args below meth c H locs cells slots mc ms lsM C hW hS h1 h2 hL hO
  refine lv_ldcw (v := v) C.1 C.2.1 C.2.2.2.2.1 (hts_g C.2.2.2.2.2.2.2.1 hc) hd ?_
  rw [← hv]
  exact k p l e s m args below meth c H locs cells slots mc ms lsM C hW hS h1 h2 hL (OKs_cons.mpr ⟨hn, hO⟩)
theorem AW_null (hd : decode M.2.1 pc = .ok (.aconst_null, 1)) (k : AW M G d bc bs Qz (pc + 1) ls (vR 0 :: st) σ) : AW M G d bc bs Qz pc ls st σ := by
  intro p l e s m args below meth c H locs cells slots mc ms lsM C hW hS h1 h2 hL hO
  exact lv_null C.1 C.2.1 hd (k p l e s m args below meth c H locs cells slots mc ms lsM C hW hS h1 h2 hL (OKs_cons.mpr ⟨trivial, hO⟩))
theorem AW_iload {i : Nat} {x : Int} (hd : decode M.2.1 pc = .ok (.iload i, 2)) (h : ls[i]? = some (some (vI x))) (k : AW M G d bc bs Qz (pc + 2) ls (vI x :: st) σ) : AW M G d bc bs Qz pc ls st σ := by
  intro p l e s m args below meth c H locs cells slots mc ms lsM C hW hS h1 h2 hL hO
  exact lv_iload C.1 C.2.1 hd (hL.2.2.2.1 i _ h) (k p l e s m args below meth c H locs cells slots mc ms lsM C hW hS h1 h2 hL (OKs_cons.mpr ⟨(hL.2.2.2.2 i _ h).1, hO⟩))
theorem AW_iload_n {i : Fin 4} {x : Int} (hd : decode M.2.1 pc = .ok (.iload_n i, 1)) (h : ls[i.val]? = some (some (vI x))) (k : AW M G d bc bs Qz (pc + 1) ls (vI x :: st) σ) : AW M G d bc bs Qz pc ls st σ := by
  intro p l e s m args below meth c H locs cells slots mc ms lsM C hW hS h1 h2 hL hO
  exact lv_iload_n C.1 C.2.1 hd rfl (hL.2.2.2.1 _ _ h) (k p l e s m args below meth c H locs cells slots mc ms lsM C hW hS h1 h2 hL (OKs_cons.mpr ⟨(hL.2.2.2.2 _ _ h).1, hO⟩))
theorem AW_aload {i : Nat} {r : Nat} (hd : decode M.2.1 pc = .ok (.aload i, 2)) (h : ls[i]? = some (some (vR r))) (k : AW M G d bc bs Qz (pc + 2) ls (vR r :: st) σ) : AW M G d bc bs Qz pc ls st σ := by
  intro p l e s m args below meth c H locs cells slots mc ms lsM C hW hS h1 h2 hL hO
  have h3 := hL.2.2.2.1 i _ h
  have h4 := k p l e s m args below meth c H locs cells slots mc ms lsM C hW hS h1 h2 hL (OKs_cons.mpr ⟨trivial, hO⟩)
  have e1 : cv G (vR r) = va_rf (crf G r) := rfl
  rw [List.map_cons, e1] at h4
  rw [e1] at h3
  cases hc : crf G r with
  | none => rw [hc] at h3 h4; exact lv_aloadN C.1 C.2.1 hd h3 h4
  | some q => rw [hc] at h3 h4; exact lv_aload C.1 C.2.1 hd h3 h4
theorem AW_aload_n {i : Fin 4} {r : Nat} (hd : decode M.2.1 pc = .ok (.aload_n i, 1)) (h : ls[i.val]? = some (some (vR r))) (k : AW M G d bc bs Qz (pc + 1) ls (vR r :: st) σ) : AW M G d bc bs Qz pc ls st σ := by
  intro p l e s m args below meth c H locs cells slots mc ms lsM C hW hS h1 h2 hL hO
  have h3 := hL.2.2.2.1 _ _ h
  have h4 := k p l e s m args below meth c H locs cells slots mc ms lsM C hW hS h1 h2 hL (OKs_cons.mpr ⟨trivial, hO⟩)
  have e1 : cv G (vR r) = va_rf (crf G r) := rfl
  rw [List.map_cons, e1] at h4
  rw [e1] at h3
  cases hc : crf G r with
  | none => rw [hc] at h3 h4; exact lv_aload_nN C.1 C.2.1 hd rfl h3 h4
  | some q => rw [hc] at h3 h4; exact lv_aload_n C.1 C.2.1 hd rfl h3 h4
theorem AW_istoreG {i : Nat} {x : Int} (hd : decode M.2.1 pc = .ok (.istore i, 2)) (hi : i < ls.length) (k : AW M G d bc bs Qz (pc + 2) (ls.set i (some (vI x))) st σ) : AW M G d bc bs Qz pc ls (vI x :: st) σ := by
  intro p l e s m args below meth c H locs cells slots mc ms lsM C hW hS h1 h2 hL hO
  have hO := OKs_cons.mp hO
  exact lv_istore C.1 C.2.1 hd hL.has (hL.1 ▸ hi) rfl (fun ls2 h' => k p l e s m args below meth c H locs cells slots mc ms ls2 C hW hS h1 h2 (hL.set (v := vI x) hO.1 trivial (hL.1 ▸ hi) h') hO.2)
theorem AW_istoreN {i : Fin 4} {x : Int} (hd : decode M.2.1 pc = .ok (.istore_n i, 1)) (hi : i.val < ls.length) (k : AW M G d bc bs Qz (pc + 1) (ls.set i.val (some (vI x))) st σ) : AW M G d bc bs Qz pc ls (vI x :: st) σ := by
  intro p l e s m args below meth c H locs cells slots mc ms lsM C hW hS h1 h2 hL hO
  have hO := OKs_cons.mp hO
  exact lv_istore_n C.1 C.2.1 hd rfl hL.has (hL.1 ▸ hi) rfl (fun ls2 h' => k p l e s m args below meth c H locs cells slots mc ms ls2 C hW hS h1 h2 (hL.set (v := vI x) hO.1 trivial (hL.1 ▸ hi) h') hO.2)
theorem AW_astoreG {i : Nat} {r : Nat} (hd : decode M.2.1 pc = .ok (.astore i, 2)) (hi : i < ls.length) (k : AW M G d bc bs Qz (pc + 2) (ls.set i (some (vR r))) st σ) : AW M G d bc bs Qz pc ls (vR r :: st) σ := by
  intro p l e s m args below meth c H locs cells slots mc ms lsM C hW hS h1 h2 hL hO
  have hO := OKs_cons.mp hO
  have hset := fun ls2 h' => k p l e s m args below meth c H locs cells slots mc ms ls2 C hW hS h1 h2 (hL.set (i := i) (v := vR r) hO.1 trivial (hL.1 ▸ hi) (ls' := ls2) h') hO.2
  have e1 : cv G (vR r) = va_rf (crf G r) := rfl
  rw [List.map_cons, e1]
  rw [e1] at hset
  cases hc : crf G r with
  | none => rw [hc] at hset; exact lv_astoreN C.1 C.2.1 hd hL.has (hL.1 ▸ hi) rfl hset
  | some q => rw [hc] at hset; exact lv_astore C.1 C.2.1 hd hL.has (hL.1 ▸ hi) rfl hset
theorem AW_astoreN {i : Fin 4} {r : Nat} (hd : decode M.2.1 pc = .ok (.astore_n i, 1)) (hi : i.val < ls.length) (k : AW M G d bc bs Qz (pc + 1) (ls.set i.val (some (vR r))) st σ) : AW M G d bc bs Qz pc ls (vR r :: st) σ := by
  intro p l e s m args below meth c H locs cells slots mc ms lsM C hW hS h1 h2 hL hO
  have hO := OKs_cons.mp hO
  have hset := fun ls2 h' => k p l e s m args below meth c H locs cells slots mc ms ls2 C hW hS h1 h2 (hL.set (i := i.val) (v := vR r) hO.1 trivial (hL.1 ▸ hi) (ls' := ls2) h') hO.2
  have e1 : cv G (vR r) = va_rf (crf G r) := rfl
  rw [List.map_cons, e1]
  rw [e1] at hset
  cases hc : crf G r with
  | none => rw [hc] at hset; exact lv_astore_nN C.1 C.2.1 hd rfl hL.has (hL.1 ▸ hi) rfl hset
  | some q => rw [hc] at hset; exact lv_astore_n C.1 C.2.1 hd rfl hL.has (hL.1 ▸ hi) rfl hset
theorem AW_iincG {i : Nat} {n x : Int} (hd : decode M.2.1 pc = .ok (.iinc i n, 3)) (hx : ls[i]? = some (some (vI x))) (k : AW M G d bc bs Qz (pc + 3) (ls.set i (some (vI (wr (x + n))))) st σ) : AW M G d bc bs Qz pc ls st σ := by
  intro p l e s m args below meth c H locs cells slots mc ms lsM C hW hS h1 h2 hL hO
  have hi : i < M.2.2.1 := hL.1 ▸ (List.getElem?_eq_some_iff.mp hx).1
  obtain ⟨kk, hkk⟩ := List.getElem?_of_mem ((lvs_mem G ls 0 (i, cv G (vI x))).mpr ⟨i, vI x, hx, by rw [Nat.zero_add]⟩)
  exact lv_iinc (v := Int32.ofInt (wr (x + n))) C.1 C.2.1 hd hL.has hkk (addI x n) hi rfl (fun ls2 h' => k p l e s m args below meth c H locs cells slots mc ms ls2 C hW hS h1 h2 (hL.set (v := vI (wr (x + n))) (wr_in _) trivial hi h') hO)
theorem AW_istore0 {x0 : Option AV} {x : Int} (hd : decode M.2.1 pc = .ok (.istore_n 0, 1)) (k : AW M G d bc bs Qz (pc + 1) (some (vI x) :: ls) st σ) : AW M G d bc bs Qz pc (x0 :: ls) (vI x :: st) σ := AW_istoreN hd (show 0 < _ by simp only [List.length_cons]; omega) k
theorem AW_astore0 {x0 : Option AV} {r : Nat} (hd : decode M.2.1 pc = .ok (.astore_n 0, 1)) (k : AW M G d bc bs Qz (pc + 1) (some (vR r) :: ls) st σ) : AW M G d bc bs Qz pc (x0 :: ls) (vR r :: st) σ := AW_astoreN hd (show 0 < _ by simp only [List.length_cons]; omega) k
theorem AW_iinc0 {n x : Int} (hd : decode M.2.1 pc = .ok (.iinc 0 n, 3)) (k : AW M G d bc bs Qz (pc + 3) (some (vI (wr (x + n))) :: ls) st σ) : AW M G d bc bs Qz pc (some (vI x) :: ls) st σ := AW_iincG hd rfl k
theorem AW_istore1 {x0 x1 : Option AV} {x : Int} (hd : decode M.2.1 pc = .ok (.istore_n 1, 1)) (k : AW M G d bc bs Qz (pc + 1) (x0 :: some (vI x) :: ls) st σ) : AW M G d bc bs Qz pc (x0 :: x1 :: ls) (vI x :: st) σ := AW_istoreN hd (show 1 < _ by simp only [List.length_cons]; omega) k
theorem AW_astore1 {x0 x1 : Option AV} {r : Nat} (hd : decode M.2.1 pc = .ok (.astore_n 1, 1)) (k : AW M G d bc bs Qz (pc + 1) (x0 :: some (vR r) :: ls) st σ) : AW M G d bc bs Qz pc (x0 :: x1 :: ls) (vR r :: st) σ := AW_astoreN hd (show 1 < _ by simp only [List.length_cons]; omega) k
theorem AW_iinc1 {x0 : Option AV} {n x : Int} (hd : decode M.2.1 pc = .ok (.iinc 1 n, 3)) (k : AW M G d bc bs Qz (pc + 3) (x0 :: some (vI (wr (x + n))) :: ls) st σ) : AW M G d bc bs Qz pc (x0 :: some (vI x) :: ls) st σ := AW_iincG hd rfl k
theorem AW_istore2 {x0 x1 x2 : Option AV} {x : Int} (hd : decode M.2.1 pc = .ok (.istore_n 2, 1)) (k : AW M G d bc bs Qz (pc + 1) (x0 :: x1 :: some (vI x) :: ls) st σ) : AW M G d bc bs Qz pc (x0 :: x1 :: x2 :: ls) (vI x :: st) σ := AW_istoreN hd (show 2 < _ by simp only [List.length_cons]; omega) k
theorem AW_astore2 {x0 x1 x2 : Option AV} {r : Nat} (hd : decode M.2.1 pc = .ok (.astore_n 2, 1)) (k : AW M G d bc bs Qz (pc + 1) (x0 :: x1 :: some (vR r) :: ls) st σ) : AW M G d bc bs Qz pc (x0 :: x1 :: x2 :: ls) (vR r :: st) σ := AW_astoreN hd (show 2 < _ by simp only [List.length_cons]; omega) k
theorem AW_iinc2 {x0 x1 : Option AV} {n x : Int} (hd : decode M.2.1 pc = .ok (.iinc 2 n, 3)) (k : AW M G d bc bs Qz (pc + 3) (x0 :: x1 :: some (vI (wr (x + n))) :: ls) st σ) : AW M G d bc bs Qz pc (x0 :: x1 :: some (vI x) :: ls) st σ := AW_iincG hd rfl k
theorem AW_istore3 {x0 x1 x2 x3 : Option AV} {x : Int} (hd : decode M.2.1 pc = .ok (.istore_n 3, 1)) (k : AW M G d bc bs Qz (pc + 1) (x0 :: x1 :: x2 :: some (vI x) :: ls) st σ) : AW M G d bc bs Qz pc (x0 :: x1 :: x2 :: x3 :: ls) (vI x :: st) σ := AW_istoreN hd (show 3 < _ by simp only [List.length_cons]; omega) k
theorem AW_astore3 {x0 x1 x2 x3 : Option AV} {r : Nat} (hd : decode M.2.1 pc = .ok (.astore_n 3, 1)) (k : AW M G d bc bs Qz (pc + 1) (x0 :: x1 :: x2 :: some (vR r) :: ls) st σ) : AW M G d bc bs Qz pc (x0 :: x1 :: x2 :: x3 :: ls) (vR r :: st) σ := AW_astoreN hd (show 3 < _ by simp only [List.length_cons]; omega) k
theorem AW_iinc3 {x0 x1 x2 : Option AV} {n x : Int} (hd : decode M.2.1 pc = .ok (.iinc 3 n, 3)) (k : AW M G d bc bs Qz (pc + 3) (x0 :: x1 :: x2 :: some (vI (wr (x + n))) :: ls) st σ) : AW M G d bc bs Qz pc (x0 :: x1 :: x2 :: some (vI x) :: ls) st σ := AW_iincG hd rfl k
theorem AW_istore4 {x0 x1 x2 x3 x4 : Option AV} {x : Int} (hd : decode M.2.1 pc = .ok (.istore 4, 2)) (k : AW M G d bc bs Qz (pc + 2) (x0 :: x1 :: x2 :: x3 :: some (vI x) :: ls) st σ) : AW M G d bc bs Qz pc (x0 :: x1 :: x2 :: x3 :: x4 :: ls) (vI x :: st) σ := AW_istoreG hd (show 4 < _ by simp only [List.length_cons]; omega) k
theorem AW_astore4 {x0 x1 x2 x3 x4 : Option AV} {r : Nat} (hd : decode M.2.1 pc = .ok (.astore 4, 2)) (k : AW M G d bc bs Qz (pc + 2) (x0 :: x1 :: x2 :: x3 :: some (vR r) :: ls) st σ) : AW M G d bc bs Qz pc (x0 :: x1 :: x2 :: x3 :: x4 :: ls) (vR r :: st) σ := AW_astoreG hd (show 4 < _ by simp only [List.length_cons]; omega) k
theorem AW_iinc4 {x0 x1 x2 x3 : Option AV} {n x : Int} (hd : decode M.2.1 pc = .ok (.iinc 4 n, 3)) (k : AW M G d bc bs Qz (pc + 3) (x0 :: x1 :: x2 :: x3 :: some (vI (wr (x + n))) :: ls) st σ) : AW M G d bc bs Qz pc (x0 :: x1 :: x2 :: x3 :: some (vI x) :: ls) st σ := AW_iincG hd rfl k
theorem AW_istore5 {x0 x1 x2 x3 x4 x5 : Option AV} {x : Int} (hd : decode M.2.1 pc = .ok (.istore 5, 2)) (k : AW M G d bc bs Qz (pc + 2) (x0 :: x1 :: x2 :: x3 :: x4 :: some (vI x) :: ls) st σ) : AW M G d bc bs Qz pc (x0 :: x1 :: x2 :: x3 :: x4 :: x5 :: ls) (vI x :: st) σ := AW_istoreG hd (show 5 < _ by simp only [List.length_cons]; omega) k
theorem AW_astore5 {x0 x1 x2 x3 x4 x5 : Option AV} {r : Nat} (hd : decode M.2.1 pc = .ok (.astore 5, 2)) (k : AW M G d bc bs Qz (pc + 2) (x0 :: x1 :: x2 :: x3 :: x4 :: some (vR r) :: ls) st σ) : AW M G d bc bs Qz pc (x0 :: x1 :: x2 :: x3 :: x4 :: x5 :: ls) (vR r :: st) σ := AW_astoreG hd (show 5 < _ by simp only [List.length_cons]; omega) k
theorem AW_iinc5 {x0 x1 x2 x3 x4 : Option AV} {n x : Int} (hd : decode M.2.1 pc = .ok (.iinc 5 n, 3)) (k : AW M G d bc bs Qz (pc + 3) (x0 :: x1 :: x2 :: x3 :: x4 :: some (vI (wr (x + n))) :: ls) st σ) : AW M G d bc bs Qz pc (x0 :: x1 :: x2 :: x3 :: x4 :: some (vI x) :: ls) st σ := AW_iincG hd rfl k
theorem AW_istore6 {x0 x1 x2 x3 x4 x5 x6 : Option AV} {x : Int} (hd : decode M.2.1 pc = .ok (.istore 6, 2)) (k : AW M G d bc bs Qz (pc + 2) (x0 :: x1 :: x2 :: x3 :: x4 :: x5 :: some (vI x) :: ls) st σ) : AW M G d bc bs Qz pc (x0 :: x1 :: x2 :: x3 :: x4 :: x5 :: x6 :: ls) (vI x :: st) σ := AW_istoreG hd (show 6 < _ by simp only [List.length_cons]; omega) k
theorem AW_astore6 {x0 x1 x2 x3 x4 x5 x6 : Option AV} {r : Nat} (hd : decode M.2.1 pc = .ok (.astore 6, 2)) (k : AW M G d bc bs Qz (pc + 2) (x0 :: x1 :: x2 :: x3 :: x4 :: x5 :: some (vR r) :: ls) st σ) : AW M G d bc bs Qz pc (x0 :: x1 :: x2 :: x3 :: x4 :: x5 :: x6 :: ls) (vR r :: st) σ := AW_astoreG hd (show 6 < _ by simp only [List.length_cons]; omega) k
theorem AW_iinc6 {x0 x1 x2 x3 x4 x5 : Option AV} {n x : Int} (hd : decode M.2.1 pc = .ok (.iinc 6 n, 3)) (k : AW M G d bc bs Qz (pc + 3) (x0 :: x1 :: x2 :: x3 :: x4 :: x5 :: some (vI (wr (x + n))) :: ls) st σ) : AW M G d bc bs Qz pc (x0 :: x1 :: x2 :: x3 :: x4 :: x5 :: some (vI x) :: ls) st σ := AW_iincG hd rfl k
theorem AW_istore7 {x0 x1 x2 x3 x4 x5 x6 x7 : Option AV} {x : Int} (hd : decode M.2.1 pc = .ok (.istore 7, 2)) (k : AW M G d bc bs Qz (pc + 2) (x0 :: x1 :: x2 :: x3 :: x4 :: x5 :: x6 :: some (vI x) :: ls) st σ) : AW M G d bc bs Qz pc (x0 :: x1 :: x2 :: x3 :: x4 :: x5 :: x6 :: x7 :: ls) (vI x :: st) σ := AW_istoreG hd (show 7 < _ by simp only [List.length_cons]; omega) k
theorem AW_astore7 {x0 x1 x2 x3 x4 x5 x6 x7 : Option AV} {r : Nat} (hd : decode M.2.1 pc = .ok (.astore 7, 2)) (k : AW M G d bc bs Qz (pc + 2) (x0 :: x1 :: x2 :: x3 :: x4 :: x5 :: x6 :: some (vR r) :: ls) st σ) : AW M G d bc bs Qz pc (x0 :: x1 :: x2 :: x3 :: x4 :: x5 :: x6 :: x7 :: ls) (vR r :: st) σ := AW_astoreG hd (show 7 < _ by simp only [List.length_cons]; omega) k
theorem AW_iinc7 {x0 x1 x2 x3 x4 x5 x6 : Option AV} {n x : Int} (hd : decode M.2.1 pc = .ok (.iinc 7 n, 3)) (k : AW M G d bc bs Qz (pc + 3) (x0 :: x1 :: x2 :: x3 :: x4 :: x5 :: x6 :: some (vI (wr (x + n))) :: ls) st σ) : AW M G d bc bs Qz pc (x0 :: x1 :: x2 :: x3 :: x4 :: x5 :: x6 :: some (vI x) :: ls) st σ := AW_iincG hd rfl k
theorem AW_istore8 {x0 x1 x2 x3 x4 x5 x6 x7 x8 : Option AV} {x : Int} (hd : decode M.2.1 pc = .ok (.istore 8, 2)) (k : AW M G d bc bs Qz (pc + 2) (x0 :: x1 :: x2 :: x3 :: x4 :: x5 :: x6 :: x7 :: some (vI x) :: ls) st σ) : AW M G d bc bs Qz pc (x0 :: x1 :: x2 :: x3 :: x4 :: x5 :: x6 :: x7 :: x8 :: ls) (vI x :: st) σ := AW_istoreG hd (show 8 < _ by simp only [List.length_cons]; omega) k
theorem AW_astore8 {x0 x1 x2 x3 x4 x5 x6 x7 x8 : Option AV} {r : Nat} (hd : decode M.2.1 pc = .ok (.astore 8, 2)) (k : AW M G d bc bs Qz (pc + 2) (x0 :: x1 :: x2 :: x3 :: x4 :: x5 :: x6 :: x7 :: some (vR r) :: ls) st σ) : AW M G d bc bs Qz pc (x0 :: x1 :: x2 :: x3 :: x4 :: x5 :: x6 :: x7 :: x8 :: ls) (vR r :: st) σ := AW_astoreG hd (show 8 < _ by simp only [List.length_cons]; omega) k
theorem AW_iinc8 {x0 x1 x2 x3 x4 x5 x6 x7 : Option AV} {n x : Int} (hd : decode M.2.1 pc = .ok (.iinc 8 n, 3)) (k : AW M G d bc bs Qz (pc + 3) (x0 :: x1 :: x2 :: x3 :: x4 :: x5 :: x6 :: x7 :: some (vI (wr (x + n))) :: ls) st σ) : AW M G d bc bs Qz pc (x0 :: x1 :: x2 :: x3 :: x4 :: x5 :: x6 :: x7 :: some (vI x) :: ls) st σ := AW_iincG hd rfl k
theorem AW_istore9 {x0 x1 x2 x3 x4 x5 x6 x7 x8 x9 : Option AV} {x : Int} (hd : decode M.2.1 pc = .ok (.istore 9, 2)) (k : AW M G d bc bs Qz (pc + 2) (x0 :: x1 :: x2 :: x3 :: x4 :: x5 :: x6 :: x7 :: x8 :: some (vI x) :: ls) st σ) : AW M G d bc bs Qz pc (x0 :: x1 :: x2 :: x3 :: x4 :: x5 :: x6 :: x7 :: x8 :: x9 :: ls) (vI x :: st) σ := AW_istoreG hd (show 9 < _ by simp only [List.length_cons]; omega) k
theorem AW_astore9 {x0 x1 x2 x3 x4 x5 x6 x7 x8 x9 : Option AV} {r : Nat} (hd : decode M.2.1 pc = .ok (.astore 9, 2)) (k : AW M G d bc bs Qz (pc + 2) (x0 :: x1 :: x2 :: x3 :: x4 :: x5 :: x6 :: x7 :: x8 :: some (vR r) :: ls) st σ) : AW M G d bc bs Qz pc (x0 :: x1 :: x2 :: x3 :: x4 :: x5 :: x6 :: x7 :: x8 :: x9 :: ls) (vR r :: st) σ := AW_astoreG hd (show 9 < _ by simp only [List.length_cons]; omega) k
theorem AW_iinc9 {x0 x1 x2 x3 x4 x5 x6 x7 x8 : Option AV} {n x : Int} (hd : decode M.2.1 pc = .ok (.iinc 9 n, 3)) (k : AW M G d bc bs Qz (pc + 3) (x0 :: x1 :: x2 :: x3 :: x4 :: x5 :: x6 :: x7 :: x8 :: some (vI (wr (x + n))) :: ls) st σ) : AW M G d bc bs Qz pc (x0 :: x1 :: x2 :: x3 :: x4 :: x5 :: x6 :: x7 :: x8 :: some (vI x) :: ls) st σ := AW_iincG hd rfl k
theorem AW_istore10 {x0 x1 x2 x3 x4 x5 x6 x7 x8 x9 x10 : Option AV} {x : Int} (hd : decode M.2.1 pc = .ok (.istore 10, 2)) (k : AW M G d bc bs Qz (pc + 2) (x0 :: x1 :: x2 :: x3 :: x4 :: x5 :: x6 :: x7 :: x8 :: x9 :: some (vI x) :: ls) st σ) : AW M G d bc bs Qz pc (x0 :: x1 :: x2 :: x3 :: x4 :: x5 :: x6 :: x7 :: x8 :: x9 :: x10 :: ls) (vI x :: st) σ := AW_istoreG hd (show 10 < _ by simp only [List.length_cons]; omega) k
theorem AW_astore10 {x0 x1 x2 x3 x4 x5 x6 x7 x8 x9 x10 : Option AV} {r : Nat} (hd : decode M.2.1 pc = .ok (.astore 10, 2)) (k : AW M G d bc bs Qz (pc + 2) (x0 :: x1 :: x2 :: x3 :: x4 :: x5 :: x6 :: x7 :: x8 :: x9 :: some (vR r) :: ls) st σ) : AW M G d bc bs Qz pc (x0 :: x1 :: x2 :: x3 :: x4 :: x5 :: x6 :: x7 :: x8 :: x9 :: x10 :: ls) (vR r :: st) σ := AW_astoreG hd (show 10 < _ by simp only [List.length_cons]; omega) k
theorem AW_iinc10 {x0 x1 x2 x3 x4 x5 x6 x7 x8 x9 : Option AV} {n x : Int} (hd : decode M.2.1 pc = .ok (.iinc 10 n, 3)) (k : AW M G d bc bs Qz (pc + 3) (x0 :: x1 :: x2 :: x3 :: x4 :: x5 :: x6 :: x7 :: x8 :: x9 :: some (vI (wr (x + n))) :: ls) st σ) : AW M G d bc bs Qz pc (x0 :: x1 :: x2 :: x3 :: x4 :: x5 :: x6 :: x7 :: x8 :: x9 :: some (vI x) :: ls) st σ := AW_iincG hd rfl k
theorem AW_istore11 {x0 x1 x2 x3 x4 x5 x6 x7 x8 x9 x10 x11 : Option AV} {x : Int} (hd : decode M.2.1 pc = .ok (.istore 11, 2)) (k : AW M G d bc bs Qz (pc + 2) (x0 :: x1 :: x2 :: x3 :: x4 :: x5 :: x6 :: x7 :: x8 :: x9 :: x10 :: some (vI x) :: ls) st σ) : AW M G d bc bs Qz pc (x0 :: x1 :: x2 :: x3 :: x4 :: x5 :: x6 :: x7 :: x8 :: x9 :: x10 :: x11 :: ls) (vI x :: st) σ := AW_istoreG hd (show 11 < _ by simp only [List.length_cons]; omega) k
theorem AW_astore11 {x0 x1 x2 x3 x4 x5 x6 x7 x8 x9 x10 x11 : Option AV} {r : Nat} (hd : decode M.2.1 pc = .ok (.astore 11, 2)) (k : AW M G d bc bs Qz (pc + 2) (x0 :: x1 :: x2 :: x3 :: x4 :: x5 :: x6 :: x7 :: x8 :: x9 :: x10 :: some (vR r) :: ls) st σ) : AW M G d bc bs Qz pc (x0 :: x1 :: x2 :: x3 :: x4 :: x5 :: x6 :: x7 :: x8 :: x9 :: x10 :: x11 :: ls) (vR r :: st) σ := AW_astoreG hd (show 11 < _ by simp only [List.length_cons]; omega) k
theorem AW_iinc11 {x0 x1 x2 x3 x4 x5 x6 x7 x8 x9 x10 : Option AV} {n x : Int} (hd : decode M.2.1 pc = .ok (.iinc 11 n, 3)) (k : AW M G d bc bs Qz (pc + 3) (x0 :: x1 :: x2 :: x3 :: x4 :: x5 :: x6 :: x7 :: x8 :: x9 :: x10 :: some (vI (wr (x + n))) :: ls) st σ) : AW M G d bc bs Qz pc (x0 :: x1 :: x2 :: x3 :: x4 :: x5 :: x6 :: x7 :: x8 :: x9 :: x10 :: some (vI x) :: ls) st σ := AW_iincG hd rfl k
theorem AW_istore12 {x0 x1 x2 x3 x4 x5 x6 x7 x8 x9 x10 x11 x12 : Option AV} {x : Int} (hd : decode M.2.1 pc = .ok (.istore 12, 2)) (k : AW M G d bc bs Qz (pc + 2) (x0 :: x1 :: x2 :: x3 :: x4 :: x5 :: x6 :: x7 :: x8 :: x9 :: x10 :: x11 :: some (vI x) :: ls) st σ) : AW M G d bc bs Qz pc (x0 :: x1 :: x2 :: x3 :: x4 :: x5 :: x6 :: x7 :: x8 :: x9 :: x10 :: x11 :: x12 :: ls) (vI x :: st) σ := AW_istoreG hd (show 12 < _ by simp only [List.length_cons]; omega) k
theorem AW_astore12 {x0 x1 x2 x3 x4 x5 x6 x7 x8 x9 x10 x11 x12 : Option AV} {r : Nat} (hd : decode M.2.1 pc = .ok (.astore 12, 2)) (k : AW M G d bc bs Qz (pc + 2) (x0 :: x1 :: x2 :: x3 :: x4 :: x5 :: x6 :: x7 :: x8 :: x9 :: x10 :: x11 :: some (vR r) :: ls) st σ) : AW M G d bc bs Qz pc (x0 :: x1 :: x2 :: x3 :: x4 :: x5 :: x6 :: x7 :: x8 :: x9 :: x10 :: x11 :: x12 :: ls) (vR r :: st) σ := AW_astoreG hd (show 12 < _ by simp only [List.length_cons]; omega) k
theorem AW_iinc12 {x0 x1 x2 x3 x4 x5 x6 x7 x8 x9 x10 x11 : Option AV} {n x : Int} (hd : decode M.2.1 pc = .ok (.iinc 12 n, 3)) (k : AW M G d bc bs Qz (pc + 3) (x0 :: x1 :: x2 :: x3 :: x4 :: x5 :: x6 :: x7 :: x8 :: x9 :: x10 :: x11 :: some (vI (wr (x + n))) :: ls) st σ) : AW M G d bc bs Qz pc (x0 :: x1 :: x2 :: x3 :: x4 :: x5 :: x6 :: x7 :: x8 :: x9 :: x10 :: x11 :: some (vI x) :: ls) st σ := AW_iincG hd rfl k
theorem AW_istore13 {x0 x1 x2 x3 x4 x5 x6 x7 x8 x9 x10 x11 x12 x13 : Option AV} {x : Int} (hd : decode M.2.1 pc = .ok (.istore 13, 2)) (k : AW M G d bc bs Qz (pc + 2) (x0 :: x1 :: x2 :: x3 :: x4 :: x5 :: x6 :: x7 :: x8 :: x9 :: x10 :: x11 :: x12 :: some (vI x) :: ls) st σ) : AW M G d bc bs Qz pc (x0 :: x1 :: x2 :: x3 :: x4 :: x5 :: x6 :: x7 :: x8 :: x9 :: x10 :: x11 :: x12 :: x13 :: ls) (vI x :: st) σ := AW_istoreG hd (show 13 < _ by simp only [List.length_cons]; omega) k
theorem AW_astore13 {x0 x1 x2 x3 x4 x5 x6 x7 x8 x9 x10 x11 x12 x13 : Option AV} {r : Nat} (hd : decode M.2.1 pc = .ok (.astore 13, 2)) (k : AW M G d bc bs Qz (pc + 2) (x0 :: x1 :: x2 :: x3 :: x4 :: x5 :: x6 :: x7 :: x8 :: x9 :: x10 :: x11 :: x12 :: some (vR r) :: ls) st σ) : AW M G d bc bs Qz pc (x0 :: x1 :: x2 :: x3 :: x4 :: x5 :: x6 :: x7 :: x8 :: x9 :: x10 :: x11 :: x12 :: x13 :: ls) (vR r :: st) σ := AW_astoreG hd (show 13 < _ by simp only [List.length_cons]; omega) k
theorem AW_iinc13 {x0 x1 x2 x3 x4 x5 x6 x7 x8 x9 x10 x11 x12 : Option AV} {n x : Int} (hd : decode M.2.1 pc = .ok (.iinc 13 n, 3)) (k : AW M G d bc bs Qz (pc + 3) (x0 :: x1 :: x2 :: x3 :: x4 :: x5 :: x6 :: x7 :: x8 :: x9 :: x10 :: x11 :: x12 :: some (vI (wr (x + n))) :: ls) st σ) : AW M G d bc bs Qz pc (x0 :: x1 :: x2 :: x3 :: x4 :: x5 :: x6 :: x7 :: x8 :: x9 :: x10 :: x11 :: x12 :: some (vI x) :: ls) st σ := AW_iincG hd rfl k
theorem AW_istore14 {x0 x1 x2 x3 x4 x5 x6 x7 x8 x9 x10 x11 x12 x13 x14 : Option AV} {x : Int} (hd : decode M.2.1 pc = .ok (.istore 14, 2)) (k : AW M G d bc bs Qz (pc + 2) (x0 :: x1 :: x2 :: x3 :: x4 :: x5 :: x6 :: x7 :: x8 :: x9 :: x10 :: x11 :: x12 :: x13 :: some (vI x) :: ls) st σ) : AW M G d bc bs Qz pc (x0 :: x1 :: x2 :: x3 :: x4 :: x5 :: x6 :: x7 :: x8 :: x9 :: x10 :: x11 :: x12 :: x13 :: x14 :: ls) (vI x :: st) σ := AW_istoreG hd (show 14 < _ by simp only [List.length_cons]; omega) k
theorem AW_astore14 {x0 x1 x2 x3 x4 x5 x6 x7 x8 x9 x10 x11 x12 x13 x14 : Option AV} {r : Nat} (hd : decode M.2.1 pc = .ok (.astore 14, 2)) (k : AW M G d bc bs Qz (pc + 2) (x0 :: x1 :: x2 :: x3 :: x4 :: x5 :: x6 :: x7 :: x8 :: x9 :: x10 :: x11 :: x12 :: x13 :: some (vR r) :: ls) st σ) : AW M G d bc bs Qz pc (x0 :: x1 :: x2 :: x3 :: x4 :: x5 :: x6 :: x7 :: x8 :: x9 :: x10 :: x11 :: x12 :: x13 :: x14 :: ls) (vR r :: st) σ := AW_astoreG hd (show 14 < _ by simp only [List.length_cons]; omega) k
theorem AW_iinc14 {x0 x1 x2 x3 x4 x5 x6 x7 x8 x9 x10 x11 x12 x13 : Option AV} {n x : Int} (hd : decode M.2.1 pc = .ok (.iinc 14 n, 3)) (k : AW M G d bc bs Qz (pc + 3) (x0 :: x1 :: x2 :: x3 :: x4 :: x5 :: x6 :: x7 :: x8 :: x9 :: x10 :: x11 :: x12 :: x13 :: some (vI (wr (x + n))) :: ls) st σ) : AW M G d bc bs Qz pc (x0 :: x1 :: x2 :: x3 :: x4 :: x5 :: x6 :: x7 :: x8 :: x9 :: x10 :: x11 :: x12 :: x13 :: some (vI x) :: ls) st σ := AW_iincG hd rfl k
theorem AW_istore15 {x0 x1 x2 x3 x4 x5 x6 x7 x8 x9 x10 x11 x12 x13 x14 x15 : Option AV} {x : Int} (hd : decode M.2.1 pc = .ok (.istore 15, 2)) (k : AW M G d bc bs Qz (pc + 2) (x0 :: x1 :: x2 :: x3 :: x4 :: x5 :: x6 :: x7 :: x8 :: x9 :: x10 :: x11 :: x12 :: x13 :: x14 :: some (vI x) :: ls) st σ) : AW M G d bc bs Qz pc (x0 :: x1 :: x2 :: x3 :: x4 :: x5 :: x6 :: x7 :: x8 :: x9 :: x10 :: x11 :: x12 :: x13 :: x14 :: x15 :: ls) (vI x :: st) σ := AW_istoreG hd (show 15 < _ by simp only [List.length_cons]; omega) k
theorem AW_astore15 {x0 x1 x2 x3 x4 x5 x6 x7 x8 x9 x10 x11 x12 x13 x14 x15 : Option AV} {r : Nat} (hd : decode M.2.1 pc = .ok (.astore 15, 2)) (k : AW M G d bc bs Qz (pc + 2) (x0 :: x1 :: x2 :: x3 :: x4 :: x5 :: x6 :: x7 :: x8 :: x9 :: x10 :: x11 :: x12 :: x13 :: x14 :: some (vR r) :: ls) st σ) : AW M G d bc bs Qz pc (x0 :: x1 :: x2 :: x3 :: x4 :: x5 :: x6 :: x7 :: x8 :: x9 :: x10 :: x11 :: x12 :: x13 :: x14 :: x15 :: ls) (vR r :: st) σ := AW_astoreG hd (show 15 < _ by simp only [List.length_cons]; omega) k
theorem AW_iinc15 {x0 x1 x2 x3 x4 x5 x6 x7 x8 x9 x10 x11 x12 x13 x14 : Option AV} {n x : Int} (hd : decode M.2.1 pc = .ok (.iinc 15 n, 3)) (k : AW M G d bc bs Qz (pc + 3) (x0 :: x1 :: x2 :: x3 :: x4 :: x5 :: x6 :: x7 :: x8 :: x9 :: x10 :: x11 :: x12 :: x13 :: x14 :: some (vI (wr (x + n))) :: ls) st σ) : AW M G d bc bs Qz pc (x0 :: x1 :: x2 :: x3 :: x4 :: x5 :: x6 :: x7 :: x8 :: x9 :: x10 :: x11 :: x12 :: x13 :: x14 :: some (vI x) :: ls) st σ := AW_iincG hd rfl k
theorem AW_iadd {a b : Int} (hd : decode M.2.1 pc = .ok (.iadd, 1)) (k : AW M G d bc bs Qz (pc + 1) ls (vI (wr (a + b)) :: st) σ) : AW M G d bc bs Qz pc ls (vI b :: vI a :: st) σ := by
  intro p l e s m args below meth c H locs cells slots mc ms lsM C hW hS h1 h2 hL hO
  have hO2 := (OKs_cons.mp (OKs_cons.mp hO).2).2
  refine lv_iadd C.1 C.2.1 hd ?_
  rw [addI]
  exact k p l e s m args below meth c H locs cells slots mc ms lsM C hW hS h1 h2 hL (OKs_cons.mpr ⟨wr_in _, hO2⟩)
theorem AW_isub {a b : Int} (hd : decode M.2.1 pc = .ok (.isub, 1)) (k : AW M G d bc bs Qz (pc + 1) ls (vI (wr (a - b)) :: st) σ) : AW M G d bc bs Qz pc ls (vI b :: vI a :: st) σ := by
  intro p l e s m args below meth c H locs cells slots mc ms lsM C hW hS h1 h2 hL hO
  have hO2 := (OKs_cons.mp (OKs_cons.mp hO).2).2
  refine lv_isub C.1 C.2.1 hd ?_
  rw [subI]
  exact k p l e s m args below meth c H locs cells slots mc ms lsM C hW hS h1 h2 hL (OKs_cons.mpr ⟨wr_in _, hO2⟩)
theorem AW_imul {a b : Int} (hd : decode M.2.1 pc = .ok (.imul, 1)) (k : AW M G d bc bs Qz (pc + 1) ls (vI (wr (a * b)) :: st) σ) : AW M G d bc bs Qz pc ls (vI b :: vI a :: st) σ := by
  intro p l e s m args below meth c H locs cells slots mc ms lsM C hW hS h1 h2 hL hO
  have hO2 := (OKs_cons.mp (OKs_cons.mp hO).2).2
  refine lv_imul C.1 C.2.1 hd ?_
  rw [mulI]
  exact k p l e s m args below meth c H locs cells slots mc ms lsM C hW hS h1 h2 hL (OKs_cons.mpr ⟨wr_in _, hO2⟩)
theorem AW_iand {a b : Int} (hd : decode M.2.1 pc = .ok (.iand, 1)) (k : AW M G d bc bs Qz (pc + 1) ls (vI (aAnd a b) :: st) σ) : AW M G d bc bs Qz pc ls (vI b :: vI a :: st) σ := by
  intro p l e s m args below meth c H locs cells slots mc ms lsM C hW hS h1 h2 hL hO
  have hO2 := (OKs_cons.mp (OKs_cons.mp hO).2).2
  refine lv_iand C.1 C.2.1 hd ?_
  have h3 := k p l e s m args below meth c H locs cells slots mc ms lsM C hW hS h1 h2 hL (OKs_cons.mpr ⟨inI _, hO2⟩)
  rw [List.map_cons, show cv G (vI (aAnd a b)) = .int (Int32.ofInt (aAnd a b)) from rfl, show Int32.ofInt (aAnd a b) = _ from ofI _] at h3
  exact h3
theorem AW_ior {a b : Int} (hd : decode M.2.1 pc = .ok (.ior, 1)) (k : AW M G d bc bs Qz (pc + 1) ls (vI (aOr a b) :: st) σ) : AW M G d bc bs Qz pc ls (vI b :: vI a :: st) σ := by
  intro p l e s m args below meth c H locs cells slots mc ms lsM C hW hS h1 h2 hL hO
  have hO2 := (OKs_cons.mp (OKs_cons.mp hO).2).2
  refine lv_ior C.1 C.2.1 hd ?_
  have h3 := k p l e s m args below meth c H locs cells slots mc ms lsM C hW hS h1 h2 hL (OKs_cons.mpr ⟨inI _, hO2⟩)
  rw [List.map_cons, show cv G (vI (aOr a b)) = .int (Int32.ofInt (aOr a b)) from rfl, show Int32.ofInt (aOr a b) = _ from ofI _] at h3
  exact h3
theorem AW_ishl {a b : Int} (hd : decode M.2.1 pc = .ok (.ishl, 1)) (k : AW M G d bc bs Qz (pc + 1) ls (vI (aShl a b) :: st) σ) : AW M G d bc bs Qz pc ls (vI b :: vI a :: st) σ := by
  intro p l e s m args below meth c H locs cells slots mc ms lsM C hW hS h1 h2 hL hO
  have hO2 := (OKs_cons.mp (OKs_cons.mp hO).2).2
  refine lv_ishl C.1 C.2.1 hd ?_
  have h3 := k p l e s m args below meth c H locs cells slots mc ms lsM C hW hS h1 h2 hL (OKs_cons.mpr ⟨inI _, hO2⟩)
  rw [List.map_cons, show cv G (vI (aShl a b)) = .int (Int32.ofInt (aShl a b)) from rfl, show Int32.ofInt (aShl a b) = _ from ofI _] at h3
  exact h3
theorem AW_ishr {a b : Int} (hd : decode M.2.1 pc = .ok (.ishr, 1)) (k : AW M G d bc bs Qz (pc + 1) ls (vI (aShr a b) :: st) σ) : AW M G d bc bs Qz pc ls (vI b :: vI a :: st) σ := by
  intro p l e s m args below meth c H locs cells slots mc ms lsM C hW hS h1 h2 hL hO
  have hO2 := (OKs_cons.mp (OKs_cons.mp hO).2).2
  refine lv_ishr C.1 C.2.1 hd ?_
  have h3 := k p l e s m args below meth c H locs cells slots mc ms lsM C hW hS h1 h2 hL (OKs_cons.mpr ⟨inI _, hO2⟩)
  rw [List.map_cons, show cv G (vI (aShr a b)) = .int (Int32.ofInt (aShr a b)) from rfl, show Int32.ofInt (aShr a b) = _ from ofI _] at h3
  exact h3
theorem AW_iushr {a b : Int} (hd : decode M.2.1 pc = .ok (.iushr, 1)) (k : AW M G d bc bs Qz (pc + 1) ls (vI (aUshr a b) :: st) σ) : AW M G d bc bs Qz pc ls (vI b :: vI a :: st) σ := by
  intro p l e s m args below meth c H locs cells slots mc ms lsM C hW hS h1 h2 hL hO
  have hO2 := (OKs_cons.mp (OKs_cons.mp hO).2).2
  exact lv_iushr C.1 C.2.1 hd (ofI _).symm (k p l e s m args below meth c H locs cells slots mc ms lsM C hW hS h1 h2 hL (OKs_cons.mpr ⟨inI _, hO2⟩))
theorem AW_idiv {a b : Int} (hd : decode M.2.1 pc = .ok (.idiv, 1)) (hb : b ≠ 0) (k : AW M G d bc bs Qz (pc + 1) ls (vI (wr (a.tdiv b)) :: st) σ) : AW M G d bc bs Qz pc ls (vI b :: vI a :: st) σ := by
  intro p l e s m args below meth c H locs cells slots mc ms lsM C hW hS h1 h2 hL hO
  have hB := (OKs_cons.mp hO).1
  have hA := (OKs_cons.mp (OKs_cons.mp hO).2).1
  have hO2 := (OKs_cons.mp (OKs_cons.mp hO).2).2
  refine lv_idiv C.1 C.2.1 hd (fun h => hb ((eqI hB in0).mp h)) ?_
  rw [divI a b hA hB]
  exact k p l e s m args below meth c H locs cells slots mc ms lsM C hW hS h1 h2 hL (OKs_cons.mpr ⟨wr_in _, hO2⟩)
theorem AW_irem {a b : Int} (hd : decode M.2.1 pc = .ok (.irem, 1)) (hb : b ≠ 0) (k : AW M G d bc bs Qz (pc + 1) ls (vI (a.tmod b) :: st) σ) : AW M G d bc bs Qz pc ls (vI b :: vI a :: st) σ := by
  intro p l e s m args below meth c H locs cells slots mc ms lsM C hW hS h1 h2 hL hO
  have hB := (OKs_cons.mp hO).1
  have hA := (OKs_cons.mp (OKs_cons.mp hO).2).1
  have hO2 := (OKs_cons.mp (OKs_cons.mp hO).2).2
  refine lv_irem C.1 C.2.1 hd (fun h => hb ((eqI hB in0).mp h)) ?_
  rw [remI a b hA hB]
  exact k p l e s m args below meth c H locs cells slots mc ms lsM C hW hS h1 h2 hL (OKs_cons.mpr ⟨tmod_in hA, hO2⟩)
theorem AW_i2b {a : Int} (hd : decode M.2.1 pc = .ok (.i2b, 1)) (k : AW M G d bc bs Qz (pc + 1) ls (vI (aI2b a) :: st) σ) : AW M G d bc bs Qz pc ls (vI a :: st) σ := by
  intro p l e s m args below meth c H locs cells slots mc ms lsM C hW hS h1 h2 hL hO
  exact lv_i2b C.1 C.2.1 hd (ofI _).symm (k p l e s m args below meth c H locs cells slots mc ms lsM C hW hS h1 h2 hL (OKs_cons.mpr ⟨inI _, (OKs_cons.mp hO).2⟩))
theorem AW_i2c {a : Int} (hd : decode M.2.1 pc = .ok (.i2c, 1)) (k : AW M G d bc bs Qz (pc + 1) ls (vI (aI2c a) :: st) σ) : AW M G d bc bs Qz pc ls (vI a :: st) σ := by
  intro p l e s m args below meth c H locs cells slots mc ms lsM C hW hS h1 h2 hL hO
  exact lv_i2c C.1 C.2.1 hd (ofI _).symm (k p l e s m args below meth c H locs cells slots mc ms lsM C hW hS h1 h2 hL (OKs_cons.mpr ⟨inI _, (OKs_cons.mp hO).2⟩))
theorem toL {x : Int} (h : InL x) : (Int64.ofInt x).toInt = x := by
  rw [Int64.toInt_ofInt]
  exact wL_id h.1 h.2
theorem AW_i2l {a : Int} (hd : decode M.2.1 pc = .ok (.i2l, 1)) (k : AW M G d bc bs Qz (pc + 1) ls (vL a :: st) σ) : AW M G d bc bs Qz pc ls (vI a :: st) σ := by
  intro p l e s m args below meth c H locs cells slots mc ms lsM C hW hS h1 h2 hL hO
  have hA : InR a := (OKs_cons.mp hO).1
  have hAL : InL a := ⟨by have := hA.1; omega, by have := hA.2; omega⟩
  refine lv_i2l (v := Int64.ofInt a) C.1 C.2.1 hd ?_ (k p l e s m args below meth c H locs cells slots mc ms lsM C hW hS h1 h2 hL (OKs_cons.mpr ⟨hAL, (OKs_cons.mp hO).2⟩))
  apply Int64.toInt_inj.mp
  rw [Int32.toInt_toInt64, toI hA, toL hAL]
theorem AW_lmul {a b : Int} (hd : decode M.2.1 pc = .ok (.lmul, 1)) (k : AW M G d bc bs Qz (pc + 1) ls (vL (wL (a * b)) :: st) σ) : AW M G d bc bs Qz pc ls (vL b :: vL a :: st) σ := by
  intro p l e s m args below meth c H locs cells slots mc ms lsM C hW hS h1 h2 hL hO
  have hO2 := (OKs_cons.mp (OKs_cons.mp hO).2).2
  refine lv_lmul C.1 C.2.1 hd ?_
  have e1 : Int64.ofInt a * Int64.ofInt b = Int64.ofInt (wL (a * b)) := by
    apply Int64.toInt_inj.mp
    rw [← Int64.ofInt_mul, toL (wL_in _), Int64.toInt_ofInt]
    rfl
  rw [e1]
  exact k p l e s m args below meth c H locs cells slots mc ms lsM C hW hS h1 h2 hL (OKs_cons.mpr ⟨wL_in _, hO2⟩)
theorem AW_lcmp {a b : Int} (hd : decode M.2.1 pc = .ok (.lcmp, 1)) (k : AW M G d bc bs Qz (pc + 1) ls (vI (if a < b then -1 else if a = b then 0 else 1) :: st) σ) : AW M G d bc bs Qz pc ls (vL b :: vL a :: st) σ := by
  intro p l e s m args below meth c H locs cells slots mc ms lsM C hW hS h1 h2 hL hO
  have hB : InL b := (OKs_cons.mp hO).1
  have hA : InL a := (OKs_cons.mp (OKs_cons.mp hO).2).1
  have hO2 := (OKs_cons.mp (OKs_cons.mp hO).2).2
  refine W.lcmp C.1 C.2.1 hd ?_
  have e1 : lg_cmp (Int64.ofInt a) (Int64.ofInt b) = Int32.ofInt (if a < b then -1 else if a = b then 0 else 1) := by
    have h4 : Int64.ofInt a < Int64.ofInt b ↔ a < b := by rw [Int64.lt_iff_toInt_lt, toL hA, toL hB]
    have h4' : Int64.ofInt b < Int64.ofInt a ↔ b < a := by rw [Int64.lt_iff_toInt_lt, toL hA, toL hB]
    have h5 : Int64.ofInt a = Int64.ofInt b ↔ a = b := ⟨fun h => by have := congrArg Int64.toInt h; rwa [toL hA, toL hB] at this, fun h => by rw [h]⟩
    have h6 : Int64.ofInt a ≤ Int64.ofInt b ↔ a ≤ b := by rw [Int64.le_iff_toInt_le, toL hA, toL hB]
    unfold lg_cmp
    simp only [h4, h4', h5, h6]
    (repeat' split) <;> first | rfl | (exfalso; omega)
  rw [e1]
  refine k p l e s m args below meth c H locs cells slots mc ms lsM C hW hS h1 h2 hL (OKs_cons.mpr ⟨?_, hO2⟩)
  show InR _
  unfold InR
  (repeat' split) <;> omega
theorem AW_dup {v : AV} (hd : decode M.2.1 pc = .ok (.dup, 1)) (k : AW M G d bc bs Qz (pc + 1) ls (v :: v :: st) σ) (hv : nLg v := by trivial) : AW M G d bc bs Qz pc ls (v :: st) σ := by
  intro p l e s m args below meth c H locs cells slots mc ms lsM C hW hS h1 h2 hL hO
  have hv0 := (OKs_cons.mp hO).1
  exact lv_dup C.1 C.2.1 hd (cv_cat hv) (k p l e s m args below meth c H locs cells slots mc ms lsM C hW hS h1 h2 hL (OKs_cons.mpr ⟨hv0, hO⟩))
theorem AW_pop {v : AV} (hd : decode M.2.1 pc = .ok (.pop, 1)) (k : AW M G d bc bs Qz (pc + 1) ls st σ) (hv : nLg v := by trivial) : AW M G d bc bs Qz pc ls (v :: st) σ := by
  intro p l e s m args below meth c H locs cells slots mc ms lsM C hW hS h1 h2 hL hO
  exact lv_pop C.1 C.2.1 hd (cv_cat hv) (k p l e s m args below meth c H locs cells slots mc ms lsM C hW hS h1 h2 hL (OKs_cons.mp hO).2)
theorem AW_dup2 {v w : AV} (hd : decode M.2.1 pc = .ok (.dup2, 1)) (k : AW M G d bc bs Qz (pc + 1) ls (v :: w :: v :: w :: st) σ) (hv : nLg v := by trivial) (hw : nLg w := by trivial) : AW M G d bc bs Qz pc ls (v :: w :: st) σ := by
  intro p l e s m args below meth c H locs cells slots mc ms lsM C hW hS h1 h2 hL hO
  have hv0 := (OKs_cons.mp hO).1
  have hw0 := (OKs_cons.mp (OKs_cons.mp hO).2).1
  exact lv_dup2_11 C.1 C.2.1 hd (cv_cat hv) (cv_cat hw) (k p l e s m args below meth c H locs cells slots mc ms lsM C hW hS h1 h2 hL (OKs_cons.mpr ⟨hv0, OKs_cons.mpr ⟨hw0, hO⟩⟩))
theorem AW_dup_x1 {v w : AV} (hd : decode M.2.1 pc = .ok (.dup_x1, 1)) (k : AW M G d bc bs Qz (pc + 1) ls (v :: w :: v :: st) σ) (hv : nLg v := by trivial) (hw : nLg w := by trivial) : AW M G d bc bs Qz pc ls (v :: w :: st) σ := by
  intro p l e s m args below meth c H locs cells slots mc ms lsM C hW hS h1 h2 hL hO
  have hv0 := (OKs_cons.mp hO).1
  have hw0 := (OKs_cons.mp (OKs_cons.mp hO).2).1
  have hr0 := (OKs_cons.mp (OKs_cons.mp hO).2).2
  exact lv_dup_x1 C.1 C.2.1 hd (cv_cat hv) (cv_cat hw) (k p l e s m args below meth c H locs cells slots mc ms lsM C hW hS h1 h2 hL (OKs_cons.mpr ⟨hv0, OKs_cons.mpr ⟨hw0, OKs_cons.mpr ⟨hv0, hr0⟩⟩⟩))
theorem AW_goto {off : Int} {tgt : Nat} (hd : decode M.2.1 pc = .ok (.goto off, 3)) (ht : (pc : Int) + off = (tgt : Int)) (k : AW M G d bc bs Qz tgt ls st σ) : AW M G d bc bs Qz pc ls st σ := by
  intro p l e s m args below meth c H locs cells slots mc ms lsM C hW hS h1 h2 hL hO
  exact lv_goto C.1 C.2.1 hd ht (k p l e s m args below meth c H locs cells slots mc ms lsM C hW hS h1 h2 hL hO)
theorem AW_icmp_eq {a b : Int} {off : Int} {tgt : Nat} (hd : decode M.2.1 pc = .ok (.if_icmp .eq off, 3)) (ht : (pc : Int) + off = (tgt : Int)) (kt : a = b → AW M G d bc bs Qz tgt ls st σ) (kf : ¬ a = b → AW M G d bc bs Qz (pc + 3) ls st σ) : AW M G d bc bs Qz pc ls (vI b :: vI a :: st) σ := by
  intro p l e s m args below meth c H locs cells slots mc ms lsM C hW hS h1 h2 hL hO
  have hB := (OKs_cons.mp hO).1
  have hA := (OKs_cons.mp (OKs_cons.mp hO).2).1
  have hO2 := (OKs_cons.mp (OKs_cons.mp hO).2).2
  have hiff := (eqI hA hB)
  exact lv_icmp_eq C.1 C.2.1 hd ht (fun h => kt (by rw [hiff] at h; exact h) p l e s m args below meth c H locs cells slots mc ms lsM C hW hS h1 h2 hL hO2) (fun h => kf (by rw [hiff] at h; exact h) p l e s m args below meth c H locs cells slots mc ms lsM C hW hS h1 h2 hL hO2)
theorem AW_if_eq {a : Int} {off : Int} {tgt : Nat} (hd : decode M.2.1 pc = .ok (.ifCond .eq off, 3)) (ht : (pc : Int) + off = (tgt : Int)) (kt : a = 0 → AW M G d bc bs Qz tgt ls st σ) (kf : ¬ a = 0 → AW M G d bc bs Qz (pc + 3) ls st σ) : AW M G d bc bs Qz pc ls (vI a :: st) σ := by
  intro p l e s m args below meth c H locs cells slots mc ms lsM C hW hS h1 h2 hL hO
  have hB : InR 0 := in0
  have hA := (OKs_cons.mp hO).1
  have hO2 := (OKs_cons.mp hO).2
  have hiff := (eqI hA hB)
  exact lv_if_eq C.1 C.2.1 hd ht (fun h => kt (by exact hiff.mp h) p l e s m args below meth c H locs cells slots mc ms lsM C hW hS h1 h2 hL hO2) (fun h => kf (by exact fun q => h (hiff.mpr q)) p l e s m args below meth c H locs cells slots mc ms lsM C hW hS h1 h2 hL hO2)
theorem AW_icmp_ne {a b : Int} {off : Int} {tgt : Nat} (hd : decode M.2.1 pc = .ok (.if_icmp .ne off, 3)) (ht : (pc : Int) + off = (tgt : Int)) (kt : ¬ a = b → AW M G d bc bs Qz tgt ls st σ) (kf : a = b → AW M G d bc bs Qz (pc + 3) ls st σ) : AW M G d bc bs Qz pc ls (vI b :: vI a :: st) σ := by
  intro p l e s m args below meth c H locs cells slots mc ms lsM C hW hS h1 h2 hL hO
  have hB := (OKs_cons.mp hO).1
  have hA := (OKs_cons.mp (OKs_cons.mp hO).2).1
  have hO2 := (OKs_cons.mp (OKs_cons.mp hO).2).2
  have hiff := (eqI hA hB)
  exact lv_icmp_ne C.1 C.2.1 hd ht (fun h => kt (by rw [hiff] at h; exact h) p l e s m args below meth c H locs cells slots mc ms lsM C hW hS h1 h2 hL hO2) (fun h => kf (by rw [hiff] at h; exact h) p l e s m args below meth c H locs cells slots mc ms lsM C hW hS h1 h2 hL hO2)
theorem AW_if_ne {a : Int} {off : Int} {tgt : Nat} (hd : decode M.2.1 pc = .ok (.ifCond .ne off, 3)) (ht : (pc : Int) + off = (tgt : Int)) (kt : ¬ a = 0 → AW M G d bc bs Qz tgt ls st σ) (kf : a = 0 → AW M G d bc bs Qz (pc + 3) ls st σ) : AW M G d bc bs Qz pc ls (vI a :: st) σ := by
  intro p l e s m args below meth c H locs cells slots mc ms lsM C hW hS h1 h2 hL hO
  have hB : InR 0 := in0
  have hA := (OKs_cons.mp hO).1
  have hO2 := (OKs_cons.mp hO).2
  have hiff := (eqI hA hB)
  exact lv_if_ne C.1 C.2.1 hd ht (fun h => kt (by exact fun q => h (hiff.mpr q)) p l e s m args below meth c H locs cells slots mc ms lsM C hW hS h1 h2 hL hO2) (fun h => kf (by exact hiff.mp h) p l e s m args below meth c H locs cells slots mc ms lsM C hW hS h1 h2 hL hO2)
theorem AW_icmp_lt {a b : Int} {off : Int} {tgt : Nat} (hd : decode M.2.1 pc = .ok (.if_icmp .lt off, 3)) (ht : (pc : Int) + off = (tgt : Int)) (kt : a < b → AW M G d bc bs Qz tgt ls st σ) (kf : ¬ a < b → AW M G d bc bs Qz (pc + 3) ls st σ) : AW M G d bc bs Qz pc ls (vI b :: vI a :: st) σ := by
  intro p l e s m args below meth c H locs cells slots mc ms lsM C hW hS h1 h2 hL hO
  have hB := (OKs_cons.mp hO).1
  have hA := (OKs_cons.mp (OKs_cons.mp hO).2).1
  have hO2 := (OKs_cons.mp (OKs_cons.mp hO).2).2
  have hiff := (ltI hA hB)
  exact lv_icmp_lt C.1 C.2.1 hd ht (fun h => kt (by rw [hiff] at h; exact h) p l e s m args below meth c H locs cells slots mc ms lsM C hW hS h1 h2 hL hO2) (fun h => kf (by rw [hiff] at h; exact h) p l e s m args below meth c H locs cells slots mc ms lsM C hW hS h1 h2 hL hO2)
theorem AW_if_lt {a : Int} {off : Int} {tgt : Nat} (hd : decode M.2.1 pc = .ok (.ifCond .lt off, 3)) (ht : (pc : Int) + off = (tgt : Int)) (kt : a < 0 → AW M G d bc bs Qz tgt ls st σ) (kf : ¬ a < 0 → AW M G d bc bs Qz (pc + 3) ls st σ) : AW M G d bc bs Qz pc ls (vI a :: st) σ := by
  intro p l e s m args below meth c H locs cells slots mc ms lsM C hW hS h1 h2 hL hO
  have hB : InR 0 := in0
  have hA := (OKs_cons.mp hO).1
  have hO2 := (OKs_cons.mp hO).2
  have hiff := (ltI hA hB)
  exact lv_if_lt C.1 C.2.1 hd ht (fun h => kt (by exact hiff.mp h) p l e s m args below meth c H locs cells slots mc ms lsM C hW hS h1 h2 hL hO2) (fun h => kf (by exact fun q => h (hiff.mpr q)) p l e s m args below meth c H locs cells slots mc ms lsM C hW hS h1 h2 hL hO2)
theorem AW_icmp_ge {a b : Int} {off : Int} {tgt : Nat} (hd : decode M.2.1 pc = .ok (.if_icmp .ge off, 3)) (ht : (pc : Int) + off = (tgt : Int)) (kt : b ≤ a → AW M G d bc bs Qz tgt ls st σ) (kf : ¬ b ≤ a → AW M G d bc bs Qz (pc + 3) ls st σ) : AW M G d bc bs Qz pc ls (vI b :: vI a :: st) σ := by
  intro p l e s m args below meth c H locs cells slots mc ms lsM C hW hS h1 h2 hL hO
  have hB := (OKs_cons.mp hO).1
  have hA := (OKs_cons.mp (OKs_cons.mp hO).2).1
  have hO2 := (OKs_cons.mp (OKs_cons.mp hO).2).2
  have hiff := (leI hB hA)
  exact lv_icmp_ge C.1 C.2.1 hd ht (fun h => kt (by rw [hiff] at h; exact h) p l e s m args below meth c H locs cells slots mc ms lsM C hW hS h1 h2 hL hO2) (fun h => kf (by rw [hiff] at h; exact h) p l e s m args below meth c H locs cells slots mc ms lsM C hW hS h1 h2 hL hO2)
theorem AW_if_ge {a : Int} {off : Int} {tgt : Nat} (hd : decode M.2.1 pc = .ok (.ifCond .ge off, 3)) (ht : (pc : Int) + off = (tgt : Int)) (kt : 0 ≤ a → AW M G d bc bs Qz tgt ls st σ) (kf : ¬ 0 ≤ a → AW M G d bc bs Qz (pc + 3) ls st σ) : AW M G d bc bs Qz pc ls (vI a :: st) σ := by
  intro p l e s m args below meth c H locs cells slots mc ms lsM C hW hS h1 h2 hL hO
  have hB : InR 0 := in0
  have hA := (OKs_cons.mp hO).1
  have hO2 := (OKs_cons.mp hO).2
  have hiff := (leI hB hA)
  exact lv_if_ge C.1 C.2.1 hd ht (fun h => kt (by exact hiff.mp h) p l e s m args below meth c H locs cells slots mc ms lsM C hW hS h1 h2 hL hO2) (fun h => kf (by exact fun q => h (hiff.mpr q)) p l e s m args below meth c H locs cells slots mc ms lsM C hW hS h1 h2 hL hO2)
theorem AW_icmp_gt {a b : Int} {off : Int} {tgt : Nat} (hd : decode M.2.1 pc = .ok (.if_icmp .gt off, 3)) (ht : (pc : Int) + off = (tgt : Int)) (kt : b < a → AW M G d bc bs Qz tgt ls st σ) (kf : ¬ b < a → AW M G d bc bs Qz (pc + 3) ls st σ) : AW M G d bc bs Qz pc ls (vI b :: vI a :: st) σ := by
  intro p l e s m args below meth c H locs cells slots mc ms lsM C hW hS h1 h2 hL hO
  have hB := (OKs_cons.mp hO).1
  have hA := (OKs_cons.mp (OKs_cons.mp hO).2).1
  have hO2 := (OKs_cons.mp (OKs_cons.mp hO).2).2
  have hiff := (ltI hB hA)
  exact lv_icmp_gt C.1 C.2.1 hd ht (fun h => kt (by rw [hiff] at h; exact h) p l e s m args below meth c H locs cells slots mc ms lsM C hW hS h1 h2 hL hO2) (fun h => kf (by rw [hiff] at h; exact h) p l e s m args below meth c H locs cells slots mc ms lsM C hW hS h1 h2 hL hO2)
theorem AW_if_gt {a : Int} {off : Int} {tgt : Nat} (hd : decode M.2.1 pc = .ok (.ifCond .gt off, 3)) (ht : (pc : Int) + off = (tgt : Int)) (kt : 0 < a → AW M G d bc bs Qz tgt ls st σ) (kf : ¬ 0 < a → AW M G d bc bs Qz (pc + 3) ls st σ) : AW M G d bc bs Qz pc ls (vI a :: st) σ := by
  intro p l e s m args below meth c H locs cells slots mc ms lsM C hW hS h1 h2 hL hO
  have hB : InR 0 := in0
  have hA := (OKs_cons.mp hO).1
  have hO2 := (OKs_cons.mp hO).2
  have hiff := (ltI hB hA)
  exact lv_if_gt C.1 C.2.1 hd ht (fun h => kt (by exact hiff.mp h) p l e s m args below meth c H locs cells slots mc ms lsM C hW hS h1 h2 hL hO2) (fun h => kf (by exact fun q => h (hiff.mpr q)) p l e s m args below meth c H locs cells slots mc ms lsM C hW hS h1 h2 hL hO2)
theorem AW_icmp_le {a b : Int} {off : Int} {tgt : Nat} (hd : decode M.2.1 pc = .ok (.if_icmp .le off, 3)) (ht : (pc : Int) + off = (tgt : Int)) (kt : a ≤ b → AW M G d bc bs Qz tgt ls st σ) (kf : ¬ a ≤ b → AW M G d bc bs Qz (pc + 3) ls st σ) : AW M G d bc bs Qz pc ls (vI b :: vI a :: st) σ := by
  intro p l e s m args below meth c H locs cells slots mc ms lsM C hW hS h1 h2 hL hO
  have hB := (OKs_cons.mp hO).1
  have hA := (OKs_cons.mp (OKs_cons.mp hO).2).1
  have hO2 := (OKs_cons.mp (OKs_cons.mp hO).2).2
  have hiff := (leI hA hB)
  exact lv_icmp_le C.1 C.2.1 hd ht (fun h => kt (by rw [hiff] at h; exact h) p l e s m args below meth c H locs cells slots mc ms lsM C hW hS h1 h2 hL hO2) (fun h => kf (by rw [hiff] at h; exact h) p l e s m args below meth c H locs cells slots mc ms lsM C hW hS h1 h2 hL hO2)
theorem AW_if_le {a : Int} {off : Int} {tgt : Nat} (hd : decode M.2.1 pc = .ok (.ifCond .le off, 3)) (ht : (pc : Int) + off = (tgt : Int)) (kt : a ≤ 0 → AW M G d bc bs Qz tgt ls st σ) (kf : ¬ a ≤ 0 → AW M G d bc bs Qz (pc + 3) ls st σ) : AW M G d bc bs Qz pc ls (vI a :: st) σ := by
  intro p l e s m args below meth c H locs cells slots mc ms lsM C hW hS h1 h2 hL hO
  have hB : InR 0 := in0
  have hA := (OKs_cons.mp hO).1
  have hO2 := (OKs_cons.mp hO).2
  have hiff := (leI hA hB)
  exact lv_if_le C.1 C.2.1 hd ht (fun h => kt (by exact hiff.mp h) p l e s m args below meth c H locs cells slots mc ms lsM C hW hS h1 h2 hL hO2) (fun h => kf (by exact fun q => h (hiff.mpr q)) p l e s m args below meth c H locs cells slots mc ms lsM C hW hS h1 h2 hL hO2)
theorem AW_ifnull {r : Nat} {off : Int} {tgt : Nat} (hd : decode M.2.1 pc = .ok (.ifnull off, 3)) (ht : (pc : Int) + off = (tgt : Int)) (kt : r = 0 → AW M G d bc bs Qz tgt ls st σ) (kf : ¬ r = 0 → AW M G d bc bs Qz (pc + 3) ls st σ) : AW M G d bc bs Qz pc ls (vR r :: st) σ := by
  intro p l e s m args below meth c H locs cells slots mc ms lsM C hW hS h1 h2 hL hO
  have hO2 := (OKs_cons.mp hO).2
  rw [List.map_cons, show cv G (vR r) = va_rf (crf G r) from rfl]
  by_cases h : r = 0
  · rw [show crf G r = none by simp [crf, h]]
    exact lv_ifnullN C.1 C.2.1 hd ht (kt h p l e s m args below meth c H locs cells slots mc ms lsM C hW hS h1 h2 hL hO2)
  · rw [show crf G r = some (adr G r) by simp [crf, h]]
    exact lv_ifnull C.1 C.2.1 hd (kf h p l e s m args below meth c H locs cells slots mc ms lsM C hW hS h1 h2 hL hO2)
theorem AW_ifnonnull {r : Nat} {off : Int} {tgt : Nat} (hd : decode M.2.1 pc = .ok (.ifnonnull off, 3)) (ht : (pc : Int) + off = (tgt : Int)) (kt : ¬ r = 0 → AW M G d bc bs Qz tgt ls st σ) (kf : r = 0 → AW M G d bc bs Qz (pc + 3) ls st σ) : AW M G d bc bs Qz pc ls (vR r :: st) σ := by
  intro p l e s m args below meth c H locs cells slots mc ms lsM C hW hS h1 h2 hL hO
  have hO2 := (OKs_cons.mp hO).2
  rw [List.map_cons, show cv G (vR r) = va_rf (crf G r) from rfl]
  by_cases h : r = 0
  · rw [show crf G r = none by simp [crf, h]]
    exact lv_ifnonnullN C.1 C.2.1 hd (kf h p l e s m args below meth c H locs cells slots mc ms lsM C hW hS h1 h2 hL hO2)
  · rw [show crf G r = some (adr G r) by simp [crf, h]]
    exact lv_ifnonnull C.1 C.2.1 hd ht (kt h p l e s m args below meth c H locs cells slots mc ms lsM C hW hS h1 h2 hL hO2)
theorem AW_tableOut {dflt lo hi : Int} {offs : Array Int} {len : Nat} {x : Int} {tgt : Nat} (hd : decode M.2.1 pc = .ok (.tableswitch dflt lo hi offs, len)) (h : x < lo ∨ hi < x) (ht : (pc : Int) + dflt = (tgt : Int)) (k : AW M G d bc bs Qz tgt ls st σ) : AW M G d bc bs Qz pc ls (vI x :: st) σ := by
  intro p l e s m args below meth c H locs cells slots mc ms lsM C hW hS h1 h2 hL hO
  exact lv_tableOut C.1 C.2.1 hd (by rw [toI (OKs_cons.mp hO).1]; exact h) ht (k p l e s m args below meth c H locs cells slots mc ms lsM C hW hS h1 h2 hL (OKs_cons.mp hO).2)
theorem AW_tableIn {dflt lo hi : Int} {offs : Array Int} {len : Nat} {x : Int} {off : Int} {tgt : Nat} (hd : decode M.2.1 pc = .ok (.tableswitch dflt lo hi offs, len)) (h3 : ¬ x < lo) (h4 : ¬ hi < x) (ho : offs[(x - lo).toNat]? = some off) (ht : (pc : Int) + off = (tgt : Int)) (k : AW M G d bc bs Qz tgt ls st σ) : AW M G d bc bs Qz pc ls (vI x :: st) σ := by
  intro p l e s m args below meth c H locs cells slots mc ms lsM C hW hS h1 h2 hL hO
  have e1 := toI (OKs_cons.mp hO).1
  exact lv_tableIn C.1 C.2.1 hd (by rw [e1]; exact h3) (by rw [e1]; exact h4) (by rw [e1]; exact ho) ht (k p l e s m args below meth c H locs cells slots mc ms lsM C hW hS h1 h2 hL (OKs_cons.mp hO).2)
theorem AW_lookup {dflt : Int} {ps : Array (Int × Int)} {len : Nat} {x : Int} {off : Int} {tgt : Nat} (hd : decode M.2.1 pc = .ok (.lookupswitch dflt ps, len)) (hp : (ps.toList.zip (ps.toList.drop 1)).all (fun (a, next) => a.1 < next.1) = true) (ho : Op.lookupswitch.offset ps.toList dflt x = off) (ht : (pc : Int) + off = (tgt : Int)) (k : AW M G d bc bs Qz tgt ls st σ) : AW M G d bc bs Qz pc ls (vI x :: st) σ := by
  intro p l e s m args below meth c H locs cells slots mc ms lsM C hW hS h1 h2 hL hO
  have e1 := toI (OKs_cons.mp hO).1
  exact lv_lookup C.1 C.2.1 hd hp (by rw [e1]; exact ho) ht (k p l e s m args below meth c H locs cells slots mc ms lsM C hW hS h1 h2 hL (OKs_cons.mp hO).2)
end ROWS
