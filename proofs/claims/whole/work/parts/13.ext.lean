section EXTR
variable {M : MT} {G : Gt} {d bc bs : Nat} {Qz : QZ} {pc : Nat} {ls : List (Option AV)} {st : List AV} {σ : St}
theorem ext_val {e : Nat} (h0 : e ≠ 0) (h : e < 16) : cv G (vR e) = .ref (G.2.2.2.1 e) := by
  show va_rf (crf G e) = _
  rw [show crf G e = some (G.2.2.2.1 e) by simp [crf, adr, h0, h]]
  rfl
theorem AW_gst {idx e : Nat} {Cn n dsc : String} (hd : decode M.2.1 pc = .ok (.getstatic idx, 3)) (hl : Cond.fieldLink M.1.cls idx Cn n dsc ∈ lw_g) (hz : ∀ s, Kn G s → va_Z Cn n dsc (.ref (G.2.2.2.1 e)) (AG G) s s.heap) (h0 : e ≠ 0) (h16 : e < 16) (k : AW M G d bc bs Qz (pc + 3) ls (vR e :: st) σ) : AW M G d bc bs Qz pc ls st σ := by
  intro p l e2 s m args below meth c H locs cells slots mc ms lsM C hW hS h1 h2 hL hO
  have hts := C.2.2.2.2.2.2.2.1
  have hkk := k p l e2 s m args below meth c H locs cells slots mc ms lsM C hW hS h1 h2 hL (OKs_cons.mpr ⟨trivial, hO⟩)
  rw [List.map_cons, ext_val h0 h16] at hkk
  exact va_gets C.1 C.2.1 (hz s C.2.2.2.2.2.2.2.2) hS C.2.2.2.2.1 (hts_g hts hl) (fun x hx => hx) hd hkk
theorem AW_gstI {idx : Nat} {x : Int} {Cn n dsc : String} (hd : decode M.2.1 pc = .ok (.getstatic idx, 3)) (hl : Cond.fieldLink M.1.cls idx Cn n dsc ∈ lw_g) (hz : ∀ s, Kn G s → va_Z Cn n dsc (.int (Int32.ofInt x)) (AG G) s s.heap) (hx : InR x) (k : AW M G d bc bs Qz (pc + 3) ls (vI x :: st) σ) : AW M G d bc bs Qz pc ls st σ := by
  intro p l e2 s m args below meth c H locs cells slots mc ms lsM C hW hS h1 h2 hL hO
  have hts := C.2.2.2.2.2.2.2.1
  have hkk := k p l e2 s m args below meth c H locs cells slots mc ms lsM C hW hS h1 h2 hL (OKs_cons.mpr ⟨hx, hO⟩)
  exact va_gets C.1 C.2.1 (hz s C.2.2.2.2.2.2.2.2) hS C.2.2.2.2.1 (hts_g hts hl) (fun x hx => hx) hd hkk
theorem AW_xiald {e N : Nat} {f : Nat → Value} {i v : Int} (hd : decode M.2.1 pc = .ok (.iaload, 1)) (hT : ∀ s, Kn G s → va_T .int (G.2.2.2.1 e) N f (AG G) s s.heap) (h0 : e ≠ 0) (h16 : e < 16) (hi0 : 0 ≤ i) (hi : i < N) (hv : f i.toNat = .int (Int32.ofInt v)) (hvr : InR v) (k : AW M G d bc bs Qz (pc + 1) ls (vI v :: st) σ) : AW M G d bc bs Qz pc ls (vI i :: vR e :: st) σ := by
  intro p l e2 s m args below meth c H locs cells slots mc ms lsM C hW hS h1 h2 hL hO
  have hI := (OKs_cons.mp hO).1
  have hkk := k p l e2 s m args below meth c H locs cells slots mc ms lsM C hW hS h1 h2 hL (OKs_cons.mpr ⟨hvr, (OKs_cons.mp (OKs_cons.mp hO).2).2⟩)
  rw [List.map_cons, List.map_cons, ext_val h0 h16]
  exact va_ti C.1 C.2.1 (hT s C.2.2.2.2.2.2.2.2) hS (vpI hI hi0 hi) (by rw [clI hi0 hI]; exact hv) hd hkk
end EXTR
theorem kn_LEAST {G : Gt} {s : State} (h : Kn G s) : va_Z "NotYet$Market" "LEAST" "[I" (.ref (G.2.2.2.1 1)) (AG G) s s.heap ∧ va_T .int (G.2.2.2.1 1) 7 fLEAST (AG G) s s.heap := ⟨h.2.2.2.2.2.2.2.2.2.2.1, h.2.2.2.2.2.2.2.2.2.2.2.1⟩
theorem kn_MOST {G : Gt} {s : State} (h : Kn G s) : va_Z "NotYet$Market" "MOST" "[I" (.ref (G.2.2.2.1 2)) (AG G) s s.heap ∧ va_T .int (G.2.2.2.1 2) 7 fMOST (AG G) s s.heap := ⟨h.2.2.2.2.2.2.2.2.2.2.2.2.1, h.2.2.2.2.2.2.2.2.2.2.2.2.2.1⟩
def lowS (w : Nat) : Int := [0, 1, 1, 0, 1, 0, 0].getD w 0
def higS (w : Nat) : Int := [99, 999, 60, 99, 99, 1, 1].getD w 0
theorem lowS_v : ∀ w, w < 7 → fLEAST w = .int (Int32.ofInt (lowS w)) ∧ InR (lowS w) := by
  intro w hw
  rcases (show w = 0 ∨ w = 1 ∨ w = 2 ∨ w = 3 ∨ w = 4 ∨ w = 5 ∨ w = 6 by omega) with rfl | rfl | rfl | rfl | rfl | rfl | rfl <;> exact ⟨rfl, by decide, by decide⟩
theorem higS_v : ∀ w, w < 7 → fMOST w = .int (Int32.ofInt (higS w)) ∧ InR (higS w) := by
  intro w hw
  rcases (show w = 0 ∨ w = 1 ∨ w = 2 ∨ w = 3 ∨ w = 4 ∨ w = 5 ∨ w = 6 by omega) with rfl | rfl | rfl | rfl | rfl | rfl | rfl <;> exact ⟨rfl, by decide, by decide⟩
theorem gs_LEAST : Cond.fieldLink RX3 45 "NotYet$Market" "LEAST" "[I" ∈ lw_g := mem_g 567 (by decide +kernel) rfl
theorem gs_MOST : Cond.fieldLink RX3 48 "NotYet$Market" "MOST" "[I" ∈ lw_g := mem_g 569 (by decide +kernel) rfl
