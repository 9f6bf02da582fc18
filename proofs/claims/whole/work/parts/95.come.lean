section BUD
variable {M : MT} {G : Gt} {d bc bs : Nat} {Qz : QZ} {pc : Nat} {ls : List (Option AV)} {st : List AV} {σ : St}
theorem AW_up {bc' bs' : Nat} (h1 : bc ≤ bc') (h2 : bs ≤ bs') (k : AW M G d bc bs Qz pc ls st σ) : AW M G d bc' bs' Qz pc ls st σ := fun p l e s m args below meth c H locs cells slots mc ms lsM C hW hS g1 g2 hL hO => k p l e s m args below meth c H locs cells slots mc ms lsM C hW hS (by omega) (by omega) hL hO
theorem AW_callVb0 {M' : MT} {idx r ci N d' bc' bs' : Nat} {Qf : Option AV → St → Prop} (hd : decode M.2.1 pc = .ok (.invokevirtual idx, 3)) (hl : LK M.1.cls idx M' ∨ LKn M.1.cls idx M') (hf : MFv M' 0) (hk : Cel σ r (ci, N)) (hc : ∃ q, cls[ci]? = some q ∧ q.1 = M'.1.cls) (hM : AM M' G d' bc' bs' [vR r] σ Qf) (hd' : d' + 1 ≤ d) (hr : (st.map catA).sum ≤ 8) (kk : ∀ (r : Option AV) (τ : St), Qf r τ → (∀ v, r = some v → OKv v) → AW M G d bc bs Qz (pc + 3) ls (r.toList ++ st) τ) : AW M G d (bc + bc') (bs + bs') Qz pc ls (vR r :: st) σ := AW_callVg (As := []) hd hl hf hk hc hM hd' rfl hr kk
theorem AW_callIb0 {M' : MT} {idx r d' bc' bs' : Nat} {Qf : Option AV → St → Prop} (hd : decode M.2.1 pc = .ok (.invokespecial idx, 3)) (hl : LK M.1.cls idx M' ∨ LKn M.1.cls idx M') (hf : MFi M' 0) (h16 : 16 ≤ r) (hM : AM M' G d' bc' bs' [vR r] σ Qf) (hd' : d' + 1 ≤ d) (hr : (st.map catA).sum ≤ 8) (kk : ∀ (r : Option AV) (τ : St), Qf r τ → (∀ v, r = some v → OKv v) → AW M G d bc bs Qz (pc + 3) ls (r.toList ++ st) τ) : AW M G d (bc + bc') (bs + bs') Qz pc ls (vR r :: st) σ := AW_callIg (As := []) hd hl hf h16 hM hd' rfl hr kk
theorem AW_callSb0 {M' : MT} {idx d' bc' bs' : Nat} {Qf : Option AV → St → Prop} (hd : decode M.2.1 pc = .ok (.invokestatic idx, 3)) (hl : LK M.1.cls idx M') (hf : MFs M' 0) (hM : AM M' G d' bc' bs' [] σ Qf) (hd' : d' + 1 ≤ d) (hr : (st.map catA).sum ≤ 8) (kk : ∀ (r : Option AV) (τ : St), Qf r τ → (∀ v, r = some v → OKv v) → AW M G d bc bs Qz (pc + 3) ls (r.toList ++ st) τ) : AW M G d (bc + bc') (bs + bs') Qz pc ls (st) σ := AW_callSg (As := []) hd hl hf hM hd' rfl hr kk
theorem AW_callVb1 {M' : MT} {idx r ci N d' bc' bs' : Nat} {a1 : AV} {Qf : Option AV → St → Prop} (hd : decode M.2.1 pc = .ok (.invokevirtual idx, 3)) (hl : LK M.1.cls idx M' ∨ LKn M.1.cls idx M') (hf : MFv M' 1) (hk : Cel σ r (ci, N)) (hc : ∃ q, cls[ci]? = some q ∧ q.1 = M'.1.cls) (hM : AM M' G d' bc' bs' [vR r, a1] σ Qf) (hd' : d' + 1 ≤ d) (hr : (st.map catA).sum ≤ 8) (kk : ∀ (r : Option AV) (τ : St), Qf r τ → (∀ v, r = some v → OKv v) → AW M G d bc bs Qz (pc + 3) ls (r.toList ++ st) τ) : AW M G d (bc + bc') (bs + bs') Qz pc ls (a1 :: vR r :: st) σ := AW_callVg (As := [a1]) hd hl hf hk hc hM hd' rfl hr kk
theorem AW_callIb1 {M' : MT} {idx r d' bc' bs' : Nat} {a1 : AV} {Qf : Option AV → St → Prop} (hd : decode M.2.1 pc = .ok (.invokespecial idx, 3)) (hl : LK M.1.cls idx M' ∨ LKn M.1.cls idx M') (hf : MFi M' 1) (h16 : 16 ≤ r) (hM : AM M' G d' bc' bs' [vR r, a1] σ Qf) (hd' : d' + 1 ≤ d) (hr : (st.map catA).sum ≤ 8) (kk : ∀ (r : Option AV) (τ : St), Qf r τ → (∀ v, r = some v → OKv v) → AW M G d bc bs Qz (pc + 3) ls (r.toList ++ st) τ) : AW M G d (bc + bc') (bs + bs') Qz pc ls (a1 :: vR r :: st) σ := AW_callIg (As := [a1]) hd hl hf h16 hM hd' rfl hr kk
theorem AW_callSb1 {M' : MT} {idx d' bc' bs' : Nat} {a1 : AV} {Qf : Option AV → St → Prop} (hd : decode M.2.1 pc = .ok (.invokestatic idx, 3)) (hl : LK M.1.cls idx M') (hf : MFs M' 1) (hM : AM M' G d' bc' bs' [a1] σ Qf) (hd' : d' + 1 ≤ d) (hr : (st.map catA).sum ≤ 8) (kk : ∀ (r : Option AV) (τ : St), Qf r τ → (∀ v, r = some v → OKv v) → AW M G d bc bs Qz (pc + 3) ls (r.toList ++ st) τ) : AW M G d (bc + bc') (bs + bs') Qz pc ls (a1 :: st) σ := AW_callSg (As := [a1]) hd hl hf hM hd' rfl hr kk
theorem AW_callVb2 {M' : MT} {idx r ci N d' bc' bs' : Nat} {a1 a2 : AV} {Qf : Option AV → St → Prop} (hd : decode M.2.1 pc = .ok (.invokevirtual idx, 3)) (hl : LK M.1.cls idx M' ∨ LKn M.1.cls idx M') (hf : MFv M' 2) (hk : Cel σ r (ci, N)) (hc : ∃ q, cls[ci]? = some q ∧ q.1 = M'.1.cls) (hM : AM M' G d' bc' bs' [vR r, a1, a2] σ Qf) (hd' : d' + 1 ≤ d) (hr : (st.map catA).sum ≤ 8) (kk : ∀ (r : Option AV) (τ : St), Qf r τ → (∀ v, r = some v → OKv v) → AW M G d bc bs Qz (pc + 3) ls (r.toList ++ st) τ) : AW M G d (bc + bc') (bs + bs') Qz pc ls (a2 :: a1 :: vR r :: st) σ := AW_callVg (As := [a1, a2]) hd hl hf hk hc hM hd' rfl hr kk
theorem AW_callIb2 {M' : MT} {idx r d' bc' bs' : Nat} {a1 a2 : AV} {Qf : Option AV → St → Prop} (hd : decode M.2.1 pc = .ok (.invokespecial idx, 3)) (hl : LK M.1.cls idx M' ∨ LKn M.1.cls idx M') (hf : MFi M' 2) (h16 : 16 ≤ r) (hM : AM M' G d' bc' bs' [vR r, a1, a2] σ Qf) (hd' : d' + 1 ≤ d) (hr : (st.map catA).sum ≤ 8) (kk : ∀ (r : Option AV) (τ : St), Qf r τ → (∀ v, r = some v → OKv v) → AW M G d bc bs Qz (pc + 3) ls (r.toList ++ st) τ) : AW M G d (bc + bc') (bs + bs') Qz pc ls (a2 :: a1 :: vR r :: st) σ := AW_callIg (As := [a1, a2]) hd hl hf h16 hM hd' rfl hr kk
theorem AW_callSb2 {M' : MT} {idx d' bc' bs' : Nat} {a1 a2 : AV} {Qf : Option AV → St → Prop} (hd : decode M.2.1 pc = .ok (.invokestatic idx, 3)) (hl : LK M.1.cls idx M') (hf : MFs M' 2) (hM : AM M' G d' bc' bs' [a1, a2] σ Qf) (hd' : d' + 1 ≤ d) (hr : (st.map catA).sum ≤ 8) (kk : ∀ (r : Option AV) (τ : St), Qf r τ → (∀ v, r = some v → OKv v) → AW M G d bc bs Qz (pc + 3) ls (r.toList ++ st) τ) : AW M G d (bc + bc') (bs + bs') Qz pc ls (a2 :: a1 :: st) σ := AW_callSg (As := [a1, a2]) hd hl hf hM hd' rfl hr kk
theorem AW_callVb3 {M' : MT} {idx r ci N d' bc' bs' : Nat} {a1 a2 a3 : AV} {Qf : Option AV → St → Prop} (hd : decode M.2.1 pc = .ok (.invokevirtual idx, 3)) (hl : LK M.1.cls idx M' ∨ LKn M.1.cls idx M') (hf : MFv M' 3) (hk : Cel σ r (ci, N)) (hc : ∃ q, cls[ci]? = some q ∧ q.1 = M'.1.cls) (hM : AM M' G d' bc' bs' [vR r, a1, a2, a3] σ Qf) (hd' : d' + 1 ≤ d) (hr : (st.map catA).sum ≤ 8) (kk : ∀ (r : Option AV) (τ : St), Qf r τ → (∀ v, r = some v → OKv v) → AW M G d bc bs Qz (pc + 3) ls (r.toList ++ st) τ) : AW M G d (bc + bc') (bs + bs') Qz pc ls (a3 :: a2 :: a1 :: vR r :: st) σ := AW_callVg (As := [a1, a2, a3]) hd hl hf hk hc hM hd' rfl hr kk
theorem AW_callIb3 {M' : MT} {idx r d' bc' bs' : Nat} {a1 a2 a3 : AV} {Qf : Option AV → St → Prop} (hd : decode M.2.1 pc = .ok (.invokespecial idx, 3)) (hl : LK M.1.cls idx M' ∨ LKn M.1.cls idx M') (hf : MFi M' 3) (h16 : 16 ≤ r) (hM : AM M' G d' bc' bs' [vR r, a1, a2, a3] σ Qf) (hd' : d' + 1 ≤ d) (hr : (st.map catA).sum ≤ 8) (kk : ∀ (r : Option AV) (τ : St), Qf r τ → (∀ v, r = some v → OKv v) → AW M G d bc bs Qz (pc + 3) ls (r.toList ++ st) τ) : AW M G d (bc + bc') (bs + bs') Qz pc ls (a3 :: a2 :: a1 :: vR r :: st) σ := AW_callIg (As := [a1, a2, a3]) hd hl hf h16 hM hd' rfl hr kk
theorem AW_callSb3 {M' : MT} {idx d' bc' bs' : Nat} {a1 a2 a3 : AV} {Qf : Option AV → St → Prop} (hd : decode M.2.1 pc = .ok (.invokestatic idx, 3)) (hl : LK M.1.cls idx M') (hf : MFs M' 3) (hM : AM M' G d' bc' bs' [a1, a2, a3] σ Qf) (hd' : d' + 1 ≤ d) (hr : (st.map catA).sum ≤ 8) (kk : ∀ (r : Option AV) (τ : St), Qf r τ → (∀ v, r = some v → OKv v) → AW M G d bc bs Qz (pc + 3) ls (r.toList ++ st) τ) : AW M G d (bc + bc') (bs + bs') Qz pc ls (a3 :: a2 :: a1 :: st) σ := AW_callSg (As := [a1, a2, a3]) hd hl hf hM hd' rfl hr kk
theorem AW_callVb4 {M' : MT} {idx r ci N d' bc' bs' : Nat} {a1 a2 a3 a4 : AV} {Qf : Option AV → St → Prop} (hd : decode M.2.1 pc = .ok (.invokevirtual idx, 3)) (hl : LK M.1.cls idx M' ∨ LKn M.1.cls idx M') (hf : MFv M' 4) (hk : Cel σ r (ci, N)) (hc : ∃ q, cls[ci]? = some q ∧ q.1 = M'.1.cls) (hM : AM M' G d' bc' bs' [vR r, a1, a2, a3, a4] σ Qf) (hd' : d' + 1 ≤ d) (hr : (st.map catA).sum ≤ 8) (kk : ∀ (r : Option AV) (τ : St), Qf r τ → (∀ v, r = some v → OKv v) → AW M G d bc bs Qz (pc + 3) ls (r.toList ++ st) τ) : AW M G d (bc + bc') (bs + bs') Qz pc ls (a4 :: a3 :: a2 :: a1 :: vR r :: st) σ := AW_callVg (As := [a1, a2, a3, a4]) hd hl hf hk hc hM hd' rfl hr kk
theorem AW_callIb4 {M' : MT} {idx r d' bc' bs' : Nat} {a1 a2 a3 a4 : AV} {Qf : Option AV → St → Prop} (hd : decode M.2.1 pc = .ok (.invokespecial idx, 3)) (hl : LK M.1.cls idx M' ∨ LKn M.1.cls idx M') (hf : MFi M' 4) (h16 : 16 ≤ r) (hM : AM M' G d' bc' bs' [vR r, a1, a2, a3, a4] σ Qf) (hd' : d' + 1 ≤ d) (hr : (st.map catA).sum ≤ 8) (kk : ∀ (r : Option AV) (τ : St), Qf r τ → (∀ v, r = some v → OKv v) → AW M G d bc bs Qz (pc + 3) ls (r.toList ++ st) τ) : AW M G d (bc + bc') (bs + bs') Qz pc ls (a4 :: a3 :: a2 :: a1 :: vR r :: st) σ := AW_callIg (As := [a1, a2, a3, a4]) hd hl hf h16 hM hd' rfl hr kk
theorem AW_callSb4 {M' : MT} {idx d' bc' bs' : Nat} {a1 a2 a3 a4 : AV} {Qf : Option AV → St → Prop} (hd : decode M.2.1 pc = .ok (.invokestatic idx, 3)) (hl : LK M.1.cls idx M') (hf : MFs M' 4) (hM : AM M' G d' bc' bs' [a1, a2, a3, a4] σ Qf) (hd' : d' + 1 ≤ d) (hr : (st.map catA).sum ≤ 8) (kk : ∀ (r : Option AV) (τ : St), Qf r τ → (∀ v, r = some v → OKv v) → AW M G d bc bs Qz (pc + 3) ls (r.toList ++ st) τ) : AW M G d (bc + bc') (bs + bs') Qz pc ls (a4 :: a3 :: a2 :: a1 :: st) σ := AW_callSg (As := [a1, a2, a3, a4]) hd hl hf hM hd' rfl hr kk
theorem AW_callVb5 {M' : MT} {idx r ci N d' bc' bs' : Nat} {a1 a2 a3 a4 a5 : AV} {Qf : Option AV → St → Prop} (hd : decode M.2.1 pc = .ok (.invokevirtual idx, 3)) (hl : LK M.1.cls idx M' ∨ LKn M.1.cls idx M') (hf : MFv M' 5) (hk : Cel σ r (ci, N)) (hc : ∃ q, cls[ci]? = some q ∧ q.1 = M'.1.cls) (hM : AM M' G d' bc' bs' [vR r, a1, a2, a3, a4, a5] σ Qf) (hd' : d' + 1 ≤ d) (hr : (st.map catA).sum ≤ 8) (kk : ∀ (r : Option AV) (τ : St), Qf r τ → (∀ v, r = some v → OKv v) → AW M G d bc bs Qz (pc + 3) ls (r.toList ++ st) τ) : AW M G d (bc + bc') (bs + bs') Qz pc ls (a5 :: a4 :: a3 :: a2 :: a1 :: vR r :: st) σ := AW_callVg (As := [a1, a2, a3, a4, a5]) hd hl hf hk hc hM hd' rfl hr kk
theorem AW_callIb5 {M' : MT} {idx r d' bc' bs' : Nat} {a1 a2 a3 a4 a5 : AV} {Qf : Option AV → St → Prop} (hd : decode M.2.1 pc = .ok (.invokespecial idx, 3)) (hl : LK M.1.cls idx M' ∨ LKn M.1.cls idx M') (hf : MFi M' 5) (h16 : 16 ≤ r) (hM : AM M' G d' bc' bs' [vR r, a1, a2, a3, a4, a5] σ Qf) (hd' : d' + 1 ≤ d) (hr : (st.map catA).sum ≤ 8) (kk : ∀ (r : Option AV) (τ : St), Qf r τ → (∀ v, r = some v → OKv v) → AW M G d bc bs Qz (pc + 3) ls (r.toList ++ st) τ) : AW M G d (bc + bc') (bs + bs') Qz pc ls (a5 :: a4 :: a3 :: a2 :: a1 :: vR r :: st) σ := AW_callIg (As := [a1, a2, a3, a4, a5]) hd hl hf h16 hM hd' rfl hr kk
theorem AW_callSb5 {M' : MT} {idx d' bc' bs' : Nat} {a1 a2 a3 a4 a5 : AV} {Qf : Option AV → St → Prop} (hd : decode M.2.1 pc = .ok (.invokestatic idx, 3)) (hl : LK M.1.cls idx M') (hf : MFs M' 5) (hM : AM M' G d' bc' bs' [a1, a2, a3, a4, a5] σ Qf) (hd' : d' + 1 ≤ d) (hr : (st.map catA).sum ≤ 8) (kk : ∀ (r : Option AV) (τ : St), Qf r τ → (∀ v, r = some v → OKv v) → AW M G d bc bs Qz (pc + 3) ls (r.toList ++ st) τ) : AW M G d (bc + bc') (bs + bs') Qz pc ls (a5 :: a4 :: a3 :: a2 :: a1 :: st) σ := AW_callSg (As := [a1, a2, a3, a4, a5]) hd hl hf hM hd' rfl hr kk
end BUD
theorem nw_k (σ : St) (k : Nat × Nat) (r : Nat) : (nwC σ k).1 r = if r = σ.2.2.2 then k else σ.1 r := rfl
theorem nw_i (σ : St) (k : Nat × Nat) (r j : Nat) : (nwC σ k).2.1 r j = if r = σ.2.2.2 then 0 else σ.2.1 r j := rfl
theorem nw_r (σ : St) (k : Nat × Nat) (r j : Nat) : (nwC σ k).2.2.1 r j = if r = σ.2.2.2 then 0 else σ.2.2.1 r j := rfl
theorem Cel.nw {σ : St} {r : Nat} {k : Nat × Nat} (h : Cel σ r k) (k' : Nat × Nat) : Cel (nwC σ k') r k := ⟨h.1, Nat.lt_succ_of_lt h.2.1, by have h2 := h.2.1; rw [nw_k, if_neg (by omega)]; exact h.2.2⟩
theorem Cel.new {σ : St} (h : 16 ≤ σ.2.2.2) (k : Nat × Nat) : Cel (nwC σ k) σ.2.2.2 k := ⟨h, Nat.lt_succ_self _, by rw [nw_k, if_pos rfl]⟩
theorem Cel.cpR {σ : St} {r : Nat} {k : Nat × Nat} (h : Cel σ r k) (r0 r1 sp dp n : Nat) : Cel (cpR σ r0 r1 sp dp n) r k := h
theorem kn_AL {G : Gt} (s : State) (h : Kn G s) : va_Z "java/util/ArrayList" "DEFAULTCAPACITY_EMPTY_ELEMENTDATA" "[Ljava/lang/Object;" (.ref (G.2.2.2.1 3)) (AG G) s s.heap := h.2.2.2.2.2.2.2.2.1
theorem kn_AT {G : Gt} (s : State) (h : Kn G s) : va_T (.object "java/lang/Object") (G.2.2.2.1 3) 0 (fun _ => .null) (AG G) s s.heap := h.2.2.2.2.2.2.2.2.2.1
theorem cl_AO : Cond.classLink RJ7 2 "java/lang/Object" ∈ lw_g := mem_g 405 (by decide +kernel) rfl
theorem cl_AM : Cond.classLink RJ7 110 "[Ljava/lang/Object;" ∈ lw_g := mem_g 403 (by decide +kernel) rfl
theorem cl_LO : Cond.classLink RJx4a65c 7 "java/lang/Object" ∈ lw_g := mem_g 413 (by decide +kernel) rfl
theorem ml_gc : Cond.methodLink RJ7 86 ⟨"java/lang/Object", "getClass", "()Ljava/lang/Class;"⟩ ∈ lw_g := mem_g 382 (by decide +kernel) rfl
theorem ac_J7 : Cond.methodLink RJ7 150 arraycopyName ∈ lw_g := mem_g 409 (by decide +kernel) rfl
theorem gs_AL : Cond.fieldLink RJx4a65c 39 "java/util/ArrayList" "DEFAULTCAPACITY_EMPTY_ELEMENTDATA" "[Ljava/lang/Object;" ∈ lw_g := mem_g 337 (by decide +kernel) rfl
theorem k_newLen {G : Gt} {d : Nat} {σ : St} (hd : 1 ≤ d)  (a b c : Int) (ha : 0 ≤ a ∧ a ≤ 1000) (hb : 0 < b ∧ b ≤ 1000) (hc : 0 ≤ c ∧ c ≤ 1000) : AM mJ8_newLength_cabcc G d 0 0 [vI a, vI b, vI c] σ (fun r τ => τ = σ ∧ r = some (vI (a + (if b < c then c else b)))) := by
  refine AM.intro (by decide +kernel) (by simp [nLg]) (Nat.le_of_ble_eq_true rfl) (fun hO => ?_)
  have i_a : -2147483648 ≤ a ∧ a < 2147483648 := hO (vI a) (by simp)
  have i_b : -2147483648 ≤ b ∧ b < 2147483648 := hO (vI b) (by simp)
  have i_c : -2147483648 ≤ c ∧ c < 2147483648 := hO (vI c) (by simp)
  show AW _ _ _ _ _ _ 0 [some (vI a), some (vI b), some (vI c), none] [] σ
  have hm : 0 < (if b < c then c else b) ∧ (if b < c then c else b) ≤ 1000 := by split <;> omega
  refine AW_iload_n dJ8_newLength_cabcc_0 rfl ?_
  refine AW_iload_n dJ8_newLength_cabcc_1 rfl ?_
  refine AW_iload_n dJ8_newLength_cabcc_2 rfl ?_
  refine AW_mmax dJ8_newLength_cabcc_3 lkJ8_194 (by omega) (Nat.le_of_ble_eq_true rfl) ?_
  refine AW_iaddE dJ8_newLength_cabcc_6 (by omega) (by omega) ?_
  refine AW_istore3 dJ8_newLength_cabcc_7 ?_
  refine AW_iconst dJ8_newLength_cabcc_8 ?_
  refine AW_iload_n dJ8_newLength_cabcc_9 rfl ?_
  refine AW_icmp_ge (tgt := 21) dJ8_newLength_cabcc_10 (by decide) (fun c_10 => ?_) (fun c_10 => ?_)
  · skip
    exact absurd c_10 (by omega)
  · skip
    refine AW_iload_n dJ8_newLength_cabcc_13 rfl ?_
    refine AW_ldc (2147483639) dJ8_newLength_cabcc_14 ctJ8_200 ?_
    refine AW_icmp_gt (tgt := 21) dJ8_newLength_cabcc_16 (by decide) (fun c_16 => ?_) (fun c_16 => ?_)
    · skip
      exact absurd c_16 (by omega)
    · skip
      refine AW_iload_n dJ8_newLength_cabcc_19 rfl ?_
      refine AW_iret dJ8_newLength_cabcc_20 rfl ?_
      exact ⟨rfl, rfl⟩
theorem k_copyR3 {G : Gt} {d : Nat} {σ : St} (hd : 1 ≤ d) {ea N L : Nat} (h16 : 16 ≤ σ.2.2.2) (ha : Cel σ ea (23, N)) (hNL : N ≤ L) (hL : L ≤ 1000) (hel : ∀ i, i < N → σ.2.2.1 ea i = 0 ∨ ∃ ci N2, Cel σ (σ.2.2.1 ea i) (ci, N2) ∧ CO ci) : AM mJ7_copyOf_6403c G d 1 L [vR ea, vI (L : Int), vR 9] σ (fun ro ρ => ro = some (vR σ.2.2.2) ∧ ρ = cpR (nwC σ (23, L)) ea σ.2.2.2 0 0 N) := by
  refine AM.intro (by decide +kernel) (by simp [nLg]) (Nat.le_of_ble_eq_true rfl) (fun hO => ?_)
  show AW _ _ _ _ _ _ 0 [some (vR ea), some (vI (L : Int)), some (vR 9), none] [] σ
  refine AW_aload_n dJ7_copyOf_6403c_0 rfl ?_
  refine AW_ldcM dJ7_copyOf_6403c_1 cl_AM ?_
  refine AW_acmp_ne (tgt := 13) dJ7_copyOf_6403c_3 (by decide) (fun c_3 => ?_) (fun c_3 => ?_)
  · skip
    exact absurd rfl c_3
  · skip
    refine AW_iload_n dJ7_copyOf_6403c_6 rfl ?_
    refine AW_up (bc := 0 + 1) (bs := 0 + (L : Int).toNat) (by omega) (by omega) ?_
    refine AW_anew dJ7_copyOf_6403c_7 cl_AO (by omega) (by omega) ?_
    rw [Int.toNat_natCast]
    refine AW_goto (tgt := 24) dJ7_copyOf_6403c_10 (by decide) ?_
    refine AW_astore3 dJ7_copyOf_6403c_24 ?_
    refine AW_aload_n dJ7_copyOf_6403c_25 rfl ?_
    refine AW_iconst dJ7_copyOf_6403c_26 ?_
    refine AW_aload_n dJ7_copyOf_6403c_27 rfl ?_
    refine AW_iconst dJ7_copyOf_6403c_28 ?_
    refine AW_aload_n dJ7_copyOf_6403c_29 rfl ?_
    refine AW_alen dJ7_copyOf_6403c_30 (ha.nw _) (by decide) (by omega) ?_
    refine AW_iload_n dJ7_copyOf_6403c_31 rfl ?_
    refine AW_mmin dJ7_copyOf_6403c_32 lkJ7_304 (by omega) (Nat.le_of_ble_eq_true rfl) ?_
    rw [if_neg (by omega)]
    refine AW_copyR (r0 := ea) (r1 := σ.2.2.2) (n0 := N) (n1 := L) dJ7_copyOf_6403c_35 ac_J7 (ha.nw _) (Cel.new h16 _) (by decide) (by decide) (by omega) (by omega) (by omega) (fun i hi => ?_) (by omega) (Nat.le_of_ble_eq_true rfl) ?_
    · rw [nw_r, if_neg (by have := ha.2.1; omega)]
      rcases hel (Int.toNat 0 + i) (by rw [show Int.toNat 0 = 0 from rfl]; omega) with q | ⟨ci, N2, q1, q2⟩
      · exact Or.inl q
      · exact Or.inr ⟨ci, N2, q1.nw _, q2⟩
    rw [show Int.toNat 0 = 0 from rfl, Int.toNat_natCast]
    refine AW_aload_n dJ7_copyOf_6403c_38 rfl ?_
    refine AW_aret dJ7_copyOf_6403c_39 rfl ?_
    exact ⟨rfl, rfl⟩
theorem k_copyR {G : Gt} {d : Nat} {σ : St} (hd : 2 ≤ d) {ea N L : Nat} (h16 : 16 ≤ σ.2.2.2) (ha : Cel σ ea (23, N)) (hNL : N ≤ L) (hL : L ≤ 1000) (hel : ∀ i, i < N → σ.2.2.1 ea i = 0 ∨ ∃ ci N2, Cel σ (σ.2.2.1 ea i) (ci, N2) ∧ CO ci) : AM mJ7_copyOf_1904c G d 1 L [vR ea, vI (L : Int)] σ (fun ro ρ => ro = some (vR σ.2.2.2) ∧ ρ = cpR (nwC σ (23, L)) ea σ.2.2.2 0 0 N) := by
  refine AM.intro (by decide +kernel) (by simp [nLg]) (Nat.le_of_ble_eq_true rfl) (fun hO => ?_)
  show AW _ _ _ _ _ _ 0 [some (vR ea), some (vI (L : Int))] [] σ
  refine AW_up (bc := 0 + 1) (bs := 0 + L) (by omega) (by omega) ?_
  refine AW_aload_n dJ7_copyOf_1904c_0 rfl ?_
  refine AW_iload_n dJ7_copyOf_1904c_1 rfl ?_
  refine AW_aload_n dJ7_copyOf_1904c_2 rfl ?_
  refine AW_getC dJ7_copyOf_1904c_3 ml_gc ha (by omega) (Nat.le_of_ble_eq_true rfl) ?_
  refine AW_callSb3 (d' := d - 1) dJ7_copyOf_1904c_6 lkJ7_300 mfJ7_copyOf_6403c (k_copyR3 (by omega) h16 ha hNL hL hel) (by omega) (Nat.le_of_ble_eq_true rfl) ?_
  rintro _ _ ⟨rfl, rfl⟩ -
  refine AW_aret dJ7_copyOf_1904c_9 rfl ?_
  exact ⟨rfl, rfl⟩
theorem shr_1 {x : Int} (h0 : 0 ≤ x) (h1 : x < 2147483648) : aShr x 1 = x / 2 := by
  have := shr_val (a := x) ⟨by omega, h1⟩ 1 1 (by decide +kernel)
  rw [this]
  rfl
theorem k_growF {G : Gt} {d : Nat} {σ : St} (hd : 3 ≤ d) {lc ea N : Nat} (h16 : 16 ≤ σ.2.2.2) (hl : Cel σ lc (13, 3)) (he : σ.2.2.1 lc 1 = ea) (ha : Cel σ ea (23, N)) (hN : N = 10 ∨ N = 15 ∨ N = 22 ∨ N = 33) (hel : ∀ i, i < N → σ.2.2.1 ea i = 0 ∨ ∃ ci N2, Cel σ (σ.2.2.1 ea i) (ci, N2) ∧ CO ci) : AM mJx4a65c_grow_92f84 G d 1 (N + N / 2) [vR lc, vI ((N : Int) + 1)] σ (fun ro ρ => ro = some (vR σ.2.2.2) ∧ ρ = upR (cpR (nwC σ (23, N + N / 2)) ea σ.2.2.2 0 0 N) lc 1 σ.2.2.2) := by
  refine AM.intro (by decide +kernel) (by simp [nLg]) (Nat.le_of_ble_eq_true rfl) (fun hO => ?_)
  show AW _ _ _ _ _ _ 0 [some (vR lc), some (vI ((N : Int) + 1)), none, none] [] σ
  refine AW_up (bc := 0 + 1) (bs := 0 + (N + N / 2)) (by omega) (by omega) ?_
  refine AW_aload_n dJx4a65c_grow_92f84_0 rfl ?_
  refine AW_getR (a := ea) dJx4a65c_grow_92f84_1 gfJx4a65c_9 hl he ?_
  refine AW_alen dJx4a65c_grow_92f84_4 ha (by decide) (by omega) ?_
  refine AW_istore2 dJx4a65c_grow_92f84_5 ?_
  refine AW_iload_n dJx4a65c_grow_92f84_6 rfl ?_
  refine AW_if_gt (tgt := 20) dJx4a65c_grow_92f84_7 (by decide) (fun c_7 => ?_) (fun c_7 => ?_)
  · skip
    refine AW_iload_n dJx4a65c_grow_92f84_20 rfl ?_
    refine AW_iload_n dJx4a65c_grow_92f84_21 rfl ?_
    refine AW_iload_n dJx4a65c_grow_92f84_22 rfl ?_
    refine AW_isubE dJx4a65c_grow_92f84_23 (by omega) (by omega) ?_
    refine AW_iload_n dJx4a65c_grow_92f84_24 rfl ?_
    refine AW_iconst dJx4a65c_grow_92f84_25 ?_
    refine AW_ishr dJx4a65c_grow_92f84_26 ?_
    rw [shr_1 (by omega) (by omega)]
    refine AW_callS3 (d' := d - 1) dJx4a65c_grow_92f84_27 lkJx4a65c_73 mfJ8_newLength_cabcc (k_newLen (by omega) _ _ _ (by omega) (by omega) (by omega)) (by omega) (Nat.le_of_ble_eq_true rfl) ?_
    rintro _ _ ⟨e_, rfl⟩ -
    rw [e_]
    clear e_
    refine AW_istore3 dJx4a65c_grow_92f84_30 ?_
    refine AW_aload_n dJx4a65c_grow_92f84_31 rfl ?_
    refine AW_aload_n dJx4a65c_grow_92f84_32 rfl ?_
    refine AW_getR (a := ea) dJx4a65c_grow_92f84_33 gfJx4a65c_9 hl he ?_
    rw [show (N : Int) + (if (N : Int) + 1 - N < (N : Int) / 2 then (N : Int) / 2 else (N : Int) + 1 - N) = ((N + N / 2 : Nat) : Int) by rw [if_pos (by omega)]; omega]
    refine AW_iload_n dJx4a65c_grow_92f84_36 rfl ?_
    refine AW_callSb2 (d' := d - 1) dJx4a65c_grow_92f84_37 lkJx4a65c_66 mfJ7_copyOf_1904c (k_copyR (by omega) h16 ha (by omega) (by omega) hel) (by omega) (Nat.le_of_ble_eq_true rfl) ?_
    rintro _ _ ⟨rfl, rfl⟩ -
    refine AW_dup_x1 dJx4a65c_grow_92f84_40 ?_
    refine AW_putR dJx4a65c_grow_92f84_41 (Or.inl pfJx4a65c_9) ((hl.nw _).cpR _ _ _ _ _) ?_
    refine AW_aret dJx4a65c_grow_92f84_44 rfl ?_
    exact ⟨rfl, rfl⟩
  · skip
    exact absurd c_7 (by omega)
theorem k_growE {G : Gt} {d : Nat} {σ : St} (hd : 3 ≤ d) {lc : Nat} (h16 : 16 ≤ σ.2.2.2) (hl : Cel σ lc (13, 3)) (he : σ.2.2.1 lc 1 = 3) : AM mJx4a65c_grow_92f84 G d 1 10 [vR lc, vI 1] σ (fun ro ρ => ro = some (vR σ.2.2.2) ∧ ρ = upR (nwC σ (23, 10)) lc 1 σ.2.2.2) := by
  refine AM.intro (by decide +kernel) (by simp [nLg]) (Nat.le_of_ble_eq_true rfl) (fun hO => ?_)
  show AW _ _ _ _ _ _ 0 [some (vR lc), some (vI 1), none, none] [] σ
  refine AW_aload_n dJx4a65c_grow_92f84_0 rfl ?_
  refine AW_getR (a := 3) dJx4a65c_grow_92f84_1 gfJx4a65c_9 hl he ?_
  refine AW_xalen (N := 0) dJx4a65c_grow_92f84_4 kn_AT (by decide) (by decide) (by decide) ?_
  refine AW_istore2 dJx4a65c_grow_92f84_5 ?_
  refine AW_iload_n dJx4a65c_grow_92f84_6 rfl ?_
  refine AW_if_gt (tgt := 20) dJx4a65c_grow_92f84_7 (by decide) (fun c_7 => ?_) (fun c_7 => ?_)
  · skip
    exact absurd c_7 (by decide)
  · skip
    refine AW_aload_n dJx4a65c_grow_92f84_10 rfl ?_
    refine AW_getR (a := 3) dJx4a65c_grow_92f84_11 gfJx4a65c_9 hl he ?_
    refine AW_gst (e := 3) dJx4a65c_grow_92f84_14 gs_AL kn_AL (by decide) (by decide) ?_
    refine AW_acmp_eq (tgt := 45) dJx4a65c_grow_92f84_17 (by decide) (fun c_17 => ?_) (fun c_17 => ?_)
    · skip
      refine AW_aload_n dJx4a65c_grow_92f84_45 rfl ?_
      refine AW_bipush dJx4a65c_grow_92f84_46 ?_
      refine AW_iload_n dJx4a65c_grow_92f84_48 rfl ?_
      refine AW_mmax dJx4a65c_grow_92f84_49 lkJx4a65c_79 (by omega) (Nat.le_of_ble_eq_true rfl) ?_
      rw [if_neg (by decide)]
      refine AW_up (bc := 0 + 1) (bs := 0 + Int.toNat 10) (by decide) (by decide) ?_
      refine AW_anew (n := 10) dJx4a65c_grow_92f84_52 cl_LO (by decide) (by decide) ?_
      rw [show Int.toNat 10 = 10 from rfl]
      refine AW_dup_x1 dJx4a65c_grow_92f84_55 ?_
      refine AW_putR dJx4a65c_grow_92f84_56 (Or.inl pfJx4a65c_9) (hl.nw _) ?_
      refine AW_aret dJx4a65c_grow_92f84_59 rfl ?_
      exact ⟨rfl, rfl⟩
    · skip
      exact absurd rfl c_17
theorem k_growF0 {G : Gt} {d : Nat} {σ : St} (hd : 4 ≤ d) {lc ea N : Nat} (h16 : 16 ≤ σ.2.2.2) (hl : Cel σ lc (13, 3)) (he : σ.2.2.1 lc 1 = ea) (ha : Cel σ ea (23, N)) (hN : N = 10 ∨ N = 15 ∨ N = 22 ∨ N = 33) (hel : ∀ i, i < N → σ.2.2.1 ea i = 0 ∨ ∃ ci N2, Cel σ (σ.2.2.1 ea i) (ci, N2) ∧ CO ci) (hn : σ.2.1 lc 2 = N) : AM mJx4a65c_grow_d5877 G d 1 (N + N / 2) [vR lc] σ (fun ro ρ => ro = some (vR σ.2.2.2) ∧ ρ = upR (cpR (nwC σ (23, N + N / 2)) ea σ.2.2.2 0 0 N) lc 1 σ.2.2.2) := by
  refine AM.intro (by decide +kernel) (by simp [nLg]) (Nat.le_of_ble_eq_true rfl) (fun hO => ?_)
  show AW _ _ _ _ _ _ 0 [some (vR lc)] [] σ
  refine AW_up (bc := 0 + 1) (bs := 0 + (N + N / 2)) (by omega) (by omega) ?_
  refine AW_aload_n dJx4a65c_grow_d5877_0 rfl ?_
  refine AW_aload_n dJx4a65c_grow_d5877_1 rfl ?_
  refine AW_getI dJx4a65c_grow_d5877_2 gfJx4a65c_48 hl ?_
  refine AW_iconst dJx4a65c_grow_d5877_5 ?_
  refine AW_iaddE dJx4a65c_grow_d5877_6 (by rw [hn]; omega) (by rw [hn]; omega) ?_
  rw [hn]
  refine AW_callVb1 (d' := d - 1) dJx4a65c_grow_d5877_7 (Or.inl lkJx4a65c_69) mfJx4a65c_grow_92f84 hl ⟨_, rfl, rfl⟩ (k_growF (by omega) h16 hl he ha hN hel) (by omega) (Nat.le_of_ble_eq_true rfl) ?_
  rintro _ _ ⟨rfl, rfl⟩ -
  refine AW_aret dJx4a65c_grow_d5877_10 rfl ?_
  exact ⟨rfl, rfl⟩
theorem k_growE0 {G : Gt} {d : Nat} {σ : St} (hd : 4 ≤ d) {lc : Nat} (h16 : 16 ≤ σ.2.2.2) (hl : Cel σ lc (13, 3)) (he : σ.2.2.1 lc 1 = 3) (hn : σ.2.1 lc 2 = 0) : AM mJx4a65c_grow_d5877 G d 1 10 [vR lc] σ (fun ro ρ => ro = some (vR σ.2.2.2) ∧ ρ = upR (nwC σ (23, 10)) lc 1 σ.2.2.2) := by
  refine AM.intro (by decide +kernel) (by simp [nLg]) (Nat.le_of_ble_eq_true rfl) (fun hO => ?_)
  show AW _ _ _ _ _ _ 0 [some (vR lc)] [] σ
  refine AW_up (bc := 0 + 1) (bs := 0 + 10) (by omega) (by omega) ?_
  refine AW_aload_n dJx4a65c_grow_d5877_0 rfl ?_
  refine AW_aload_n dJx4a65c_grow_d5877_1 rfl ?_
  refine AW_getI dJx4a65c_grow_d5877_2 gfJx4a65c_48 hl ?_
  refine AW_iconst dJx4a65c_grow_d5877_5 ?_
  refine AW_iaddE dJx4a65c_grow_d5877_6 (by rw [hn]; omega) (by rw [hn]; omega) ?_
  rw [hn]
  rw [show (0 : Int) + 1 = 1 from rfl]
  refine AW_callVb1 (d' := d - 1) dJx4a65c_grow_d5877_7 (Or.inl lkJx4a65c_69) mfJx4a65c_grow_92f84 hl ⟨_, rfl, rfl⟩ (k_growE (by omega) h16 hl he) (by omega) (Nat.le_of_ble_eq_true rfl) ?_
  rintro _ _ ⟨rfl, rfl⟩ -
  refine AW_aret dJx4a65c_grow_d5877_10 rfl ?_
  exact ⟨rfl, rfl⟩
