-- rows for the texts' constants, rows of references, copies, class objects
section ROWS2
variable {M : MT} {G : Gt} {d bc bs : Nat} {Qz : QZ} {pc : Nat} {ls : List (Option AV)} {st : List AV} {σ : St}
theorem AW_ldcs {idx e : Nat} {tx : String} (hd : decode M.2.1 pc = .ok (.ldc idx, 2)) (hz : ∀ s, Kn G s → vk_R M.1.cls idx tx (G.2.2.2.1 e) s) (h0 : e ≠ 0) (h16 : e < 16) (k : AW M G d bc bs Qz (pc + 2) ls (vR e :: st) σ) : AW M G d bc bs Qz pc ls st σ := by
  intro p l e2 s m args below meth c H locs cells slots mc ms lsM C hW hS h1 h2 hL hO
  have hkk := k p l e2 s m args below meth c H locs cells slots mc ms lsM C hW hS h1 h2 hL (OKs_cons.mpr ⟨trivial, hO⟩)
  rw [List.map_cons, ext_val h0 h16] at hkk
  exact va_ldcS C.1 C.2.1 C.2.2.2.2.1 (hz s C.2.2.2.2.2.2.2.2) hd hkk
theorem AW_gst0 {idx : Nat} {Cn n dsc : String} (hd : decode M.2.1 pc = .ok (.getstatic idx, 3)) (hl : Cond.fieldLink M.1.cls idx Cn n dsc ∈ lw_g) {e : Nat} (h0 : e ≠ 0) (h16 : e < 16) (hz : ∀ s, Kn G s → va_Z Cn n dsc .null (AG G) s s.heap ∨ va_Z Cn n dsc (.ref (G.2.2.2.1 e)) (AG G) s s.heap) (k : ∀ x, AW M G d bc bs Qz (pc + 3) ls (vR x :: st) σ) : AW M G d bc bs Qz pc ls st σ := by
  intro p l e2 s m args below meth c H locs cells slots mc ms lsM C hW hS h1 h2 hL hO
  have hts := C.2.2.2.2.2.2.2.1
  rcases hz s C.2.2.2.2.2.2.2.2 with hz | hz
  · have hkk := k 0 p l e2 s m args below meth c H locs cells slots mc ms lsM C hW hS h1 h2 hL (OKs_cons.mpr ⟨trivial, hO⟩)
    exact va_gets C.1 C.2.1 hz hS C.2.2.2.2.1 (hts_g hts hl) (fun x hx => hx) hd hkk
  · have hkk := k e p l e2 s m args below meth c H locs cells slots mc ms lsM C hW hS h1 h2 hL (OKs_cons.mpr ⟨trivial, hO⟩)
    rw [List.map_cons, ext_val h0 h16] at hkk
    exact va_gets C.1 C.2.1 hz hS C.2.2.2.2.1 (hts_g hts hl) (fun x hx => hx) hd hkk
theorem AW_xget {idx e : Nat} {o n dsc : String} (v : AV) (hd : decode M.2.1 pc = .ok (.getfield idx, 3)) (hl : Cond.fieldLink M.1.cls idx o n dsc ∈ lw_g) (hE : ∀ s, Kn G s → va_OF o n dsc (cv G v) (G.2.2.2.1 e) (AG G) s s.heap) (h0 : e ≠ 0) (h16 : e < 16) (hv : OKv v) (k : AW M G d bc bs Qz (pc + 3) ls (v :: st) σ) : AW M G d bc bs Qz pc ls (vR e :: st) σ := by
  intro p l e2 s m args below meth c H locs cells slots mc ms lsM C hW hS h1 h2 hL hO
  have hts := C.2.2.2.2.2.2.2.1
  have hkk := k p l e2 s m args below meth c H locs cells slots mc ms lsM C hW hS h1 h2 hL (OKs_cons.mpr ⟨hv, (OKs_cons.mp hO).2⟩)
  rw [List.map_cons] at hkk
  rw [List.map_cons, ext_val h0 h16]
  exact vk_getf C.1 C.2.1 (hE s C.2.2.2.2.2.2.2.2) hS C.2.2.2.2.1 (hts_g hts hl) (fun x hx => hx) hd hkk
theorem AW_xbald {e N : Nat} {f : Nat → Value} {i v : Int} (hd : decode M.2.1 pc = .ok (.baload, 1)) (hT : ∀ s, Kn G s → va_T .byte (G.2.2.2.1 e) N f (AG G) s s.heap) (h0 : e ≠ 0) (h16 : e < 16) (hi0 : 0 ≤ i) (hi : i < N) (hv : f i.toNat = .int (Int32.ofInt v)) (hvr : InR v) (k : AW M G d bc bs Qz (pc + 1) ls (vI v :: st) σ) : AW M G d bc bs Qz pc ls (vI i :: vR e :: st) σ := by
  intro p l e2 s m args below meth c H locs cells slots mc ms lsM C hW hS h1 h2 hL hO
  have hI := (OKs_cons.mp hO).1
  have hkk := k p l e2 s m args below meth c H locs cells slots mc ms lsM C hW hS h1 h2 hL (OKs_cons.mpr ⟨hvr, (OKs_cons.mp (OKs_cons.mp hO).2).2⟩)
  rw [List.map_cons, List.map_cons, ext_val h0 h16]
  exact va_tb C.1 C.2.1 (hT s C.2.2.2.2.2.2.2.2) hS (vpI hI hi0 hi) (by rw [clI hi0 hI]; exact hv) hd hkk
theorem ofN_ofI {N : Nat} (hN : N < 2147483648) : Int32.ofNat N = Int32.ofInt (N : Int) := by
  apply Int32.toInt_inj.mp
  rw [toI ⟨by omega, by omega⟩]
  exact nI_toInt (by omega)
theorem AW_xalen {e N : Nat} {f : Nat → Value} {ty : FieldType} (hd : decode M.2.1 pc = .ok (.arraylength, 1)) (hT : ∀ s, Kn G s → va_T ty (G.2.2.2.1 e) N f (AG G) s s.heap) (h0 : e ≠ 0) (h16 : e < 16) (hN : N < 2147483648) (k : AW M G d bc bs Qz (pc + 1) ls (vI (N : Int) :: st) σ) : AW M G d bc bs Qz pc ls (vR e :: st) σ := by
  intro p l e2 s m args below meth c H locs cells slots mc ms lsM C hW hS h1 h2 hL hO
  have hkk := k p l e2 s m args below meth c H locs cells slots mc ms lsM C hW hS h1 h2 hL (OKs_cons.mpr ⟨⟨by omega, by omega⟩, (OKs_cons.mp hO).2⟩)
  rw [List.map_cons, ext_val h0 h16]
  exact va_tlen C.1 C.2.1 (hT s C.2.2.2.2.2.2.2.2) hS (ofN_ofI hN) hd hkk
/-- the receiver is one of the texts -/
theorem AW_callVx {M' : MT} {n idx i d' bc' bs' : Nat} {As rest : List AV} {Qf : Option AV → St → Prop} (hd : decode M.2.1 pc = .ok (.invokevirtual idx, 3)) (hl : LK M.1.cls idx M') (hf : MFv M' n) (hi : i < 2) (hc : M'.1.cls = "java/lang/String") (hM : AM M' G d' bc' bs' (vR (4 + i) :: As) σ Qf) (hd' : d' + 1 ≤ d) (hn : As.length = n) (hr : (rest.map catA).sum ≤ 8)
    (kk : ∀ (r : Option AV) (τ : St), Qf r τ → (∀ v, r = some v → OKv v) → AW M G d bc bs Qz (pc + 3) ls (r.toList ++ rest) τ) : AW M G d (bc + bc') (bs + bs') Qz pc ls (As.reverse ++ vR (4 + i) :: rest) σ := by
  intro p l e s m args below meth c H locs cells slots mc ms lsM C hW hS h1 h2 hL hO
  have hts := C.2.2.2.2.2.2.2.1
  have hKn := C.2.2.2.2.2.2.2.2
  have hOA : OKs (vR (4 + i) :: As) := by
    intro v hv
    rcases List.mem_cons.mp hv with rfl | h
    · trivial
    · exact hO v (List.mem_append_left _ (List.mem_reverse.mpr h))
  have hOr : OKs rest := fun v hv => hO v (List.mem_append_right _ (List.mem_cons_of_mem _ hv))
  obtain ⟨⟨hini, hcode, hdd, hml⟩, hins, hsel⟩ := hf
  have hrv : (∃ cellB : Cell, H[G.2.2.2.1 (4 + i)]? = some cellB ∧ cellB.vm.isStatics = false ∧ s.vm.findClass M'.1.cls = some cellB.cls) := by
    rw [hc]
    exact vk_recv (adK := fun i => G.2.2.2.1 (4 + i)) hKn.2.2.2.2.2.2.2.2.2.2.2.2.2.2.2.2.2 hi hS
  have hev : cv G (vR (4 + i)) = .ref (G.2.2.2.1 (4 + i)) := ext_val (by omega) (by omega)
  have hp : PreV s H M'.1.cls (G.2.2.2.1 (4 + i)) (va_Pc ((vR (4 + i) :: As).map (cv G)) (fun U => WD G σ U.heap ∧ Kn G U)) (As.map (cv G)) := by
    refine ⟨AMblind G σ _, hrv, fun U hU hWm => ⟨?_, ?_, hKn.go hS hWm hU⟩⟩
    · rw [List.map_cons, hev]
    · rw [hU]; exact hW
  have hst : (F0 m pc lsM ((As.reverse ++ vR (4 + i) :: rest).map (cv G))).stack = (As.map (cv G)).reverse ++ .ref (G.2.2.2.1 (4 + i)) :: rest.map (cv G) := by
    show (As.reverse ++ vR (4 + i) :: rest).map (cv G) = _
    rw [List.map_append, List.map_cons, hev, List.map_reverse]
  have hfits : cells + bc' ≤ mc ∧ slots + bs' ≤ ms := ⟨by omega, by omega⟩
  have hM2 := hM hOA l
  have cw : CallW (rmv d mc ms) s args M.1.cls M'.1.cls idx M'.1 M'.2.1 M'.2.2.1 M'.2.2.2 (wsOf M') (rmv d' bc' bs') bc' bs' n := ⟨callB_of n hts (good_g hcode) rfl rfl rfl (hts_g hts hini) (hts_g hts hl) hdd (room_ok hd' hml), hts_g hts hins, hts_g hts hsel⟩
  have := va_runV (locs := locs) (below := below) (meth := meth) (cells := cells) (slots := slots) (e := e) (As := As.map (cv G)) (rest := rest.map (cv G)) (g := F0 m pc lsM ((As.reverse ++ vR (4 + i) :: rest).map (cv G))) ⟨C.1, C.2.1, C.2.2.2.1, C.2.2.2.2.1, hts⟩ hM2 cw hp rfl (by rw [List.length_map]; exact hn) hL.2.1 hst (stk_room hr) hd hfits
  exact run_go this C hS (by omega) (by omega) hL hOr kk
theorem arr_upR {σ : St} {r N i v : Nat} (hkr : σ.1 r = (23, N)) : cellE G (upR σ r i v) r = .inl (G.2.1 23, N, .inr (.inr (.inr (.inr (fun j => if j = i then crf G v else crf G (σ.2.2.1 r j)))))) := by
  rw [cellE_ref G (σ := upR σ r i v) hkr]
  simp only [upR]
  congr 7
  funext j
  by_cases h : j = i <;> simp [h]
theorem AW_aast {r N v ci Nv : Nat} {i : Int} (hd : decode M.2.1 pc = .ok (.aastore, 1)) (hk : Cel σ r (23, N)) (h0 : 0 ≤ i) (hi : i < N) (hv : Cel σ v (ci, Nv)) (hc : ∃ q, cls[ci]? = some q ∧ Cond.castable q.1 "java/lang/Object" ∈ lw_sp) (k : AW M G d bc bs Qz (pc + 1) ls st (upR σ r i.toNat v)) : AW M G d bc bs Qz pc ls (vR v :: vI i :: vR r :: st) σ := by
  intro p l e s m args below meth c H locs cells slots mc ms lsM C hW hS h1 h2 hL hO
  obtain ⟨h16, hlt, hkr⟩ := hk
  obtain ⟨v16, vlt, hkv⟩ := hv
  obtain ⟨q, hq, hca⟩ := hc
  have he := wl_at G h16 hlt
  rw [cellE_ref G hkr] at he
  have hev := wl_at G v16 vlt
  rw [cellE_obj G hkv (cls_lt hq)] at hev
  have hI := (OKs_cons.mp (OKs_cons.mp hO).2).1
  have hO2 := (OKs_cons.mp (OKs_cons.mp (OKs_cons.mp hO).2).2).2
  have hin := vpI (n := N) hI h0 hi
  have hK := C.2.2.2.2.2.2.2.2.1
  rw [List.map_cons, List.map_cons, List.map_cons, rf_val h16, rf_val v16]
  have hlt2 : (Int32.ofInt i).toNatClampNeg < N := Nat.not_le.mp fun q => hin (Or.inr q)
  have h00 : ¬ Int32.ofInt i < 0 := fun q => hin (Or.inl q)
  obtain ⟨r', hr', cellV, g1, g2, g3, -⟩ := hW.2.1 _ _ hev
  have hcls := (hK.1 ci q hq).2
  obtain ⟨kA, comp, k1, k2, k3, -⟩ := (hK.2 3 _ rfl).2
  obtain ⟨kE, hkE, -⟩ := Vm.findClass_spec k3
  obtain ⟨c0, t1, f1, f2, f3⟩ := Cond.castable_spec (va_Nw.use (A := args) rfl (C.2.2.2.2.2.2.2.2.2.1 _ hca))
  cases hcls.1.symm.trans f1
  cases k3.symm.trans f2
  obtain ⟨kC, hkC, -⟩ := hcls.2
  refine W.aast C.1 C.2.1 (hW.2.1 _ _ he) (fun q h => by cases h) (fun h => by cases h) k1 k2 rfl hkE ⟨h00, by show _ < (arrV _ _ _).slots.size; rw [arrV_size]; exact hlt2⟩ g1 (fun q h => by rw [g3] at h; cases h) (by rw [g2]; exact hkC) (by rw [g2]; exact f3) rfl rfl hd fun H1 e1 z oq => ?_
  refine k p l e s m args below meth c H1 _ cells slots mc ms lsM C (hW.upd h16 hlt rfl ?_ (upR_other σ r i.toNat v) hW.2.2.2 z oq) (hS.put z oq (AG_adr h16)) h1 h2 hL hO2
  rw [arr_upR hkr]
  show H1[adr G r]? = some (vp_cell _ _)
  rw [e1, clI h0 hI]
  rw [vp_cell_q, vp_cell_q, arrV_store]
  congr 2
  funext q
  by_cases hq : q = i.toNat
  · subst hq
    have : crf G v = some (adr G v) := by simp [crf, show v ≠ 0 by omega]
    simp [updV, va_rf, this]
  · simp [updV, hq]
theorem AW_anew {n : Int} {idx : Nat} (hd : decode M.2.1 pc = .ok (.anewarray idx, 3)) (hw : Cond.classLink M.1.cls idx "java/lang/Object" ∈ lw_g) (h0 : 0 ≤ n) (hn : n ≤ 100000000) (k : AW M G d bc bs Qz (pc + 3) ls (vR σ.2.2.2 :: st) (nwC σ (23, n.toNat))) : AW M G d (bc + 1) (bs + n.toNat) Qz pc ls (vI n :: st) σ := by
  intro p l e s m args below meth c H locs cells slots mc ms lsM C hW hS h1 h2 hL hO
  have hts := C.2.2.2.2.2.2.2.1
  have hK := C.2.2.2.2.2.2.2.2.1
  have hI := (OKs_cons.mp hO).1
  have hO2 := (OKs_cons.mp hO).2
  have hcl := clI h0 hI
  refine W.anew C.1 C.2.1 C.2.2.2.2.1 (hts_g hts hw) (va_AO.use C.2.2.2.2.2.2.2.2.2.2.2.1) rfl hd rfl (fun h => by rw [show (0 : Int32) = Int32.ofInt 0 from rfl, ltI hI in0] at h; omega) (by rw [hcl]; omega) (by show cells + 1 ≤ mc; omega) (by show slots + (Int32.ofInt n).toNatClampNeg ≤ ms; rw [hcl]; omega) fun cA kA comp f1 f2 f3 f4 => ?_
  rw [hcl]
  have e2 : cv G (vR σ.2.2.2) = .ref H.size := by rw [rf_val hW.1, adr_n hW]
  generalize hH1 : H.push ({ cls := cA, slots := Array.replicate n.toNat .null, vm := .none } : Cell) = H1
  have z1 : H1.size = H.size + 1 := by rw [← hH1, Array.size_push]
  have e1 : H1[H.size]? = some (arrV cA n.toNat (fun _ => .null)) := by rw [← hH1, Array.getElem?_push_size, ← arrV_new]
  have o1 : ∀ q : Nat, q < H.size → H1[q]? = H[q]? := fun q hq => by rw [← hH1, Array.getElem?_push, if_neg (Nat.ne_of_lt hq)]
  have hk := k p l e s m args below meth c H1 locs (cells + 1) (slots + n.toNat) mc ms lsM C (hW.new ?_ z1 o1) (S_new hS z1 o1) (by omega) (by omega) hL (OKs_cons.mpr ⟨trivial, hO2⟩)
  · rw [List.map_cons, e2] at hk
    exact hk
  · rw [cellE_ref G (σ := nwC σ (23, n.toNat)) (r := σ.2.2.2) (N := n.toNat) (by simp [nwC]), adr_n hW]
    show H1[H.size]? = some (vp_cell _ _)
    rw [e1, vp_cell_q]
    have hcA : cA = G.2.1 23 := by
      obtain ⟨-, -, -, -, -, k5⟩ := (hK.2 3 _ rfl).2
      exact Option.some.inj (f1.symm.trans k5)
    rw [hcA]
    congr 2
    funext q
    simp [nwC, crf, va_rf]
theorem AW_acmp_eq {a b : Nat} {off : Int} {tgt : Nat} (hd : decode M.2.1 pc = .ok (.if_acmp .eq off, 3)) (ht : (pc : Int) + off = (tgt : Int)) (kt : crf G a = crf G b → AW M G d bc bs Qz tgt ls st σ) (kf : ¬ crf G a = crf G b → AW M G d bc bs Qz (pc + 3) ls st σ) : AW M G d bc bs Qz pc ls (vR b :: vR a :: st) σ := by
  intro p l e s m args below meth c H locs cells slots mc ms lsM C hW hS h1 h2 hL hO
  have hO2 := (OKs_cons.mp (OKs_cons.mp hO).2).2
  exact lv_acmp_eq C.1 C.2.1 hd ht (fun h => kt h p l e s m args below meth c H locs cells slots mc ms lsM C hW hS h1 h2 hL hO2) (fun h => kf h p l e s m args below meth c H locs cells slots mc ms lsM C hW hS h1 h2 hL hO2)
theorem AW_acmp_ne {a b : Nat} {off : Int} {tgt : Nat} (hd : decode M.2.1 pc = .ok (.if_acmp .ne off, 3)) (ht : (pc : Int) + off = (tgt : Int)) (kt : ¬ crf G a = crf G b → AW M G d bc bs Qz tgt ls st σ) (kf : crf G a = crf G b → AW M G d bc bs Qz (pc + 3) ls st σ) : AW M G d bc bs Qz pc ls (vR b :: vR a :: st) σ := by
  intro p l e s m args below meth c H locs cells slots mc ms lsM C hW hS h1 h2 hL hO
  have hO2 := (OKs_cons.mp (OKs_cons.mp hO).2).2
  exact lv_acmp_ne C.1 C.2.1 hd ht (fun h => kt h p l e s m args below meth c H locs cells slots mc ms lsM C hW hS h1 h2 hL hO2) (fun h => kf h p l e s m args below meth c H locs cells slots mc ms lsM C hW hS h1 h2 hL hO2)
/-- the class object of the rows of references -/
theorem AW_ldcM {idx : Nat} (hd : decode M.2.1 pc = .ok (.ldc idx, 2)) (hl : Cond.classLink M.1.cls idx "[Ljava/lang/Object;" ∈ lw_g) (k : AW M G d bc bs Qz (pc + 2) ls (vR 9 :: st) σ) : AW M G d bc bs Qz pc ls st σ := by
  intro p l e s m args below meth c H locs cells slots mc ms lsM C hW hS h1 h2 hL hO
  have hkk := k p l e s m args below meth c H locs cells slots mc ms lsM C hW hS h1 h2 hL (OKs_cons.mpr ⟨trivial, hO⟩)
  rw [List.map_cons, ext_val (by decide) (by decide)] at hkk
  exact va_ldcM C.1 C.2.1 C.2.2.2.2.1 (hts_g C.2.2.2.2.2.2.2.1 hl) C.2.2.2.2.2.2.2.2.2.2.2.2.2.1 hd hkk
theorem AW_getC {idx r N : Nat} (hd : decode M.2.1 pc = .ok (.invokevirtual idx, 3)) (hl : Cond.methodLink M.1.cls idx ⟨"java/lang/Object", "getClass", "()Ljava/lang/Class;"⟩ ∈ lw_g) (hk : Cel σ r (23, N)) (hd1 : 1 ≤ d) (hr : (st.map catA).sum ≤ 8) (k : AW M G d bc bs Qz (pc + 3) ls (vR 9 :: st) σ) : AW M G d bc bs Qz pc ls (vR r :: st) σ := by
  intro p l e s m args below meth c H locs cells slots mc ms lsM C hW hS h1 h2 hL hO
  have hts := C.2.2.2.2.2.2.2.1
  obtain ⟨h16, hlt, hkr⟩ := hk
  have he := wl_at G h16 hlt
  rw [cellE_ref G hkr] at he
  have hkk := k p l e s m args below meth c H locs cells slots mc ms lsM C hW hS h1 h2 hL (OKs_cons.mpr ⟨trivial, (OKs_cons.mp hO).2⟩)
  rw [List.map_cons, ext_val (by decide) (by decide)] at hkk
  rw [List.map_cons, rf_val h16]
  refine va_getC C.1 C.2.1 (by rw [C.2.2.2.1]; exact hL.2.1.symm) C.2.2.2.2.1 (hts_g hts hl) (va_Dc.use C.2.2.2.2.2.2.2.2.2.2.2.2.1) (C := "[Ljava/lang/Object;") (hts_g hts (mem_g 1933 (by decide +kernel) rfl)) (hts_g hts (mem_g 383 (by decide +kernel) rfl)) (hts_g hts (mem_g 399 (by decide +kernel) rfl)) C.2.2.2.2.2.2.2.2.2.2.2.2.2.1 ⟨_, hW.2.1 _ _ he, rfl, va_nmO (C.2.2.2.2.2.2.2.2.1.2 3 _ rfl).2 rfl⟩ hd1 ?_ hd hkk
  show _ + 14 ≤ 41 * d + 32
  rw [cat_sum]
  omega
theorem nnI {x : Int} (h0 : 0 ≤ x) (h : InR x) : ¬ Int32.ofInt x < 0 := fun q => by rw [show (0 : Int32) = Int32.ofInt 0 from rfl, ltI h in0] at q; omega
/-- cells' ints from r0 at sp on into r1 at dp on -/
def cpI (σ : St) (r0 r1 sp dp n : Nat) : St := (σ.1, (fun r j => if r = r1 ∧ dp ≤ j ∧ j < dp + n then σ.2.1 r0 (sp + (j - dp)) else σ.2.1 r j), σ.2.2.1, σ.2.2.2)
def cpR (σ : St) (r0 r1 sp dp n : Nat) : St := (σ.1, σ.2.1, (fun r j => if r = r1 ∧ dp ≤ j ∧ j < dp + n then σ.2.2.1 r0 (sp + (j - dp)) else σ.2.2.1 r j), σ.2.2.2)
theorem ac_st : Cond.static arraycopyName ∈ lw_g := mem_g 410 (by decide +kernel) rfl
theorem ac_nat : Cond.native arraycopyName ∈ lw_g := mem_g 411 (by decide +kernel) rfl
theorem ac_ini : Cond.initialized "java/lang/System" ∈ lw_g := mem_g 121 (by decide +kernel) rfl
def CO (ci : Nat) : Prop := ∃ q, cls[ci]? = some q ∧ Cond.castable q.1 "java/lang/Object" ∈ lw_sp
theorem co4 : CO 4 := ⟨_, rfl, mem_sp 1930 (by decide +kernel) rfl⟩
theorem co10 : CO 10 := ⟨_, rfl, mem_sp 1923 (by decide +kernel) rfl⟩
theorem AW_copyI {idx r0 r1 n0 n1 : Nat} {sp dp n : Int} (hd : decode M.2.1 pc = .ok (.invokestatic idx, 3)) (hl : Cond.methodLink M.1.cls idx arraycopyName ∈ lw_g) (hk0 : Cel σ r0 (20, n0)) (hk1 : Cel σ r1 (20, n1)) (hs0 : 0 ≤ sp) (hd0 : 0 ≤ dp) (hn0 : 0 ≤ n) (hs1 : sp + n ≤ n0) (hd1 : dp + n ≤ n1) (hfr : 1 ≤ d) (hr : (st.map catA).sum ≤ 8) (k : AW M G d bc bs Qz (pc + 3) ls st (cpI σ r0 r1 sp.toNat dp.toNat n.toNat)) : AW M G d bc bs Qz pc ls (vI n :: vI dp :: vR r1 :: vI sp :: vR r0 :: st) σ := by
  intro p l e s m args below meth c H locs cells slots mc ms lsM C hW hS h1 h2 hL hO
  have hts := C.2.2.2.2.2.2.2.1
  obtain ⟨h16, hlt, hkr⟩ := hk0
  obtain ⟨g16, glt, gkr⟩ := hk1
  have hc0 := hW.2.1 _ _ (wl_at G h16 hlt)
  have hc1 := hW.2.1 _ _ (wl_at G g16 glt)
  rw [cellE_int G hkr (by omega) (by omega)] at hc0
  rw [cellE_int G gkr (by omega) (by omega)] at hc1
  have o1 := OKs_cons.mp hO
  have o2 := OKs_cons.mp o1.2
  have o3 := OKs_cons.mp o2.2
  have o4 := OKs_cons.mp o3.2
  have o5 := OKs_cons.mp o4.2
  have hK := C.2.2.2.2.2.2.2.2.1
  rw [List.map_cons, List.map_cons, List.map_cons, List.map_cons, List.map_cons, rf_val h16, rf_val g16]
  intro T hT X
  obtain ⟨-, k0, hk0, cm0, hkk0⟩ := (hK.2 0 _ rfl).1 n0 (fun j => .int (Int32.ofInt (σ.2.1 r0 j)))
  obtain ⟨-, k1, hk1, cm1, hkk1⟩ := (hK.2 0 _ rfl).1 n1 (fun j => .int (Int32.ofInt (σ.2.1 r1 j)))
  have cs := clI hs0 o4.1
  have cd := clI hd0 o2.1
  have cn := clI hn0 o1.1
  obtain ⟨vm', X', step⟩ := X.arraycopy C.1 C.2.2.2.2.1 (hts_g hts hl) (hts_g hts ac_nat) (hts_g hts ac_st) (hts_g hts ac_ini) (src := adr G r0) (dst := adr G r1) (cs := vp_cell (G.2.1 20) (n0, .inl fun j => Int32.ofInt (σ.2.1 r0 j))) (cd := vp_cell (G.2.1 20) (n1, .inl fun j => Int32.ofInt (σ.2.1 r1 j))) (srcPos := Int32.ofInt sp) (destPos := Int32.ofInt dp) (n := Int32.ofInt n) (by rw [hT]; exact hc0) (by rw [hT]; exact hc1)
    (fun _ h => by cases h) (fun _ h => by cases h) (fun h => by cases h) (fun h => by cases h) hk0 hk1 hkk0 hkk1 (by simp [refKind]) (nnI hs0 o4.1) (nnI hd0 o2.1) (nnI hn0 o1.1)
    (by rw [toI o4.1, toI o1.1]; show ¬ _ > ((arrV _ n0 (fun j => .int (Int32.ofInt (σ.2.1 r0 j)))).slots.size : Int); rw [arrV_size]; omega)
    (by rw [toI o2.1, toI o1.1]; show ¬ _ > ((arrV _ n1 (fun j => .int (Int32.ofInt (σ.2.1 r1 j)))).slots.size : Int); rw [arrV_size]; omega)
    (fun vm₁ _ i hi => by
      rw [cn] at hi
      rw [cs]
      have e : (vp_cell (G.2.1 20) (n0, .inl fun j => Int32.ofInt (σ.2.1 r0 j))).slots.getD (sp.toNat + i) .null = .int (Int32.ofInt (σ.2.1 r0 (sp.toNat + i))) := by
        show (arrV _ n0 (fun j => .int (Int32.ofInt (σ.2.1 r0 j)))).slots.getD _ _ = _
        rw [Array.getD_eq_getD_getElem?, arrV_read _ _ (by omega)]
        rfl
      rw [e]
      exact ⟨rfl, trivial⟩)
    (g := F0 m pc lsM (.int (Int32.ofInt n) :: .int (Int32.ofInt dp) :: .ref (adr G r1) :: .int (Int32.ofInt sp) :: .ref (adr G r0) :: st.map (cv G))) rfl (by rw [C.2.2.2.1]; exact hL.2.1) (rest := st.map (cv G)) rfl (by rw [C.2.1]; exact hd) hfr (by
      show 2 * 0 + _ + (nativeFrameWords "java/lang/System" "arraycopy" 5 + 11) ≤ 41 * d + 32
      have hw : nativeFrameWords "java/lang/System" "arraycopy" 5 + 11 ≤ 30 := by decide
      rw [cat_sum]
      omega)
  have e1 : copied (vp_cell (G.2.1 20) (n0, .inl fun j => Int32.ofInt (σ.2.1 r0 j))) (vp_cell (G.2.1 20) (n1, .inl fun j => Int32.ofInt (σ.2.1 r1 j))) (Int32.ofInt sp) (Int32.ofInt dp) (Int32.ofInt n) = vp_cell (G.2.1 20) (n1, .inl (va_cpy (fun j => Int32.ofInt (σ.2.1 r0 j)) (fun j => Int32.ofInt (σ.2.1 r1 j)) (Int32.ofInt sp).toNatClampNeg (Int32.ofInt dp).toNatClampNeg (Int32.ofInt n).toNatClampNeg)) := va_copied (fun z => .int z) (G.2.1 20) (G.2.1 20) (sp := (Int32.ofInt sp).toNatClampNeg) (n := (Int32.ofInt n).toNatClampNeg) (fun j => Int32.ofInt (σ.2.1 r0 j)) (fun j => Int32.ofInt (σ.2.1 r1 j)) (by rw [cs, cn]; omega)
  rw [e1, cs, cd, cn] at X' step
  have hl : adr G r1 < H.size := (Array.getElem?_eq_some_iff.mp hc1).1
  generalize hcell : vp_cell (G.2.1 20) (n1, .inl (va_cpy (fun j => Int32.ofInt (σ.2.1 r0 j)) (fun j => Int32.ofInt (σ.2.1 r1 j)) sp.toNat dp.toNat n.toNat)) = nc at X' step
  have hheap : ((T.setVm vm').setCell (adr G r1) nc).heap = H.setIfInBounds (adr G r1) nc := by rw [← hT]; rfl
  have oq : ∀ q : Nat, q ≠ adr G r1 → (H.setIfInBounds (adr G r1) nc)[q]? = H[q]? := fun q hq => by simp [Array.getElem?_setIfInBounds, Ne.symm hq]
  have zz : (H.setIfInBounds (adr G r1) nc).size = H.size := by simp
  have hat : (H.setIfInBounds (adr G r1) nc)[adr G r1]? = some nc := by simp [Array.getElem?_setIfInBounds, hl]
  have ho : ∀ r', r' ≠ r1 → cellE G (cpI σ r0 r1 sp.toNat dp.toNat n.toNat) r' = cellE G σ r' := by
    intro r' h
    simp only [cellE, cpI]
    congr 1
    funext i
    rw [if_neg (by intro q; exact h q.1)]
  have hWn : WD G (cpI σ r0 r1 sp.toNat dp.toNat n.toNat) (H.setIfInBounds (adr G r1) nc) := by
    refine hW.upd g16 glt rfl ?_ ho (fun r j => ?_) zz oq
    · rw [cellE_int G (σ := cpI σ r0 r1 sp.toNat dp.toNat n.toNat) gkr (by omega) (by omega)]
      show (H.setIfInBounds (adr G r1) nc)[adr G r1]? = some (vp_cell _ _)
      rw [hat, ← hcell]
      congr 4
      funext j
      simp only [va_cpy, cpI]
      by_cases hh : dp.toNat ≤ j ∧ j < dp.toNat + n.toNat
      · rw [if_pos hh, if_pos ⟨trivial, hh⟩]
      · rw [if_neg hh, if_neg (fun q => hh q.2)]
    · simp only [cpI]
      split
      · exact hW.2.2.2 _ _
      · exact hW.2.2.2 _ _
  obtain ⟨t, a1, b1⟩ := k p l e s m args below meth c _ _ cells slots mc ms lsM C hWn ⟨by rw [zz]; exact hS.1, fun q q1 q2 => by
      rw [oq q (fun e => q2 (by rw [e]; exact AG_adr g16))]
      exact hS.2.1 q q1 q2, fun q hq => by
      rcases List.mem_append.mp hq with h | h
      · exact hS.2.2 q h
      · obtain ⟨z, -, hz⟩ := List.mem_map.mp h
        rw [← hz]
        exact AG_adr g16⟩ h1 h2 hL o5.2 _ hheap X'
  exact ⟨t, step t a1, b1⟩
theorem AW_copyR {idx r0 r1 n0 n1 : Nat} {sp dp n : Int} (hd : decode M.2.1 pc = .ok (.invokestatic idx, 3)) (hl : Cond.methodLink M.1.cls idx arraycopyName ∈ lw_g) (hk0 : Cel σ r0 (23, n0)) (hk1 : Cel σ r1 (23, n1)) (hs0 : 0 ≤ sp) (hd0 : 0 ≤ dp) (hn0 : 0 ≤ n) (hs1 : sp + n ≤ n0) (hd1 : dp + n ≤ n1) (hel : ∀ i, i < n.toNat → σ.2.2.1 r0 (sp.toNat + i) = 0 ∨ ∃ ci N, Cel σ (σ.2.2.1 r0 (sp.toNat + i)) (ci, N) ∧ CO ci) (hfr : 1 ≤ d) (hr : (st.map catA).sum ≤ 8) (k : AW M G d bc bs Qz (pc + 3) ls st (cpR σ r0 r1 sp.toNat dp.toNat n.toNat)) : AW M G d bc bs Qz pc ls (vI n :: vI dp :: vR r1 :: vI sp :: vR r0 :: st) σ := by
  intro p l e s m args below meth c H locs cells slots mc ms lsM C hW hS h1 h2 hL hO
  have hts := C.2.2.2.2.2.2.2.1
  obtain ⟨h16, hlt, hkr⟩ := hk0
  obtain ⟨g16, glt, gkr⟩ := hk1
  have hc0 := hW.2.1 _ _ (wl_at G h16 hlt)
  have hc1 := hW.2.1 _ _ (wl_at G g16 glt)
  rw [cellE_ref G hkr] at hc0
  rw [cellE_ref G gkr] at hc1
  have o1 := OKs_cons.mp hO
  have o2 := OKs_cons.mp o1.2
  have o3 := OKs_cons.mp o2.2
  have o4 := OKs_cons.mp o3.2
  have o5 := OKs_cons.mp o4.2
  have hK := C.2.2.2.2.2.2.2.2.1
  rw [List.map_cons, List.map_cons, List.map_cons, List.map_cons, List.map_cons, rf_val h16, rf_val g16]
  intro T hT X
  obtain ⟨-, k0, hk0, cm0, hkk0⟩ := (hK.2 3 _ rfl).1 n0 (fun j => va_rf (crf G (σ.2.2.1 r0 j)))
  obtain ⟨-, k1, hk1, cm1, hkk1⟩ := (hK.2 3 _ rfl).1 n1 (fun j => va_rf (crf G (σ.2.2.1 r1 j)))
  have cs := clI hs0 o4.1
  have cd := clI hd0 o2.1
  have cn := clI hn0 o1.1
  obtain ⟨vm', X', step⟩ := X.arraycopy C.1 C.2.2.2.2.1 (hts_g hts hl) (hts_g hts ac_nat) (hts_g hts ac_st) (hts_g hts ac_ini) (src := adr G r0) (dst := adr G r1) (cs := vp_cell (G.2.1 23) (n0, .inr (.inr (.inr (.inr fun j => crf G (σ.2.2.1 r0 j)))))) (cd := vp_cell (G.2.1 23) (n1, .inr (.inr (.inr (.inr fun j => crf G (σ.2.2.1 r1 j)))))) (srcPos := Int32.ofInt sp) (destPos := Int32.ofInt dp) (n := Int32.ofInt n) (by rw [hT]; exact hc0) (by rw [hT]; exact hc1)
    (fun _ h => by cases h) (fun _ h => by cases h) (fun h => by cases h) (fun h => by cases h) hk0 hk1 hkk0 hkk1 rfl (nnI hs0 o4.1) (nnI hd0 o2.1) (nnI hn0 o1.1)
    (by rw [toI o4.1, toI o1.1]; show ¬ _ > ((arrV _ n0 (fun j => va_rf (crf G (σ.2.2.1 r0 j)))).slots.size : Int); rw [arrV_size]; omega)
    (by rw [toI o2.1, toI o1.1]; show ¬ _ > ((arrV _ n1 (fun j => va_rf (crf G (σ.2.2.1 r1 j)))).slots.size : Int); rw [arrV_size]; omega)
    (fun vm₁ hal i hi => by
      rw [cn] at hi
      rw [cs]
      have e : (vp_cell (G.2.1 23) (n0, .inr (.inr (.inr (.inr fun j => crf G (σ.2.2.1 r0 j)))))).slots.getD (sp.toNat + i) .null = va_rf (crf G (σ.2.2.1 r0 (sp.toNat + i))) := by
        rw [vp_cell_q]
        rw [Array.getD_eq_getD_getElem?, arrV_read _ _ (by omega)]
        rfl
      rw [e]
      rcases hel i hi with hz | ⟨ci, N, ⟨c16, clt, ckd⟩, q, hq, hca⟩
      · rw [hz]
        exact ⟨rfl, trivial⟩
      · have hcr : crf G (σ.2.2.1 r0 (sp.toNat + i)) = some (adr G (σ.2.2.1 r0 (sp.toNat + i))) := by simp [crf, show σ.2.2.1 r0 (sp.toNat + i) ≠ 0 by omega]
        rw [hcr]
        have hev := hW.2.1 _ _ (wl_at G c16 clt)
        rw [cellE_obj G ckd (cls_lt hq)] at hev
        obtain ⟨r', hr', cellV, g1, g2, g3, -⟩ := hev
        have hcls := (hK.1 ci q hq).2
        obtain ⟨kA, comp, r1, r2, r3, -⟩ := (hK.2 3 _ rfl).2
        cases hk1.symm.trans r1
        cases hkk1.symm.trans r2
        obtain ⟨c0, t1, f1, f2, f3⟩ := Cond.castable_spec (va_Nw.use (A := args) rfl (C.2.2.2.2.2.2.2.2.2.1 _ hca))
        cases hcls.1.symm.trans f1
        cases r3.symm.trans f2
        obtain ⟨kC, hkC, -⟩ := hcls.2
        obtain ⟨kE, hkE, -⟩ := Vm.findClass_spec r3
        obtain ⟨kC', hkC', -⟩ := hal.2.2 _ _ hkC
        obtain ⟨kE', hkE', -⟩ := hal.2.2 _ _ hkE
        refine ⟨rfl, cellV, (show T.heap[_]? = some cellV by rw [hT]; exact g1), (fun q h => by rw [g3] at h; cases h), ⟨kC', by rw [g2]; exact hkC'⟩, ?_, ?_⟩
        · exact ⟨kE', hkE'⟩
        · show vm₁.assignable _ _ = true
          rw [hal.assignable, g2]
          exact f3)
    (g := F0 m pc lsM (.int (Int32.ofInt n) :: .int (Int32.ofInt dp) :: .ref (adr G r1) :: .int (Int32.ofInt sp) :: .ref (adr G r0) :: st.map (cv G))) rfl (by rw [C.2.2.2.1]; exact hL.2.1) (rest := st.map (cv G)) rfl (by rw [C.2.1]; exact hd) hfr (by
      show 2 * 0 + _ + (nativeFrameWords "java/lang/System" "arraycopy" 5 + 11) ≤ 41 * d + 32
      have hw : nativeFrameWords "java/lang/System" "arraycopy" 5 + 11 ≤ 30 := by decide
      rw [cat_sum]
      omega)
  have e1 : copied (vp_cell (G.2.1 23) (n0, .inr (.inr (.inr (.inr fun j => crf G (σ.2.2.1 r0 j)))))) (vp_cell (G.2.1 23) (n1, .inr (.inr (.inr (.inr fun j => crf G (σ.2.2.1 r1 j)))))) (Int32.ofInt sp) (Int32.ofInt dp) (Int32.ofInt n) = vp_cell (G.2.1 23) (n1, .inr (.inr (.inr (.inr (va_cpy (fun j => crf G (σ.2.2.1 r0 j)) (fun j => crf G (σ.2.2.1 r1 j)) (Int32.ofInt sp).toNatClampNeg (Int32.ofInt dp).toNatClampNeg (Int32.ofInt n).toNatClampNeg))))) := by
    rw [vp_cell_q, vp_cell_q, vp_cell_q]
    exact va_copied (fun z => va_rf z) (G.2.1 23) (G.2.1 23) (sp := (Int32.ofInt sp).toNatClampNeg) (n := (Int32.ofInt n).toNatClampNeg) (fun j => crf G (σ.2.2.1 r0 j)) (fun j => crf G (σ.2.2.1 r1 j)) (by rw [cs, cn]; omega)
  rw [e1, cs, cd, cn] at X' step
  have hl : adr G r1 < H.size := (Array.getElem?_eq_some_iff.mp hc1).1
  generalize hcell : vp_cell (G.2.1 23) (n1, .inr (.inr (.inr (.inr (va_cpy (fun j => crf G (σ.2.2.1 r0 j)) (fun j => crf G (σ.2.2.1 r1 j)) sp.toNat dp.toNat n.toNat))))) = nc at X' step
  have hheap : ((T.setVm vm').setCell (adr G r1) nc).heap = H.setIfInBounds (adr G r1) nc := by rw [← hT]; rfl
  have oq : ∀ q : Nat, q ≠ adr G r1 → (H.setIfInBounds (adr G r1) nc)[q]? = H[q]? := fun q hq => by simp [Array.getElem?_setIfInBounds, Ne.symm hq]
  have zz : (H.setIfInBounds (adr G r1) nc).size = H.size := by simp
  have hat : (H.setIfInBounds (adr G r1) nc)[adr G r1]? = some nc := by simp [Array.getElem?_setIfInBounds, hl]
  have ho : ∀ r', r' ≠ r1 → cellE G (cpR σ r0 r1 sp.toNat dp.toNat n.toNat) r' = cellE G σ r' := by
    intro r' h
    simp only [cellE, cpR]
    congr 1
    funext i
    rw [if_neg (by intro q; exact h q.1)]
  have hWn : WD G (cpR σ r0 r1 sp.toNat dp.toNat n.toNat) (H.setIfInBounds (adr G r1) nc) := by
    refine hW.upd g16 glt rfl ?_ ho hW.2.2.2 zz oq
    · rw [cellE_ref G (σ := cpR σ r0 r1 sp.toNat dp.toNat n.toNat) gkr]
      show (H.setIfInBounds (adr G r1) nc)[adr G r1]? = some (vp_cell _ _)
      rw [hat, ← hcell]
      congr 7
      funext j
      simp only [va_cpy, cpR]
      by_cases hh : dp.toNat ≤ j ∧ j < dp.toNat + n.toNat
      · rw [if_pos hh, if_pos ⟨trivial, hh⟩]
      · rw [if_neg hh, if_neg (fun q => hh q.2)]
  obtain ⟨t, a1, b1⟩ := k p l e s m args below meth c _ _ cells slots mc ms lsM C hWn ⟨by rw [zz]; exact hS.1, fun q q1 q2 => by
      rw [oq q (fun e => q2 (by rw [e]; exact AG_adr g16))]
      exact hS.2.1 q q1 q2, fun q hq => by
      rcases List.mem_append.mp hq with h | h
      · exact hS.2.2 q h
      · obtain ⟨z, -, hz⟩ := List.mem_map.mp h
        rw [← hz]
        exact AG_adr g16⟩ h1 h2 hL o5.2 _ hheap X'
  exact ⟨t, step t a1, b1⟩
theorem AW_cast {idx r ci N : Nat} (hd : decode M.2.1 pc = .ok (.checkcast idx, 3)) (hk : Cel σ r (ci, N)) (hl : ∃ q, cls[ci]? = some q ∧ Cond.classLink M.1.cls idx q.1 ∈ lw_g) (k : AW M G d bc bs Qz (pc + 3) ls (vR r :: st) σ) : AW M G d bc bs Qz pc ls (vR r :: st) σ := by
  intro p l e s m args below meth c H locs cells slots mc ms lsM C hW hS h1 h2 hL hO
  obtain ⟨h16, hlt, hkr⟩ := hk
  obtain ⟨q, hq, hl⟩ := hl
  have he := wl_at G h16 hlt
  rw [cellE_obj G hkr (cls_lt hq)] at he
  have hkk := k p l e s m args below meth c H locs cells slots mc ms lsM C hW hS h1 h2 hL hO
  rw [List.map_cons, rf_val h16] at hkk ⊢
  exact va_castE C.1 C.2.1 C.2.2.2.2.1 (hts_g C.2.2.2.2.2.2.2.1 hl) (va_recv C.2.2.2.2.2.2.2.2.1 hW.2.1 hq he) hd hkk
end ROWS2
