theorem WD.new {G : Gt} {σ : St} {H H' : Heap} {k : Nat × Nat} (hW : WD G σ H) (hat : va_at G.1 cls (adr G σ.2.2.2, cellE G (nwC σ k) σ.2.2.2) H') (z : H'.size = H.size + 1) (oq : ∀ q, q < H.size → H'[q]? = H[q]?) : WD G (nwC σ k) H' := by
  have h16 := hW.1
  have hsz := hW.2.2.1
  have ho : ∀ r', r' < σ.2.2.2 → cellE G (nwC σ k) r' = cellE G σ r' := by
    intro r' hr
    have hne : r' ≠ σ.2.2.2 := by omega
    simp only [cellE, nwC, if_neg hne]
  refine ⟨by show 16 ≤ σ.2.2.2 + 1; omega, ?_, ?_, ?_⟩
  · rw [← wl_push G h16 (τ := nwC σ k) rfl rfl ho]
    refine va_P.app (fun k q hk => ?_) (fun k q hk => ?_)
    · obtain ⟨hk1, rfl⟩ := wl_get G hk
      refine (hW.2.1 k _ hk).kept (oq _ ?_)
      show G.2.2.1 + k < H.size
      omega
    · have hz : k < 1 := (List.getElem?_eq_some_iff.mp hk).1
      rw [show k = 0 by omega] at hk
      cases hk
      exact hat
  · rw [z, hsz]
    show _ = G.2.2.1 + (σ.2.2.2 + 1 - 16)
    omega
  · intro r j
    simp only [nwC]
    split
    · exact in0
    · exact hW.2.2.2 r j
def NWF (own : String) (idx ci N : Nat) : Prop := ∃ q : vw_C, cls[ci]? = some q ∧ q.2.2 = N ∧ Cond.classLink own idx q.1 ∈ lw_g ∧ Cond.instantiable q.1 N ∈ lw_g ∧ Cond.initialized q.1 ∈ lw_g
theorem ty_all : ∀ ci, ci < 14 → ∀ j, j < (cls.getD ci ("", TX0, 0)).2.2 → tyT ci j = .int ∨ tyT ci j = .boolean ∨ isRf ci j = true := by decide +kernel
theorem ty_ok {ci : Nat} {q : vw_C} (h : cls[ci]? = some q) {j : Nat} (hj : j < q.2.2) : tyT ci j = .int ∨ tyT ci j = .boolean ∨ isRf ci j = true :=
  ty_all ci (List.getElem?_eq_some_iff.mp h).1 j (by rw [List.getD_eq_getElem?_getD, h]; exact hj)
theorem obj_ins : Cond.instanceMethod Lib.objectInit ∈ lw_g := mem_g 139 (by decide +kernel) rfl
theorem obj_code : Cond.code Lib.objectInit ⟨#[0xb1]⟩ 1 none ∈ lw_g := mem_g 140 (by decide +kernel) rfl
section CALLS
variable {M : MT} {G : Gt} {d bc bs : Nat} {Qz : QZ} {pc : Nat} {ls : List (Option AV)} {st : List AV} {σ : St}
theorem S_new {s : State} {H H' : Heap} {locs : List Loc} (hS : va_S (AG G) s.heap H locs) (z : H'.size = H.size + 1) (oq : ∀ q, q < H.size → H'[q]? = H[q]?) : va_S (AG G) s.heap H' locs :=
  ⟨Nat.le_trans hS.1 (by omega), fun x h1 h2 => (oq x (Nat.lt_of_lt_of_le h1 hS.1)).trans (hS.2.1 x h1 h2), hS.2.2⟩
theorem adr_n {H : Heap} (hW : WD G σ H) : adr G σ.2.2.2 = H.size := by
  unfold adr
  rw [if_neg (by have := hW.1; omega), hW.2.2.1]
theorem AW_new {ci N idx : Nat} (hd : decode M.2.1 pc = .ok (.new idx, 3)) (hl : NWF M.1.cls idx ci N) (k : AW M G d bc bs Qz (pc + 3) ls (vR σ.2.2.2 :: st) (nwC σ (ci, N))) : AW M G d (bc + 1) (bs + N) Qz pc ls st σ := by
  intro p l e s m args below meth c H locs cells slots mc ms lsM C hW hS h1 h2 hL hO
  obtain ⟨q, hq, hN, hw1, hw2, hw3⟩ := hl
  have hts := C.2.2.2.2.2.2.2.1
  have hK := C.2.2.2.2.2.2.2.2.1
  obtain ⟨hSl, hfc, kC, hkC, hkind⟩ := hK.1 ci _ hq
  refine W.newcK C.1 C.2.1 C.2.2.2.2.1 (hts_g hts hw1) (hts_g hts hw2) (hts_g hts hw3) rfl hd (by show cells + 1 ≤ mc; omega) (by show slots + N ≤ ms; omega) hfc rfl fun H1 kC' hkC' e1 z1 o1 => ?_
  have e2 : cv G (vR σ.2.2.2) = .ref H.size := by rw [rf_val hW.1, adr_n hW]
  have hk := k p l e s m args below meth c H1 locs (cells + 1) (slots + N) mc ms lsM C (hW.new ?_ z1 o1) (S_new hS z1 o1) (by omega) (by omega) hL (OKs_cons.mpr ⟨trivial, hO⟩)
  · rw [List.map_cons, e2] at hk
    exact hk
  · rw [cellE_obj G (σ := nwC σ (ci, N)) (r := σ.2.2.2) (ci := ci) (N := N) (by simp [nwC]) (cls_lt hq), adr_n hW]
    refine ⟨q, hq, ?_⟩
    have hb := u_born (tyT ci) hts (fun w hw => List.mem_cons_of_mem _ (cls_lays hq w hw)) ⟨hSl, hfc, kC, hkC, hkind⟩ hkC' e1 (fun j hj => cls_ty hq hj)
    refine hb.to (fun j hj => ?_)
    subst hN
    have e3 : vp_V ((List.range q.2.2).map (fvl G ci ((nwC σ (ci, q.2.2)).2.1 σ.2.2.2) ((nwC σ (ci, q.2.2)).2.2.1 σ.2.2.2))) j = fvl G ci ((nwC σ (ci, q.2.2)).2.1 σ.2.2.2) ((nwC σ (ci, q.2.2)).2.2.1 σ.2.2.2) j := by
      simp [vp_V, List.getElem?_range hj]
    rw [e3]
    simp only [fvl, nwC, if_true]
    rcases ty_ok hq hj with h | h | h
    · rw [h]
      simp [isRf, h, isRt]
      rfl
    · rw [h]
      simp [isRf, h, isRt]
      rfl
    · rw [h]
      unfold isRf isRt at h
      cases ht : tyT ci j with
      | object C => rfl
      | array t => rfl
      | _ => rw [ht] at h; cases h
theorem AW_newa {n : Int} {ty : ArrayType} {ci : Nat} (hd : decode M.2.1 pc = .ok (.newarray ty, 2)) (hc : (ty = .int ∧ ci = 20) ∨ (ty = .byte ∧ ci = 21) ∨ (ty = .boolean ∧ ci = 22)) (hw : Cond.arrayClass (newarray.typeOf ty) ∈ lw_g) (h0 : 0 ≤ n) (hn : n ≤ 100000000) (k : AW M G d bc bs Qz (pc + 2) ls (vR σ.2.2.2 :: st) (nwC σ (ci, n.toNat))) : AW M G d (bc + 1) (bs + n.toNat) Qz pc ls (vI n :: st) σ := by
  intro p l e s m args below meth c H locs cells slots mc ms lsM C hW hS h1 h2 hL hO
  have hts := C.2.2.2.2.2.2.2.1
  have hK := C.2.2.2.2.2.2.2.2.1
  have hI := (OKs_cons.mp hO).1
  have hO2 := (OKs_cons.mp hO).2
  have h20 : 20 ≤ ci ∧ ci ≠ 23 := by rcases hc with ⟨-, rfl⟩ | ⟨-, rfl⟩ | ⟨-, rfl⟩ <;> decide
  refine va_newaK C.1 C.2.1 (hts_g hts hw) rfl hd rfl (fun h => by rw [show (0 : Int32) = Int32.ofInt 0 from rfl, ltI hI in0] at h; omega) (clI h0 hI) (by rcases hc with ⟨rfl, -⟩ | ⟨rfl, -⟩ | ⟨rfl, -⟩ <;> (simp [newarray.typeOf, componentBytes]; omega)) (by show cells + 1 ≤ mc; omega) (by show slots + n.toNat ≤ ms; omega) rfl fun H1 cA e1 z1 o1 hAr hNm => ?_
  have e2 : cv G (vR σ.2.2.2) = .ref H.size := by rw [rf_val hW.1, adr_n hW]
  have hk := k p l e s m args below meth c H1 locs (cells + 1) (slots + n.toNat) mc ms lsM C (hW.new ?_ z1 o1) (S_new hS z1 o1) (by omega) (by omega) hL (OKs_cons.mpr ⟨trivial, hO2⟩)
  · rw [List.map_cons, e2] at hk
    exact hk
  · rw [cellE_int G (σ := nwC σ (ci, n.toNat)) (r := σ.2.2.2) (ci := ci) (N := n.toNat) (by simp [nwC]) h20.1 h20.2, adr_n hW]
    show H1[H.size]? = some (vp_cell _ _)
    rw [e1, vp_cell_i]
    have hcA : cA = G.2.1 ci := by
      rcases hc with ⟨rfl, rfl⟩ | ⟨rfl, rfl⟩ | ⟨rfl, rfl⟩
      · exact Option.some.inj (hNm.symm.trans (hK.2 0 _ rfl).2)
      · exact Option.some.inj (hNm.symm.trans (hK.2 1 _ rfl).2)
      · exact Option.some.inj (hNm.symm.trans (hK.2 2 _ rfl).2)
    rw [hcA]
    congr 2
    funext j
    simp only [nwC, if_true]
    rcases hc with ⟨rfl, -⟩ | ⟨rfl, -⟩ | ⟨rfl, -⟩ <;> rfl
-- returns
theorem AW_iret {x : Int} {Qf : Option AV → St → Prop} (hd : decode M.2.1 pc = .ok (.ireturn, 1)) (hr : M.2.2.2 = some .int) (hq : Qf (some (vI x)) σ) : AW M G d bc bs (mq G Qf) pc ls [vI x] σ := by
  intro p l e s m args below meth c H locs cells slots mc ms lsM C hW hS h1 h2 hL hO
  have hlocks := C.2.2.2.2.2.1
  refine W.widen (k := mc) (n := ms) (by omega) (by omega) ?_
  refine W.iret C.1 C.2.1 (C.2.2.1.trans hr) (fun t ht _ => ⟨⟨some (vI x), σ, hq, rfl, by rw [ht]; exact hW, fun v hv => ?_⟩, hS.F ht⟩) hS.2.2 hd
  cases hv
  exact (OKs_cons.mp hO).1
theorem AW_zret {x : Int} {Qf : Option AV → St → Prop} (hd : decode M.2.1 pc = .ok (.ireturn, 1)) (hr : M.2.2.2 = some .boolean) (hx : x = 0 ∨ x = 1) (hq : Qf (some (vI x)) σ) : AW M G d bc bs (mq G Qf) pc ls [vI x] σ := by
  intro p l e s m args below meth c H locs cells slots mc ms lsM C hW hS h1 h2 hL hO
  have hlocks := C.2.2.2.2.2.1
  refine W.widen (k := mc) (n := ms) (by omega) (by omega) ?_
  refine W.zret (v := Int32.ofInt x) C.1 C.2.1 (C.2.2.1.trans hr) (by rcases hx with rfl | rfl <;> decide) (fun t ht _ => ⟨⟨some (vI x), σ, hq, rfl, by rw [ht]; exact hW, fun v hv => ?_⟩, hS.F ht⟩) hS.2.2 hd
  cases hv
  exact (OKs_cons.mp hO).1
theorem AW_nret {x : Int} {ty : FieldType} {Qf : Option AV → St → Prop} (hd : decode M.2.1 pc = .ok (.ireturn, 1)) (hr : M.2.2.2 = some ty) (hx : narrow ty (.int (Int32.ofInt x)) = .int (Int32.ofInt x)) (hq : Qf (some (vI x)) σ) : AW M G d bc bs (mq G Qf) pc ls [vI x] σ := by
  intro p l e s m args below meth c H locs cells slots mc ms lsM C hW hS h1 h2 hL hO
  have hlocks := C.2.2.2.2.2.1
  refine W.widen (k := mc) (n := ms) (by omega) (by omega) ?_
  refine W.zret (v := Int32.ofInt x) C.1 C.2.1 (C.2.2.1.trans hr) hx (fun t ht _ => ⟨⟨some (vI x), σ, hq, rfl, by rw [ht]; exact hW, fun v hv => ?_⟩, hS.F ht⟩) hS.2.2 hd
  cases hv
  exact (OKs_cons.mp hO).1
theorem AW_vret {Qf : Option AV → St → Prop} (hd : decode M.2.1 pc = .ok (.return_, 1)) (hr : M.2.2.2 = none) (hq : Qf none σ) : AW M G d bc bs (mq G Qf) pc ls [] σ := by
  intro p l e s m args below meth c H locs cells slots mc ms lsM C hW hS h1 h2 hL hO
  have hlocks := C.2.2.2.2.2.1
  refine W.widen (k := mc) (n := ms) (by omega) (by omega) ?_
  refine W.vret C.1 C.2.1 (C.2.2.1.trans hr) (fun t ht _ => ⟨⟨none, σ, hq, rfl, by rw [ht]; exact hW, fun v hv => ?_⟩, hS.F ht⟩) hS.2.2 hd
  cases hv
theorem AW_aret {r : Nat} {ty : FieldType} {Qf : Option AV → St → Prop} (hd : decode M.2.1 pc = .ok (.areturn, 1)) (hr : M.2.2.2 = some ty) (hq : Qf (some (vR r)) σ) (ht : isRt ty = true := by rfl) : AW M G d bc bs (mq G Qf) pc ls [vR r] σ := by
  intro p l e s m args below meth c H locs cells slots mc ms lsM C hW hS h1 h2 hL hO
  have hlocks := C.2.2.2.2.2.1
  refine W.widen (k := mc) (n := ms) (by omega) (by omega) ?_
  refine W.aret (v := cv G (vR r)) (rt := ty) C.1 C.2.1 (C.2.2.1.trans hr) ?_ ?_ (fun t ht _ => ⟨⟨some (vR r), σ, hq, rfl, by rw [ht]; exact hW, fun v hv => ?_⟩, hS.F ht⟩) hS.2.2 hd
  · unfold isRt at ht
    cases ty with
    | object C => exact Or.inl ⟨C, rfl⟩
    | array t => exact Or.inr ⟨t, rfl⟩
    | _ => cases ht
  · show va_rf (crf G r) = .null ∨ ∃ a, va_rf (crf G r) = .ref a
    cases crf G r with
    | none => exact Or.inl rfl
    | some a => exact Or.inr ⟨a, rfl⟩
  · cases hv
    trivial
-- calls
theorem run_go {p : Program} {l : Launch} {e : Env} {s : State} {m : MethodId} {args : Array Value} {below : List Frame} {meth : Method} {c : Code} {H : Heap} {locs : List Loc} {cells slots mc ms mc' ms' : Nat} {lsM : Array Slot} {bc' bs' : Nat} {Qf : Option AV → St → Prop} {rest : List AV} {st0 : List Value} {a : Array Value}
    (hr : va_Run p l e (rmv d mc ms) s m args below meth c H locs cells slots mc' ms' (F0 m pc lsM st0) (rest.map (cv G)) (AQ G Qf a) (AG G)) (C : CX M G p s m args meth c) (hS : va_S (AG G) s.heap H locs) (h1 : cells + mc' + bc' ≤ mc) (h2 : slots + ms' + bs' ≤ ms) (hL : LH G lsM M.2.2.1 ls) (hO : OKs rest)
    (kk : ∀ (r : Option AV) (τ : St), Qf r τ → (∀ v, r = some v → OKv v) → AW M G d bc' bs' Qz (pc + 3) ls (r.toList ++ rest) τ) : W p l e (rmv d mc ms) s m args below meth c H locs cells slots (Qz mc ms s args below) (F0 m pc lsM st0) := by
  intro T hT X
  obtain ⟨v, st₀, t, T', L, h0, X', hLc, e1, e2, ⟨⟨r, τ, hq, hv, hWt, hok⟩, hz, hk⟩, stp⟩ := hr T hT X
  rw [h0] at hz hk
  have hv2 : v = r.map (cv G) := by
    injection hv
  have hS' : va_S (AG G) s.heap T'.heap (locs ++ L) := by
    refine ⟨Nat.le_trans hS.1 (by rw [e1]; exact hz), fun q g1 g2 => ?_, fun q hq => ?_⟩
    · rw [e1, hk q (Nat.lt_of_lt_of_le g1 hS.1) g2]
      exact hS.2.1 q g1 g2
    · rcases List.mem_append.mp hq with h | h
      · exact hS.2.2 q h
      · exact hLc q h
  have hOr : OKs (r.toList ++ rest) := by
    refine OKs_app (fun w hw => ?_) hO
    cases r with
    | none => cases hw
    | some w2 =>
      rw [Option.toList_some, List.mem_singleton] at hw
      rw [hw]
      exact hok w2 rfl
  obtain ⟨t2, a1, b1⟩ := kk r τ hq hok p l e s m args below meth c T'.heap (locs ++ L) (cells + mc') (slots + ms') mc ms lsM C (by rw [e1]; exact hWt) hS' h1 h2 hL hOr T' rfl X'
  refine ⟨t2, stp t2 ?_, b1⟩
  have e3 : v.toList ++ rest.map (cv G) = (r.toList ++ rest).map (cv G) := by
    rw [hv2, List.map_append]
    cases r <;> rfl
  show Steps p.tables e below (T'.setTop { F0 m pc lsM st0 with pc := pc + 3, stack := v.toList ++ rest.map (cv G) }) t2
  rw [e3]
  exact a1
theorem room_ok {mL d d' bc' bs' mc ms : Nat} (hd : d' + 1 ≤ d) (hm : mL ≤ 22) : (rmv d' bc' bs').frames + 1 ≤ (rmv d mc ms).frames ∧ 8 + (mL + 11) + (rmv d' bc' bs').locals ≤ (rmv d mc ms).locals := by
  simp only [rmv]
  omega
theorem stk_room {m : MethodId} {lsM : Array Slot} {st0 : List Value} {rest : List AV} (h : (rest.map catA).sum ≤ 8) : 2 * (F0 m pc lsM st0).monitorRoom + ((rest.map (cv G)).map fun v => v.category).sum ≤ 8 := by
  show 2 * 0 + _ ≤ 8
  rw [cat_sum]
  omega
theorem AW_callVg {M' : MT} {n idx r ci N d' bc' bs' : Nat} {As rest : List AV} {Qf : Option AV → St → Prop} (hd : decode M.2.1 pc = .ok (.invokevirtual idx, 3)) (hl : LK M.1.cls idx M' ∨ LKn M.1.cls idx M') (hf : MFv M' n) (hk : Cel σ r (ci, N)) (hc : ∃ q, cls[ci]? = some q ∧ q.1 = M'.1.cls) (hM : AM M' G d' bc' bs' (vR r :: As) σ Qf) (hd' : d' + 1 ≤ d) (hn : As.length = n) (hr : (rest.map catA).sum ≤ 8)
    (kk : ∀ (r : Option AV) (τ : St), Qf r τ → (∀ v, r = some v → OKv v) → AW M G d bc bs Qz (pc + 3) ls (r.toList ++ rest) τ) : AW M G d (bc + bc') (bs + bs') Qz pc ls (As.reverse ++ vR r :: rest) σ := by
  intro p l e s m args below meth c H locs cells slots mc ms lsM C hW hS h1 h2 hL hO
  obtain ⟨h16, hlt, hkr⟩ := hk
  obtain ⟨q, hq, hqc⟩ := hc
  have hts := C.2.2.2.2.2.2.2.1
  have hKn := C.2.2.2.2.2.2.2.2
  have hOA : OKs (vR r :: As) := by
    intro v hv
    rcases List.mem_cons.mp hv with rfl | h
    · trivial
    · exact hO v (List.mem_append_left _ (List.mem_reverse.mpr h))
  have hOr : OKs rest := fun v hv => hO v (List.mem_append_right _ (List.mem_cons_of_mem _ hv))
  have he := wl_at G h16 hlt
  rw [cellE_obj G hkr (cls_lt hq)] at he
  obtain ⟨⟨hini, hcode, hdd, hml⟩, hins, hsel⟩ := hf
  have hrv : (∃ cellB : Cell, H[adr G r]? = some cellB ∧ cellB.vm.isStatics = false ∧ s.vm.findClass M'.1.cls = some cellB.cls) := by
    have := va_recv hKn.1 hW.2.1 hq he
    rw [hqc] at this
    exact this
  have hp : PreV s H M'.1.cls (adr G r) (va_Pc ((vR r :: As).map (cv G)) (fun U => WD G σ U.heap ∧ Kn G U)) (As.map (cv G)) := by
    refine ⟨AMblind G σ _, hrv, fun U hU hWm => ⟨?_, ?_, hKn.go hS hWm hU⟩⟩
    · rw [List.map_cons, rf_val h16]
    · rw [hU]; exact hW
  have hst : (F0 m pc lsM ((As.reverse ++ vR r :: rest).map (cv G))).stack = (As.map (cv G)).reverse ++ .ref (adr G r) :: rest.map (cv G) := by
    show (As.reverse ++ vR r :: rest).map (cv G) = _
    rw [List.map_append, List.map_cons, rf_val h16, List.map_reverse]
  have hfits : cells + bc' ≤ mc ∧ slots + bs' ≤ ms := ⟨by omega, by omega⟩
  have hM2 := hM hOA l
  rcases hl with hl | ⟨host, hl⟩
  · have cw : CallW (rmv d mc ms) s args M.1.cls M'.1.cls idx M'.1 M'.2.1 M'.2.2.1 M'.2.2.2 (wsOf M') (rmv d' bc' bs') bc' bs' n := ⟨callB_of n hts (good_g hcode) rfl rfl rfl (hts_g hts hini) (hts_g hts hl) hdd (room_ok hd' hml), hts_g hts hins, hts_g hts hsel⟩
    have := va_runV (locs := locs) (below := below) (meth := meth) (cells := cells) (slots := slots) (e := e) (As := As.map (cv G)) (rest := rest.map (cv G)) (g := F0 m pc lsM ((As.reverse ++ vR r :: rest).map (cv G))) ⟨C.1, C.2.1, C.2.2.2.1, C.2.2.2.2.1, hts⟩ hM2 cw hp rfl (by rw [List.length_map]; exact hn) hL.2.1 hst (stk_room hr) hd hfits
    exact run_go this C hS (by omega) (by omega) hL hOr kk
  · have cw : va_CN (rmv d mc ms) s args M.1.cls idx M'.1 host M'.2.1 M'.2.2.1 M'.2.2.2 (wsOf M') (rmv d' bc' bs') bc' bs' n := va_cnB n hts (good_g hcode) rfl rfl rfl (hKn.2.1 _ hl) (hts_g hts hini) hdd (room_ok hd' hml)
    have := va_runVN (locs := locs) (below := below) (meth := meth) (cells := cells) (slots := slots) (e := e) (As := As.map (cv G)) (rest := rest.map (cv G)) (g := F0 m pc lsM ((As.reverse ++ vR r :: rest).map (cv G))) ⟨C.1, C.2.1, C.2.2.2.1, C.2.2.2.2.1, hts⟩ hM2 ⟨cw, hts_g hts hins, hts_g hts hsel⟩ hp rfl (by rw [List.length_map]; exact hn) hL.2.1 hst (stk_room hr) hd hfits
    exact run_go this C hS (by omega) (by omega) hL hOr kk
theorem AW_callSg {M' : MT} {n idx d' bc' bs' : Nat} {As rest : List AV} {Qf : Option AV → St → Prop} (hd : decode M.2.1 pc = .ok (.invokestatic idx, 3)) (hl : LK M.1.cls idx M') (hf : MFs M' n) (hM : AM M' G d' bc' bs' As σ Qf) (hd' : d' + 1 ≤ d) (hn : As.length = n) (hr : (rest.map catA).sum ≤ 8)
    (kk : ∀ (r : Option AV) (τ : St), Qf r τ → (∀ v, r = some v → OKv v) → AW M G d bc bs Qz (pc + 3) ls (r.toList ++ rest) τ) : AW M G d (bc + bc') (bs + bs') Qz pc ls (As.reverse ++ rest) σ := by
  intro p l e s m args below meth c H locs cells slots mc ms lsM C hW hS h1 h2 hL hO
  have hts := C.2.2.2.2.2.2.2.1
  have hKn := C.2.2.2.2.2.2.2.2
  have hOA : OKs As := fun v h => hO v (List.mem_append_left _ (List.mem_reverse.mpr h))
  have hOr : OKs rest := fun v hv => hO v (List.mem_append_right _ hv)
  obtain ⟨⟨hini, hcode, hdd, hml⟩, hstt⟩ := hf
  have hp : PreS s H (va_Pc (As.map (cv G)) (fun U => WD G σ U.heap ∧ Kn G U)) (As.map (cv G)) := by
    refine ⟨AMblind G σ _, fun U hU hWm => ⟨rfl, ?_, hKn.go hS hWm hU⟩⟩
    rw [hU]; exact hW
  have hst : (F0 m pc lsM ((As.reverse ++ rest).map (cv G))).stack = (As.map (cv G)).reverse ++ rest.map (cv G) := by
    show (As.reverse ++ rest).map (cv G) = _
    rw [List.map_append, List.map_reverse]
  have hM2 := hM hOA l
  have cw : CallB (rmv d mc ms) s args M.1.cls idx M'.1 M'.2.1 M'.2.2.1 M'.2.2.2 (wsOf M') (rmv d' bc' bs') bc' bs' n := callB_of n hts (good_g hcode) rfl rfl rfl (hts_g hts hini) (hts_g hts hl) hdd (room_ok hd' hml)
  have := va_runS (locs := locs) (below := below) (meth := meth) (cells := cells) (slots := slots) (e := e) (As := As.map (cv G)) (rest := rest.map (cv G)) (g := F0 m pc lsM ((As.reverse ++ rest).map (cv G))) ⟨C.1, C.2.1, C.2.2.2.1, C.2.2.2.2.1, hts⟩ hM2 ⟨cw, hts_g hts hstt⟩ hp rfl (by rw [List.length_map]; exact hn) hL.2.1 hst (stk_room hr) hd ⟨by show cells + bc' ≤ mc; omega, by show slots + bs' ≤ ms; omega⟩
  exact run_go this C hS (by omega) (by omega) hL hOr kk
theorem AW_callIg {M' : MT} {n idx r d' bc' bs' : Nat} {As rest : List AV} {Qf : Option AV → St → Prop} (hd : decode M.2.1 pc = .ok (.invokespecial idx, 3)) (hl : LK M.1.cls idx M' ∨ LKn M.1.cls idx M') (hf : MFi M' n) (h16 : 16 ≤ r) (hM : AM M' G d' bc' bs' (vR r :: As) σ Qf) (hd' : d' + 1 ≤ d) (hn : As.length = n) (hr : (rest.map catA).sum ≤ 8)
    (kk : ∀ (r : Option AV) (τ : St), Qf r τ → (∀ v, r = some v → OKv v) → AW M G d bc bs Qz (pc + 3) ls (r.toList ++ rest) τ) : AW M G d (bc + bc') (bs + bs') Qz pc ls (As.reverse ++ vR r :: rest) σ := by
  intro p l e s m args below meth c H locs cells slots mc ms lsM C hW hS h1 h2 hL hO
  have hts := C.2.2.2.2.2.2.2.1
  have hKn := C.2.2.2.2.2.2.2.2
  have hOA : OKs (vR r :: As) := by
    intro v hv
    rcases List.mem_cons.mp hv with rfl | h
    · trivial
    · exact hO v (List.mem_append_left _ (List.mem_reverse.mpr h))
  have hOr : OKs rest := fun v hv => hO v (List.mem_append_right _ (List.mem_cons_of_mem _ hv))
  obtain ⟨⟨hini, hcode, hdd, hml⟩, hnm, hins, hret⟩ := hf
  have hp : PreS s H (va_Pc ((vR r :: As).map (cv G)) (fun U => WD G σ U.heap ∧ Kn G U)) (.ref (adr G r) :: As.map (cv G)) := by
    refine ⟨AMblind G σ _, fun U hU hWm => ⟨?_, ?_, hKn.go hS hWm hU⟩⟩
    · rw [List.map_cons, rf_val h16]
    · rw [hU]; exact hW
  have hst : (F0 m pc lsM ((As.reverse ++ vR r :: rest).map (cv G))).stack = (As.map (cv G)).reverse ++ .ref (adr G r) :: rest.map (cv G) := by
    show (As.reverse ++ vR r :: rest).map (cv G) = _
    rw [List.map_append, List.map_cons, rf_val h16, List.map_reverse]
  have hM2 := hM hOA l
  have hcode2 : Cond.code M'.1 M'.2.1 M'.2.2.1 none ∈ lw_g := by rw [← hret]; exact hcode
  have hws : wsOf M' = Cond.code M'.1 M'.2.1 M'.2.2.1 none :: lw_g := by rw [← hret]; rfl
  rcases hl with hl | ⟨host, hl⟩
  · have cw : CallB (rmv d mc ms) s args M.1.cls idx M'.1 M'.2.1 M'.2.2.1 none (wsOf M') (rmv d' bc' bs') bc' bs' n := callB_of n hts (good_g hcode) hws rfl rfl (hts_g hts hini) (hts_g hts hl) hdd (room_ok hd' hml)
    have := va_runI (locs := locs) (below := below) (meth := meth) (cells := cells) (slots := slots) (e := e) (As := As.map (cv G)) (rest := rest.map (cv G)) (g := F0 m pc lsM ((As.reverse ++ vR r :: rest).map (cv G))) ⟨C.1, C.2.1, C.2.2.2.1, C.2.2.2.2.1, hts⟩ hM2 ⟨cw, hnm, hts_g hts hins⟩ hp rfl (by rw [List.length_map]; exact hn) hL.2.1 hst (stk_room hr) hd ⟨by show cells + bc' ≤ mc; omega, by show slots + bs' ≤ ms; omega⟩
    exact run_go this C hS (by omega) (by omega) hL hOr kk
  · have cw : va_CN (rmv d mc ms) s args M.1.cls idx M'.1 host M'.2.1 M'.2.2.1 none (wsOf M') (rmv d' bc' bs') bc' bs' n := va_cnB n hts (good_g hcode) hws rfl rfl (hKn.2.1 _ hl) (hts_g hts hini) hdd (room_ok hd' hml)
    have := va_runIN (locs := locs) (below := below) (meth := meth) (cells := cells) (slots := slots) (e := e) (As := As.map (cv G)) (rest := rest.map (cv G)) (g := F0 m pc lsM ((As.reverse ++ vR r :: rest).map (cv G))) ⟨C.1, C.2.1, C.2.2.2.1, C.2.2.2.2.1, hts⟩ hM2 ⟨cw, hnm, hts_g hts hins⟩ hp rfl (by rw [List.length_map]; exact hn) hL.2.1 hst (stk_room hr) hd ⟨by show cells + bc' ≤ mc; omega, by show slots + bs' ≤ ms; omega⟩
    exact run_go this C hS (by omega) (by omega) hL hOr kk
theorem AW_objInit {idx r : Nat} (hd : decode M.2.1 pc = .ok (.invokespecial idx, 3)) (hl : Cond.methodLink M.1.cls idx Lib.objectInit ∈ lw_g) (h16 : 16 ≤ r) (hd1 : 1 ≤ d) (hr : (st.map catA).sum ≤ 8) (k : AW M G d bc bs Qz (pc + 3) ls st σ) : AW M G d bc bs Qz pc ls (vR r :: st) σ := by
  intro p l e s m args below meth c H locs cells slots mc ms lsM C hW hS h1 h2 hL hO
  have hts := C.2.2.2.2.2.2.2.1
  rw [List.map_cons, rf_val h16]
  refine W.objInit C.1 C.2.1 C.2.2.2.2.1 (hts_g hts hl) (hts_g hts obj_ins) (hts_g hts obj_code) rfl (by rw [C.2.2.2.1]; exact hL.2.1) rfl hd hd1 ?_ (k p l e s m args below meth c H locs cells slots mc ms lsM C hW hS h1 h2 hL (OKs_cons.mp hO).2)
  show 2 * 0 + _ + 12 ≤ 41 * d + 32
  rw [cat_sum]
  omega
end CALLS
