theorem WD.upd {G : Gt} {σ τ : St} {H H' : Heap} {r : Nat} (hW : WD G σ H) (h16 : 16 ≤ r) (hlt : r < σ.2.2.2) (hn : τ.2.2.2 = σ.2.2.2) (hat : va_at G.1 cls (adr G r, cellE G τ r) H') (ho : ∀ r', r' ≠ r → cellE G τ r' = cellE G σ r') (hi : ∀ r j, InR (τ.2.1 r j)) (z : H'.size = H.size) (oq : ∀ q, q ≠ adr G r → H'[q]? = H[q]?) : WD G τ H' := by
  refine ⟨by rw [hn]; exact hW.1, fun k q hk => ?_, by rw [z, hn]; exact hW.2.2.1, hi⟩
  obtain ⟨hk1, rfl⟩ := wl_get G hk
  by_cases hr : k + 16 = r
  · have e1 : adr G r = G.2.2.1 + k := by
      unfold adr
      rw [if_neg (by omega)]
      omega
    rw [e1, ← hr] at hat
    exact hat
  · have h1 : k + 16 < σ.2.2.2 := by omega
    have h2 := hW.2.1 k (G.2.2.1 + k, cellE G σ (k + 16)) (by
      have := wl_at G (σ := σ) (r := k + 16) (by omega) h1
      rw [show k + 16 - 16 = k by omega] at this
      rw [this]
      unfold adr
      rw [if_neg (by omega), show k + 16 - 16 = k by omega])
    rw [ho _ hr]
    refine va_at.kept h2 (oq _ ?_)
    show G.2.2.1 + k ≠ adr G r
    unfold adr
    rw [if_neg (by omega)]
    omega
theorem cls_ty {ci : Nat} {q : vw_C} (h : cls[ci]? = some q) {j : Nat} (hj : j < q.2.2) : parseFieldDescriptor (q.2.1 j).2.2.1 = some (tyT ci j) := by
  have h20 : ci < 14 := (List.getElem?_eq_some_iff.mp h).1
  match ci, h20, h with
  | 0, _, h => cases h; exact tyX0_ok j hj
  | 1, _, h => cases h; exact tyX1_ok j hj
  | 2, _, h => cases h; exact tyX2_ok j hj
  | 3, _, h => cases h; exact tyX3_ok j hj
  | 4, _, h => cases h; exact tyX4_ok j hj
  | 5, _, h => cases h; exact tyX5_ok j hj
  | 6, _, h => cases h; exact tyX6_ok j hj
  | 7, _, h => cases h; exact tyX7_ok j hj
  | 8, _, h => cases h; exact tyX8_ok j hj
  | 9, _, h => cases h; exact tyX9_ok j hj
  | 10, _, h => cases h; exact tyX10_ok j hj
  | 11, _, h => cases h; exact tyX11_ok j hj
  | 12, _, h => cases h; exact tyX12_ok j hj
  | 13, _, h => cases h; exact tyJx4a65c_ok j hj
  | n + 14, h20, _ => exact absurd h20 (by omega)
theorem cls_nm {ci : Nat} {q : vw_C} (h : cls[ci]? = some q) : ∀ a, a < q.2.2 → ∀ b, b < q.2.2 → a ≠ b → (q.2.1 a).2.1 ≠ (q.2.1 b).2.1 := by
  have h20 : ci < 14 := (List.getElem?_eq_some_iff.mp h).1
  match ci, h20, h with
  | 0, _, h => cases h; exact nmX0
  | 1, _, h => cases h; exact nmX1
  | 2, _, h => cases h; exact nmX2
  | 3, _, h => cases h; exact nmX3
  | 4, _, h => cases h; exact nmX4
  | 5, _, h => cases h; exact nmX5
  | 6, _, h => cases h; exact nmX6
  | 7, _, h => cases h; exact nmX7
  | 8, _, h => cases h; exact nmX8
  | 9, _, h => cases h; exact nmX9
  | 10, _, h => cases h; exact nmX10
  | 11, _, h => cases h; exact nmX11
  | 12, _, h => cases h; exact nmX12
  | 13, _, h => cases h; exact nmJx4a65c
  | n + 14, h20, _ => exact absurd h20 (by omega)
/-- a field that may be written: not final, or final in its own class's constructor -/
def PF (own : String) (idx ci N j : Nat) : Prop := ∃ q : vw_C, cls[ci]? = some q ∧ q.2.2 = N ∧ j < N ∧ (q.2.1 j).2.2.2 = false ∧ (∃ ref : String, Cond.fieldLink own idx ref (q.2.1 j).2.1 (q.2.1 j).2.2.1 ∈ lw_g ∧ (ref = (q.2.1 j).1 ∨ Cond.sameField ref (q.2.1 j).1 (q.2.1 j).2.1 (q.2.1 j).2.2.1 ∈ lw_g))
def PFF (own : String) (idx ci N j : Nat) : Prop := ∃ q : vw_C, cls[ci]? = some q ∧ q.2.2 = N ∧ j < N ∧ (q.2.1 j).2.2.2 = true ∧ (q.2.1 j).1 = own ∧ Cond.fieldLink own idx (q.2.1 j).1 (q.2.1 j).2.1 (q.2.1 j).2.2.1 ∈ lw_g
def PFN (own : String) (idx ci N j : Nat) : Prop := ∃ q : vw_C, cls[ci]? = some q ∧ q.2.2 = N ∧ j < N ∧ (q.2.1 j).2.2.2 = false ∧ ∃ host : String, Cond.fieldLinkNest own idx (q.2.1 j).1 (q.2.1 j).2.1 (q.2.1 j).2.2.1 host ∈ lw_sp
def PA (M : MT) (idx ci N j : Nat) : Prop := PF M.1.cls idx ci N j ∨ (PFF M.1.cls idx ci N j ∧ M.1.name = "<init>") ∨ PFN M.1.cls idx ci N j
section HEAP2
variable {M : MT} {G : Gt} {d bc bs : Nat} {Qz : QZ} {pc : Nat} {ls : List (Option AV)} {st : List AV} {σ : St}
set_option maxHeartbeats 2000000 in
theorem AW_put {r ci N j idx : Nat} {v : AV} {τ : St} (hd : decode M.2.1 pc = .ok (.putfield idx, 3)) (hl : PA M idx ci N j) (hk : Cel σ r (ci, N)) (hn : τ.2.2.2 = σ.2.2.2) (hkd : τ.1 = σ.1) (hv : fvl G ci (τ.2.1 r) (τ.2.2.1 r) j = cv G v) (hother : ∀ i, i ≠ j → fvl G ci (τ.2.1 r) (τ.2.2.1 r) i = fvl G ci (σ.2.1 r) (σ.2.2.1 r) i) (ho : ∀ r', r' ≠ r → cellE G τ r' = cellE G σ r')
    (hfit : narrow (tyT ci j) (cv G v) = cv G v ∧ fits (tyT ci j) (cv G v) = true) (hi : (∀ r j, InR (σ.2.1 r j)) → OKv v → ∀ r j, InR (τ.2.1 r j)) (k : AW M G d bc bs Qz (pc + 3) ls st τ) : AW M G d bc bs Qz pc ls (v :: vR r :: st) σ := by
  intro p l e s m args below meth c H locs cells slots mc ms lsM C hW hS h1 h2 hL hO
  obtain ⟨h16, hlt, hkr⟩ := hk
  have hO1 := (OKs_cons.mp hO).1
  have hO2 := (OKs_cons.mp (OKs_cons.mp hO).2).2
  have hts := C.2.2.2.2.2.2.2.1
  have hK := C.2.2.2.2.2.2.2.2.1
  have hkey : ∀ q : vw_C, cls[ci]? = some q → q.2.2 = N → j < N → ∀ (cell : Cell) (f : Field), H[adr G r]? = some cell → cell.cls = G.1.1 ci → cell.vm = .none → (∀ i, i < N → cell.slots[G.1.2 ci i]? = some (vp_V ((List.range N).map (fvl G ci (σ.2.1 r) (σ.2.2.1 r))) i)) → f.slot = G.1.2 ci j →
      ∀ H' : Heap, H'[adr G r]? = some (cell.setSlot f.slot (cv G v)) → H'.size = H.size → (∀ q, q ≠ adr G r → H'[q]? = H[q]?) → W p l e (rmv d mc ms) s m args below meth c H' (locs ++ [⟨adr G r, f.slot⟩]) cells slots (Qz mc ms s args below) (F0 m (pc + 3) lsM (st.map (cv G))) := by
    intro q hq hN hj cell f g1 g2 g3 g4 hsl H' e1 z oq
    have hap := va_apart (own := M.1.cls) hts (fun w hw => List.mem_cons_of_mem _ (cls_lays hq w hw)) (tyT ci) (fun i hi => cls_ty hq hi) (cls_nm hq) hK hq
    refine k p l e s m args below meth c H' _ cells slots mc ms lsM C (hW.upd h16 hlt hn ?_ ho (hi hW.2.2.2 hO1) z oq) (hS.put z oq (AG_adr h16)) h1 h2 hL hO2
    rw [cellE_obj G (by rw [hkd]; exact hkr) (cls_lt hq)]
    refine ⟨q, hq, ?_⟩
    rw [hsl] at e1
    rw [hN]
    refine t_OB.to (V := updV (vp_V ((List.range N).map (fvl G ci (σ.2.1 r) (σ.2.2.1 r)))) j (cv G v)) ⟨_, e1, g2, g3, t_set g4 (by rw [← hN]; exact hap) hj (cv G v)⟩ (fun i hi => ?_)
    by_cases hij : i = j
    · subst hij
      simp [updV, vp_V, List.getElem?_range hi, hv]
    · simp [updV, vp_V, List.getElem?_range hi, hij, hother i hij]
  rw [List.map_cons, List.map_cons, rf_val h16]
  have he := wl_at G h16 hlt
  rcases hl with ⟨q, hq, hN, hj, hfin, ref, hw, hs⟩ | ⟨⟨q, hq, hN, hj, hfin, hdecl, hw⟩, hin⟩ | ⟨q, hq, hN, hj, hfin, host, hw⟩
  all_goals
    subst hN
    rw [cellE_obj G hkr (cls_lt hq)] at he
    obtain ⟨rr, hr1, cell, g1, g2, g3, g4⟩ := hW.2.1 _ _ he
    cases hr1.symm.trans hq
    obtain ⟨hSl, hfc, kC, hkC, hkind⟩ := hK.1 ci _ hq
    obtain ⟨cf, kf, fi, f, hif, hsl⟩ := hSl j hj
    have hlay := hts _ (List.mem_cons_of_mem _ (cls_lays hq _ (u_in_lay hj)))
    have hst := (u_facts hfc hkC (u_lays hts (fun w hw => List.mem_cons_of_mem _ (cls_lays hq w hw)) hj) hif).1
    unfold u_lay at hlay
  · rw [if_neg (by rw [hfin]; decide)] at hlay
    have h6 := u_store hfc hkC hkind hlay hif (cls_ty hq hj) hfit.1 hfit.2
    exact W.putK C.1 C.2.1 (f := f) ⟨C.2.2.2.2.1, hts_g hts hw, ⟨_, _, _, by
      rcases hs with rfl | hs
      · exact hif
      · exact u_same (hts_g hts hs) _ hif⟩, hst⟩ (by rw [g2]; exact h6) g1 g3 (by rw [hsl]; exact k2_hasslot (g4 j hj)) rfl rfl hd (hkey q hq rfl hj cell f g1 g2 g3 g4 hsl)
  · rw [if_pos hfin] at hlay
    have hcf : m.cls = cf := by
      obtain ⟨_, _, c', _, _, _, -, -, hf', -, -, -, hown2, -⟩ := Cond.laysFinal_spec hlay
      have e1 : c' = cf := by have := hif.symm.trans hf'; simp at this; exact this.1.symm
      rw [hdecl] at hown2
      rw [← e1]; exact Option.some.inj (C.2.2.2.2.1.symm.trans hown2)
    have h6 := u_fits hfc hkC hkind (Or.inr hlay) hif (cls_ty hq hj) hfit.1 hfit.2
    exact W.putFinK C.1 C.2.1 C.2.2.2.2.1 (hts_g hts hw) hif hst hcf (C.2.2.2.2.2.2.1.trans hin) (by rw [g2]; exact h6) g1 g3 (by rw [hsl]; exact k2_hasslot (g4 j hj)) rfl rfl hd (hkey q hq rfl hj cell f g1 g2 g3 g4 hsl)
  · rw [if_neg (by rw [hfin]; decide)] at hlay
    have h6 := u_store hfc hkC hkind hlay hif (cls_ty hq hj) hfit.1 hfit.2
    exact va_WputK C.1 C.2.1 (f := f) C.2.2.2.2.1 (va_Nw.use rfl (C.2.2.2.2.2.2.2.2.2.1 _ hw)) hif hst (by rw [g2]; exact h6) g1 g3 (by rw [hsl]; exact k2_hasslot (g4 j hj)) rfl rfl hd (hkey q hq rfl hj cell f g1 g2 g3 g4 hsl)
theorem upI_other (σ : St) (r j : Nat) (x : Int) : ∀ r', r' ≠ r → cellE G (upI σ r j x) r' = cellE G σ r' := by
  intro r' h
  simp only [cellE, upI]
  congr 1
  funext i
  rw [if_neg (by intro q; exact h q.1)]
theorem upR_other (σ : St) (r j : Nat) (x : Nat) : ∀ r', r' ≠ r → cellE G (upR σ r j x) r' = cellE G σ r' := by
  intro r' h
  simp only [cellE, upR]
  congr 1
  funext i
  rw [if_neg (by intro q; exact h q.1)]
theorem upI_in {σ : St} {r j : Nat} {x : Int} (h : ∀ r j, InR (σ.2.1 r j)) (hx : InR x) : ∀ r' j', InR ((upI σ r j x).2.1 r' j') := by
  intro r' j'
  simp only [upI]
  split
  · exact hx
  · exact h r' j'
theorem AW_putI {r ci N j idx : Nat} {x : Int} (hd : decode M.2.1 pc = .ok (.putfield idx, 3)) (hl : PA M idx ci N j) (hk : Cel σ r (ci, N)) (k : AW M G d bc bs Qz (pc + 3) ls st (upI σ r j x)) (ht : tyT ci j = .int := by rfl) : AW M G d bc bs Qz pc ls (vI x :: vR r :: st) σ := by
  have hf : isRf ci j = false := by simp [isRf, ht, isRt]
  refine AW_put (τ := upI σ r j x) hd hl hk rfl rfl (by simp [fvl, hf, upI, cv]) (fun i hi => by simp [fvl, upI, hi]) (upI_other σ r j x) ?_ (fun h hx => upI_in h hx) k
  rw [ht]
  exact ⟨rfl, rfl⟩
theorem AW_putZ {r ci N j idx : Nat} {x : Int} (hd : decode M.2.1 pc = .ok (.putfield idx, 3)) (hl : PA M idx ci N j) (hk : Cel σ r (ci, N)) (hx : x = 0 ∨ x = 1) (k : AW M G d bc bs Qz (pc + 3) ls st (upI σ r j x)) (ht : tyT ci j = .boolean := by rfl) : AW M G d bc bs Qz pc ls (vI x :: vR r :: st) σ := by
  have hf : isRf ci j = false := by simp [isRf, ht, isRt]
  refine AW_put (τ := upI σ r j x) hd hl hk rfl rfl (by simp [fvl, hf, upI, cv]) (fun i hi => by simp [fvl, upI, hi]) (upI_other σ r j x) ?_ (fun h hx => upI_in h hx) k
  rw [ht]
  rcases hx with rfl | rfl
  · show narrow .boolean (.int (Int32.ofInt 0)) = .int (Int32.ofInt 0) ∧ fits .boolean (.int (Int32.ofInt 0)) = true
    decide
  · show narrow .boolean (.int (Int32.ofInt 1)) = .int (Int32.ofInt 1) ∧ fits .boolean (.int (Int32.ofInt 1)) = true
    decide
theorem AW_putR {r ci N j idx : Nat} {x : Nat} (hd : decode M.2.1 pc = .ok (.putfield idx, 3)) (hl : PA M idx ci N j) (hk : Cel σ r (ci, N)) (k : AW M G d bc bs Qz (pc + 3) ls st (upR σ r j x)) (ht : isRf ci j = true := by rfl) : AW M G d bc bs Qz pc ls (vR x :: vR r :: st) σ := by
  refine AW_put (τ := upR σ r j x) hd hl hk rfl rfl (by simp [fvl, ht, upR, cv]) (fun i hi => by simp [fvl, upR, hi]) (upR_other σ r j x) ?_ (fun h _ => h) k
  unfold isRf isRt at ht
  show narrow (tyT ci j) (va_rf (crf G x)) = va_rf (crf G x) ∧ fits (tyT ci j) (va_rf (crf G x)) = true
  cases hty : tyT ci j with
  | object C => constructor <;> (cases crf G x <;> rfl)
  | array t => constructor <;> (cases crf G x <;> rfl)
  | _ => rw [hty] at ht; cases ht
-- arrays
theorem AW_alen {r ci N : Nat} (hd : decode M.2.1 pc = .ok (.arraylength, 1)) (hk : Cel σ r (ci, N)) (h20 : 20 ≤ ci ∧ ci ≤ 23) (hN : N < 2147483648) (k : AW M G d bc bs Qz (pc + 1) ls (vI (N : Int) :: st) σ) : AW M G d bc bs Qz pc ls (vR r :: st) σ := by
  intro p l e s m args below meth c H locs cells slots mc ms lsM C hW hS h1 h2 hL hO
  obtain ⟨h16, hlt, hkr⟩ := hk
  have he := wl_at G h16 hlt
  have hkk := k p l e s m args below meth c H locs cells slots mc ms lsM C hW hS h1 h2 hL (OKs_cons.mpr ⟨⟨by omega, by omega⟩, (OKs_cons.mp hO).2⟩)
  rw [List.map_cons, rf_val h16]
  have hnn : Int32.ofNat N = Int32.ofInt (N : Int) := by
    apply Int32.toInt_inj.mp
    rw [toI ⟨by omega, by omega⟩]
    exact nI_toInt (by omega)
  have hK := C.2.2.2.2.2.2.2.2.1
  by_cases h23 : ci = 23
  · subst h23
    rw [cellE_ref G hkr] at he
    exact va_alen C.1 C.2.1 hK hW.2.1 (r - 16) 3 he rfl hnn hd hkk
  · rw [cellE_int G hkr h20.1 h23] at he
    rcases (show ci = 20 ∨ ci = 21 ∨ ci = 22 by omega) with rfl | rfl | rfl
    · exact va_alen C.1 C.2.1 hK hW.2.1 (r - 16) 0 he rfl hnn hd hkk
    · exact va_alen C.1 C.2.1 hK hW.2.1 (r - 16) 1 he rfl hnn hd hkk
    · exact va_alen C.1 C.2.1 hK hW.2.1 (r - 16) 2 he rfl hnn hd hkk
theorem AW_iald {r N : Nat} {i : Int} (hd : decode M.2.1 pc = .ok (.iaload, 1)) (hk : Cel σ r (20, N)) (h0 : 0 ≤ i) (hi : i < N) (k : AW M G d bc bs Qz (pc + 1) ls (vI (σ.2.1 r i.toNat) :: st) σ) : AW M G d bc bs Qz pc ls (vI i :: vR r :: st) σ := by
  intro p l e s m args below meth c H locs cells slots mc ms lsM C hW hS h1 h2 hL hO
  obtain ⟨h16, hlt, hkr⟩ := hk
  have he := wl_at G h16 hlt
  rw [cellE_int G hkr (by omega) (by omega)] at he
  have hI := (OKs_cons.mp hO).1
  have hkk := k p l e s m args below meth c H locs cells slots mc ms lsM C hW hS h1 h2 hL (OKs_cons.mpr ⟨hW.2.2.2 _ _, (OKs_cons.mp (OKs_cons.mp hO).2).2⟩)
  rw [List.map_cons, List.map_cons, rf_val h16]
  refine va_iald C.1 C.2.1 C.2.2.2.2.2.2.2.2.1 hW.2.1 (r - 16) 0 he rfl (vpI hI h0 hi) hd ?_
  rw [clI h0 hI]
  exact hkk
theorem AW_bald {r N : Nat} {i : Int} (hd : decode M.2.1 pc = .ok (.baload, 1)) (hk : Cel σ r (21, N)) (h0 : 0 ≤ i) (hi : i < N) (k : AW M G d bc bs Qz (pc + 1) ls (vI (σ.2.1 r i.toNat) :: st) σ) : AW M G d bc bs Qz pc ls (vI i :: vR r :: st) σ := by
  intro p l e s m args below meth c H locs cells slots mc ms lsM C hW hS h1 h2 hL hO
  obtain ⟨h16, hlt, hkr⟩ := hk
  have he := wl_at G h16 hlt
  rw [cellE_int G hkr (by omega) (by omega)] at he
  have hI := (OKs_cons.mp hO).1
  have hkk := k p l e s m args below meth c H locs cells slots mc ms lsM C hW hS h1 h2 hL (OKs_cons.mpr ⟨hW.2.2.2 _ _, (OKs_cons.mp (OKs_cons.mp hO).2).2⟩)
  rw [List.map_cons, List.map_cons, rf_val h16]
  refine va_bald C.1 C.2.1 C.2.2.2.2.2.2.2.2.1 hW.2.1 (r - 16) 1 he rfl (vpI hI h0 hi) hd ?_
  rw [clI h0 hI]
  exact hkk
theorem AW_zald {r N : Nat} {i : Int} (hd : decode M.2.1 pc = .ok (.baload, 1)) (hk : Cel σ r (22, N)) (h0 : 0 ≤ i) (hi : i < N) (k : AW M G d bc bs Qz (pc + 1) ls (vI (σ.2.1 r i.toNat) :: st) σ) : AW M G d bc bs Qz pc ls (vI i :: vR r :: st) σ := by
  intro p l e s m args below meth c H locs cells slots mc ms lsM C hW hS h1 h2 hL hO
  obtain ⟨h16, hlt, hkr⟩ := hk
  have he := wl_at G h16 hlt
  rw [cellE_int G hkr (by omega) (by omega)] at he
  have hI := (OKs_cons.mp hO).1
  have hkk := k p l e s m args below meth c H locs cells slots mc ms lsM C hW hS h1 h2 hL (OKs_cons.mpr ⟨hW.2.2.2 _ _, (OKs_cons.mp (OKs_cons.mp hO).2).2⟩)
  rw [List.map_cons, List.map_cons, rf_val h16]
  refine va_zald C.1 C.2.1 C.2.2.2.2.2.2.2.2.1 hW.2.1 (r - 16) 2 he rfl (vpI hI h0 hi) hd ?_
  rw [clI h0 hI]
  exact hkk
theorem AW_aald {r N a : Nat} {i : Int} (hd : decode M.2.1 pc = .ok (.aaload, 1)) (hk : Cel σ r (23, N)) (h0 : 0 ≤ i) (hi : i < N) (ha : σ.2.2.1 r i.toNat = a) (k : AW M G d bc bs Qz (pc + 1) ls (vR a :: st) σ) : AW M G d bc bs Qz pc ls (vI i :: vR r :: st) σ := by
  intro p l e s m args below meth c H locs cells slots mc ms lsM C hW hS h1 h2 hL hO
  obtain ⟨h16, hlt, hkr⟩ := hk
  have he := wl_at G h16 hlt
  rw [cellE_ref G hkr] at he
  have hI := (OKs_cons.mp hO).1
  have hkk := k p l e s m args below meth c H locs cells slots mc ms lsM C hW hS h1 h2 hL (OKs_cons.mpr ⟨trivial, (OKs_cons.mp (OKs_cons.mp hO).2).2⟩)
  rw [List.map_cons, List.map_cons, rf_val h16]
  refine va_aldq C.1 C.2.1 C.2.2.2.2.2.2.2.2.1 hW.2.1 (r - 16) 3 he rfl (vpI hI h0 hi) hd ?_
  rw [clI h0 hI, ha]
  exact hkk
theorem arr_upI {σ : St} {r ci N : Nat} {i x : Int} (hkr : σ.1 r = (ci, N)) (h20 : 20 ≤ ci) (h23 : ci ≠ 23) : cellE G (upI σ r i.toNat x) r = .inl (G.2.1 ci, N, .inl (fun j => if j = i.toNat then Int32.ofInt x else Int32.ofInt (σ.2.1 r j))) := by
  rw [cellE_int G (σ := upI σ r i.toNat x) hkr h20 h23]
  congr 4
  funext j
  simp only [upI]
  by_cases h : j = i.toNat <;> simp [h]
theorem AW_iast {r N : Nat} {i x : Int} (hd : decode M.2.1 pc = .ok (.iastore, 1)) (hk : Cel σ r (20, N)) (h0 : 0 ≤ i) (hi : i < N) (k : AW M G d bc bs Qz (pc + 1) ls st (upI σ r i.toNat x)) : AW M G d bc bs Qz pc ls (vI x :: vI i :: vR r :: st) σ := by
  intro p l e s m args below meth c H locs cells slots mc ms lsM C hW hS h1 h2 hL hO
  obtain ⟨h16, hlt, hkr⟩ := hk
  have he := wl_at G h16 hlt
  rw [cellE_int G hkr (by omega) (by omega)] at he
  have hX := (OKs_cons.mp hO).1
  have hI := (OKs_cons.mp (OKs_cons.mp hO).2).1
  have hO2 := (OKs_cons.mp (OKs_cons.mp (OKs_cons.mp hO).2).2).2
  have hin := vpI (n := N) hI h0 hi
  rw [List.map_cons, List.map_cons, List.map_cons, rf_val h16]
  refine W.iast C.1 C.2.1 (hW.2.1 _ _ he) ((C.2.2.2.2.2.2.2.2.1.2 0 _ rfl).1 N (fun j => .int (Int32.ofInt (σ.2.1 r j)))) (fun q => by cases q) (by show ¬ (_ ∨ (arrV _ _ _).slots.size ≤ _); rw [arrV_size]; exact hin) rfl rfl hd fun H1 e1 z oq => ?_
  refine k p l e s m args below meth c H1 _ cells slots mc ms lsM C (hW.upd h16 hlt rfl ?_ (upI_other σ r i.toNat x) (upI_in hW.2.2.2 hX) z oq) (hS.put z oq (AG_adr h16)) h1 h2 hL hO2
  rw [arr_upI hkr (by omega) (by omega)]
  show H1[adr G r]? = some (vp_cell _ _)
  rw [e1, clI h0 hI]
  rw [show vp_cell (G.2.1 20) (N, .inl fun j => Int32.ofInt (σ.2.1 r j)) = arrV (G.2.1 20) N (fun j => .int (Int32.ofInt (σ.2.1 r j))) from rfl, vp_cell_i, arrV_store]
  congr 2
  funext q
  by_cases hq : q = i.toNat <;> simp [updV, hq]
theorem AW_bast {r N : Nat} {i x : Int} (hd : decode M.2.1 pc = .ok (.bastore, 1)) (hk : Cel σ r (21, N)) (h0 : 0 ≤ i) (hi : i < N) (k : AW M G d bc bs Qz (pc + 1) ls st (upI σ r i.toNat (aNb x))) : AW M G d bc bs Qz pc ls (vI x :: vI i :: vR r :: st) σ := by
  intro p l e s m args below meth c H locs cells slots mc ms lsM C hW hS h1 h2 hL hO
  obtain ⟨h16, hlt, hkr⟩ := hk
  have he := wl_at G h16 hlt
  rw [cellE_int G hkr (by omega) (by omega)] at he
  have hI := (OKs_cons.mp (OKs_cons.mp hO).2).1
  have hO2 := (OKs_cons.mp (OKs_cons.mp (OKs_cons.mp hO).2).2).2
  have hin := vpI (n := N) hI h0 hi
  rw [List.map_cons, List.map_cons, List.map_cons, rf_val h16]
  refine W.bast C.1 C.2.1 (hW.2.1 _ _ he) ((C.2.2.2.2.2.2.2.2.1.2 1 _ rfl).1 N (fun j => .int (Int32.ofInt (σ.2.1 r j)))) (fun q => by cases q) (by show ¬ (_ ∨ (arrV _ _ _).slots.size ≤ _); rw [arrV_size]; exact hin) rfl rfl hd fun H1 e1 z oq => ?_
  refine k p l e s m args below meth c H1 _ cells slots mc ms lsM C (hW.upd h16 hlt rfl ?_ (upI_other σ r i.toNat _) (upI_in hW.2.2.2 (inI _)) z oq) (hS.put z oq (AG_adr h16)) h1 h2 hL hO2
  rw [arr_upI hkr (by omega) (by omega)]
  show H1[adr G r]? = some (vp_cell _ _)
  rw [e1, clI h0 hI]
  rw [show vp_cell (G.2.1 21) (N, .inl fun j => Int32.ofInt (σ.2.1 r j)) = arrV (G.2.1 21) N (fun j => .int (Int32.ofInt (σ.2.1 r j))) from rfl, vp_cell_i, arrV_store]
  congr 2
  funext q
  by_cases hq : q = i.toNat
  · subst hq
    simp only [updV, if_true, aNb, ofI]
    rfl
  · simp [updV, hq]
theorem AW_zast {r N : Nat} {i x : Int} (hd : decode M.2.1 pc = .ok (.bastore, 1)) (hk : Cel σ r (22, N)) (h0 : 0 ≤ i) (hi : i < N) (k : AW M G d bc bs Qz (pc + 1) ls st (upI σ r i.toNat (aNz x))) : AW M G d bc bs Qz pc ls (vI x :: vI i :: vR r :: st) σ := by
  intro p l e s m args below meth c H locs cells slots mc ms lsM C hW hS h1 h2 hL hO
  obtain ⟨h16, hlt, hkr⟩ := hk
  have he := wl_at G h16 hlt
  rw [cellE_int G hkr (by omega) (by omega)] at he
  have hI := (OKs_cons.mp (OKs_cons.mp hO).2).1
  have hO2 := (OKs_cons.mp (OKs_cons.mp (OKs_cons.mp hO).2).2).2
  have hin := vpI (n := N) hI h0 hi
  rw [List.map_cons, List.map_cons, List.map_cons, rf_val h16]
  refine W.zast C.1 C.2.1 (hW.2.1 _ _ he) ((C.2.2.2.2.2.2.2.2.1.2 2 _ rfl).1 N (fun j => .int (Int32.ofInt (σ.2.1 r j)))) (fun q => by cases q) (by show ¬ (_ ∨ (arrV _ _ _).slots.size ≤ _); rw [arrV_size]; exact hin) rfl rfl hd fun H1 e1 z oq => ?_
  refine k p l e s m args below meth c H1 _ cells slots mc ms lsM C (hW.upd h16 hlt rfl ?_ (upI_other σ r i.toNat _) (upI_in hW.2.2.2 (inI _)) z oq) (hS.put z oq (AG_adr h16)) h1 h2 hL hO2
  rw [arr_upI hkr (by omega) (by omega)]
  show H1[adr G r]? = some (vp_cell _ _)
  rw [e1, clI h0 hI]
  rw [show vp_cell (G.2.1 22) (N, .inl fun j => Int32.ofInt (σ.2.1 r j)) = arrV (G.2.1 22) N (fun j => .int (Int32.ofInt (σ.2.1 r j))) from rfl, vp_cell_i, arrV_store]
  congr 2
  funext q
  by_cases hq : q = i.toNat
  · subst hq
    simp only [updV, if_true, aNz, ofI]
    rfl
  · simp [updV, hq]
end HEAP2
