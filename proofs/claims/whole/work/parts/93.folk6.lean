/-- as Fz, with other rows -/
def Fl (L : List Nat) (σ τ : St) : Prop := τ.1 = σ.1 ∧ τ.2.2.2 = σ.2.2.2 ∧ (∀ r j, σ.1 r ≠ (4, 11) → τ.2.2.1 r j = σ.2.2.1 r j) ∧ ∀ r j, σ.1 r ≠ (4, 11) → r ∉ L → τ.2.1 r j = σ.2.1 r j
theorem Fl.rf {L : List Nat} {σ : St} : Fl L σ σ := ⟨rfl, rfl, fun _ _ _ => rfl, fun _ _ _ _ => rfl⟩
theorem Fl.tr {L : List Nat} {σ τ ρ : St} (h : Fl L σ τ) (h2 : Fl L τ ρ) : Fl L σ ρ := ⟨h2.1.trans h.1, h2.2.1.trans h.2.1, fun r j q => (h2.2.2.1 r j (by rw [h.1]; exact q)).trans (h.2.2.1 r j q), fun r j q q2 => (h2.2.2.2 r j (by rw [h.1]; exact q) q2).trans (h.2.2.2 r j q q2)⟩
theorem Fz.l {L : List Nat} {σ τ : St} (h : Fz σ τ) (hL : ∀ r, r ∈ [41, 43, 44, 47] → r ∈ L := by decide) : Fl L σ τ := ⟨h.1, h.2.1, h.2.2.1, fun r j q q2 => h.2.2.2 r j q (fun q3 => q2 (hL r q3))⟩
theorem Fr.l {L L' : List Nat} {σ τ : St} (h : Fr L' σ τ) (hL : ∀ r, r ∈ L' → r ∈ L := by decide) : Fl L σ τ := ⟨h.1, h.2.2.1, fun r j _ => h.rv r j, fun r j _ q => h.iv r j (fun q2 => q (hL r q2))⟩
theorem Fl.sta {L : List Nat} {σ τ : St} (h : Fl L σ τ) (hS : Sta σ) : Sta τ := by
  refine ⟨by rw [h.2.1]; exact hS.1, by rw [h.1]; exact hS.2.1, fun r j a h16 hk => ?_⟩
  have h1 : r < 132 := by
    rcases Nat.lt_or_ge r 132 with q | q
    · exact q
    · exfalso
      unfold rfo at hk
      have e : RFL.getD (r - 16) [] = [] := by
        rw [List.getD_eq_getElem?_getD, List.getElem?_eq_none (by have : RFL.length = 116 := rfl; omega)]
        rfl
      rw [e] at hk
      cases hk
  rw [h.2.2.1 r j (hS.np h16 h1)]
  exact hS.2.2 r j a h16 hk
theorem Fl.iv {L : List Nat} {σ τ : St} (h : Fl L σ τ) (hS : Sta σ) (r j : Nat) (h1 : 16 ≤ r ∧ r < 132 := by decide) (h2 : r ∉ L := by decide) : τ.2.1 r j = σ.2.1 r j := h.2.2.2 r j (hS.np h1.1 h1.2) h2
def prs (P : Pe) : Nat → Nat
  | 0 => 0
  | k + 1 => prs P k + if P 0 k = 0 ∧ ¬ P 3 k = -1 then 1 else 0
theorem prs_s (P : Pe) (k : Nat) : prs P (k + 1) = prs P k + if P 0 k = 0 ∧ ¬ P 3 k = -1 then 1 else 0 := rfl
theorem prs_le (P : Pe) : ∀ k, prs P k ≤ k := by
  intro k
  induction k with
  | zero => exact Nat.le_refl _
  | succ k ih => rw [prs_s]; split <;> omega
abbrev sel (P : Pe) (side sort : Int) (k : Nat) : Prop := P 0 k = side ∧ (sort = -1 ∨ P 1 k = sort)
def allF (P : Pe) (side sort : Int) (what : Nat) : Nat → Int
  | 0 => 0
  | k + 1 => if sel P side sort k then (if what = 0 then allF P side sort what k + 1 else if what = 1 then allF P side sort what k + (if P 3 k = -1 then 1 else 0) else if what = 2 then wr (allF P side sort what k + P 4 k) else (if allF P side sort what k < P 4 k then P 4 k else allF P side sort what k)) else allF P side sort what k
theorem allF_s (P : Pe) (side sort : Int) (what k : Nat) : allF P side sort what (k + 1) = if sel P side sort k then (if what = 0 then allF P side sort what k + 1 else if what = 1 then allF P side sort what k + (if P 3 k = -1 then 1 else 0) else if what = 2 then wr (allF P side sort what k + P 4 k) else (if allF P side sort what k < P 4 k then P 4 k else allF P side sort what k)) else allF P side sort what k := rfl
theorem allF_n {P : Pe} {side sort : Int} {k : Nat} (h : ¬ sel P side sort k) (what : Nat) : allF P side sort what (k + 1) = allF P side sort what k := by rw [allF_s, if_neg h]
theorem allF_y0 {P : Pe} {side sort : Int} {k : Nat} (h : sel P side sort k) : allF P side sort 0 (k + 1) = allF P side sort 0 k + 1 := by rw [allF_s, if_pos h, if_pos rfl]
theorem allF_y1 {P : Pe} {side sort : Int} {k : Nat} (h : sel P side sort k) : allF P side sort 1 (k + 1) = allF P side sort 1 k + (if P 3 k = -1 then 1 else 0) := by rw [allF_s, if_pos h, if_neg (by decide), if_pos rfl]
theorem allF_y2 {P : Pe} {side sort : Int} {k : Nat} (h : sel P side sort k) : allF P side sort 2 (k + 1) = wr (allF P side sort 2 k + P 4 k) := by rw [allF_s, if_pos h, if_neg (by decide), if_neg (by decide), if_pos rfl]
theorem allF_y3 {P : Pe} {side sort : Int} {k : Nat} (h : sel P side sort k) : allF P side sort 3 (k + 1) = (if allF P side sort 3 k < P 4 k then P 4 k else allF P side sort 3 k) := by rw [allF_s, if_pos h, if_neg (by decide), if_neg (by decide), if_neg (by decide)]
theorem allF_b (P : Pe) (side sort : Int) {what : Nat} (hw : what < 2) : ∀ k : Nat, 0 ≤ allF P side sort what k ∧ allF P side sort what k ≤ k := by
  intro k
  induction k with
  | zero => exact ⟨Int.le_refl _, Int.le_refl _⟩
  | succ k ih =>
    rw [allF_s]
    split
    · split
      · omega
      · rw [if_pos (by omega)]
        split <;> omega
    · omega
def aboutV (D : Mk) (Ws : Nat → Wy) (w : Tw) (p : Nat) (what : Int) : Int :=
  if what = 0 then w.1 3 p else if what = 1 then w.1 4 p else if what = 2 then w.1 5 p else if what = 3 then takeS D Ws w p else if what = 4 then (sy D Ws w p 257).getD (-1) else if what = 5 then (if w.1 3 p = -1 then 0 else wf D w.1 p (w.1 3 p).toNat) else if what = 6 then w.1 8 p else w.1 9 p
theorem k_tally {G : Gt} {d : Nat} {σ : St}  {n : Nat} {pc : Nat → Nat} {w : Tw} (hS : Sta σ) (hT : TwC n pc w σ) (i : Int) (h0 : 0 ≤ i) (h5 : i < 5) : AM mX1_tally G d 0 0 [vR 41, vI i] σ (fun r τ => τ = σ ∧ r = some (vI (w.2.1 i.toNat))) := by
  refine AM.intro (by decide +kernel) (by simp [nLg]) (Nat.le_of_ble_eq_true rfl) (fun hO => ?_)
  have i_i : -2147483648 ≤ i ∧ i < 2147483648 := hO (vI i) (by simp)
  show AW _ _ _ _ _ _ 0 [some (vR 41), some (vI i)] [] σ
  refine AW_iload_n dX1_tally_0 rfl ?_
  refine AW_if_lt (tgt := 22) dX1_tally_1 (by decide) (fun c_1 => ?_) (fun c_1 => ?_)
  · skip
    exact absurd c_1 (by omega)
  · skip
    refine AW_iload_n dX1_tally_4 rfl ?_
    refine AW_aload_n dX1_tally_5 rfl ?_
    refine AW_getR (a := 47) dX1_tally_6 gfX1_28 (hS.cel rfl) (hS.rf rfl) ?_
    refine AW_alen dX1_tally_9 (hS.cel rfl) (by decide) (by decide) ?_
    refine AW_icmp_ge (tgt := 22) dX1_tally_10 (by decide) (fun c_10 => ?_) (fun c_10 => ?_)
    · skip
      exact absurd c_10 (by omega)
    · skip
      refine AW_aload_n dX1_tally_13 rfl ?_
      refine AW_getR (a := 47) dX1_tally_14 gfX1_28 (hS.cel rfl) (hS.rf rfl) ?_
      refine AW_iload_n dX1_tally_17 rfl ?_
      refine AW_iald dX1_tally_18 (hS.cel rfl) (by omega) (by omega) ?_
      refine AW_goto (tgt := 23) dX1_tally_19 (by decide) ?_
      refine AW_iret dX1_tally_23 rfl ?_
      exact ⟨rfl, by rw [hT.2.1 _ (by omega)]⟩
theorem k_stateNow {G : Gt} {d : Nat} {σ : St}  {n : Nat} {pc : Nat → Nat} {w : Tw} (hS : Sta σ) (hT : TwC n pc w σ)  : AM mX1_stateNow G d 0 0 [vR 41] σ (fun r τ => τ = σ ∧ r = some (vI w.2.2)) := by
  refine AM.intro (by decide +kernel) (by simp [nLg]) (Nat.le_of_ble_eq_true rfl) (fun hO => ?_)
  show AW _ _ _ _ _ _ 0 [some (vR 41)] [] σ
  refine AW_aload_n dX1_stateNow_0 rfl ?_
  refine AW_getI dX1_stateNow_1 gfX1_51 (hS.cel rfl) ?_
  refine AW_iret dX1_stateNow_4 rfl ?_
  exact ⟨rfl, by rw [hT.2.2]⟩
theorem k_restate {G : Gt} {d : Nat} {σ : St}  {n : Nat} {pc : Nat → Nat} {w : Tw} (hS : Sta σ) (hT : TwC n pc w σ) (v : Int)  : AM mX1_restate G d 0 0 [vR 41, vI v] σ (fun ro ρ => ro = some (vI w.2.2) ∧ TwC n pc (w.1, w.2.1, v) ρ ∧ Fr [41] σ ρ) := by
  refine AM.intro (by decide +kernel) (by simp [nLg]) (Nat.le_of_ble_eq_true rfl) (fun hO => ?_)
  have i_v : -2147483648 ≤ v ∧ v < 2147483648 := hO (vI v) (by simp)
  show AW _ _ _ _ _ _ 0 [some (vR 41), some (vI v), none] [] σ
  refine AW_aload_n dX1_restate_0 rfl ?_
  refine AW_getI dX1_restate_1 gfX1_51 (hS.cel rfl) ?_
  rw [hT.2.2]
  refine AW_istore2 dX1_restate_4 ?_
  refine AW_aload_n dX1_restate_5 rfl ?_
  refine AW_iload_n dX1_restate_6 rfl ?_
  refine AW_putI dX1_restate_7 (Or.inl pfX1_51) (hS.cel rfl) ?_
  refine AW_iload_n dX1_restate_10 rfl ?_
  refine AW_iret dX1_restate_11 rfl ?_
  exact ⟨rfl, hT.sta v, Fr.rf.up (by decide) _ _⟩
theorem x_state {G : Gt} {d : Nat} {σ : St} (hd : 1 ≤ d) {n : Nat} {pc : Nat → Nat} {w : Tw} (hS : Sta σ) (hT : TwC n pc w σ) (v : Int)  : AM mX11_state G d 0 0 [vR 16, vI v] σ (fun ro ρ => ro = some (vI w.2.2) ∧ TwC n pc (w.1, w.2.1, v) ρ ∧ Fr [41] σ ρ) := by
  refine AM.intro (by decide +kernel) (by simp [nLg]) (Nat.le_of_ble_eq_true rfl) (fun hO => ?_)
  have i_v : -2147483648 ≤ v ∧ v < 2147483648 := hO (vI v) (by simp)
  show AW _ _ _ _ _ _ 0 [some (vR 16), some (vI v)] [] σ
  refine AW_aload_n dX11_state_0 rfl ?_
  refine AW_getR (a := 41) dX11_state_1 gfX11_53 (hS.cel rfl) (hS.rf rfl) ?_
  refine AW_iload_n dX11_state_4 rfl ?_
  refine AW_callV1 (d' := d - 1) dX11_state_5 (Or.inl lkX11_167) mfX1_restate (hS.cel rfl) ⟨_, rfl, rfl⟩ (k_restate hS hT v) (by omega) (Nat.le_of_ble_eq_true rfl) ?_
  rintro _ ρ1 ⟨rfl, hT1, hG1⟩ -
  refine AW_iret dX11_state_8 rfl ?_
  exact ⟨rfl, hT1, hG1⟩
theorem l_cp {G : Gt} {d : Nat} {σ : St} {D : Mk} {n : Nat} {pc : Nat → Nat} {w : Tw} (hd : 3 ≤ d) (hS : Sta σ) (hT : TwC n pc w σ) (hw : WFP D n w.1) : ∀ (nn : Nat) (m i : Nat) (x3 : Option AV), m < nn → i + m = n →  AW mX1_countPairs G d 0 0 (mq G (fun ro ρ => ρ = σ ∧ ro = some (vI (prs w.1 n : Int)))) 4 [some (vR 41), some (vI (prs w.1 i : Int)), some (vI (i : Int)), x3] [] σ := by
  intro nn
  induction nn with
  | zero => intros; omega
  | succ nn ih =>
    intro m i x3 hn hi
    have hn40 := hw.1
    have hcl := prs_le w.1 i
    refine AW_iload_n dX1_countPairs_4 rfl ?_
    refine AW_aload_n dX1_countPairs_5 rfl ?_
    refine AW_getR (a := 46) dX1_countPairs_6 gfX1_25 (hS.cel rfl) (hS.rf rfl) ?_
    refine AW_callV0 (d' := d - 1) dX1_countPairs_9 (Or.inl lkX1_47) mfJx4a65c_size_8abf5 (hS.cel rfl) ⟨_, rfl, rfl⟩ (k_ALsize (hS.cel rfl)) (by omega) (Nat.le_of_ble_eq_true rfl) ?_
    rintro _ _ ⟨e_, rfl⟩ -
    rw [e_]
    clear e_
    rw [hT.1.1.1]
    refine AW_icmp_ge (tgt := 55) dX1_countPairs_12 (by decide) (fun c_12 => ?_) (fun c_12 => ?_)
    · skip
      have hm : i = n := by omega
      subst hm
      refine AW_iload_n dX1_countPairs_55 rfl ?_
      refine AW_iret dX1_countPairs_56 rfl ?_
      exact ⟨rfl, rfl⟩
    · skip
      obtain ⟨m1, rfl⟩ : ∃ m1, m = m1 + 1 := ⟨m - 1, by omega⟩
      obtain ⟨ea, N, e1, e2, e3, e4⟩ := hT.1.ls (show i < n by omega)
      refine AW_aload_n dX1_countPairs_15 rfl ?_
      refine AW_getR (a := 46) dX1_countPairs_16 gfX1_25 (hS.cel rfl) (hS.rf rfl) ?_
      refine AW_iload_n dX1_countPairs_19 rfl ?_
      refine AW_callV1 (d' := d - 1) dX1_countPairs_20 (Or.inl lkX1_59) mfJx4a65c_get_915e3 (hS.cel rfl) ⟨_, rfl, rfl⟩ (k_ALget (by omega) (hS.cel rfl) e1 e2 _ (by omega) (by omega) (by rw [hT.1.1.1]; omega)) (by omega) (Nat.le_of_ble_eq_true rfl) ?_
      rintro _ _ ⟨e_, rfl⟩ -
      rw [e_]
      clear e_
      rw [Int.toNat_natCast, e4 i (by omega)]
      refine AW_cast dX1_countPairs_23 (hT.1.cel (show i < n by omega)) ⟨_, rfl, cl_P⟩ ?_
      refine AW_astore3 dX1_countPairs_26 ?_
      refine AW_iload_n dX1_countPairs_27 rfl ?_
      refine AW_aload_n dX1_countPairs_28 rfl ?_
      refine AW_getI dX1_countPairs_29 gfX1_75 (hT.1.cel (show i < n by omega)) ?_
      refine AW_if_ne (tgt := 46) dX1_countPairs_32 (by decide) (fun c_32 => ?_) (fun c_32 => ?_)
      · skip
        rw [hT.1.v0 (show i < n by omega)] at c_32
        have hcs : (prs w.1 i : Int) + 0 = (prs w.1 (i + 1) : Int) := by rw [prs_s, if_neg (fun q => c_32 q.1)]; omega
        refine AW_iconst dX1_countPairs_46 ?_
        refine AW_iaddE dX1_countPairs_47 (by omega) (by omega) ?_
        refine AW_istore1 dX1_countPairs_48 ?_
        refine AW_iincE2 dX1_countPairs_49 (by omega) (by omega) ?_
        refine AW_goto (tgt := 4) dX1_countPairs_52 (by decide) ?_
        rw [show (i : Int) + 1 = ((i + 1 : Nat) : Int) by omega, hcs]
        exact ih m1 (i + 1) _ (by omega) (by omega)
      · skip
        rw [hT.1.v0 (show i < n by omega)] at c_32
        refine AW_aload_n dX1_countPairs_35 rfl ?_
        refine AW_callV0 (d' := d - 1) dX1_countPairs_36 (Or.inl lkX1_78) mfX4_isSingle (hT.1.cel (show i < n by omega)) ⟨_, rfl, rfl⟩ (k_single hT.1 hw (show i < n by omega)) (by omega) (Nat.le_of_ble_eq_true rfl) ?_
        rintro _ _ ⟨e_, rfl⟩ -
        rw [e_]
        clear e_
        refine AW_if_ne (tgt := 46) dX1_countPairs_39 (by decide) (fun c_39 => ?_) (fun c_39 => ?_)
        · skip
          replace c_39 := bz1 c_39
          have hcs : (prs w.1 i : Int) + 0 = (prs w.1 (i + 1) : Int) := by rw [prs_s, if_neg (fun q => q.2 c_39)]; omega
          refine AW_iconst dX1_countPairs_46 ?_
          refine AW_iaddE dX1_countPairs_47 (by omega) (by omega) ?_
          refine AW_istore1 dX1_countPairs_48 ?_
          refine AW_iincE2 dX1_countPairs_49 (by omega) (by omega) ?_
          refine AW_goto (tgt := 4) dX1_countPairs_52 (by decide) ?_
          rw [show (i : Int) + 1 = ((i + 1 : Nat) : Int) by omega, hcs]
          exact ih m1 (i + 1) _ (by omega) (by omega)
        · skip
          replace c_39 := bz0 c_39
          have hcs : (prs w.1 i : Int) + 1 = (prs w.1 (i + 1) : Int) := by rw [prs_s, if_pos ⟨by omega, c_39⟩]; omega
          refine AW_iconst dX1_countPairs_42 ?_
          refine AW_goto (tgt := 47) dX1_countPairs_43 (by decide) ?_
          refine AW_iaddE dX1_countPairs_47 (by omega) (by omega) ?_
          refine AW_istore1 dX1_countPairs_48 ?_
          refine AW_iincE2 dX1_countPairs_49 (by omega) (by omega) ?_
          refine AW_goto (tgt := 4) dX1_countPairs_52 (by decide) ?_
          rw [show (i : Int) + 1 = ((i + 1 : Nat) : Int) by omega, hcs]
          exact ih m1 (i + 1) _ (by omega) (by omega)
theorem k_cp {G : Gt} {d : Nat} {σ : St} (hd : 3 ≤ d) {D : Mk} {n : Nat} {pc : Nat → Nat} {w : Tw} (hS : Sta σ) (hT : TwC n pc w σ) (hw : WFP D n w.1)  : AM mX1_countPairs G d 0 0 [vR 41] σ (fun ro ρ => ρ = σ ∧ ro = some (vI (prs w.1 n : Int))) := by
  refine AM.intro (by decide +kernel) (by simp [nLg]) (Nat.le_of_ble_eq_true rfl) (fun hO => ?_)
  show AW _ _ _ _ _ _ 0 [some (vR 41), none, none, none] [] σ
  refine AW_iconst dX1_countPairs_0 ?_
  refine AW_istore1 dX1_countPairs_1 ?_
  refine AW_iconst dX1_countPairs_2 ?_
  refine AW_istore2 dX1_countPairs_3 ?_
  exact l_cp hd hS hT hw (n + 1) n 0 none (by omega) (by omega)
theorem Fo.l {r0 : Nat} {fs L' : List Nat} {L : List Nat} {σ τ : St} (h : Fo r0 fs L' σ τ) (hL : ∀ r, r ∈ r0 :: L' → r ∈ L := by decide) : Fl L σ τ := h.1.l hL
theorem l_wk {G : Gt} {d : Nat} {σ : St} {D : Mk} {Ws : Nat → Wy} {n : Nat} {pc : Nat → Nat} {W : Tw} {k : Nat} (hd : 9 ≤ d) (hS0 : Sta σ) (hC0 : CtC D Ws σ) (hk : k ≤ 20) : ∀ (nn : Nat) (m i : Nat) (w : Tw) (τ : St), m < nn → i + m = k → WFP D n w.1 → 0 ≤ w.2.1 0 ∧ w.2.1 0 + m ≤ 99 → TwC n pc w τ → Fz σ τ → weeksS D Ws n m w = W →  AW mX11_weeks G d 0 0 (mq G (fun ro ρ => ro = some (vI (prs W.1 n : Int)) ∧ TwC n pc W ρ ∧ Fz σ ρ ∧ WFP D n W.1)) 37 [some (vR 16), some (vI (k : Int)), some (vI (i : Int))] [] τ := by
  intro nn
  induction nn with
  | zero => intros; omega
  | succ nn ih =>
    intro m i w τ hn hi hw h99 hT hF hW
    have hS := hF.sta hS0
    have hC := hC0.fz hF hS0
    refine AW_iload_n dX11_weeks_37 rfl ?_
    refine AW_iload_n dX11_weeks_38 rfl ?_
    refine AW_icmp_ge (tgt := 55) dX11_weeks_39 (by decide) (fun c_39 => ?_) (fun c_39 => ?_)
    · skip
      have hm : m = 0 := by omega
      subst hm
      rw [weeksS_0] at hW
      subst hW
      refine AW_aload_n dX11_weeks_55 rfl ?_
      refine AW_getR (a := 41) dX11_weeks_56 gfX11_53 (hS.cel rfl) (hS.rf rfl) ?_
      refine AW_callV0 (d' := d - 1) dX11_weeks_59 (Or.inl lkX11_176) mfX1_countPairs (hS.cel rfl) ⟨_, rfl, rfl⟩ (k_cp (by omega) hS hT hw) (by omega) (Nat.le_of_ble_eq_true rfl) ?_
      rintro _ _ ⟨rfl, rfl⟩ -
      refine AW_iret dX11_weeks_62 rfl ?_
      exact ⟨rfl, hT, hF, hw⟩
    · skip
      obtain ⟨m1, rfl⟩ : ∃ m1, m = m1 + 1 := ⟨m - 1, by omega⟩
      rw [weeksS_s] at hW
      refine AW_aload_n dX11_weeks_42 rfl ?_
      refine AW_getR (a := 41) dX11_weeks_43 gfX11_53 (hS.cel rfl) (hS.rf rfl) ?_
      refine AW_callV0 (d' := d - 1) dX11_weeks_46 (Or.inl lkX11_173) mfX1_passWeek (hS.cel rfl) ⟨_, rfl, rfl⟩ (k_passWeek (by omega) hS hC hT hw (by omega)) (by omega) (Nat.le_of_ble_eq_true rfl) ?_
      rintro _ ρ1 ⟨rfl, hT1, hF1⟩ -
      refine AW_iincE2 dX11_weeks_49 (by omega) (by omega) ?_
      refine AW_goto (tgt := 37) dX11_weeks_52 (by decide) ?_
      rw [show (i : Int) + 1 = ((i + 1 : Nat) : Int) by omega]
      exact ih m1 (i + 1) _ ρ1 (by omega) (by omega) hw.week (by rw [week_t0, wr_id (by omega) (by omega)]; omega) hT1 (hF.tr hF1) hW
theorem x_weeks {G : Gt} {d : Nat} {σ : St} (hd : 9 ≤ d) {D : Mk} {Ws : Nat → Wy} {n : Nat} {pc : Nat → Nat} {w : Tw} (hS : Sta σ) (hR : RepC D σ) (hW : WFm D) (hC : wtC D σ) (hY : ∀ k, k < 6 → WyC σ k (Ws k) ∧ wyOK (Ws k)) (hT : TwC n pc w σ) (hw : WFP D n w.1) (h99 : 0 ≤ w.2.1 0 ∧ w.2.1 0 ≤ 99) (k : Int)  : AM mX11_weeks G d 0 0 [vR 16, vI k] σ (fun ro ρ => ∃ z : Int, ro = some (vI z) ∧ ((¬ ((1 ≤ k ∧ k ≤ 20) ∧ w.2.1 0 + k ≤ 99) ∧ z = -1 ∧ ρ = σ) ∨ (((1 ≤ k ∧ k ≤ 20) ∧ w.2.1 0 + k ≤ 99) ∧ z = (prs (weeksS D Ws n k.toNat w).1 n : Int) ∧ TwC n pc (weeksS D Ws n k.toNat w) ρ ∧ WFP D n (weeksS D Ws n k.toNat w).1 ∧ wtC D ρ ∧ Fl [26, 27, 28, 41, 43, 44, 47] σ ρ))) := by
  refine AM.intro (by decide +kernel) (by simp [nLg]) (Nat.le_of_ble_eq_true rfl) (fun hO => ?_)
  have i_k : -2147483648 ≤ k ∧ k < 2147483648 := hO (vI k) (by simp)
  show AW _ _ _ _ _ _ 0 [some (vR 16), some (vI k), none] [] σ
  refine AW_iload_n dX11_weeks_0 rfl ?_
  refine AW_iconst dX11_weeks_1 ?_
  refine AW_icmp_lt (tgt := 26) dX11_weeks_2 (by decide) (fun c_2 => ?_) (fun c_2 => ?_)
  · skip
    refine AW_iconst dX11_weeks_26 ?_
    refine AW_iret dX11_weeks_27 rfl ?_
    first
    | exact ⟨-1, rfl, Or.inl ⟨by omega, rfl, rfl⟩⟩
    | exact ⟨-1, rfl, Or.inl ⟨fun q => c_23 q.2, rfl, rfl⟩⟩
  · skip
    refine AW_iload_n dX11_weeks_5 rfl ?_
    refine AW_bipush dX11_weeks_6 ?_
    refine AW_icmp_gt (tgt := 26) dX11_weeks_8 (by decide) (fun c_8 => ?_) (fun c_8 => ?_)
    · skip
      refine AW_iconst dX11_weeks_26 ?_
      refine AW_iret dX11_weeks_27 rfl ?_
      first
      | exact ⟨-1, rfl, Or.inl ⟨by omega, rfl, rfl⟩⟩
      | exact ⟨-1, rfl, Or.inl ⟨fun q => c_23 q.2, rfl, rfl⟩⟩
    · skip
      refine AW_aload_n dX11_weeks_11 rfl ?_
      refine AW_getR (a := 41) dX11_weeks_12 gfX11_53 (hS.cel rfl) (hS.rf rfl) ?_
      refine AW_iconst dX11_weeks_15 ?_
      refine AW_callV1 (d' := d - 1) dX11_weeks_16 (Or.inl lkX11_170) mfX1_tally (hS.cel rfl) ⟨_, rfl, rfl⟩ (k_tally hS hT 0 (by decide) (by decide)) (by omega) (Nat.le_of_ble_eq_true rfl) ?_
      rintro _ _ ⟨e_, rfl⟩ -
      rw [e_]
      clear e_
      rw [show Int.toNat 0 = 0 from rfl]
      refine AW_iload_n dX11_weeks_19 rfl ?_
      refine AW_iaddE dX11_weeks_20 (by omega) (by omega) ?_
      refine AW_bipush dX11_weeks_21 ?_
      refine AW_icmp_le (tgt := 28) dX11_weeks_23 (by decide) (fun c_23 => ?_) (fun c_23 => ?_)
      · skip
        refine AW_aload_n dX11_weeks_28 rfl ?_
        refine AW_getR (a := 26) dX11_weeks_29 gfX11_28 (hS.cel rfl) (hS.rf rfl) ?_
        refine AW_callV0 (d' := d - 1) dX11_weeks_32 (Or.inl lkX11_122) mfX9_refresh (hS.cel rfl) ⟨_, rfl, rfl⟩ (k_wtref (by omega) hS hR hW hC) (by omega) (Nat.le_of_ble_eq_true rfl) ?_
        rintro _ ρ1 ⟨rfl, ht1, hv1, hG1⟩ -
        have hS1 := hG1.sta hS
        have hT1 := hT.fr hG1.1
        have hC1 : CtC D Ws ρ1 := ⟨hR.fr hG1.1, hW, ht1, fun k hk => ⟨(hY k hk).1.fr hG1.1 (fun r h1 h2 => by have := wcl_b hk; simp; omega), (hY k hk).2⟩⟩
        refine AW_iconst dX11_weeks_35 ?_
        refine AW_istore2 dX11_weeks_36 ?_
        obtain ⟨kn, rfl⟩ : ∃ kn : Nat, k = (kn : Int) := ⟨k.toNat, by omega⟩
        have hk2 : w.2.1 0 + (kn : Int) ≤ 99 := c_23
        refine AW_mq (fun r τ q => ?_) (l_wk (n := n) (pc := pc) (W := weeksS D Ws n kn w) hd hS1 hC1 (show kn ≤ 20 by omega) (kn + 1) kn 0 w ρ1 (by omega) (by omega) hw (by omega) hT1 Fz.rf rfl)
        obtain ⟨q1, q2, q3, q4⟩ := q
        refine ⟨_, q1, Or.inr ⟨⟨by omega, c_23⟩, rfl, q2, q4, ⟨?_, fun _ => ht1.fz q3 hS1⟩, (hG1.l).tr q3.l⟩⟩
        rw [q3.iv hS1 26 3, q3.iv hS1 17 5, hv1]
        exact Int.le_refl _
      · skip
        refine AW_iconst dX11_weeks_26 ?_
        refine AW_iret dX11_weeks_27 rfl ?_
        first
        | exact ⟨-1, rfl, Or.inl ⟨by omega, rfl, rfl⟩⟩
        | exact ⟨-1, rfl, Or.inl ⟨fun q => c_23 q.2, rfl, rfl⟩⟩
