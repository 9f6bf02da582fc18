theorem PeC.v0 {n : Nat} {pc : Nat → Nat} {P : Pe} {σ : St} (h : PeC n pc P σ) {p : Nat} (hp : p < n) : σ.2.1 (pc p) 1 = P 0 p := h.v hp 0
theorem PeC.v1 {n : Nat} {pc : Nat → Nat} {P : Pe} {σ : St} (h : PeC n pc P σ) {p : Nat} (hp : p < n) : σ.2.1 (pc p) 2 = P 1 p := h.v hp 1
theorem PeC.v4 {n : Nat} {pc : Nat → Nat} {P : Pe} {σ : St} (h : PeC n pc P σ) {p : Nat} (hp : p < n) : σ.2.1 (pc p) 5 = P 4 p := h.v hp 4
theorem PeC.v5 {n : Nat} {pc : Nat → Nat} {P : Pe} {σ : St} (h : PeC n pc P σ) {p : Nat} (hp : p < n) : σ.2.1 (pc p) 6 = P 5 p := h.v hp 5
theorem PeC.v6 {n : Nat} {pc : Nat → Nat} {P : Pe} {σ : St} (h : PeC n pc P σ) {p : Nat} (hp : p < n) : σ.2.1 (pc p) 7 = P 6 p := h.v hp 6
theorem PeC.v7 {n : Nat} {pc : Nat → Nat} {P : Pe} {σ : St} (h : PeC n pc P σ) {p : Nat} (hp : p < n) : σ.2.1 (pc p) 8 = P 7 p := h.v hp 7
theorem PeC.v8 {n : Nat} {pc : Nat → Nat} {P : Pe} {σ : St} (h : PeC n pc P σ) {p : Nat} (hp : p < n) : σ.2.1 (pc p) 9 = P 8 p := h.v hp 8
theorem PeC.v9 {n : Nat} {pc : Nat → Nat} {P : Pe} {σ : St} (h : PeC n pc P σ) {p : Nat} (hp : p < n) : σ.2.1 (pc p) 10 = P 9 p := h.v hp 9
theorem orf_n (pc : Nat → Nat) (q : Nat) : orf pc (q : Int) = pc q := by unfold orf; rw [if_neg (by omega), Int.toNat_natCast]
theorem orf_m (pc : Nat → Nat) : orf pc (-1) = 0 := by unfold orf; rw [if_pos rfl]
theorem PeC.o0 {D : Mk} {n : Nat} {pc : Nat → Nat} {P : Pe} {σ : St} (h : PeC n pc P σ) (hw : WFP D n P) {p : Nat} (hp : p < n) (hn : P 3 p ≠ -1) : orf pc (P 3 p) ≠ 0 ∧ orf pc (P 3 p) = pc (P 3 p).toNat ∧ (P 3 p).toNat < n := by
  have ho := own_lt hw hp hn
  have hg := h.ge ho.1
  have e : orf pc (P 3 p) = pc (P 3 p).toNat := by unfold orf; rw [if_neg hn]
  exact ⟨by rw [e]; omega, e, ho.1⟩
theorem PeC.o1 {D : Mk} {n : Nat} {pc : Nat → Nat} {P : Pe} {σ : St} (h : PeC n pc P σ) (hw : WFP D n P) {p : Nat} (hp : p < n) (h0 : orf pc (P 3 p) = 0) : P 3 p = -1 := by
  by_cases q : P 3 p = -1
  · exact q
  · exact absurd h0 (h.o0 hw hp q).1
theorem k_single {G : Gt} {d : Nat} {σ : St}  {D : Mk} {n : Nat} {pc : Nat → Nat} {P : Pe} {p : Nat} (hP : PeC n pc P σ) (hw : WFP D n P) (hp : p < n)  : AM mX4_isSingle G d 0 0 [vR (pc p)] σ (fun r τ => τ = σ ∧ r = some (vI (if P 3 p = -1 then 1 else 0))) := by
  refine AM.intro (by decide +kernel) (by simp [nLg]) (Nat.le_of_ble_eq_true rfl) (fun hO => ?_)
  show AW _ _ _ _ _ _ 0 [some (vR (pc p))] [] σ
  refine AW_aload_n dX4_isSingle_0 rfl ?_
  refine AW_getR (a := orf pc (P 3 p)) dX4_isSingle_1 gfX4_23 (hP.cel hp) (hP.own hp) ?_
  refine AW_ifnonnull (tgt := 11) dX4_isSingle_4 (by decide) (fun c_4 => ?_) (fun c_4 => ?_)
  · skip
    refine AW_iconst dX4_isSingle_11 ?_
    refine AW_zret dX4_isSingle_12 rfl (by decide) ?_
    refine ⟨rfl, ?_⟩
    by_cases q : P 3 p = -1
    · first | (rw [if_pos q]; done) | (exfalso; rw [q, orf_m] at c_4; exact c_4 rfl)
    · first | (rw [if_neg q]; done) | (exfalso; exact (hP.o0 hw hp q).1 (by omega))
  · skip
    refine AW_iconst dX4_isSingle_7 ?_
    refine AW_goto (tgt := 12) dX4_isSingle_8 (by decide) ?_
    refine AW_zret dX4_isSingle_12 rfl (by decide) ?_
    refine ⟨rfl, ?_⟩
    by_cases q : P 3 p = -1
    · first | (rw [if_pos q]; done) | (exfalso; rw [q, orf_m] at c_4; exact c_4 rfl)
    · first | (rw [if_neg q]; done) | (exfalso; exact (hP.o0 hw hp q).1 (by omega))
theorem k_free {G : Gt} {d : Nat} {σ : St}  {n : Nat} {pc : Nat → Nat} {P : Pe} {p : Nat} (hP : PeC n pc P σ) (hp : p < n)  : AM mX4_free G d 0 0 [vR (pc p)] σ (fun r τ => r = none ∧ τ = upI (upR σ (pc p) 4 0) (pc p) 6 0) := by
  refine AM.intro (by decide +kernel) (by simp [nLg]) (Nat.le_of_ble_eq_true rfl) (fun hO => ?_)
  show AW _ _ _ _ _ _ 0 [some (vR (pc p))] [] σ
  refine AW_aload_n dX4_free_0 rfl ?_
  refine AW_null dX4_free_1 ?_
  refine AW_putR dX4_free_2 (Or.inl pfX4_23) (hP.cel hp) ?_
  refine AW_aload_n dX4_free_5 rfl ?_
  refine AW_iconst dX4_free_6 ?_
  refine AW_putI dX4_free_7 (Or.inl pfX4_27) (hP.cel hp) ?_
  refine AW_vret dX4_free_10 rfl ?_
  exact ⟨rfl, rfl⟩
theorem k_bind {G : Gt} {d : Nat} {σ : St}  {n : Nat} {pc : Nat → Nat} {P : Pe} {p q : Nat} (hP : PeC n pc P σ) (hp : p < n) (t : Int)  : AM mX4_bind G d 0 0 [vR (pc p), vR (pc q), vI t] σ (fun r τ => r = none ∧ τ = upI (upI (upI (upR σ (pc p) 4 (pc q)) (pc p) 6 0) (pc p) 7 t) (pc p) 8 0) := by
  refine AM.intro (by decide +kernel) (by simp [nLg]) (Nat.le_of_ble_eq_true rfl) (fun hO => ?_)
  have i_t : -2147483648 ≤ t ∧ t < 2147483648 := hO (vI t) (by simp)
  show AW _ _ _ _ _ _ 0 [some (vR (pc p)), some (vR (pc q)), some (vI t)] [] σ
  refine AW_aload_n dX4_bind_0 rfl ?_
  refine AW_aload_n dX4_bind_1 rfl ?_
  refine AW_putR dX4_bind_2 (Or.inl pfX4_23) (hP.cel hp) ?_
  refine AW_aload_n dX4_bind_5 rfl ?_
  refine AW_iconst dX4_bind_6 ?_
  refine AW_putI dX4_bind_7 (Or.inl pfX4_27) (hP.cel hp) ?_
  refine AW_aload_n dX4_bind_10 rfl ?_
  refine AW_iload_n dX4_bind_11 rfl ?_
  refine AW_putI dX4_bind_12 (Or.inl pfX4_30) (hP.cel hp) ?_
  refine AW_aload_n dX4_bind_15 rfl ?_
  refine AW_iconst dX4_bind_16 ?_
  refine AW_putZ dX4_bind_17 (Or.inl pfX4_33) (hP.cel hp) (by decide) ?_
  refine AW_vret dX4_bind_20 rfl ?_
  exact ⟨rfl, rfl⟩
theorem TwC.fre {n : Nat} {pc : Nat → Nat} {w : Tw} {σ : St} (h : TwC n pc w σ) {p : Nat} (hp : p < n) : TwC n pc (freP w.1 p, w.2.1, w.2.2) (upI (upR σ (pc p) 4 0) (pc p) 6 0) ∧ Fz σ (upI (upR σ (pc p) 4 0) (pc p) 6 0) := by
  have h1 := h.uR hp (-1)
  rw [orf_m] at h1
  exact ⟨h1.uI hp 5 0, (Fz.rf.uR (h.1.cel hp) _ _).uI (h1.1.cel hp) _ _⟩
theorem TwC.bnd {n : Nat} {pc : Nat → Nat} {w : Tw} {σ : St} (h : TwC n pc w σ) {p : Nat} (hp : p < n) (q : Nat) (t : Int) : TwC n pc (bndP w.1 p q t, w.2.1, w.2.2) (upI (upI (upI (upR σ (pc p) 4 (pc q)) (pc p) 6 0) (pc p) 7 t) (pc p) 8 0) ∧ Fz σ (upI (upI (upI (upR σ (pc p) 4 (pc q)) (pc p) 6 0) (pc p) 7 t) (pc p) 8 0) := by
  have h1 := h.uR hp (q : Int)
  rw [orf_n] at h1
  have h2 := h1.uI hp 5 0
  have h3 := h2.uI hp 6 t
  exact ⟨h3.uI hp 7 0, (((Fz.rf.uR (h.1.cel hp) _ _).uI (h1.1.cel hp) _ _).uI (h2.1.cel hp) _ _).uI (h3.1.cel hp) _ _⟩
theorem k_worthFor {G : Gt} {d : Nat} {σ : St} (hd : 2 ≤ d) {D : Mk} {n : Nat} {pc : Nat → Nat} {P : Pe} {p q : Nat} (hS : Sta σ) (hR : RepC D σ) (hW : WFm D) (hP : PeC n pc P σ) (hw : WFP D n P) (hp : p < n) (hq : q < n) (hs : P 0 q = 1 - P 0 p)  : AM mX1_worthFor G d 0 0 [vR 41, vR (pc p), vR (pc q)] σ (fun r τ => τ = σ ∧ r = some (vI (wf D P p q))) := by
  refine AM.intro (by decide +kernel) (by simp [nLg]) (Nat.le_of_ble_eq_true rfl) (fun hO => ?_)
  show AW _ _ _ _ _ _ 0 [some (vR 41), some (vR (pc p)), some (vR (pc q))] [] σ
  obtain ⟨a1, a2, a3, a4, a5⟩ := hw.2.1 p hp
  obtain ⟨b1, b2, b3, b4, b5⟩ := hw.2.1 q hq
  have es : (P 0 q).toNat = 1 - (P 0 p).toNat := by omega
  rw [es] at b2
  refine AW_aload_n dX1_worthFor_0 rfl ?_
  refine AW_getR (a := 17) dX1_worthFor_1 gfX1_32 (hS.cel rfl) (hS.rf rfl) ?_
  refine AW_aload_n dX1_worthFor_4 rfl ?_
  refine AW_getI dX1_worthFor_5 gfX1_75 (hP.cel hp) ?_
  refine AW_aload_n dX1_worthFor_8 rfl ?_
  refine AW_getI dX1_worthFor_9 gfX1_82 (hP.cel hp) ?_
  refine AW_aload_n dX1_worthFor_12 rfl ?_
  refine AW_getI dX1_worthFor_13 gfX1_82 (hP.cel hq) ?_
  refine AW_callV3 (d' := d - 1) dX1_worthFor_16 (Or.inl lkX1_199) mfX3_worthTo (hS.cel rfl) ⟨_, rfl, rfl⟩ (k_worthV (by omega) hS hR hW _ _ _ (P 0 p).toNat (P 1 p).toNat (P 1 q).toNat (by rw [hP.v0 hp]; omega) (by rw [hP.v1 hp]; omega) (by rw [hP.v1 hq]; omega) (by omega) (by omega) (by omega)) (by omega) (Nat.le_of_ble_eq_true rfl) ?_
  rintro _ _ ⟨e_, rfl⟩ -
  rw [e_]
  clear e_
  refine AW_iret dX1_worthFor_19 rfl ?_
  exact ⟨rfl, rfl⟩
theorem k_draw {G : Gt} {d : Nat} {σ : St}  {n : Nat} {pc : Nat → Nat} {w : Tw} (hS : Sta σ) (hT : TwC n pc w σ) (m : Int) (hm : 0 < m) : AM mX1_draw G d 0 0 [vR 41, vI m] σ (fun ro ρ => ro = some (vI (drw (nxz w.2.2) m)) ∧ TwC n pc (w.1, w.2.1, nxz w.2.2) ρ ∧ Fr [41] σ ρ) := by
  refine AM.intro (by decide +kernel) (by simp [nLg]) (Nat.le_of_ble_eq_true rfl) (fun hO => ?_)
  have i_m : -2147483648 ≤ m ∧ m < 2147483648 := hO (vI m) (by simp)
  show AW _ _ _ _ _ _ 0 [some (vR 41), some (vI m)] [] σ
  refine AW_aload_n dX1_draw_0 rfl ?_
  refine AW_ldc (1664525) dX1_draw_1 ctX1_202 ?_
  refine AW_aload_n dX1_draw_3 rfl ?_
  refine AW_getI dX1_draw_4 gfX1_51 (hS.cel rfl) ?_
  refine AW_imul dX1_draw_7 ?_
  refine AW_ldc (1013904223) dX1_draw_8 ctX1_203 ?_
  refine AW_iadd dX1_draw_10 ?_
  rw [hT.2.2]
  refine AW_putI dX1_draw_11 (Or.inl pfX1_51) (hS.cel rfl) ?_
  refine AW_iload_n dX1_draw_14 rfl ?_
  refine AW_if_le (tgt := 30) dX1_draw_15 (by decide) (fun c_15 => ?_) (fun c_15 => ?_)
  · skip
    exact absurd c_15 (by omega)
  · skip
    refine AW_aload_n dX1_draw_18 rfl ?_
    refine AW_getI dX1_draw_19 gfX1_51 (hS.cel rfl) ?_
    rw [up_at]
    refine AW_bipush dX1_draw_22 ?_
    refine AW_iushr dX1_draw_24 ?_
    refine AW_iload_n dX1_draw_25 rfl ?_
    refine AW_irem dX1_draw_26 (by omega) ?_
    refine AW_goto (tgt := 31) dX1_draw_27 (by decide) ?_
    refine AW_iret dX1_draw_31 rfl ?_
    exact ⟨rfl, hT.sta _, Fr.rf.up (by decide) _ _⟩
theorem aUshr_8 (x : Int) : 0 ≤ aUshr x 8 ∧ aUshr x 8 < 16777216 := by
  rw [ushr_val x 8 8 (by decide) (by decide +kernel)]
  show 0 ≤ (x % 4294967296) / 256 ∧ (x % 4294967296) / 256 < 16777216
  omega
theorem drw_in (z : Int) {m : Int} (hm : 0 < m) : 0 ≤ drw z m ∧ drw z m < m := by
  have h := aUshr_8 z
  unfold drw
  exact ⟨Int.tmod_nonneg m h.1, Int.tmod_lt_of_pos (aUshr z 8) hm⟩
theorem k_error {G : Gt} {d : Nat} {σ : St} (hd : 1 ≤ d) {D : Mk} {Ws : Nat → Wy} {n : Nat} {pc : Nat → Nat} {w : Tw} (hS : Sta σ) (hC : CtC D Ws σ) (hT : TwC n pc w σ)  : AM mX1_error G d 0 0 [vR 41] σ (fun ro ρ => ro = some (vI (errV D w.2.2)) ∧ TwC n pc (w.1, w.2.1, errZ D w.2.2) ρ ∧ Fr [41] σ ρ ∧ -99 ≤ errV D w.2.2 ∧ errV D w.2.2 ≤ 1000) := by
  refine AM.intro (by decide +kernel) (by simp [nLg]) (Nat.le_of_ble_eq_true rfl) (fun hO => ?_)
  show AW _ _ _ _ _ _ 0 [some (vR 41), none] [] σ
  have hb := hC.2.1.2.2.2.2.2.2.2.1
  refine AW_aload_n dX1_error_0 rfl ?_
  refine AW_getR (a := 17) dX1_error_1 gfX1_32 (hS.cel rfl) (hS.rf rfl) ?_
  refine AW_iconst dX1_error_4 ?_
  refine AW_callV1 (d' := d - 1) dX1_error_5 (Or.inl lkX1_136) mfX3_setting (hS.cel rfl) ⟨_, rfl, rfl⟩ (k_setK 3 (by decide) hS hC.1) (by omega) (Nat.le_of_ble_eq_true rfl) ?_
  rintro _ _ ⟨e_, rfl⟩ -
  rw [e_]
  clear e_
  refine AW_istore1 dX1_error_8 ?_
  refine AW_iload_n dX1_error_9 rfl ?_
  refine AW_if_ne (tgt := 17) dX1_error_10 (by decide) (fun c_10 => ?_) (fun c_10 => ?_)
  · skip
    have c10 : ¬ D 4 3 = 0 := by omega
    refine AW_aload_n dX1_error_17 rfl ?_
    refine AW_iconst dX1_error_18 ?_
    refine AW_iload_n dX1_error_19 rfl ?_
    refine AW_imulE dX1_error_20 (by omega) (by omega) ?_
    refine AW_iconst dX1_error_21 ?_
    refine AW_iaddE dX1_error_22 (by omega) (by omega) ?_
    refine AW_callV1 (d' := d - 1) dX1_error_23 (Or.inl lkX1_150) mfX1_draw (hS.cel rfl) ⟨_, rfl, rfl⟩ (k_draw hS hT _ (by omega)) (by omega) (Nat.le_of_ble_eq_true rfl) ?_
    rintro _ ρ1 ⟨rfl, hT1, hG1⟩ -
    have hdr := drw_in (nxz w.2.2) (m := 2 * D 4 3 + 1) (by omega)
    refine AW_iload_n dX1_error_26 rfl ?_
    refine AW_isubE dX1_error_27 (by omega) (by omega) ?_
    refine AW_iret dX1_error_28 rfl ?_
    unfold errV errZ
    first
    | (rw [if_pos c10, if_pos c10]; exact ⟨rfl, hT, Fr.rf, by decide, by decide⟩)
    | (rw [if_neg c10, if_neg c10]; exact ⟨rfl, hT1, hG1, by omega, by omega⟩)
  · skip
    have c10 : D 4 3 = 0 := by omega
    refine AW_iconst dX1_error_13 ?_
    refine AW_goto (tgt := 28) dX1_error_14 (by decide) ?_
    refine AW_iret dX1_error_28 rfl ?_
    unfold errV errZ
    first
    | (rw [if_pos c10, if_pos c10]; exact ⟨rfl, hT, Fr.rf, by decide, by decide⟩)
    | (rw [if_neg c10, if_neg c10]; exact ⟨rfl, hT1, hG1, by omega, by omega⟩)
theorem k_knowF {G : Gt} {d : Nat} {σ : St} {f : Nat → Int} (hS : Sta σ) (k : Nat) (hk : k < 7) (hf : ∀ i, i < k → σ.2.1 43 i = f i) (u v : Int) (e : u = k) (ev : v = f k) : AM mX2_know G d 0 0 [vR 42, vI u, vI v] σ (fun ro ρ => ro = none ∧ (∀ i, i < k + 1 → ρ.2.1 43 i = f i) ∧ Fr [43] σ ρ) := by
  refine AM_mono (fun r τ q => ?_) (k_know hS u v (by omega) (by omega))
  obtain ⟨q1, rfl⟩ := q
  refine ⟨q1, fun i hi => ?_, Fr.rf.up (by decide) _ _⟩
  rw [up_if]
  by_cases hc : i = k
  · rw [if_pos ⟨rfl, by omega⟩, ev, hc]
  · rw [if_neg (by omega)]
    exact hf i (by omega)
theorem k_learn {G : Gt} {d : Nat} {σ : St} (hd : 3 ≤ d) {D : Mk} {Ws : Nat → Wy} {n : Nat} {pc : Nat → Nat} {w : Tw} (hS : Sta σ) (hC : CtC D Ws σ) (hT : TwC n pc w σ) {p : Nat} (hw : WFP D n w.1) (hp : p < n) (h99 : 0 ≤ w.2.1 0 ∧ w.2.1 0 ≤ 99)  : AM mX1_learn G d 0 0 [vR 41, vR (pc p)] σ (fun ro ρ => ro = none ∧ (∀ i, i < 7 → ρ.2.1 43 i = fct D w.2.1 w.1 p i) ∧ Fr [43] σ ρ) := by
  refine AM.intro (by decide +kernel) (by simp [nLg]) (Nat.le_of_ble_eq_true rfl) (fun hO => ?_)
  show AW _ _ _ _ _ _ 0 [some (vR 41), some (vR (pc p))] [] σ
  obtain ⟨a1, a2, a3, a4, a5⟩ := hw.2.1 p hp
  refine AW_aload_n dX1_learn_0 rfl ?_
  refine AW_getR (a := 42) dX1_learn_1 gfX1_12 (hS.cel rfl) (hS.rf rfl) ?_
  refine AW_iconst dX1_learn_4 ?_
  refine AW_aload_n dX1_learn_5 rfl ?_
  refine AW_getR (a := 47) dX1_learn_6 gfX1_28 (hS.cel rfl) (hS.rf rfl) ?_
  refine AW_iconst dX1_learn_9 ?_
  refine AW_ialdK 0 dX1_learn_10 (hS.cel rfl) (by decide) ?_
  refine AW_callV2 (d' := d - 1) dX1_learn_11 (Or.inl lkX1_183) mfX2_know (hS.cel rfl) ⟨_, rfl, rfl⟩ (k_knowF (f := fct D w.2.1 w.1 p) hS 0 (by decide) (fun i hi => absurd hi (Nat.not_lt_zero i)) _ _ rfl (hT.2.1 0 (by decide))) (by omega) (Nat.le_of_ble_eq_true rfl) ?_
  rintro _ ρ1 ⟨rfl, hk1, hG1⟩ -
  have hS1 := hG1.sta hS
  have hT1 := hT.fr hG1
  have hC1 := hC.fz hG1.z hS
  have hF1 : Fr [43] σ ρ1 := hG1
  refine AW_aload_n dX1_learn_14 rfl ?_
  refine AW_getR (a := 42) dX1_learn_15 gfX1_12 (hS1.cel rfl) (hS1.rf rfl) ?_
  refine AW_iconst dX1_learn_18 ?_
  refine AW_aload_n dX1_learn_19 rfl ?_
  refine AW_getI dX1_learn_20 gfX1_85 (hT1.1.cel hp) ?_
  refine AW_callV2 (d' := d - 1) dX1_learn_23 (Or.inl lkX1_183) mfX2_know (hS1.cel rfl) ⟨_, rfl, rfl⟩ (k_knowF (f := fct D w.2.1 w.1 p) hS1 1 (by decide) hk1 _ _ rfl (hT1.1.v4 hp)) (by omega) (Nat.le_of_ble_eq_true rfl) ?_
  rintro _ ρ2 ⟨rfl, hk2, hG2⟩ -
  have hS2 := hG2.sta hS1
  have hT2 := hT1.fr hG2
  have hC2 := hC1.fz hG2.z hS1
  have hF2 : Fr [43] σ ρ2 := hF1.tr hG2
  refine AW_aload_n dX1_learn_26 rfl ?_
  refine AW_getR (a := 42) dX1_learn_27 gfX1_12 (hS2.cel rfl) (hS2.rf rfl) ?_
  refine AW_iconst dX1_learn_30 ?_
  refine AW_aload_n dX1_learn_31 rfl ?_
  refine AW_getI dX1_learn_32 gfX1_82 (hT2.1.cel hp) ?_
  refine AW_callV2 (d' := d - 1) dX1_learn_35 (Or.inl lkX1_183) mfX2_know (hS2.cel rfl) ⟨_, rfl, rfl⟩ (k_knowF (f := fct D w.2.1 w.1 p) hS2 2 (by decide) hk2 _ _ rfl (hT2.1.v1 hp)) (by omega) (Nat.le_of_ble_eq_true rfl) ?_
  rintro _ ρ3 ⟨rfl, hk3, hG3⟩ -
  have hS3 := hG3.sta hS2
  have hT3 := hT2.fr hG3
  have hC3 := hC2.fz hG3.z hS2
  have hF3 : Fr [43] σ ρ3 := hF2.tr hG3
  refine AW_aload_n dX1_learn_38 rfl ?_
  refine AW_getR (a := 42) dX1_learn_39 gfX1_12 (hS3.cel rfl) (hS3.rf rfl) ?_
  refine AW_iconst dX1_learn_42 ?_
  refine AW_aload_n dX1_learn_43 rfl ?_
  refine AW_getR (a := 17) dX1_learn_44 gfX1_32 (hS3.cel rfl) (hS3.rf rfl) ?_
  refine AW_aload_n dX1_learn_47 rfl ?_
  refine AW_getI dX1_learn_48 gfX1_75 (hT3.1.cel hp) ?_
  refine AW_aload_n dX1_learn_51 rfl ?_
  refine AW_getI dX1_learn_52 gfX1_82 (hT3.1.cel hp) ?_
  refine AW_callV2 (d' := d - 1) dX1_learn_55 (Or.inl lkX1_187) mfX3_lookOf (hS3.cel rfl) ⟨_, rfl, rfl⟩ (k_lookV (by omega) hS3 hC3.1 hC3.2.1 _ _ (w.1 0 p).toNat (w.1 1 p).toNat (by rw [hT3.1.v0 hp]; omega) (by rw [hT3.1.v1 hp]; omega) (by omega) (by omega)) (by omega) (Nat.le_of_ble_eq_true rfl) ?_
  rintro _ _ ⟨e_, rfl⟩ -
  rw [e_]
  clear e_
  refine AW_callV2 (d' := d - 1) dX1_learn_58 (Or.inl lkX1_183) mfX2_know (hS3.cel rfl) ⟨_, rfl, rfl⟩ (k_knowF (f := fct D w.2.1 w.1 p) hS3 3 (by decide) hk3 _ _ rfl rfl) (by omega) (Nat.le_of_ble_eq_true rfl) ?_
  rintro _ ρ4 ⟨rfl, hk4, hG4⟩ -
  have hS4 := hG4.sta hS3
  have hT4 := hT3.fr hG4
  have hC4 := hC3.fz hG4.z hS3
  have hF4 : Fr [43] σ ρ4 := hF3.tr hG4
  refine AW_aload_n dX1_learn_61 rfl ?_
  refine AW_getR (a := 42) dX1_learn_62 gfX1_12 (hS4.cel rfl) (hS4.rf rfl) ?_
  refine AW_iconst dX1_learn_65 ?_
  refine AW_aload_n dX1_learn_66 rfl ?_
  refine AW_getR (a := 17) dX1_learn_67 gfX1_32 (hS4.cel rfl) (hS4.rf rfl) ?_
  refine AW_iconst dX1_learn_70 ?_
  refine AW_aload_n dX1_learn_71 rfl ?_
  refine AW_getI dX1_learn_72 gfX1_75 (hT4.1.cel hp) ?_
  refine AW_isubE dX1_learn_75 (by rw [hT4.1.v0 hp]; omega) (by rw [hT4.1.v0 hp]; omega) ?_
  refine AW_callV1 (d' := d - 1) dX1_learn_76 (Or.inl lkX1_190) mfX3_bestLook (hS4.cel rfl) ⟨_, rfl, rfl⟩ (k_bestLook (by omega) hS4 hC4.1 hC4.2.1 _ (by rw [hT4.1.v0 hp]; omega)) (by omega) (Nat.le_of_ble_eq_true rfl) ?_
  rintro _ _ ⟨e_, rfl⟩ -
  rw [e_]
  clear e_
  refine AW_callV2 (d' := d - 1) dX1_learn_79 (Or.inl lkX1_183) mfX2_know (hS4.cel rfl) ⟨_, rfl, rfl⟩ (k_knowF (f := fct D w.2.1 w.1 p) hS4 4 (by decide) hk4 _ _ rfl (by rw [hT4.1.v0 hp, show (1 - w.1 0 p).toNat = 1 - (w.1 0 p).toNat by omega]; rfl)) (by omega) (Nat.le_of_ble_eq_true rfl) ?_
  rintro _ ρ5 ⟨rfl, hk5, hG5⟩ -
  have hS5 := hG5.sta hS4
  have hT5 := hT4.fr hG5
  have hC5 := hC4.fz hG5.z hS4
  have hF5 : Fr [43] σ ρ5 := hF4.tr hG5
  refine AW_aload_n dX1_learn_82 rfl ?_
  refine AW_getR (a := 42) dX1_learn_83 gfX1_12 (hS5.cel rfl) (hS5.rf rfl) ?_
  refine AW_iconst dX1_learn_86 ?_
  refine AW_aload_n dX1_learn_87 rfl ?_
  refine AW_getR (a := 17) dX1_learn_88 gfX1_32 (hS5.cel rfl) (hS5.rf rfl) ?_
  refine AW_bipush dX1_learn_91 ?_
  refine AW_callV1 (d' := d - 1) dX1_learn_93 (Or.inl lkX1_136) mfX3_setting (hS5.cel rfl) ⟨_, rfl, rfl⟩ (k_setK 6 (by decide) hS5 hC5.1) (by omega) (Nat.le_of_ble_eq_true rfl) ?_
  rintro _ _ ⟨e_, rfl⟩ -
  rw [e_]
  clear e_
  refine AW_callV2 (d' := d - 1) dX1_learn_96 (Or.inl lkX1_183) mfX2_know (hS5.cel rfl) ⟨_, rfl, rfl⟩ (k_knowF (f := fct D w.2.1 w.1 p) hS5 5 (by decide) hk5 _ _ rfl rfl) (by omega) (Nat.le_of_ble_eq_true rfl) ?_
  rintro _ ρ6 ⟨rfl, hk6, hG6⟩ -
  have hS6 := hG6.sta hS5
  have hT6 := hT5.fr hG6
  have hC6 := hC5.fz hG6.z hS5
  have hF6 : Fr [43] σ ρ6 := hF5.tr hG6
  refine AW_aload_n dX1_learn_99 rfl ?_
  refine AW_getR (a := 42) dX1_learn_100 gfX1_12 (hS6.cel rfl) (hS6.rf rfl) ?_
  refine AW_bipush dX1_learn_103 ?_
  refine AW_aload_n dX1_learn_105 rfl ?_
  refine AW_getR (a := 26) dX1_learn_106 gfX1_36 (hS6.cel rfl) (hS6.rf rfl) ?_
  refine AW_aload_n dX1_learn_109 rfl ?_
  refine AW_getI dX1_learn_110 gfX1_75 (hT6.1.cel hp) ?_
  refine AW_aload_n dX1_learn_113 rfl ?_
  refine AW_getI dX1_learn_114 gfX1_82 (hT6.1.cel hp) ?_
  refine AW_aload_n dX1_learn_117 rfl ?_
  refine AW_getR (a := 47) dX1_learn_118 gfX1_28 (hS6.cel rfl) (hS6.rf rfl) ?_
  refine AW_iconst dX1_learn_121 ?_
  refine AW_ialdK 0 dX1_learn_122 (hS6.cel rfl) (by decide) ?_
  refine AW_iconst dX1_learn_123 ?_
  refine AW_iaddE dX1_learn_124 (by rw [hT6.2.1 0 (by decide)]; omega) (by rw [hT6.2.1 0 (by decide)]; omega) ?_
  refine AW_callV3 (d' := d - 1) dX1_learn_125 (Or.inl lkX1_193) mfX9_behind (hS6.cel rfl) ⟨_, rfl, rfl⟩ (k_behind (by omega) hS6 hC6.1 hC6.2.1 hC6.2.2.1 _ _ _) (by omega) (Nat.le_of_ble_eq_true rfl) ?_
  rintro _ _ ⟨e_, rfl⟩ -
  rw [e_]
  clear e_
  rw [hT6.1.v0 hp, hT6.1.v1 hp, hT6.2.1 0 (by decide)]
  have ev6 : (if (((w.1 0 p = 0 ∨ w.1 0 p = 1) ∧ 0 ≤ w.1 1 p ∧ w.1 1 p < D 0 (w.1 0 p).toNat) ∧ 0 ≤ w.2.1 0 + 1) ∧ w.2.1 0 + 1 < D 4 2 then wt D ((D 4 2).toNat - (w.2.1 0 + 1).toNat) (w.1 0 p).toNat (w.1 1 p).toNat else 0) = fct D w.2.1 w.1 p 6 := by
    show _ = if w.2.1 0 + 1 < D 4 2 then wt D ((D 4 2).toNat - (w.2.1 0 + 1).toNat) (w.1 0 p).toNat (w.1 1 p).toNat else 0
    by_cases q : w.2.1 0 + 1 < D 4 2
    · rw [if_pos q, if_pos ⟨⟨⟨a1, a2⟩, by omega⟩, q⟩]
    · rw [if_neg q, if_neg (fun e => q e.2)]
  refine AW_callV2 (d' := d - 1) dX1_learn_128 (Or.inl lkX1_183) mfX2_know (hS6.cel rfl) ⟨_, rfl, rfl⟩ (k_knowF (f := fct D w.2.1 w.1 p) hS6 6 (by decide) hk6 _ _ rfl ev6) (by omega) (Nat.le_of_ble_eq_true rfl) ?_
  rintro _ ρ7 ⟨rfl, hk7, hG7⟩ -
  have hS7 := hG7.sta hS6
  have hT7 := hT6.fr hG7
  have hC7 := hC6.fz hG7.z hS6
  have hF7 : Fr [43] σ ρ7 := hF6.tr hG7
  refine AW_vret dX1_learn_131 rfl ?_
  exact ⟨rfl, hk7, hF7⟩
theorem onI_c (T : Option Nat) : (T = none ∧ onI T = -1) ∨ ∃ l, T = some l ∧ onI T = (l : Int) := by
  cases T with
  | none => exact Or.inl ⟨rfl, rfl⟩
  | some l => exact Or.inr ⟨l, rfl, rfl⟩
theorem k_takeOf {G : Gt} {d : Nat} {σ : St} (hd : 4 ≤ d) {D : Mk} {Ws : Nat → Wy} {n : Nat} {pc : Nat → Nat} {w : Tw} (hS : Sta σ) (hC : CtC D Ws σ) (hT : TwC n pc w σ) {p : Nat} (hw : WFP D n w.1) (hp : p < n) (h99 : 0 ≤ w.2.1 0 ∧ w.2.1 0 ≤ 99)  : AM mX1_takeOf G d 0 0 [vR 41, vR (pc p)] σ (fun ro ρ => ro = some (vI ((sy D Ws w p 256).getD 0)) ∧ Fr [43, 44] σ ρ) := by
  refine AM.intro (by decide +kernel) (by simp [nLg]) (Nat.le_of_ble_eq_true rfl) (fun hO => ?_)
  show AW _ _ _ _ _ _ 0 [some (vR 41), some (vR (pc p)), none] [] σ
  obtain ⟨a1, a2, a3, a4, a5⟩ := hw.2.1 p hp
  have hk6 : (w.1 2 p).toNat < 6 := by omega
  have esy : sy D Ws w p 256 = (jfind (fct D w.2.1 w.1 p) (Ws (w.1 2 p).toNat) 256 (Ws (w.1 2 p).toNat).1 0).map (fun l => jval (fct D w.2.1 w.1 p) (Ws (w.1 2 p).toNat).2.2.2 ((Ws (w.1 2 p).toNat).2.1 1 l) ((Ws (w.1 2 p).toNat).2.1 2 l)) := rfl
  refine AW_aload_n dX1_takeOf_0 rfl ?_
  refine AW_aload_n dX1_takeOf_1 rfl ?_
  refine AW_callV1 (d' := d - 1) dX1_takeOf_2 (Or.inl lkX1_167) mfX1_learn (hS.cel rfl) ⟨_, rfl, rfl⟩ (k_learn (by omega) hS hC hT hw hp h99) (by omega) (Nat.le_of_ble_eq_true rfl) ?_
  rintro _ ρ1 ⟨rfl, hk1, hG1⟩ -
  have hS1 := hG1.sta hS
  have hT1 := hT.fr hG1
  have hC1 := hC.fz hG1.z hS
  refine AW_aload_n dX1_takeOf_5 rfl ?_
  refine AW_getR (a := 42) dX1_takeOf_6 gfX1_12 (hS1.cel rfl) (hS1.rf rfl) ?_
  refine AW_aload_n dX1_takeOf_9 rfl ?_
  refine AW_getR (a := wcl (w.1 2 p).toNat) dX1_takeOf_10 gfX1_170 (hT1.1.cel hp) (hT1.1.way hp) ?_
  refine AW_sipush dX1_takeOf_13 ?_
  refine AW_callV2 (d' := d - 1) dX1_takeOf_16 (Or.inl lkX1_176) mfX2_line (hS1.cel rfl) ⟨_, rfl, rfl⟩ (k_line2 (by omega) hk6 hS1 (hC1.2.2.2 _ hk6).1 (hC1.2.2.2 _ hk6).2 hk1 256) (by omega) (Nat.le_of_ble_eq_true rfl) ?_
  rintro _ ρ2 ⟨rfl, hG2⟩ -
  have hS2 := hG2.sta hS1
  have hT2 := hT1.fr hG2
  have hC2 := hC1.fz hG2.z hS1
  have hk2 := fun i hi => (hG2.iv 43 i).trans (hk1 i hi)
  have hF2 : Fr [43, 44] σ ρ2 := (hG1.mo (by decide)).tr (hG2.mo (by decide))
  have hon := onI_c (jfind (fct D w.2.1 w.1 p) (Ws (w.1 2 p).toNat) 256 (Ws (w.1 2 p).toNat).1 0)
  refine AW_istore2 dX1_takeOf_19 ?_
  refine AW_iload_n dX1_takeOf_20 rfl ?_
  refine AW_iconst dX1_takeOf_21 ?_
  refine AW_icmp_ne (tgt := 29) dX1_takeOf_22 (by decide) (fun c_22 => ?_) (fun c_22 => ?_)
  · skip
    obtain ⟨l, hl⟩ : ∃ l, (jfind (fct D w.2.1 w.1 p) (Ws (w.1 2 p).toNat) 256 (Ws (w.1 2 p).toNat).1 0) = some l := by
      rcases hon with q | ⟨l, q1, q2⟩
      · exact absurd q.2 c_22
      · exact ⟨l, q1⟩
    refine AW_aload_n dX1_takeOf_29 rfl ?_
    refine AW_getR (a := 42) dX1_takeOf_30 gfX1_12 (hS2.cel rfl) (hS2.rf rfl) ?_
    refine AW_aload_n dX1_takeOf_33 rfl ?_
    refine AW_getR (a := wcl (w.1 2 p).toNat) dX1_takeOf_34 gfX1_170 (hT2.1.cel hp) (hT2.1.way hp) ?_
    refine AW_iload_n dX1_takeOf_37 rfl ?_
    refine AW_callV2 (d' := d - 1) dX1_takeOf_38 (Or.inl lkX1_180) mfX2_value (hS2.cel rfl) ⟨_, rfl, rfl⟩ (k_value (by omega) hk6 hS2 (hC2.2.2.2 _ hk6).1 (hC2.2.2.2 _ hk6).2 hk2 _ l (by rw [hl]; rfl) (by have := jfind_lt _ _ _ hl; omega)) (by omega) (Nat.le_of_ble_eq_true rfl) ?_
    rintro _ ρ3 ⟨rfl, hG3⟩ -
    refine AW_iret dX1_takeOf_41 rfl ?_
    rw [esy, hl]
    first | exact ⟨rfl, hF2.tr (hG3.mo (by decide))⟩ | exact ⟨rfl, hF2⟩
  · skip
    have hl : (jfind (fct D w.2.1 w.1 p) (Ws (w.1 2 p).toNat) 256 (Ws (w.1 2 p).toNat).1 0) = none := by
      rcases hon with q | ⟨l, q1, q2⟩
      · exact q.1
      · omega
    refine AW_iconst dX1_takeOf_25 ?_
    refine AW_goto (tgt := 41) dX1_takeOf_26 (by decide) ?_
    refine AW_iret dX1_takeOf_41 rfl ?_
    rw [esy, hl]
    first | exact ⟨rfl, hF2.tr (hG3.mo (by decide))⟩ | exact ⟨rfl, hF2⟩
theorem k_leaveOf {G : Gt} {d : Nat} {σ : St} (hd : 4 ≤ d) {D : Mk} {Ws : Nat → Wy} {n : Nat} {pc : Nat → Nat} {w : Tw} (hS : Sta σ) (hC : CtC D Ws σ) (hT : TwC n pc w σ) {p : Nat} (hw : WFP D n w.1) (hp : p < n) (h99 : 0 ≤ w.2.1 0 ∧ w.2.1 0 ≤ 99)  : AM mX1_leaveOf G d 0 0 [vR 41, vR (pc p)] σ (fun ro ρ => ro = some (vI ((sy D Ws w p 257).getD (-1))) ∧ Fr [43, 44] σ ρ) := by
  refine AM.intro (by decide +kernel) (by simp [nLg]) (Nat.le_of_ble_eq_true rfl) (fun hO => ?_)
  show AW _ _ _ _ _ _ 0 [some (vR 41), some (vR (pc p)), none] [] σ
  obtain ⟨a1, a2, a3, a4, a5⟩ := hw.2.1 p hp
  have hk6 : (w.1 2 p).toNat < 6 := by omega
  have esy : sy D Ws w p 257 = (jfind (fct D w.2.1 w.1 p) (Ws (w.1 2 p).toNat) 257 (Ws (w.1 2 p).toNat).1 0).map (fun l => jval (fct D w.2.1 w.1 p) (Ws (w.1 2 p).toNat).2.2.2 ((Ws (w.1 2 p).toNat).2.1 1 l) ((Ws (w.1 2 p).toNat).2.1 2 l)) := rfl
  refine AW_aload_n dX1_leaveOf_0 rfl ?_
  refine AW_aload_n dX1_leaveOf_1 rfl ?_
  refine AW_callV1 (d' := d - 1) dX1_leaveOf_2 (Or.inl lkX1_167) mfX1_learn (hS.cel rfl) ⟨_, rfl, rfl⟩ (k_learn (by omega) hS hC hT hw hp h99) (by omega) (Nat.le_of_ble_eq_true rfl) ?_
  rintro _ ρ1 ⟨rfl, hk1, hG1⟩ -
  have hS1 := hG1.sta hS
  have hT1 := hT.fr hG1
  have hC1 := hC.fz hG1.z hS
  refine AW_aload_n dX1_leaveOf_5 rfl ?_
  refine AW_getR (a := 42) dX1_leaveOf_6 gfX1_12 (hS1.cel rfl) (hS1.rf rfl) ?_
  refine AW_aload_n dX1_leaveOf_9 rfl ?_
  refine AW_getR (a := wcl (w.1 2 p).toNat) dX1_leaveOf_10 gfX1_170 (hT1.1.cel hp) (hT1.1.way hp) ?_
  refine AW_sipush dX1_leaveOf_13 ?_
  refine AW_callV2 (d' := d - 1) dX1_leaveOf_16 (Or.inl lkX1_176) mfX2_line (hS1.cel rfl) ⟨_, rfl, rfl⟩ (k_line2 (by omega) hk6 hS1 (hC1.2.2.2 _ hk6).1 (hC1.2.2.2 _ hk6).2 hk1 257) (by omega) (Nat.le_of_ble_eq_true rfl) ?_
  rintro _ ρ2 ⟨rfl, hG2⟩ -
  have hS2 := hG2.sta hS1
  have hT2 := hT1.fr hG2
  have hC2 := hC1.fz hG2.z hS1
  have hk2 := fun i hi => (hG2.iv 43 i).trans (hk1 i hi)
  have hF2 : Fr [43, 44] σ ρ2 := (hG1.mo (by decide)).tr (hG2.mo (by decide))
  have hon := onI_c (jfind (fct D w.2.1 w.1 p) (Ws (w.1 2 p).toNat) 257 (Ws (w.1 2 p).toNat).1 0)
  refine AW_istore2 dX1_leaveOf_19 ?_
  refine AW_iload_n dX1_leaveOf_20 rfl ?_
  refine AW_iconst dX1_leaveOf_21 ?_
  refine AW_icmp_ne (tgt := 29) dX1_leaveOf_22 (by decide) (fun c_22 => ?_) (fun c_22 => ?_)
  · skip
    obtain ⟨l, hl⟩ : ∃ l, (jfind (fct D w.2.1 w.1 p) (Ws (w.1 2 p).toNat) 257 (Ws (w.1 2 p).toNat).1 0) = some l := by
      rcases hon with q | ⟨l, q1, q2⟩
      · exact absurd q.2 c_22
      · exact ⟨l, q1⟩
    refine AW_aload_n dX1_leaveOf_29 rfl ?_
    refine AW_getR (a := 42) dX1_leaveOf_30 gfX1_12 (hS2.cel rfl) (hS2.rf rfl) ?_
    refine AW_aload_n dX1_leaveOf_33 rfl ?_
    refine AW_getR (a := wcl (w.1 2 p).toNat) dX1_leaveOf_34 gfX1_170 (hT2.1.cel hp) (hT2.1.way hp) ?_
    refine AW_iload_n dX1_leaveOf_37 rfl ?_
    refine AW_callV2 (d' := d - 1) dX1_leaveOf_38 (Or.inl lkX1_180) mfX2_value (hS2.cel rfl) ⟨_, rfl, rfl⟩ (k_value (by omega) hk6 hS2 (hC2.2.2.2 _ hk6).1 (hC2.2.2.2 _ hk6).2 hk2 _ l (by rw [hl]; rfl) (by have := jfind_lt _ _ _ hl; omega)) (by omega) (Nat.le_of_ble_eq_true rfl) ?_
    rintro _ ρ3 ⟨rfl, hG3⟩ -
    refine AW_iret dX1_leaveOf_41 rfl ?_
    rw [esy, hl]
    first | exact ⟨rfl, hF2.tr (hG3.mo (by decide))⟩ | exact ⟨rfl, hF2⟩
  · skip
    have hl : (jfind (fct D w.2.1 w.1 p) (Ws (w.1 2 p).toNat) 257 (Ws (w.1 2 p).toNat).1 0) = none := by
      rcases hon with q | ⟨l, q1, q2⟩
      · exact q.1
      · omega
    refine AW_iconst dX1_leaveOf_25 ?_
    refine AW_goto (tgt := 41) dX1_leaveOf_26 (by decide) ?_
    refine AW_iret dX1_leaveOf_41 rfl ?_
    rw [esy, hl]
    first | exact ⟨rfl, hF2.tr (hG3.mo (by decide))⟩ | exact ⟨rfl, hF2⟩
theorem k_tempted {G : Gt} {d : Nat} {σ : St} (hd : 4 ≤ d) {D : Mk} {Ws : Nat → Wy} {n : Nat} {pc : Nat → Nat} {w : Tw} (hS : Sta σ) (hC : CtC D Ws σ) (hT : TwC n pc w σ) {p : Nat} (hw : WFP D n w.1) (hp : p < n) (h99 : 0 ≤ w.2.1 0 ∧ w.2.1 0 ≤ 99) {q : Nat} (hq : q < n) (hs : w.1 0 q = 1 - w.1 0 p) (seen : Int)  : AM mX1_isTempted G d 0 0 [vR 41, vR (pc p), vR (pc q), vI seen] σ (fun ro ρ => ro = some (vI (if temptB D Ws w p q seen = true then 1 else 0)) ∧ Fr [43, 44] σ ρ) := by
  refine AM.intro (by decide +kernel) (by simp [nLg]) (Nat.le_of_ble_eq_true rfl) (fun hO => ?_)
  have i_seen : -2147483648 ≤ seen ∧ seen < 2147483648 := hO (vI seen) (by simp)
  show AW _ _ _ _ _ _ 0 [some (vR 41), some (vR (pc p)), some (vR (pc q)), some (vI seen), none] [] σ
  obtain ⟨a1, a2, a3, a4, a5⟩ := hw.2.1 p hp
  have hk6 : (w.1 2 p).toNat < 6 := by omega
  have esy : sy D Ws w p 257 = (jfind (fct D w.2.1 w.1 p) (Ws (w.1 2 p).toNat) 257 (Ws (w.1 2 p).toNat).1 0).map (fun l => jval (fct D w.2.1 w.1 p) (Ws (w.1 2 p).toNat).2.2.2 ((Ws (w.1 2 p).toNat).2.1 1 l) ((Ws (w.1 2 p).toNat).2.1 2 l)) := rfl
  refine AW_aload_n dX1_isTempted_0 rfl ?_
  refine AW_aload_n dX1_isTempted_1 rfl ?_
  refine AW_callV1 (d' := d - 1) dX1_isTempted_2 (Or.inl lkX1_167) mfX1_learn (hS.cel rfl) ⟨_, rfl, rfl⟩ (k_learn (by omega) hS hC hT hw hp h99) (by omega) (Nat.le_of_ble_eq_true rfl) ?_
  rintro _ ρ1 ⟨rfl, hk1, hG1⟩ -
  have hS1 := hG1.sta hS
  have hT1 := hT.fr hG1
  have hC1 := hC.fz hG1.z hS
  refine AW_aload_n dX1_isTempted_5 rfl ?_
  refine AW_getR (a := 42) dX1_isTempted_6 gfX1_12 (hS1.cel rfl) (hS1.rf rfl) ?_
  refine AW_aload_n dX1_isTempted_9 rfl ?_
  refine AW_getR (a := wcl (w.1 2 p).toNat) dX1_isTempted_10 gfX1_170 (hT1.1.cel hp) (hT1.1.way hp) ?_
  refine AW_sipush dX1_isTempted_13 ?_
  refine AW_callV2 (d' := d - 1) dX1_isTempted_16 (Or.inl lkX1_176) mfX2_line (hS1.cel rfl) ⟨_, rfl, rfl⟩ (k_line2 (by omega) hk6 hS1 (hC1.2.2.2 _ hk6).1 (hC1.2.2.2 _ hk6).2 hk1 257) (by omega) (Nat.le_of_ble_eq_true rfl) ?_
  rintro _ ρ2 ⟨rfl, hG2⟩ -
  have hS2 := hG2.sta hS1
  have hT2 := hT1.fr hG2
  have hC2 := hC1.fz hG2.z hS1
  have hk2 := fun i hi => (hG2.iv 43 i).trans (hk1 i hi)
  have hF2 : Fr [43, 44] σ ρ2 := (hG1.mo (by decide)).tr (hG2.mo (by decide))
  have hon := onI_c (jfind (fct D w.2.1 w.1 p) (Ws (w.1 2 p).toNat) 257 (Ws (w.1 2 p).toNat).1 0)
  refine AW_istore4 dX1_isTempted_19 ?_
  refine AW_iload dX1_isTempted_21 rfl ?_
  refine AW_iconst dX1_isTempted_23 ?_
  refine AW_icmp_eq (tgt := 55) dX1_isTempted_24 (by decide) (fun c_24 => ?_) (fun c_24 => ?_)
  · skip
    have hl : (jfind (fct D w.2.1 w.1 p) (Ws (w.1 2 p).toNat) 257 (Ws (w.1 2 p).toNat).1 0) = none := by
      rcases hon with q | ⟨l, q1, q2⟩
      · exact q.1
      · omega
    have hte : ¬ temptB D Ws w p q seen = true := by
      unfold temptB
      rw [esy, hl]
      exact (by decide : ¬ false = true)
    refine AW_iconst dX1_isTempted_55 ?_
    refine AW_zret dX1_isTempted_56 rfl (by decide) ?_
    first
    | (rw [if_neg hte]; exact ⟨rfl, hF2⟩)
    | (rw [if_pos (by rw [hte]; exact decide_eq_true (by omega))]; exact ⟨rfl, hF3⟩)
    | (rw [if_neg (by rw [hte]; intro e; have := of_decide_eq_true e; omega)]; exact ⟨rfl, hF3⟩)
  · skip
    obtain ⟨l, hl⟩ : ∃ l, (jfind (fct D w.2.1 w.1 p) (Ws (w.1 2 p).toNat) 257 (Ws (w.1 2 p).toNat).1 0) = some l := by
      rcases hon with q | ⟨l, q1, q2⟩
      · exact absurd q.2 c_24
      · exact ⟨l, q1⟩
    have hte : temptB D Ws w p q seen = decide (wr (wf D w.1 p q + jval (fct D w.2.1 w.1 p) (Ws (w.1 2 p).toNat).2.2.2 ((Ws (w.1 2 p).toNat).2.1 1 l) ((Ws (w.1 2 p).toNat).2.1 2 l)) ≤ seen) := by
      unfold temptB
      rw [esy, hl]
      rfl
    refine AW_iload_n dX1_isTempted_27 rfl ?_
    refine AW_aload_n dX1_isTempted_28 rfl ?_
    refine AW_aload_n dX1_isTempted_29 rfl ?_
    refine AW_aload_n dX1_isTempted_30 rfl ?_
    refine AW_callV2 (d' := d - 1) dX1_isTempted_31 (Or.inl lkX1_112) mfX1_worthFor (hS2.cel rfl) ⟨_, rfl, rfl⟩ (k_worthFor (by omega) hS2 hC2.1 hC2.2.1 hT2.1 hw hp hq hs) (by omega) (Nat.le_of_ble_eq_true rfl) ?_
    rintro _ _ ⟨e_, rfl⟩ -
    rw [e_]
    clear e_
    refine AW_aload_n dX1_isTempted_34 rfl ?_
    refine AW_getR (a := 42) dX1_isTempted_35 gfX1_12 (hS2.cel rfl) (hS2.rf rfl) ?_
    refine AW_aload_n dX1_isTempted_38 rfl ?_
    refine AW_getR (a := wcl (w.1 2 p).toNat) dX1_isTempted_39 gfX1_170 (hT2.1.cel hp) (hT2.1.way hp) ?_
    refine AW_iload dX1_isTempted_42 rfl ?_
    refine AW_callV2 (d' := d - 1) dX1_isTempted_44 (Or.inl lkX1_180) mfX2_value (hS2.cel rfl) ⟨_, rfl, rfl⟩ (k_value (by omega) hk6 hS2 (hC2.2.2.2 _ hk6).1 (hC2.2.2.2 _ hk6).2 hk2 _ l (by rw [hl]; rfl) (by have := jfind_lt _ _ _ hl; omega)) (by omega) (Nat.le_of_ble_eq_true rfl) ?_
    rintro _ ρ3 ⟨rfl, hG3⟩ -
    have hF3 : Fr [43, 44] σ ρ3 := hF2.tr (hG3.mo (by decide))
    refine AW_iadd dX1_isTempted_47 ?_
    refine AW_icmp_lt (tgt := 55) dX1_isTempted_48 (by decide) (fun c_48 => ?_) (fun c_48 => ?_)
    · skip
      refine AW_iconst dX1_isTempted_55 ?_
      refine AW_zret dX1_isTempted_56 rfl (by decide) ?_
      first
      | (rw [if_neg hte]; exact ⟨rfl, hF2⟩)
      | (rw [if_pos (by rw [hte]; exact decide_eq_true (by omega))]; exact ⟨rfl, hF3⟩)
      | (rw [if_neg (by rw [hte]; intro e; have := of_decide_eq_true e; omega)]; exact ⟨rfl, hF3⟩)
    · skip
      refine AW_iconst dX1_isTempted_51 ?_
      refine AW_goto (tgt := 56) dX1_isTempted_52 (by decide) ?_
      refine AW_zret dX1_isTempted_56 rfl (by decide) ?_
      first
      | (rw [if_neg hte]; exact ⟨rfl, hF2⟩)
      | (rw [if_pos (by rw [hte]; exact decide_eq_true (by omega))]; exact ⟨rfl, hF3⟩)
      | (rw [if_neg (by rw [hte]; intro e; have := of_decide_eq_true e; omega)]; exact ⟨rfl, hF3⟩)
theorem k_isThere {G : Gt} {d : Nat} {σ : St} (hd : 1 ≤ d) {D : Mk} {n : Nat} {pc : Nat → Nat} {P : Pe} {p : Nat} (hP : PeC n pc P σ) (hw : WFP D n P) (hp : p < n) (b : Int) (hb : b = if D 4 5 = 1 then 1 else 0) : AM mX1_isThere G d 0 0 [vR (pc p), vI b] σ (fun r τ => τ = σ ∧ r = some (vI (if thr D P p then 1 else 0))) := by
  refine AM.intro (by decide +kernel) (by simp [nLg]) (Nat.le_of_ble_eq_true rfl) (fun hO => ?_)
  have i_b : -2147483648 ≤ b ∧ b < 2147483648 := hO (vI b) (by simp)
  show AW _ _ _ _ _ _ 0 [some (vR (pc p)), some (vI b)] [] σ
  refine AW_aload_n dX1_isThere_0 rfl ?_
  refine AW_getI dX1_isThere_1 gfX1_75 (hP.cel hp) ?_
  refine AW_iconst dX1_isThere_4 ?_
  refine AW_icmp_ne (tgt := 23) dX1_isThere_5 (by decide) (fun c_5 => ?_) (fun c_5 => ?_)
  · skip
    rw [hP.v0 hp] at c_5
    refine AW_iconst dX1_isThere_23 ?_
    refine AW_zret dX1_isThere_24 rfl (by decide) ?_
    refine ⟨rfl, ?_⟩
    unfold thr
    first | rw [if_pos (by omega)] | rw [if_neg (by omega)]
  · skip
    rw [hP.v0 hp] at c_5
    refine AW_iload_n dX1_isThere_8 rfl ?_
    refine AW_if_ne (tgt := 19) dX1_isThere_9 (by decide) (fun c_9 => ?_) (fun c_9 => ?_)
    · skip
      rw [hb] at c_9
      have c9 := bz1 c_9
      refine AW_iconst dX1_isThere_19 ?_
      refine AW_goto (tgt := 24) dX1_isThere_20 (by decide) ?_
      refine AW_zret dX1_isThere_24 rfl (by decide) ?_
      refine ⟨rfl, ?_⟩
      unfold thr
      first | rw [if_pos (by omega)] | rw [if_neg (by omega)]
    · skip
      rw [hb] at c_9
      have c9 := bz0 c_9
      refine AW_aload_n dX1_isThere_12 rfl ?_
      refine AW_callV0 (d' := d - 1) dX1_isThere_13 (Or.inl lkX1_78) mfX4_isSingle (hP.cel hp) ⟨_, rfl, rfl⟩ (k_single hP hw hp) (by omega) (Nat.le_of_ble_eq_true rfl) ?_
      rintro _ _ ⟨e_, rfl⟩ -
      rw [e_]
      clear e_
      refine AW_if_eq (tgt := 23) dX1_isThere_16 (by decide) (fun c_16 => ?_) (fun c_16 => ?_)
      · skip
        replace c_16 := bz0 c_16
        refine AW_iconst dX1_isThere_23 ?_
        refine AW_zret dX1_isThere_24 rfl (by decide) ?_
        refine ⟨rfl, ?_⟩
        unfold thr
        first | rw [if_pos (by omega)] | rw [if_neg (by omega)]
      · skip
        replace c_16 := bz1 c_16
        refine AW_iconst dX1_isThere_19 ?_
        refine AW_goto (tgt := 24) dX1_isThere_20 (by decide) ?_
        refine AW_zret dX1_isThere_24 rfl (by decide) ?_
        refine ⟨rfl, ?_⟩
        unfold thr
        first | rw [if_pos (by omega)] | rw [if_neg (by omega)]
