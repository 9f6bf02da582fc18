-- THE FEAST as the model holds it
def LkM (n : Nat) (K : Nat → Int) (σ : St) : Prop := σ.2.1 94 62 = n ∧ (1 ≤ n ∧ n ≤ 7) ∧ (∀ i, i < 98 → σ.2.1 125 i = K i) ∧ Lok K
theorem LkM.fm {n : Nat} {K : Nat → Int} {fs L : List Nat} {σ τ : St} (h : LkM n K σ) (hF : Fm fs L σ τ) (h1 : 62 ∉ fs := by decide) (h2 : 125 ∉ 94 :: L := by decide) : LkM n K τ := ⟨(hF.f 62 h1).trans h.1, h.2.1, fun i hi => (hF.a 125 i h2).trans (h.2.2.1 i hi), h.2.2.2⟩
def HeM (H : List (List Nat)) (n : Nat) (σ : St) : Prop := σ.2.1 94 67 = (H.length : Int) ∧ ∀ i l, H[i]? = some l → ∀ m, m < n → σ.2.1 127 (7 * i + m) = (l.getD m 0 : Int)
theorem HeM.fm {n : Nat} {H : List (List Nat)} {fs L : List Nat} {σ τ : St} (h : HeM H n σ) (hF : Fm fs L σ τ) (h1 : 67 ∉ fs := by decide) (h2 : 127 ∉ 94 :: L := by decide) : HeM H n τ := ⟨(hF.f 67 h1).trans h.1, fun i l hi m hm => (hF.a 127 _ h2).trans (h.2 i l hi m hm)⟩
def ChM (n : Nat) (K : Nat → Int) (σ : St) : Prop := HeM (heldL K n) n σ ∧ σ.2.1 94 69 = mostV K n ∧ (∀ j, j < n → σ.2.1 128 j = ((mostL K n).getD j 0 : Int)) ∧ σ.2.1 94 70 = mxR (sR K) (heldL K n) (-1) ∧ ∀ w, w < 7 → σ.2.1 131 w = lsP K n w
def FeM (n : Nat) (K : Nat → Int) (σ : St) : Prop := LkM n K σ ∧ (σ.2.1 94 65 = 0 ∨ (σ.2.1 94 65 = 1 ∧ ChM n K σ))
theorem ChM.fm {n : Nat} {K : Nat → Int} {fs L : List Nat} {σ τ : St} (h : ChM n K σ) (hF : Fm fs L σ τ) (h1 : 67 ∉ fs := by decide) (h2 : 69 ∉ fs := by decide) (h3 : 70 ∉ fs := by decide) (h4 : 127 ∉ 94 :: L := by decide) (h5 : 128 ∉ 94 :: L := by decide) (h6 : 131 ∉ 94 :: L := by decide) : ChM n K τ :=
  ⟨h.1.fm hF h1 h4, (hF.f 69 h2).trans h.2.1, fun j hj => (hF.a 128 j h5).trans (h.2.2.1 j hj), (hF.f 70 h3).trans h.2.2.2.1, fun w hw => (hF.a 131 w h6).trans (h.2.2.2.2 w hw)⟩
theorem FeM.fm {n : Nat} {K : Nat → Int} {fs L : List Nat} {σ τ : St} (h : FeM n K σ) (hF : Fm fs L σ τ) (h0 : 62 ∉ fs := by decide) (h00 : 65 ∉ fs := by decide) (h1 : 67 ∉ fs := by decide) (h2 : 69 ∉ fs := by decide) (h3 : 70 ∉ fs := by decide) (h7 : 125 ∉ 94 :: L := by decide) (h4 : 127 ∉ 94 :: L := by decide) (h5 : 128 ∉ 94 :: L := by decide) (h6 : 131 ∉ 94 :: L := by decide) : FeM n K τ :=
  ⟨h.1.fm hF h0 h7, by rw [hF.f 65 h00]; exact h.2.imp id (fun q => ⟨q.1, q.2.fm hF h1 h2 h3 h4 h5 h6⟩)⟩
def PrM (Q : Nat → Int) (σ : St) : Prop := (∀ j, j < 7 → σ.2.1 126 j = Q j) ∧ ∀ j, 0 ≤ Q j ∧ Q j ≤ 999
theorem PrM.fm {Q : Nat → Int} {fs L : List Nat} {σ τ : St} (h : PrM Q σ) (hF : Fm fs L σ τ) (h1 : 126 ∉ 94 :: L := by decide) : PrM Q τ := ⟨fun j hj => (hF.a 126 j h1).trans (h.1 j hj), h.2⟩
theorem n_isGuest {G : Gt} {d : Nat} {σ : St}  {n : Nat} {K : Nat → Int} (hS : Sta σ) (hL : LkM n K σ) (k : Int)  : AM mX12_isGuest G d 0 0 [vR 94, vI k] σ (fun r τ => τ = σ ∧ r = some (vI (if 0 ≤ k ∧ k < n then 1 else 0))) := by
  refine AM.intro (by decide +kernel) (by simp [nLg]) (Nat.le_of_ble_eq_true rfl) (fun hO => ?_)
  have i_k : -2147483648 ≤ k ∧ k < 2147483648 := hO (vI k) (by simp)
  show AW _ _ _ _ _ _ 0 [some (vR 94), some (vI k)] [] σ
  have h6 := hL.1
  refine AW_iload_n dX12_isGuest_0 rfl ?_
  refine AW_if_lt (tgt := 16) dX12_isGuest_1 (by decide) (fun c_1 => ?_) (fun c_1 => ?_)
  · skip
    refine AW_iconst dX12_isGuest_16 ?_
    refine AW_zret dX12_isGuest_17 rfl (by decide) ?_
    refine ⟨rfl, ?_⟩
    first | rw [if_pos (by omega)] | rw [if_neg (by omega)]
  · skip
    refine AW_iload_n dX12_isGuest_4 rfl ?_
    refine AW_aload_n dX12_isGuest_5 rfl ?_
    refine AW_getI dX12_isGuest_6 gfX12_117 (hS.cel rfl) ?_
    refine AW_icmp_ge (tgt := 16) dX12_isGuest_9 (by decide) (fun c_9 => ?_) (fun c_9 => ?_)
    · skip
      refine AW_iconst dX12_isGuest_16 ?_
      refine AW_zret dX12_isGuest_17 rfl (by decide) ?_
      refine ⟨rfl, ?_⟩
      first | rw [if_pos (by omega)] | rw [if_neg (by omega)]
    · skip
      refine AW_iconst dX12_isGuest_12 ?_
      refine AW_goto (tgt := 17) dX12_isGuest_13 (by decide) ?_
      refine AW_zret dX12_isGuest_17 rfl (by decide) ?_
      refine ⟨rfl, ?_⟩
      first | rw [if_pos (by omega)] | rw [if_neg (by omega)]
theorem n_isMore {G : Gt} {d : Nat} {σ : St} {n : Nat} {K : Nat → Int} (hS : Sta σ) (hL : LkM n K σ) (s0 k0 a0 b0 : Int) (s k a b : Nat) (e1 : s0 = s) (e2 : k0 = k) (e3 : a0 = a) (e4 : b0 = b) (hs : s < 2) (hk : k < n) (ha : a < n) (hb : b < n) : AM mX12_isMore G d 0 0 [vR 94, vI s0, vI k0, vI a0, vI b0] σ (fun r τ => τ = σ ∧ r = some (vI (if more K s k a b then 1 else 0))) := by
  have h7 := hL.2.1
  refine AM.intro (by decide +kernel) (by simp [nLg]) (Nat.le_of_ble_eq_true rfl) (fun hO => ?_)
  show AW _ _ _ _ _ _ 0 [some (vR 94), some (vI s0), some (vI k0), some (vI a0), some (vI b0), none, none] [] σ
  refine AW_aload_n dX12_isMore_0 rfl ?_
  refine AW_getR (a := 125) dX12_isMore_1 gfX12_120 (hS.cel rfl) (hS.rf rfl) ?_
  refine AW_bipush dX12_isMore_4 ?_
  refine AW_iload_n dX12_isMore_6 rfl ?_
  refine AW_imulE dX12_isMore_7 (by omega) (by omega) ?_
  refine AW_bipush dX12_isMore_8 ?_
  refine AW_iload_n dX12_isMore_10 rfl ?_
  refine AW_imulE dX12_isMore_11 (by omega) (by omega) ?_
  refine AW_iaddE dX12_isMore_12 (by omega) (by omega) ?_
  refine AW_iload_n dX12_isMore_13 rfl ?_
  refine AW_iaddE dX12_isMore_14 (by omega) (by omega) ?_
  refine AW_iald dX12_isMore_15 (hS.cel rfl) (by omega) (by omega) ?_
  rw [show (49 * s0 + 7 * k0 + a0).toNat = 49 * s + 7 * k + a by omega, hL.2.2.1 _ (by omega)]
  have q1 : K (49 * s + 7 * k + a) = lk K s k a := rfl
  rw [q1]
  refine AW_istore5 dX12_isMore_16 ?_
  refine AW_aload_n dX12_isMore_18 rfl ?_
  refine AW_getR (a := 125) dX12_isMore_19 gfX12_120 (hS.cel rfl) (hS.rf rfl) ?_
  refine AW_bipush dX12_isMore_22 ?_
  refine AW_iload_n dX12_isMore_24 rfl ?_
  refine AW_imulE dX12_isMore_25 (by omega) (by omega) ?_
  refine AW_bipush dX12_isMore_26 ?_
  refine AW_iload_n dX12_isMore_28 rfl ?_
  refine AW_imulE dX12_isMore_29 (by omega) (by omega) ?_
  refine AW_iaddE dX12_isMore_30 (by omega) (by omega) ?_
  refine AW_iload dX12_isMore_31 rfl ?_
  refine AW_iaddE dX12_isMore_33 (by omega) (by omega) ?_
  refine AW_iald dX12_isMore_34 (hS.cel rfl) (by omega) (by omega) ?_
  rw [show (49 * s0 + 7 * k0 + b0).toNat = 49 * s + 7 * k + b by omega, hL.2.2.1 _ (by omega)]
  have q2 : K (49 * s + 7 * k + b) = lk K s k b := rfl
  rw [q2]
  refine AW_istore6 dX12_isMore_35 ?_
  refine AW_iload dX12_isMore_37 rfl ?_
  refine AW_iload dX12_isMore_39 rfl ?_
  refine AW_icmp_gt (tgt := 57) dX12_isMore_41 (by decide) (fun c_41 => ?_) (fun c_41 => ?_)
  · skip
    refine AW_iconst dX12_isMore_57 ?_
    refine AW_goto (tgt := 62) dX12_isMore_58 (by decide) ?_
    refine AW_zret dX12_isMore_62 rfl (by decide) ?_
    refine ⟨rfl, ?_⟩
    unfold more
    first | (rw [if_pos (by omega)]; done) | (rw [if_neg (by omega)]; done)
  · skip
    refine AW_iload dX12_isMore_44 rfl ?_
    refine AW_iload dX12_isMore_46 rfl ?_
    refine AW_icmp_ne (tgt := 61) dX12_isMore_48 (by decide) (fun c_48 => ?_) (fun c_48 => ?_)
    · skip
      refine AW_iconst dX12_isMore_61 ?_
      refine AW_zret dX12_isMore_62 rfl (by decide) ?_
      refine ⟨rfl, ?_⟩
      unfold more
      first | (rw [if_pos (by omega)]; done) | (rw [if_neg (by omega)]; done)
    · skip
      refine AW_iload_n dX12_isMore_51 rfl ?_
      refine AW_iload dX12_isMore_52 rfl ?_
      refine AW_icmp_ge (tgt := 61) dX12_isMore_54 (by decide) (fun c_54 => ?_) (fun c_54 => ?_)
      · skip
        refine AW_iconst dX12_isMore_61 ?_
        refine AW_zret dX12_isMore_62 rfl (by decide) ?_
        refine ⟨rfl, ?_⟩
        unfold more
        first | (rw [if_pos (by omega)]; done) | (rw [if_neg (by omega)]; done)
      · skip
        refine AW_iconst dX12_isMore_57 ?_
        refine AW_goto (tgt := 62) dX12_isMore_58 (by decide) ?_
        refine AW_zret dX12_isMore_62 rfl (by decide) ?_
        refine ⟨rfl, ?_⟩
        unfold more
        first | (rw [if_pos (by omega)]; done) | (rw [if_neg (by omega)]; done)
theorem n_both {G : Gt} {d : Nat} {σ : St} {n : Nat} {K : Nat → Int} (hS : Sta σ) (hL : LkM n K σ) (m0 w0 : Int) (m w : Nat) (e1 : m0 = m) (e2 : w0 = w) (hm : m < n) (hw : w < n) : AM mX12_bothOf G d 0 0 [vR 94, vI m0, vI w0] σ (fun r τ => τ = σ ∧ r = some (vI (both K m w))) := by
  have h7 := hL.2.1
  have hb1 := hL.2.2.2 (7 * m + w)
  have hb2 := hL.2.2.2 (49 + 7 * w + m)
  have hb3 : both K m w = K (7 * m + w) + K (49 + 7 * w + m) := by unfold both lk; rw [show 49 * 0 + 7 * m + w = 7 * m + w by omega]
  refine AM.intro (by decide +kernel) (by simp [nLg]) (Nat.le_of_ble_eq_true rfl) (fun hO => ?_)
  show AW _ _ _ _ _ _ 0 [some (vR 94), some (vI m0), some (vI w0)] [] σ
  refine AW_aload_n dX12_bothOf_0 rfl ?_
  refine AW_getR (a := 125) dX12_bothOf_1 gfX12_120 (hS.cel rfl) (hS.rf rfl) ?_
  refine AW_bipush dX12_bothOf_4 ?_
  refine AW_iload_n dX12_bothOf_6 rfl ?_
  refine AW_imulE dX12_bothOf_7 (by omega) (by omega) ?_
  refine AW_iload_n dX12_bothOf_8 rfl ?_
  refine AW_iaddE dX12_bothOf_9 (by omega) (by omega) ?_
  refine AW_iald dX12_bothOf_10 (hS.cel rfl) (by omega) (by omega) ?_
  refine AW_aload_n dX12_bothOf_11 rfl ?_
  refine AW_getR (a := 125) dX12_bothOf_12 gfX12_120 (hS.cel rfl) (hS.rf rfl) ?_
  refine AW_bipush dX12_bothOf_15 ?_
  refine AW_bipush dX12_bothOf_17 ?_
  refine AW_iload_n dX12_bothOf_19 rfl ?_
  refine AW_imulE dX12_bothOf_20 (by omega) (by omega) ?_
  refine AW_iaddE dX12_bothOf_21 (by omega) (by omega) ?_
  refine AW_iload_n dX12_bothOf_22 rfl ?_
  refine AW_iaddE dX12_bothOf_23 (by omega) (by omega) ?_
  refine AW_iald dX12_bothOf_24 (hS.cel rfl) (by omega) (by omega) ?_
  rw [show (7 * m0 + w0).toNat = 7 * m + w by omega, hL.2.2.1 _ (by omega), show (49 + 7 * w0 + m0).toNat = 49 + 7 * w + m by omega, hL.2.2.1 _ (by omega)]
  refine AW_iaddE dX12_bothOf_25 (by omega) (by omega) ?_
  refine AW_iret dX12_bothOf_26 rfl ?_
  exact ⟨rfl, by rw [hb3]⟩
theorem ln_fsum {G : Gt} {d : Nat} {σ : St} {n : Nat} {K : Nat → Int} (hd : 1 ≤ d) (hS : Sta σ) (hL : LkM n K σ) {l : List Nat} (hr : l ∈ rowsN n) (hRo : ∀ i, i < n → σ.2.1 129 i = (l.getD i 0 : Int)) : ∀ (nn : Nat) (m i : Nat), m < nn → i + m = n →  AW mX12_sumOfRow G d 0 0 (mq G (fun ro ρ => ρ = σ ∧ ro = some (vI (sR K l)))) 4 [some (vR 94), some (vI (sm (fun j => both K j (l.getD j 0)) i)), some (vI (i : Int))] [] σ := by
  intro nn
  induction nn with
  | zero => intros; omega
  | succ nn ih =>
    intro m i hn hi
    have h7 := hL.2.1
    obtain ⟨r1, r2⟩ := rows_iff.mp hr
    have h62 := hL.1
    have hsb := sm_bd (h := fun j => both K j (l.getD j 0)) (a := 0) (b := 198) i (fun x _ => both_in hL.2.2.2 x _)
    refine AW_iload_n dX12_sumOfRow_4 rfl ?_
    refine AW_aload_n dX12_sumOfRow_5 rfl ?_
    refine AW_getI dX12_sumOfRow_6 gfX12_117 (hS.cel rfl) ?_
    refine AW_icmp_ge (tgt := 32) dX12_sumOfRow_9 (by decide) (fun c_9 => ?_) (fun c_9 => ?_)
    · skip
      have hm : i = n := by omega
      subst hm
      refine AW_iload_n dX12_sumOfRow_32 rfl ?_
      refine AW_iret dX12_sumOfRow_33 rfl ?_
      refine ⟨rfl, ?_⟩
      unfold sR
      rw [r2]
    · skip
      obtain ⟨m1, rfl⟩ : ∃ m1, m = m1 + 1 := ⟨m - 1, by omega⟩
      have hb := both_in hL.2.2.2 i (l.getD i 0)
      have hlt := r1.lt (i := i) (by omega)
      refine AW_iload_n dX12_sumOfRow_12 rfl ?_
      refine AW_aload_n dX12_sumOfRow_13 rfl ?_
      refine AW_iload_n dX12_sumOfRow_14 rfl ?_
      refine AW_aload_n dX12_sumOfRow_15 rfl ?_
      refine AW_getR (a := 129) dX12_sumOfRow_16 gfX12_133 (hS.cel rfl) (hS.rf rfl) ?_
      refine AW_iload_n dX12_sumOfRow_19 rfl ?_
      refine AW_iald dX12_sumOfRow_20 (hS.cel rfl) (by omega) (by omega) ?_
      rw [Int.toNat_natCast, hRo i (by omega)]
      refine AW_callV2 (d' := d - 1) dX12_sumOfRow_21 (Or.inl lkX12_389) mfX12_bothOf (hS.cel rfl) ⟨_, rfl, rfl⟩ (n_both hS hL _ _ i (l.getD i 0) rfl rfl (by omega) hlt) (by omega) (Nat.le_of_ble_eq_true rfl) ?_
      rintro _ _ ⟨e_, rfl⟩ -
      rw [e_]
      clear e_
      refine AW_iaddE dX12_sumOfRow_24 (by omega) (by omega) ?_
      refine AW_istore1 dX12_sumOfRow_25 ?_
      refine AW_iincE2 dX12_sumOfRow_26 (by omega) (by omega) ?_
      refine AW_goto (tgt := 4) dX12_sumOfRow_29 (by decide) ?_
      rw [show (i : Int) + 1 = ((i + 1 : Nat) : Int) by omega]
      exact ih m1 (i + 1) (by omega) (by omega)
theorem n_fsum {G : Gt} {d : Nat} {σ : St} (hd : 1 ≤ d) {n : Nat} {K : Nat → Int} (hS : Sta σ) (hL : LkM n K σ) {l : List Nat} (hr : l ∈ rowsN n) (hRo : ∀ i, i < n → σ.2.1 129 i = (l.getD i 0 : Int))  : AM mX12_sumOfRow G d 0 0 [vR 94] σ (fun ro ρ => ρ = σ ∧ ro = some (vI (sR K l))) := by
  refine AM.intro (by decide +kernel) (by simp [nLg]) (Nat.le_of_ble_eq_true rfl) (fun hO => ?_)
  show AW _ _ _ _ _ _ 0 [some (vR 94), none, none] [] σ
  refine AW_iconst dX12_sumOfRow_0 ?_
  refine AW_istore1 dX12_sumOfRow_1 ?_
  refine AW_iconst dX12_sumOfRow_2 ?_
  refine AW_istore2 dX12_sumOfRow_3 ?_
  exact ln_fsum hd hS hL hr hRo (n + 1) n 0 (by omega) (by omega)
theorem hd_inv {K : Nat → Int} {n : Nat} {l : List Nat} (hl : l ∈ rowsN n) {g : Nat → Nat} (hg1 : ∀ w, w < n → g w < n ∧ l.getD (g w) 0 = w) (hg2 : ∀ m, m < n → g (l.getD m 0) = m) : Hd K l ↔ ∀ m w, m < n → w < n → ¬ (more K 0 m w (l.getD m 0) ∧ more K 1 w m (g w)) := by
  obtain ⟨r1, r2⟩ := rows_iff.mp hl
  unfold Hd
  rw [r2]
  constructor
  · intro h m w hm hw q
    obtain ⟨a1, a2⟩ := hg1 w hw
    refine h m (g w) hm a1 ?_
    rw [a2]
    exact q
  · intro h i j hi hj q
    refine h i (l.getD j 0) hi (r1.lt (by omega)) ?_
    rw [hg2 j hj]
    exact q
theorem ln_hd2 {G : Gt} {d : Nat} {σ : St} {n : Nat} {K : Nat → Int} {l : List Nat} {g : Nat → Nat} (hd : 1 ≤ d) (hS : Sta σ) (hL : LkM n K σ) (hr : l ∈ rowsN n) (hRo : ∀ i, i < n → σ.2.1 129 i = (l.getD i 0 : Int)) (hMo : ∀ w, w < n → σ.2.1 130 w = (g w : Int)) (hg1 : ∀ w, w < n → g w < n ∧ l.getD (g w) 0 = w) (hg2 : ∀ m, m < n → g (l.getD m 0) = m) {i : Nat} (hi : i < n) (hnx : (∀ w, w < n → ¬ (more K 0 i w (l.getD i 0) ∧ more K 1 w i (g w))) → AW mX12_isHeld G d 0 0 (mq G (fun ro ρ => ρ = σ ∧ ∃ z : Int, ro = some (vI z) ∧ ((z = 1 ∧ Hd K l) ∨ (z = 0 ∧ ¬ Hd K l)))) 30 [some (vR 94), some (vI ((i + 1 : Nat) : Int)), some (vI (n : Int))] [] σ) : ∀ (nn : Nat) (m w : Nat), m < nn → w + m = n → (∀ x, x < w → ¬ (more K 0 i x (l.getD i 0) ∧ more K 1 x i (g x))) →  AW mX12_isHeld G d 0 0 (mq G (fun ro ρ => ρ = σ ∧ ∃ z : Int, ro = some (vI z) ∧ ((z = 1 ∧ Hd K l) ∨ (z = 0 ∧ ¬ Hd K l)))) 40 [some (vR 94), some (vI (i : Int)), some (vI (w : Int))] [] σ := by
  intro nn
  induction nn with
  | zero => intros; omega
  | succ nn ih =>
    intro m w hn hw hq
    have h7 := hL.2.1
    obtain ⟨r1, r2⟩ := rows_iff.mp hr
    have h62 := hL.1
    have hlt := r1.lt (i := i) (by omega)
    refine AW_iload_n dX12_isHeld_40 rfl ?_
    refine AW_aload_n dX12_isHeld_41 rfl ?_
    refine AW_getI dX12_isHeld_42 gfX12_117 (hS.cel rfl) ?_
    refine AW_icmp_ge (tgt := 88) dX12_isHeld_45 (by decide) (fun c_45 => ?_) (fun c_45 => ?_)
    · skip
      have hm : w = n := by omega
      subst hm
      refine AW_iincE1 dX12_isHeld_88 (by omega) (by omega) ?_
      refine AW_goto (tgt := 30) dX12_isHeld_91 (by decide) ?_
      rw [show (i : Int) + 1 = ((i + 1 : Nat) : Int) by omega]
      exact hnx hq
    · skip
      obtain ⟨m1, rfl⟩ : ∃ m1, m = m1 + 1 := ⟨m - 1, by omega⟩
      obtain ⟨a1, a2⟩ := hg1 w (by omega)
      refine AW_aload_n dX12_isHeld_48 rfl ?_
      refine AW_iconst dX12_isHeld_49 ?_
      refine AW_iload_n dX12_isHeld_50 rfl ?_
      refine AW_iload_n dX12_isHeld_51 rfl ?_
      refine AW_aload_n dX12_isHeld_52 rfl ?_
      refine AW_getR (a := 129) dX12_isHeld_53 gfX12_133 (hS.cel rfl) (hS.rf rfl) ?_
      refine AW_iload_n dX12_isHeld_56 rfl ?_
      refine AW_iald dX12_isHeld_57 (hS.cel rfl) (by omega) (by omega) ?_
      rw [Int.toNat_natCast, hRo i hi]
      refine AW_callV4 (d' := d - 1) dX12_isHeld_58 (Or.inl lkX12_386) mfX12_isMore (hS.cel rfl) ⟨_, rfl, rfl⟩ (n_isMore hS hL _ _ _ _ 0 i w (l.getD i 0) rfl rfl rfl rfl (by decide) hi (by omega) hlt) (by omega) (Nat.le_of_ble_eq_true rfl) ?_
      rintro _ _ ⟨e_, rfl⟩ -
      rw [e_]
      clear e_
      refine AW_if_eq (tgt := 82) dX12_isHeld_61 (by decide) (fun c_61 => ?_) (fun c_61 => ?_)
      · skip
        replace c_61 := bz0 c_61
        have hA : ¬ (more K 0 i w (l.getD i 0) ∧ more K 1 w i (g w)) := fun q => c_61 q.1
        refine AW_iincE2 dX12_isHeld_82 (by omega) (by omega) ?_
        refine AW_goto (tgt := 40) dX12_isHeld_85 (by decide) ?_
        rw [show (w : Int) + 1 = ((w + 1 : Nat) : Int) by omega]
        refine ih m1 (w + 1) (by omega) (by omega) (fun x hx => ?_)
        by_cases hc : x = w
        · rw [hc]; exact hA
        · exact hq x (by omega)
      · skip
        replace c_61 := bz1 c_61
        refine AW_aload_n dX12_isHeld_64 rfl ?_
        refine AW_iconst dX12_isHeld_65 ?_
        refine AW_iload_n dX12_isHeld_66 rfl ?_
        refine AW_iload_n dX12_isHeld_67 rfl ?_
        refine AW_aload_n dX12_isHeld_68 rfl ?_
        refine AW_getR (a := 130) dX12_isHeld_69 gfX12_136 (hS.cel rfl) (hS.rf rfl) ?_
        refine AW_iload_n dX12_isHeld_72 rfl ?_
        refine AW_iald dX12_isHeld_73 (hS.cel rfl) (by omega) (by omega) ?_
        rw [Int.toNat_natCast, hMo w (by omega)]
        refine AW_callV4 (d' := d - 1) dX12_isHeld_74 (Or.inl lkX12_386) mfX12_isMore (hS.cel rfl) ⟨_, rfl, rfl⟩ (n_isMore hS hL _ _ _ _ 1 w i (g w) rfl rfl rfl rfl (by decide) (by omega) hi a1) (by omega) (Nat.le_of_ble_eq_true rfl) ?_
        rintro _ _ ⟨e_, rfl⟩ -
        rw [e_]
        clear e_
        refine AW_if_eq (tgt := 82) dX12_isHeld_77 (by decide) (fun c_77 => ?_) (fun c_77 => ?_)
        · skip
          replace c_77 := bz0 c_77
          have hA : ¬ (more K 0 i w (l.getD i 0) ∧ more K 1 w i (g w)) := fun q => c_77 q.2
          refine AW_iincE2 dX12_isHeld_82 (by omega) (by omega) ?_
          refine AW_goto (tgt := 40) dX12_isHeld_85 (by decide) ?_
          rw [show (w : Int) + 1 = ((w + 1 : Nat) : Int) by omega]
          refine ih m1 (w + 1) (by omega) (by omega) (fun x hx => ?_)
          by_cases hc : x = w
          · rw [hc]; exact hA
          · exact hq x (by omega)
        · skip
          replace c_77 := bz1 c_77
          refine AW_iconst dX12_isHeld_80 ?_
          refine AW_zret dX12_isHeld_81 rfl (by decide) ?_
          exact ⟨rfl, 0, rfl, Or.inr ⟨rfl, fun q => (hd_inv hr hg1 hg2).mp q i w hi (by omega) ⟨c_61, c_77⟩⟩⟩
theorem ln_hd1 {G : Gt} {d : Nat} {σ : St} {n : Nat} {K : Nat → Int} {l : List Nat} {g : Nat → Nat} (hd : 1 ≤ d) (hS : Sta σ) (hL : LkM n K σ) (hr : l ∈ rowsN n) (hRo : ∀ i, i < n → σ.2.1 129 i = (l.getD i 0 : Int)) (hMo : ∀ w, w < n → σ.2.1 130 w = (g w : Int)) (hg1 : ∀ w, w < n → g w < n ∧ l.getD (g w) 0 = w) (hg2 : ∀ m, m < n → g (l.getD m 0) = m) : ∀ (nn : Nat) (m i : Nat) (x2 : Option AV), m < nn → i + m = n → (∀ m w, m < i → w < n → ¬ (more K 0 m w (l.getD m 0) ∧ more K 1 w m (g w))) →  AW mX12_isHeld G d 0 0 (mq G (fun ro ρ => ρ = σ ∧ ∃ z : Int, ro = some (vI z) ∧ ((z = 1 ∧ Hd K l) ∨ (z = 0 ∧ ¬ Hd K l)))) 30 [some (vR 94), some (vI (i : Int)), x2] [] σ := by
  intro nn
  induction nn with
  | zero => intros; omega
  | succ nn ih =>
    intro m i x2 hn hi hq
    have h7 := hL.2.1
    have h62 := hL.1
    refine AW_iload_n dX12_isHeld_30 rfl ?_
    refine AW_aload_n dX12_isHeld_31 rfl ?_
    refine AW_getI dX12_isHeld_32 gfX12_117 (hS.cel rfl) ?_
    refine AW_icmp_ge (tgt := 94) dX12_isHeld_35 (by decide) (fun c_35 => ?_) (fun c_35 => ?_)
    · skip
      have hm : i = n := by omega
      subst hm
      refine AW_iconst dX12_isHeld_94 ?_
      refine AW_zret dX12_isHeld_95 rfl (by decide) ?_
      exact ⟨rfl, 1, rfl, Or.inl ⟨rfl, (hd_inv hr hg1 hg2).mpr hq⟩⟩
    · skip
      obtain ⟨m1, rfl⟩ : ∃ m1, m = m1 + 1 := ⟨m - 1, by omega⟩
      refine AW_iconst dX12_isHeld_38 ?_
      refine AW_istore2 dX12_isHeld_39 ?_
      refine ln_hd2 hd hS hL hr hRo hMo hg1 hg2 (show i < n by omega) (fun h => ih m1 (i + 1) _ (by omega) (by omega) (fun a w ha hw => ?_)) (n + 1) n 0 (by omega) (by omega) (fun x hx => absurd hx (Nat.not_lt_zero x))
      by_cases hc : a = i
      · rw [hc]; exact h w hw
      · exact hq a w (by omega) hw
theorem ln_hd0 {G : Gt} {d : Nat} {σ : St} {n : Nat} {K : Nat → Int} (hd : 1 ≤ d) (hS0 : Sta σ) (hL0 : LkM n K σ) {l : List Nat} (hr : l ∈ rowsN n) (hRo : ∀ i, i < n → σ.2.1 129 i = (l.getD i 0 : Int)) : ∀ (nn : Nat) (m i : Nat) (τ : St), m < nn → i + m = n → Fm [] [130] σ τ → (∀ x, x < i → τ.2.1 130 (l.getD x 0) = (x : Int)) →  AW mX12_isHeld G d 0 0 (mq G (fun ro ρ => Fm [] [130] σ ρ ∧ ∃ z : Int, ro = some (vI z) ∧ ((z = 1 ∧ Hd K l) ∨ (z = 0 ∧ ¬ Hd K l)))) 2 [some (vR 94), some (vI (i : Int)), none] [] τ := by
  intro nn
  induction nn with
  | zero => intros; omega
  | succ nn ih =>
    intro m i τ hn hi hF hq
    have hS := hF.sta hS0
    have hL := hL0.fm hF
    have h7 := hL.2.1
    have h62 := hL.1
    obtain ⟨r1, r2⟩ := rows_iff.mp hr
    have hRo1 : ∀ i, i < n → τ.2.1 129 i = (l.getD i 0 : Int) := fun i hi => (hF.a 129 i).trans (hRo i hi)
    refine AW_iload_n dX12_isHeld_2 rfl ?_
    refine AW_aload_n dX12_isHeld_3 rfl ?_
    refine AW_getI dX12_isHeld_4 gfX12_117 (hS.cel rfl) ?_
    refine AW_icmp_ge (tgt := 28) dX12_isHeld_7 (by decide) (fun c_7 => ?_) (fun c_7 => ?_)
    · skip
      have hm : i = n := by omega
      subst hm
      refine AW_iconst dX12_isHeld_28 ?_
      refine AW_istore1 dX12_isHeld_29 ?_
      obtain ⟨g, hg1, hg2⟩ := inv_ex hr
      refine AW_mq (fun r τ2 q => ⟨by rw [q.1]; exact hF, q.2⟩) (ln_hd1 hd hS hL hr hRo1 (g := g) (fun w hw => ?_) hg1 hg2 (i + 1) i 0 none (by omega) (by omega) (fun a w ha _ => absurd ha (Nat.not_lt_zero a)))
      have h1 := hg1 w hw
      have h2 := hq (g w) h1.1
      rw [h1.2] at h2
      exact h2
    · skip
      obtain ⟨m1, rfl⟩ : ∃ m1, m = m1 + 1 := ⟨m - 1, by omega⟩
      have hlt := r1.lt (i := i) (by omega)
      refine AW_aload_n dX12_isHeld_10 rfl ?_
      refine AW_getR (a := 130) dX12_isHeld_11 gfX12_136 (hS.cel rfl) (hS.rf rfl) ?_
      refine AW_aload_n dX12_isHeld_14 rfl ?_
      refine AW_getR (a := 129) dX12_isHeld_15 gfX12_133 (hS.cel rfl) (hS.rf rfl) ?_
      refine AW_iload_n dX12_isHeld_18 rfl ?_
      refine AW_iald dX12_isHeld_19 (hS.cel rfl) (by omega) (by omega) ?_
      rw [Int.toNat_natCast, hRo1 i (by omega)]
      refine AW_iload_n dX12_isHeld_20 rfl ?_
      refine AW_iast dX12_isHeld_21 (hS.cel rfl) (by omega) (by omega) ?_
      refine AW_iincE1 dX12_isHeld_22 (by omega) (by omega) ?_
      refine AW_goto (tgt := 2) dX12_isHeld_25 (by decide) ?_
      rw [show (i : Int) + 1 = ((i + 1 : Nat) : Int) by omega, Int.toNat_natCast]
      refine ih m1 (i + 1) _ (by omega) (by omega) (hF.ua (by decide) (by decide) _ _) (fun x hx => ?_)
      rw [up_if]
      by_cases hc : x = i
      · rw [if_pos ⟨rfl, by rw [hc]⟩, hc]
      · rw [if_neg (fun q => hc (r1.inj (by omega) (by omega) q.2)), hq x (by omega)]
theorem n_isHeld {G : Gt} {d : Nat} {σ : St} (hd : 1 ≤ d) {n : Nat} {K : Nat → Int} (hS : Sta σ) (hL : LkM n K σ) {l : List Nat} (hr : l ∈ rowsN n) (hRo : ∀ i, i < n → σ.2.1 129 i = (l.getD i 0 : Int))  : AM mX12_isHeld G d 0 0 [vR 94] σ (fun ro ρ => Fm [] [130] σ ρ ∧ ∃ z : Int, ro = some (vI z) ∧ ((z = 1 ∧ Hd K l) ∨ (z = 0 ∧ ¬ Hd K l))) := by
  refine AM.intro (by decide +kernel) (by simp [nLg]) (Nat.le_of_ble_eq_true rfl) (fun hO => ?_)
  show AW _ _ _ _ _ _ 0 [some (vR 94), none, none] [] σ
  refine AW_iconst dX12_isHeld_0 ?_
  refine AW_istore1 dX12_isHeld_1 ?_
  exact ln_hd0 hd hS hL hr hRo (n + 1) n 0 σ (by omega) (by omega) Fm.rf (fun x hx => absurd hx (Nat.not_lt_zero x))
