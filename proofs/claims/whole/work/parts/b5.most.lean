theorem k_bitCount {G : Gt} {d : Nat} {σ : St} {u : Nat} (hu : u < 128) : AM mJ6_bitCount_0f7a4 G d 0 0 [vI (u : Int)] σ (fun r τ => τ = σ ∧ r = some (vI (pcn u : Int))) := by
  refine AM.intro (by decide +kernel) (by simp [nLg]) (Nat.le_of_ble_eq_true rfl) (fun hO => ?_)
  show AW _ _ _ _ _ _ 0 [some (vI (u : Int))] [] σ
  refine AW_iload_n dJ6_bitCount_0f7a4_0 rfl ?_
  refine AW_iload_n dJ6_bitCount_0f7a4_1 rfl ?_
  refine AW_iconst dJ6_bitCount_0f7a4_2 ?_
  refine AW_iushr dJ6_bitCount_0f7a4_3 ?_
  refine AW_ldcw (1431655765) dJ6_bitCount_0f7a4_4 ctJ6_265 ?_
  refine AW_iand dJ6_bitCount_0f7a4_7 ?_
  refine AW_isub dJ6_bitCount_0f7a4_8 ?_
  refine AW_istore0 dJ6_bitCount_0f7a4_9 ?_
  refine AW_iload_n dJ6_bitCount_0f7a4_10 rfl ?_
  refine AW_ldcw (858993459) dJ6_bitCount_0f7a4_11 ctJ6_266 ?_
  refine AW_iand dJ6_bitCount_0f7a4_14 ?_
  refine AW_iload_n dJ6_bitCount_0f7a4_15 rfl ?_
  refine AW_iconst dJ6_bitCount_0f7a4_16 ?_
  refine AW_iushr dJ6_bitCount_0f7a4_17 ?_
  refine AW_ldcw (858993459) dJ6_bitCount_0f7a4_18 ctJ6_266 ?_
  refine AW_iand dJ6_bitCount_0f7a4_21 ?_
  refine AW_iadd dJ6_bitCount_0f7a4_22 ?_
  refine AW_istore0 dJ6_bitCount_0f7a4_23 ?_
  refine AW_iload_n dJ6_bitCount_0f7a4_24 rfl ?_
  refine AW_iload_n dJ6_bitCount_0f7a4_25 rfl ?_
  refine AW_iconst dJ6_bitCount_0f7a4_26 ?_
  refine AW_iushr dJ6_bitCount_0f7a4_27 ?_
  refine AW_iadd dJ6_bitCount_0f7a4_28 ?_
  refine AW_ldcw (252645135) dJ6_bitCount_0f7a4_29 ctJ6_267 ?_
  refine AW_iand dJ6_bitCount_0f7a4_32 ?_
  refine AW_istore0 dJ6_bitCount_0f7a4_33 ?_
  refine AW_iload_n dJ6_bitCount_0f7a4_34 rfl ?_
  refine AW_iload_n dJ6_bitCount_0f7a4_35 rfl ?_
  refine AW_bipush dJ6_bitCount_0f7a4_36 ?_
  refine AW_iushr dJ6_bitCount_0f7a4_38 ?_
  refine AW_iadd dJ6_bitCount_0f7a4_39 ?_
  refine AW_istore0 dJ6_bitCount_0f7a4_40 ?_
  refine AW_iload_n dJ6_bitCount_0f7a4_41 rfl ?_
  refine AW_iload_n dJ6_bitCount_0f7a4_42 rfl ?_
  refine AW_bipush dJ6_bitCount_0f7a4_43 ?_
  refine AW_iushr dJ6_bitCount_0f7a4_45 ?_
  refine AW_iadd dJ6_bitCount_0f7a4_46 ?_
  refine AW_istore0 dJ6_bitCount_0f7a4_47 ?_
  refine AW_iload_n dJ6_bitCount_0f7a4_48 rfl ?_
  refine AW_bipush dJ6_bitCount_0f7a4_49 ?_
  refine AW_iand dJ6_bitCount_0f7a4_51 ?_
  refine AW_iret dJ6_bitCount_0f7a4_52 rfl ?_
  refine ⟨rfl, ?_⟩
  have h := bc_tab u hu
  unfold bc5 bc4 bc3 bc2 bc1 at h
  rw [h]
theorem pcn_full : ∀ n, n < 8 → pcn (2 ^ n - 1) = n := by decide +kernel
def GnC (n : Nat) (K : Nat → Int) (v : Nat) (σ : St) : Prop := ∀ u, v ≤ u → u < 2 ^ n → σ.2.1 89 u = bvM K n (n - pcn u) u
theorem pow7 {n : Nat} (h : n ≤ 7) : 2 ^ n ≤ 128 ∧ 1 ≤ 2 ^ n := ⟨by show 2 ^ n ≤ 2 ^ 7; exact Nat.pow_le_pow_right (by decide) h, Nat.one_le_two_pow⟩
theorem l_fom {G : Gt} {d : Nat} {σ : St} {n k u W : Nat} {K : Nat → Int} (hd : 3 ≤ d) (hS : Sta σ) (hL : LkC n K σ) (hG : GnC n K 0 σ) (hu : u < 2 ^ n) (hk : pcn u + (k + 1) = n) : ∀ (nn : Nat) (m x : Nat), m < nn → x + m = n → fsw (fun w => both K (n - (k + 1)) w + bvM K n k (u ||| 2 ^ w) = bvM K n (k + 1) u) (avM u m x) = W →  AW mX0_firstOfMost G d 0 0 (mq G (fun ro ρ => ρ = σ ∧ ro = some (vI (W : Int)))) 2 [some (vR 85), some (vI (pcn u : Int)), some (vI (u : Int)), some (vI (x : Int))] [] σ := by
  intro nn
  induction nn with
  | zero => intros; omega
  | succ nn ih =>
    intro m x hn hx hf
    have h6 := hL.1
    have h7 := hL.2.1
    have hp7 := pow7 h7.2
    refine AW_iload_n dX0_firstOfMost_2 rfl ?_
    refine AW_aload_n dX0_firstOfMost_3 rfl ?_
    refine AW_getI dX0_firstOfMost_4 gfX0_27 (hS.cel rfl) ?_
    refine AW_icmp_ge (tgt := 52) dX0_firstOfMost_7 (by decide) (fun c_7 => ?_) (fun c_7 => ?_)
    · skip
      have hm : m = 0 := by omega
      subst hm
      have hw0 : 0 = W := hf
      subst hw0
      refine AW_iconst dX0_firstOfMost_52 ?_
      refine AW_iret dX0_firstOfMost_53 rfl ?_
      exact ⟨rfl, rfl⟩
    · skip
      obtain ⟨m1, rfl⟩ : ∃ m1, m = m1 + 1 := ⟨m - 1, by omega⟩
      have hbit := bit_tab u (by omega) x (by omega)
      rw [avM_s] at hf
      refine AW_iload_n dX0_firstOfMost_10 rfl ?_
      refine AW_iload_n dX0_firstOfMost_11 rfl ?_
      refine AW_iushr dX0_firstOfMost_12 ?_
      refine AW_iconst dX0_firstOfMost_13 ?_
      refine AW_iand dX0_firstOfMost_14 ?_
      rw [hbit]
      refine AW_if_ne (tgt := 46) dX0_firstOfMost_15 (by decide) (fun c_15 => ?_) (fun c_15 => ?_)
      · skip
        have hin := bz1 c_15
        rw [if_pos hin] at hf
        refine AW_iincE3 dX0_firstOfMost_46 (by omega) (by omega) ?_
        refine AW_goto (tgt := 2) dX0_firstOfMost_49 (by decide) ?_
        rw [show (x : Int) + 1 = ((x + 1 : Nat) : Int) by omega]
        exact ih m1 (x + 1) (by omega) (by omega) hf
      · skip
        have hni := bz0 c_15
        have hnb : u.testBit x = false := by simpa using bz0 c_15
        have hpt := pcn_tab u (by omega) x (by omega) hnb
        have hol := or_lt hu (show x < n by omega)
        have hgu := hG (u ||| 2 ^ x) (Nat.zero_le _) hol
        rw [hpt.1, show n - (pcn u + 1) = k by omega] at hgu
        have hm : n - (k + 1) = pcn u := by omega
        have hbi := both_in hL.2.2.2 (pcn u) x
        have hb1 := bvM_ge K n k (u ||| 2 ^ x)
        have hb2 := bvM_le hL.2.2.2 n k (u ||| 2 ^ x)
        rw [if_neg hni] at hf
        have hgu0 := hG u (Nat.zero_le _) hu
        rw [show n - pcn u = k + 1 by omega] at hgu0
        refine AW_aload_n dX0_firstOfMost_18 rfl ?_
        refine AW_iload_n dX0_firstOfMost_19 rfl ?_
        refine AW_iload_n dX0_firstOfMost_20 rfl ?_
        refine AW_callV2 (d' := d - 1) dX0_firstOfMost_21 (Or.inl lkX0_65) mfX0_sum (hS.cel rfl) ⟨_, rfl, rfl⟩ (k_fsum (by omega) hS hL _ _ (pcn u) x rfl rfl (by omega) (by omega)) (by omega) (Nat.le_of_ble_eq_true rfl) ?_
        rintro _ _ ⟨e_, rfl⟩ -
        rw [e_]
        clear e_
        refine AW_aload_n dX0_firstOfMost_24 rfl ?_
        refine AW_getR (a := 89) dX0_firstOfMost_25 gfX0_21 (hS.cel rfl) (hS.rf rfl) ?_
        refine AW_iload_n dX0_firstOfMost_28 rfl ?_
        refine AW_iconst dX0_firstOfMost_29 ?_
        refine AW_iload_n dX0_firstOfMost_30 rfl ?_
        refine AW_ishl dX0_firstOfMost_31 ?_
        refine AW_ior dX0_firstOfMost_32 ?_
        rw [or_tab (by omega) (by omega)]
        refine AW_iald dX0_firstOfMost_33 (hS.cel rfl) (by omega) (by omega) ?_
        rw [Int.toNat_natCast, hgu]
        refine AW_iaddE dX0_firstOfMost_34 (by omega) (by omega) ?_
        refine AW_aload_n dX0_firstOfMost_35 rfl ?_
        refine AW_getR (a := 89) dX0_firstOfMost_36 gfX0_21 (hS.cel rfl) (hS.rf rfl) ?_
        refine AW_iload_n dX0_firstOfMost_39 rfl ?_
        refine AW_iald dX0_firstOfMost_40 (hS.cel rfl) (by omega) (by omega) ?_
        rw [Int.toNat_natCast, hgu0]
        refine AW_icmp_ne (tgt := 46) dX0_firstOfMost_41 (by decide) (fun c_41 => ?_) (fun c_41 => ?_)
        · skip
          rw [show fsw (fun w => both K (n - (k + 1)) w + bvM K n k (u ||| 2 ^ w) = bvM K n (k + 1) u) (x :: avM u m1 (x + 1)) = fsw (fun w => both K (n - (k + 1)) w + bvM K n k (u ||| 2 ^ w) = bvM K n (k + 1) u) (avM u m1 (x + 1)) from if_neg (by rw [hm]; exact c_41)] at hf
          refine AW_iincE3 dX0_firstOfMost_46 (by omega) (by omega) ?_
          refine AW_goto (tgt := 2) dX0_firstOfMost_49 (by decide) ?_
          rw [show (x : Int) + 1 = ((x + 1 : Nat) : Int) by omega]
          exact ih m1 (x + 1) (by omega) (by omega) hf
        · skip
          rw [show fsw (fun w => both K (n - (k + 1)) w + bvM K n k (u ||| 2 ^ w) = bvM K n (k + 1) u) (x :: avM u m1 (x + 1)) = x from if_pos (by rw [hm]; exact c_41)] at hf
          subst hf
          refine AW_iload_n dX0_firstOfMost_44 rfl ?_
          refine AW_iret dX0_firstOfMost_45 rfl ?_
          exact ⟨rfl, rfl⟩
theorem k_fom {G : Gt} {d : Nat} {σ : St} {n k u : Nat} {K : Nat → Int} (hd : 3 ≤ d) (hS : Sta σ) (hL : LkC n K σ) (hG : GnC n K 0 σ) (hu : u < 2 ^ n) (hk : pcn u + (k + 1) = n) (m0 u0 : Int) (e1 : m0 = pcn u) (e2 : u0 = u) : AM mX0_firstOfMost G d 0 0 [vR 85, vI m0, vI u0] σ (fun ro ρ => ρ = σ ∧ ro = some (vI (fsw (fun w => both K (n - (k + 1)) w + bvM K n k (u ||| 2 ^ w) = bvM K n (k + 1) u) (avM u n 0) : Int))) := by
  subst e1
  subst e2
  refine AM.intro (by decide +kernel) (by simp [nLg]) (Nat.le_of_ble_eq_true rfl) (fun hO => ?_)
  show AW _ _ _ _ _ _ 0 [some (vR 85), some (vI (pcn u : Int)), some (vI (u : Int)), none] [] σ
  refine AW_iconst dX0_firstOfMost_0 ?_
  refine AW_istore3 dX0_firstOfMost_1 ?_
  exact l_fom hd hS hL hG hu hk (n + 1) n 0 (by omega) (by omega) rfl
theorem l_fm2 {G : Gt} {d : Nat} {σ : St} {n k u : Nat} {K : Nat → Int} {B : Int} {x1 : Option AV} (hd : 3 ≤ d) (hS : Sta σ) (hL : LkC n K σ) (hG : GnC n K (u + 1) σ) (hu : u < 2 ^ n) (hk : pcn u + (k + 1) = n) {Qz : QZ} (hnx : AW mX0_findMost G d 0 0 Qz 85 [some (vR 85), x1, some (vI (u : Int)), some (vI (pcn u : Int)), some (vI B), some (vI (n : Int))] [] σ) : ∀ (nn : Nat) (m x : Nat) (a : Int), m < nn → x + m = n → mxA (fun w => both K (n - (k + 1)) w + bvM K n k (u ||| 2 ^ w)) a (avM u m x) = B →  AW mX0_findMost G d 0 0 (Qz) 35 [some (vR 85), x1, some (vI (u : Int)), some (vI (pcn u : Int)), some (vI a), some (vI (x : Int))] [] σ := by
  intro nn
  induction nn with
  | zero => intros; omega
  | succ nn ih =>
    intro m x a hn hx hf
    have h6 := hL.1
    have h7 := hL.2.1
    have hp7 := pow7 h7.2
    refine AW_iload dX0_findMost_35 rfl ?_
    refine AW_aload_n dX0_findMost_37 rfl ?_
    refine AW_getI dX0_findMost_38 gfX0_27 (hS.cel rfl) ?_
    refine AW_icmp_ge (tgt := 85) dX0_findMost_41 (by decide) (fun c_41 => ?_) (fun c_41 => ?_)
    · skip
      have hm : m = 0 := by omega
      subst hm
      have ha : a = B := hf
      subst ha
      have hxn : x = n := by omega
      subst hxn
      exact hnx
    · skip
      obtain ⟨m1, rfl⟩ : ∃ m1, m = m1 + 1 := ⟨m - 1, by omega⟩
      have hbit := bit_tab u (by omega) x (by omega)
      rw [avM_s] at hf
      refine AW_iload_n dX0_findMost_44 rfl ?_
      refine AW_iload dX0_findMost_45 rfl ?_
      refine AW_iushr dX0_findMost_47 ?_
      refine AW_iconst dX0_findMost_48 ?_
      refine AW_iand dX0_findMost_49 ?_
      rw [hbit]
      refine AW_if_ne (tgt := 79) dX0_findMost_50 (by decide) (fun c_50 => ?_) (fun c_50 => ?_)
      · skip
        have hin := bz1 c_50
        rw [if_pos hin] at hf
        refine AW_iincE5 dX0_findMost_79 (by omega) (by omega) ?_
        refine AW_goto (tgt := 35) dX0_findMost_82 (by decide) ?_
        rw [show (x : Int) + 1 = ((x + 1 : Nat) : Int) by omega]
        first
        | exact ih m1 (x + 1) _ (by omega) (by omega) hf
        | exact ih m1 (x + 1) _ (by omega) (by omega) (by rw [← hm]; exact hf)
      · skip
        have hni := bz0 c_50
        have hnb : u.testBit x = false := by simpa using bz0 c_50
        have hpt := pcn_tab u (by omega) x (by omega) hnb
        have hol := or_lt hu (show x < n by omega)
        have hgu := hG (u ||| 2 ^ x) (by omega) hol
        rw [hpt.1, show n - (pcn u + 1) = k by omega] at hgu
        have hm : n - (k + 1) = pcn u := by omega
        have hbi := both_in hL.2.2.2 (pcn u) x
        have hb1 := bvM_ge K n k (u ||| 2 ^ x)
        have hb2 := bvM_le hL.2.2.2 n k (u ||| 2 ^ x)
        rw [if_neg hni, mxA_c] at hf
        refine AW_iload dX0_findMost_53 rfl ?_
        refine AW_aload_n dX0_findMost_55 rfl ?_
        refine AW_iload_n dX0_findMost_56 rfl ?_
        refine AW_iload dX0_findMost_57 rfl ?_
        refine AW_callV2 (d' := d - 1) dX0_findMost_59 (Or.inl lkX0_65) mfX0_sum (hS.cel rfl) ⟨_, rfl, rfl⟩ (k_fsum (by omega) hS hL _ _ (pcn u) x rfl rfl (by omega) (by omega)) (by omega) (Nat.le_of_ble_eq_true rfl) ?_
        rintro _ _ ⟨e_, rfl⟩ -
        rw [e_]
        clear e_
        refine AW_aload_n dX0_findMost_62 rfl ?_
        refine AW_getR (a := 89) dX0_findMost_63 gfX0_21 (hS.cel rfl) (hS.rf rfl) ?_
        refine AW_iload_n dX0_findMost_66 rfl ?_
        refine AW_iconst dX0_findMost_67 ?_
        refine AW_iload dX0_findMost_68 rfl ?_
        refine AW_ishl dX0_findMost_70 ?_
        refine AW_ior dX0_findMost_71 ?_
        rw [or_tab (by omega) (by omega)]
        refine AW_iald dX0_findMost_72 (hS.cel rfl) (by omega) (by omega) ?_
        rw [Int.toNat_natCast, hgu]
        refine AW_iaddE dX0_findMost_73 (by omega) (by omega) ?_
        refine AW_mmax dX0_findMost_74 lkX0_100 (by omega) (Nat.le_of_ble_eq_true rfl) ?_
        refine AW_istore4 dX0_findMost_77 ?_
        refine AW_iincE5 dX0_findMost_79 (by omega) (by omega) ?_
        refine AW_goto (tgt := 35) dX0_findMost_82 (by decide) ?_
        rw [show (x : Int) + 1 = ((x + 1 : Nat) : Int) by omega]
        first
        | exact ih m1 (x + 1) _ (by omega) (by omega) hf
        | exact ih m1 (x + 1) _ (by omega) (by omega) (by rw [← hm]; exact hf)
theorem LkC.fr {n : Nat} {K : Nat → Int} {L : List Nat} {σ τ : St} (h : LkC n K σ) (hF : Fr L σ τ) (h1 : 85 ∉ L := by decide) (h2 : 86 ∉ L := by decide) : LkC n K τ := ⟨(hF.iv 85 6 h1).trans h.1, h.2.1, fun i hi => (hF.iv 86 i h2).trans (h.2.2.1 i hi), h.2.2.2⟩
theorem getD_app {P T : List Nat} {j : Nat} : (P ++ T).getD j 0 = if j < P.length then P.getD j 0 else T.getD (j - P.length) 0 := by
  rw [List.getD_eq_getElem?_getD, List.getD_eq_getElem?_getD, List.getD_eq_getElem?_getD]
  by_cases h : j < P.length
  · rw [if_pos h, List.getElem?_append_left h]
  · rw [if_neg h, List.getElem?_append_right (by omega)]
theorem l_fm3 {G : Gt} {d : Nat} {σ : St} {n : Nat} {K : Nat → Int} {x1 : Option AV} (hd : 4 ≤ d) (hS0 : Sta σ) (hL0 : LkC n K σ) : ∀ (nn : Nat) (k i u : Nat) (P : List Nat) (x4 x5 : Option AV) (τ : St), k < nn → i + k = n → u < 2 ^ n → pcn u = i → P ++ grM K n k u = mostL K n → P.length = i → GnC n K 0 τ → Fr [88, 89] σ τ → τ.2.1 89 0 = mostV K n → (∀ j, j < i → τ.2.1 88 j = (P.getD j 0 : Int)) →  AW mX0_findMost G d 0 0 (mq G (fun ro ρ => ro = none ∧ Fr [88, 89] σ ρ ∧ ρ.2.1 89 0 = mostV K n ∧ ∀ j, j < n → ρ.2.1 88 j = ((mostL K n).getD j 0 : Int))) 103 [some (vR 85), x1, some (vI (u : Int)), some (vI (i : Int)), x4, x5] [] τ := by
  intro nn
  induction nn with
  | zero => intros; omega
  | succ nn ih =>
    intro k i u P x4 x5 τ hn hi hu hp hg hP hG hF h89 h88
    have hS := hF.sta hS0
    have hL := hL0.fr hF
    have h6 := hL.1
    have h7 := hL.2.1
    have hp7 := pow7 h7.2
    refine AW_iload_n dX0_findMost_103 rfl ?_
    refine AW_aload_n dX0_findMost_104 rfl ?_
    refine AW_getI dX0_findMost_105 gfX0_27 (hS.cel rfl) ?_
    refine AW_icmp_ge (tgt := 146) dX0_findMost_108 (by decide) (fun c_108 => ?_) (fun c_108 => ?_)
    · skip
      have hm : k = 0 := by omega
      subst hm
      refine AW_vret dX0_findMost_146 rfl ?_
      have hgl : mostL K n = P := by rw [← hg]; exact List.append_nil P
      refine ⟨rfl, hF, h89, fun j hj => ?_⟩
      rw [hgl]
      exact h88 j (by omega)
    · skip
      obtain ⟨k1, rfl⟩ : ∃ k1, k = k1 + 1 := ⟨k - 1, by omega⟩
      rw [grM_s] at hg
      refine AW_iload_n dX0_findMost_111 rfl ?_
      refine AW_bipush dX0_findMost_112 ?_
      refine AW_icmp_ge (tgt := 146) dX0_findMost_114 (by decide) (fun c_114 => ?_) (fun c_114 => ?_)
      · skip
        exact absurd c_114 (by omega)
      · skip
        refine AW_aload_n dX0_findMost_117 rfl ?_
        refine AW_iload_n dX0_findMost_118 rfl ?_
        refine AW_iload_n dX0_findMost_119 rfl ?_
        refine AW_callV2 (d' := d - 1) dX0_findMost_120 (Or.inl lkX0_110) mfX0_firstOfMost (hS.cel rfl) ⟨_, rfl, rfl⟩ (k_fom (k := k1) (by omega) hS hL hG hu (by omega) _ _ (by omega) rfl) (by omega) (Nat.le_of_ble_eq_true rfl) ?_
        rintro _ _ ⟨e_, rfl⟩ -
        rw [e_]
        clear e_
        refine AW_istore4 dX0_findMost_123 ?_
        have hav : ∀ w, w ∈ avM u n 0 → w < n ∧ u.testBit w = false := by
          have : ∀ m x w, w ∈ avM u m x → w < x + m ∧ u.testBit w = false := by
            intro m
            induction m with
            | zero => intro x w h; exact absurd h (by simp [avM])
            | succ m ih =>
              intro x w h
              rw [avM_s] at h
              split at h
              · have := ih _ _ h; exact ⟨by omega, this.2⟩
              · rename_i hb
                rcases List.mem_cons.mp h with rfl | q
                · exact ⟨by omega, by simpa using hb⟩
                · have := ih _ _ q; exact ⟨by omega, this.2⟩
          intro w h
          have := this n 0 w h
          exact ⟨by omega, this.2⟩
        have hfw : fsw (fun w => both K (n - (k1 + 1)) w + bvM K n k1 (u ||| 2 ^ w) = bvM K n (k1 + 1) u) (avM u n 0) ∈ avM u n 0 := by
          have hne : avM u n 0 ≠ [] := by
            intro e
            have h1 : ∀ m x, avM u m x = [] → ∀ w, x ≤ w → w < x + m → u.testBit w = true := by
              intro m
              induction m with
              | zero => intro x _ w h1 h2; omega
              | succ m ih =>
                intro x he w h1 h2
                rw [avM_s] at he
                split at he
                · rename_i hb
                  by_cases hc : w = x
                  · rw [hc]; exact hb
                  · exact ih _ he w (by omega) (by omega)
                · cases he
            have h2 := h1 n 0 e
            have h3 : u = 2 ^ n - 1 := by
              apply Nat.eq_of_testBit_eq
              intro j
              rw [Nat.testBit_two_pow_sub_one]
              by_cases hj : j < n
              · rw [h2 j (by omega) (by omega)]; simp [hj]
              · rw [Nat.testBit_lt_two_pow (Nat.lt_of_lt_of_le hu (Nat.pow_le_pow_right (by decide) (by omega)))]; simp [hj]
            have h4 := pcn_full n (by omega)
            rw [← h3] at h4
            omega
          have : ∀ (p : Nat → Prop) [DecidablePred p] (t : List Nat), (∃ w, w ∈ t ∧ p w) → fsw p t ∈ t := by
            intro p _ t
            induction t with
            | nil => rintro ⟨w, h, _⟩; exact absurd h (by simp)
            | cons a t ih =>
              rintro ⟨w, h1, h2⟩
              show (if p a then a else fsw p t) ∈ a :: t
              by_cases hpa : p a
              · rw [if_pos hpa]; exact List.mem_cons_self
              · rw [if_neg hpa]
                rcases List.mem_cons.mp h1 with rfl | q
                · exact absurd h2 hpa
                · exact List.mem_cons_of_mem _ (ih ⟨w, q, h2⟩)
          apply this
          have hmx : ∀ (val : Nat → Int) (t : List Nat), t ≠ [] → (∀ w, w ∈ t → 0 ≤ val w) → ∃ w, w ∈ t ∧ val w = mxA val 0 t := by
            intro val t
            induction t with
            | nil => intro h; exact absurd rfl h
            | cons a t ih =>
              intro _ hpos
              rw [mxA_cons val a t (hpos a List.mem_cons_self)]
              by_cases hc : val a < mxA val 0 t
              · rw [if_pos hc]
                by_cases ht : t = []
                · subst ht
                  have h1 := hpos a List.mem_cons_self
                  have h2 : val a < 0 := hc
                  omega
                · obtain ⟨w, q1, q2⟩ := ih ht (fun w hw => hpos w (List.mem_cons_of_mem _ hw))
                  exact ⟨w, List.mem_cons_of_mem _ q1, q2⟩
              · rw [if_neg hc]; exact ⟨a, List.mem_cons_self, rfl⟩
          rw [bvM_s]
          exact hmx _ _ hne (fun w _ => by
            have h1 := both_in hL.2.2.2 (n - (k1 + 1)) w
            have h2 := bvM_ge K n k1 (u ||| 2 ^ w)
            show 0 ≤ both K (n - (k1 + 1)) w + bvM K n k1 (u ||| 2 ^ w)
            omega)
        generalize fsw (fun w => both K (n - (k1 + 1)) w + bvM K n k1 (u ||| 2 ^ w) = bvM K n (k1 + 1) u) (avM u n 0) = W at hg hfw ⊢
        have hW := hav W hfw
        have hpt := pcn_tab u (by omega) W (by omega) hW.2
        refine AW_aload_n dX0_findMost_125 rfl ?_
        refine AW_getR (a := 88) dX0_findMost_126 gfX0_18 (hS.cel rfl) (hS.rf rfl) ?_
        refine AW_iload_n dX0_findMost_129 rfl ?_
        refine AW_iload dX0_findMost_130 rfl ?_
        refine AW_iast dX0_findMost_132 (hS.cel rfl) (by omega) (by omega) ?_
        rw [Int.toNat_natCast]
        refine AW_iload_n dX0_findMost_133 rfl ?_
        refine AW_iconst dX0_findMost_134 ?_
        refine AW_iload dX0_findMost_135 rfl ?_
        refine AW_ishl dX0_findMost_137 ?_
        refine AW_ior dX0_findMost_138 ?_
        rw [or_tab (by omega) (by omega)]
        refine AW_istore2 dX0_findMost_139 ?_
        refine AW_iincE3 dX0_findMost_140 (by omega) (by omega) ?_
        refine AW_goto (tgt := 103) dX0_findMost_143 (by decide) ?_
        rw [show (i : Int) + 1 = ((i + 1 : Nat) : Int) by omega]
        refine ih k1 (i + 1) (u ||| 2 ^ W) (P ++ [W]) _ _ _ (by omega) (by omega) (or_lt hu hW.1) (by rw [hpt.1]; omega) (by rw [List.append_assoc]; exact hg) (by simp; omega) (fun v h1 h2 => ?_) (hF.up (by decide) _ _) ?_ (fun j hj => ?_)
        · rw [up_r _ _ _ _ (by decide)]; exact hG v h1 h2
        · rw [up_r _ _ _ _ (by decide)]; exact h89
        · rw [up_if, getD_snoc, hP]
          by_cases hc : j = i
          · rw [if_pos ⟨rfl, hc⟩, if_neg (by omega), if_pos hc]
          · rw [if_neg (by omega), if_pos (by omega)]; exact h88 j (by omega)
theorem l_fm1 {G : Gt} {d : Nat} {σ : St} {n : Nat} {K : Nat → Int} {x1 : Option AV} (hd : 4 ≤ d) (hS0 : Sta σ) (hL0 : LkC n K σ) : ∀ (nn : Nat) (v : Nat) (x3 x4 x5 : Option AV) (τ : St), v < nn → v < 2 ^ n → GnC n K v τ → Fr [88, 89] σ τ →  AW mX0_findMost G d 0 0 (mq G (fun ro ρ => ro = none ∧ Fr [88, 89] σ ρ ∧ ρ.2.1 89 0 = mostV K n ∧ ∀ j, j < n → ρ.2.1 88 j = ((mostL K n).getD j 0 : Int))) 20 [some (vR 85), x1, some (vI ((v : Int) - 1)), x3, x4, x5] [] τ := by
  intro nn
  induction nn with
  | zero => intros; omega
  | succ nn ih =>
    intro v x3 x4 x5 τ hn hv hG hF
    have hS := hF.sta hS0
    have hL := hL0.fr hF
    have h6 := hL.1
    have h7 := hL.2.1
    have hp7 := pow7 h7.2
    refine AW_iload_n dX0_findMost_20 rfl ?_
    refine AW_if_lt (tgt := 99) dX0_findMost_21 (by decide) (fun c_21 => ?_) (fun c_21 => ?_)
    · skip
      have hm : v = 0 := by omega
      subst hm
      refine AW_iconst dX0_findMost_99 ?_
      refine AW_istore2 dX0_findMost_100 ?_
      refine AW_iconst dX0_findMost_101 ?_
      refine AW_istore3 dX0_findMost_102 ?_
      have h00 := hG 0 (Nat.le_refl _) (by omega)
      rw [show n - pcn 0 = n from rfl] at h00
      exact l_fm3 hd hS0 hL0 (n + 1) n 0 0 [] _ _ τ (by omega) (by omega) (by omega) rfl rfl rfl hG hF h00 (fun j hj => absurd hj (Nat.not_lt_zero j))
    · skip
      obtain ⟨u, rfl⟩ : ∃ u, v = u + 1 := ⟨v - 1, by omega⟩
      rw [show ((u + 1 : Nat) : Int) - 1 = (u : Int) by omega]
      have hpl := pcn_le n (by omega) u (by omega)
      obtain ⟨k, hk⟩ : ∃ k, pcn u + (k + 1) = n := ⟨n - pcn u - 1, by have := hpl.2 (by omega); omega⟩
      refine AW_iload_n dX0_findMost_24 rfl ?_
      refine AW_callS1 (d' := d - 1) dX0_findMost_25 lkX0_105 mfJ6_bitCount_0f7a4 (k_bitCount (u := u) (by omega)) (by omega) (Nat.le_of_ble_eq_true rfl) ?_
      rintro _ _ ⟨e_, rfl⟩ -
      rw [e_]
      clear e_
      refine AW_istore3 dX0_findMost_28 ?_
      refine AW_iconst dX0_findMost_29 ?_
      refine AW_istore4 dX0_findMost_30 ?_
      refine AW_iconst dX0_findMost_32 ?_
      refine AW_istore5 dX0_findMost_33 ?_
      refine l_fm2 (B := bvM K n (k + 1) u) (by omega) hS hL hG (by omega) hk ?_ (n + 1) n 0 0 (by omega) (by omega) (bvM_s K n k u).symm
      refine AW_aload_n dX0_findMost_85 rfl ?_
      refine AW_getR (a := 89) dX0_findMost_86 gfX0_21 (hS.cel rfl) (hS.rf rfl) ?_
      refine AW_iload_n dX0_findMost_89 rfl ?_
      refine AW_iload dX0_findMost_90 rfl ?_
      refine AW_iast dX0_findMost_92 (hS.cel rfl) (by omega) (by omega) ?_
      rw [Int.toNat_natCast]
      refine AW_iincE2 dX0_findMost_93 (by omega) (by omega) ?_
      refine AW_goto (tgt := 20) dX0_findMost_96 (by decide) ?_
      rw [show (u : Int) + -1 = ((u : Nat) : Int) - 1 by omega]
      refine ih u _ _ _ _ (by omega) (by omega) (fun v h1 h2 => ?_) (hF.up (by decide) _ _)
      rw [up_if]
      by_cases hc : v = u
      · rw [if_pos ⟨rfl, hc⟩, hc, show n - pcn u = k + 1 by omega]
      · rw [if_neg (by omega)]; exact hG v (by omega) h2
theorem k_findMost {G : Gt} {d : Nat} {σ : St} {n : Nat} {K : Nat → Int} (hd : 4 ≤ d) (hS : Sta σ) (hL : LkC n K σ) : AM mX0_findMost G d 0 0 [vR 85] σ (fun ro ρ => ro = none ∧ Fr [88, 89] σ ρ ∧ ρ.2.1 89 0 = mostV K n ∧ ∀ j, j < n → ρ.2.1 88 j = ((mostL K n).getD j 0 : Int)) := by
  have h6 := hL.1
  have h7 := hL.2.1
  have hp7 := pow7 h7.2
  refine AM.intro (by decide +kernel) (by simp [nLg]) (Nat.le_of_ble_eq_true rfl) (fun hO => ?_)
  show AW _ _ _ _ _ _ 0 [some (vR 85), none, none, none, none, none] [] σ
  refine AW_iconst dX0_findMost_0 ?_
  refine AW_aload_n dX0_findMost_1 rfl ?_
  refine AW_getI dX0_findMost_2 gfX0_27 (hS.cel rfl) ?_
  rw [h6]
  refine AW_ishl dX0_findMost_5 ?_
  rw [shl_tab n (by omega)]
  refine AW_iconst dX0_findMost_6 ?_
  refine AW_isubE dX0_findMost_7 (by omega) (by omega) ?_
  refine AW_istore1 dX0_findMost_8 ?_
  refine AW_aload_n dX0_findMost_9 rfl ?_
  refine AW_getR (a := 89) dX0_findMost_10 gfX0_21 (hS.cel rfl) (hS.rf rfl) ?_
  refine AW_iload_n dX0_findMost_13 rfl ?_
  refine AW_iconst dX0_findMost_14 ?_
  rw [show ((2 ^ n : Nat) : Int) - 1 = ((2 ^ n - 1 : Nat) : Int) by omega]
  refine AW_iast dX0_findMost_15 (hS.cel rfl) (by omega) (by omega) ?_
  rw [Int.toNat_natCast]
  refine AW_iload_n dX0_findMost_16 rfl ?_
  refine AW_iconst dX0_findMost_17 ?_
  refine AW_isubE dX0_findMost_18 (by omega) (by omega) ?_
  refine AW_istore2 dX0_findMost_19 ?_
  refine l_fm1 hd hS hL (2 ^ n) (2 ^ n - 1) _ _ _ _ (by omega) (by omega) (fun v h1 h2 => ?_) (Fr.rf.up (by decide) _ _)
  have hv : v = 2 ^ n - 1 := by omega
  rw [hv, up_at, pcn_full n (by omega), Nat.sub_self]
  rfl
