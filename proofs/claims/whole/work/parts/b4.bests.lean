theorem k_womanOf {G : Gt} {d : Nat} {σ : St} (hd : 1 ≤ d) {n hc N : Nat} {K : Nat → Int} {H : List (List Nat)} (hS : Sta σ) (hL : LkC n K σ) (hW : RwC hc N H σ) {h : Nat} {l : List Nat} (hh : H[h]? = some l) (hr : l ∈ rowsN n) (h0 m0 : Int) (m : Nat) (e1 : h0 = h) (e2 : m0 = m) (hm : m < n) : AM mX0_womanOf G d 0 0 [vR 85, vI h0, vI m0] σ (fun r τ => τ = σ ∧ r = some (vI (l.getD m 0 : Int))) := by
  obtain ⟨r1, r2⟩ := rows_iff.mp hr
  have h7 := hL.2.1
  have h5 := hW.2.1
  have hlt := (List.getElem?_eq_some_iff.mp hh).1
  have hle := hW.2.2.1
  have h8 := hW.1.2.2.2
  refine AM.intro (by decide +kernel) (by simp [nLg]) (Nat.le_of_ble_eq_true rfl) (fun hO => ?_)
  show AW _ _ _ _ _ _ 0 [some (vR 85), some (vI h0), some (vI m0)] [] σ
  refine AW_iload_n dX0_womanOf_0 rfl ?_
  refine AW_if_lt (tgt := 20) dX0_womanOf_1 (by decide) (fun c_1 => ?_) (fun c_1 => ?_)
  · skip
    exact absurd c_1 (by omega)
  · skip
    refine AW_iload_n dX0_womanOf_4 rfl ?_
    refine AW_aload_n dX0_womanOf_5 rfl ?_
    refine AW_getI dX0_womanOf_6 gfX0_35 (hS.cel rfl) ?_
    refine AW_icmp_ge (tgt := 20) dX0_womanOf_9 (by decide) (fun c_9 => ?_) (fun c_9 => ?_)
    · skip
      exact absurd c_9 (by rw [h5]; omega)
    · skip
      refine AW_aload_n dX0_womanOf_12 rfl ?_
      refine AW_iload_n dX0_womanOf_13 rfl ?_
      refine AW_callV1 (d' := d - 1) dX0_womanOf_14 (Or.inl lkX0_47) mfX0_isGuest (hS.cel rfl) ⟨_, rfl, rfl⟩ (k_isGuest hS hL m0) (by omega) (Nat.le_of_ble_eq_true rfl) ?_
      rintro _ _ ⟨e_, rfl⟩ -
      rw [e_]
      clear e_
      refine AW_if_ne (tgt := 22) dX0_womanOf_17 (by decide) (fun c_17 => ?_) (fun c_17 => ?_)
      · skip
        replace c_17 := bz1 c_17
        refine AW_aload_n dX0_womanOf_22 rfl ?_
        refine AW_getR (a := hc) dX0_womanOf_23 gfX0_24 (hS.cel rfl) hW.1.1 ?_
        refine AW_iload_n dX0_womanOf_26 rfl ?_
        refine AW_iald dX0_womanOf_27 hW.1.2.1 (by omega) (by omega) ?_
        rw [e1, Int.toNat_natCast, hW.2.2.2 h l hh, e2]
        refine AW_iconst dX0_womanOf_28 ?_
        refine AW_iload_n dX0_womanOf_29 rfl ?_
        refine AW_imulE dX0_womanOf_30 (by omega) (by omega) ?_
        refine AW_iushr dX0_womanOf_31 ?_
        refine AW_bipush dX0_womanOf_32 ?_
        refine AW_iand dX0_womanOf_34 ?_
        refine AW_iret dX0_womanOf_35 rfl ?_
        refine ⟨rfl, ?_⟩
        rw [un_pk (fun x hx => by have := r1.1 x hx; omega) (by omega) (by omega)]
      · skip
        replace c_17 := bz0 c_17
        exact absurd (show 0 ≤ m0 ∧ m0 < (n : Int) by omega) c_17
theorem l_total {G : Gt} {d : Nat} {σ : St} (hd : 3 ≤ d) {n hc N : Nat} {K : Nat → Int} {H : List (List Nat)} (hS : Sta σ) (hL : LkC n K σ) (hW : RwC hc N H σ) {h : Nat} {l : List Nat} (hh : H[h]? = some l) (hr : l ∈ rowsN n) : ∀ (nn : Nat) (m i : Nat), m < nn → i + m = n →  AW mX0_total G d 0 0 (mq G (fun ro ρ => ρ = σ ∧ ro = some (vI (sR K l)))) 4 [some (vR 85), some (vI (h : Int)), some (vI (sm (fun i => both K i (l.getD i 0)) i)), some (vI (i : Int))] [] σ := by
  intro nn
  induction nn with
  | zero => intros; omega
  | succ nn ih =>
    intro m i hn hi
    obtain ⟨r1, r2⟩ := rows_iff.mp hr
    have h6 := hL.1
    have h7 := hL.2.1
    have hb := sm_bd (h := fun i => both K i (l.getD i 0)) (a := 0) (b := 198) i (fun x _ => both_in hL.2.2.2 _ _)
    refine AW_iload_n dX0_total_4 rfl ?_
    refine AW_aload_n dX0_total_5 rfl ?_
    refine AW_getI dX0_total_6 gfX0_27 (hS.cel rfl) ?_
    refine AW_icmp_ge (tgt := 32) dX0_total_9 (by decide) (fun c_9 => ?_) (fun c_9 => ?_)
    · skip
      have hm : i = n := by omega
      subst hm
      refine AW_iload_n dX0_total_32 rfl ?_
      refine AW_iret dX0_total_33 rfl ?_
      refine ⟨rfl, ?_⟩
      unfold sR
      rw [r2]
    · skip
      obtain ⟨m1, rfl⟩ : ∃ m1, m = m1 + 1 := ⟨m - 1, by omega⟩
      have hbi := both_in hL.2.2.2 i (l.getD i 0)
      refine AW_iload_n dX0_total_12 rfl ?_
      refine AW_aload_n dX0_total_13 rfl ?_
      refine AW_iload_n dX0_total_14 rfl ?_
      refine AW_aload_n dX0_total_15 rfl ?_
      refine AW_iload_n dX0_total_16 rfl ?_
      refine AW_iload_n dX0_total_17 rfl ?_
      refine AW_callV2 (d' := d - 1) dX0_total_18 (Or.inl lkX0_61) mfX0_womanOf (hS.cel rfl) ⟨_, rfl, rfl⟩ (k_womanOf (by omega) hS hL hW hh hr _ _ i rfl rfl (by omega)) (by omega) (Nat.le_of_ble_eq_true rfl) ?_
      rintro _ _ ⟨e_, rfl⟩ -
      rw [e_]
      clear e_
      refine AW_callV2 (d' := d - 1) dX0_total_21 (Or.inl lkX0_65) mfX0_sum (hS.cel rfl) ⟨_, rfl, rfl⟩ (k_fsum (by omega) hS hL _ _ i (l.getD i 0) rfl rfl (by omega) (r1.lt (by omega))) (by omega) (Nat.le_of_ble_eq_true rfl) ?_
      rintro _ _ ⟨e_, rfl⟩ -
      rw [e_]
      clear e_
      refine AW_iaddE dX0_total_24 (by omega) (by omega) ?_
      refine AW_istore2 dX0_total_25 ?_
      refine AW_iincE3 dX0_total_26 (by omega) (by omega) ?_
      refine AW_goto (tgt := 4) dX0_total_29 (by decide) ?_
      rw [show (i : Int) + 1 = ((i + 1 : Nat) : Int) by omega]
      exact ih m1 (i + 1) (by omega) (by omega)
theorem k_total {G : Gt} {d : Nat} {σ : St} (hd : 3 ≤ d) {n hc N : Nat} {K : Nat → Int} {H : List (List Nat)} (hS : Sta σ) (hL : LkC n K σ) (hW : RwC hc N H σ) {h : Nat} {l : List Nat} (hh : H[h]? = some l) (hr : l ∈ rowsN n) (h0 : Int) (e1 : h0 = h) : AM mX0_total G d 0 0 [vR 85, vI h0] σ (fun ro ρ => ρ = σ ∧ ro = some (vI (sR K l))) := by
  subst e1
  refine AM.intro (by decide +kernel) (by simp [nLg]) (Nat.le_of_ble_eq_true rfl) (fun hO => ?_)
  show AW _ _ _ _ _ _ 0 [some (vR 85), some (vI (h : Int)), none, none] [] σ
  refine AW_iconst dX0_total_0 ?_
  refine AW_istore2 dX0_total_1 ?_
  refine AW_iconst dX0_total_2 ?_
  refine AW_istore3 dX0_total_3 ?_
  exact l_total hd hS hL hW hh hr (n + 1) n 0 (by omega) (by omega)
theorem rk_inner (K : Nat → Int) (n s i : Nat) (l : List Nat) : sm (fun o => if s = 0 then (if more K 0 i o (l.getD i 0) then (1 : Int) else 0) else (if more K 1 (l.getD i 0) o i then 1 else 0)) n = (fun m => if s = 0 then rk K n 0 m (l.getD m 0) else rk K n 1 (l.getD m 0) m) i := by
  by_cases h : s = 0
  · rw [sm_congr (g := fun o => if more K 0 i o (l.getD i 0) then (1 : Int) else 0) n (fun x _ => by rw [if_pos h])]
    show _ = if s = 0 then rk K n 0 i (l.getD i 0) else _
    rw [if_pos h]
    rfl
  · rw [sm_congr (g := fun o => if more K 1 (l.getD i 0) o i then (1 : Int) else 0) n (fun x _ => by rw [if_neg h])]
    show _ = if s = 0 then _ else rk K n 1 (l.getD i 0) i
    rw [if_neg h]
    rfl
theorem rk_outer (K : Nat → Int) (n s k : Nat) (l : List Nat) : 0 ≤ sm (fun m => if s = 0 then rk K n 0 m (l.getD m 0) else rk K n 1 (l.getD m 0) m) k ∧ sm (fun m => if s = 0 then rk K n 0 m (l.getD m 0) else rk K n 1 (l.getD m 0) m) k ≤ n * k := by
  have := sm_bd (h := (fun m => if s = 0 then rk K n 0 m (l.getD m 0) else rk K n 1 (l.getD m 0) m)) (a := 0) (b := n) k (fun x _ => by
    show 0 ≤ (if s = 0 then rk K n 0 x (l.getD x 0) else rk K n 1 (l.getD x 0) x) ∧ (if s = 0 then rk K n 0 x (l.getD x 0) else rk K n 1 (l.getD x 0) x) ≤ n
    have a1 := rk_in K n 0 x (l.getD x 0)
    have a3 := rk_in K n 1 (l.getD x 0) x
    split <;> omega)
  omega
theorem l_rk2 {G : Gt} {d : Nat} {σ : St} (hd : 3 ≤ d) {n hc N : Nat} {K : Nat → Int} {H : List (List Nat)} (hS : Sta σ) (hL : LkC n K σ) (hW : RwC hc N H σ) {h : Nat} {l : List Nat} (hh : H[h]? = some l) (hr : l ∈ rowsN n) {s i : Nat} (hs : s < 2) (hi : i < n) {Qz : QZ} (hnx : ∀ x7 : Option AV, AW mX0_rankSum G d 0 0 Qz 5 [some (vR 85), some (vI (s : Int)), some (vI (h : Int)), some (vI (sm (fun m => if s = 0 then rk K n 0 m (l.getD m 0) else rk K n 1 (l.getD m 0) m) (i + 1))), some (vI ((i + 1 : Nat) : Int)), some (vI (l.getD i 0 : Int)), some (vI (n : Int)), x7] [] σ) : ∀ (nn : Nat) (m j : Nat) (x7 : Option AV), m < nn → j + m = n →  AW mX0_rankSum G d 0 0 (Qz) 26 [some (vR 85), some (vI (s : Int)), some (vI (h : Int)), some (vI (sm (fun m => if s = 0 then rk K n 0 m (l.getD m 0) else rk K n 1 (l.getD m 0) m) i + sm (fun o => if s = 0 then (if more K 0 i o (l.getD i 0) then (1 : Int) else 0) else (if more K 1 (l.getD i 0) o i then 1 else 0)) j)), some (vI (i : Int)), some (vI (l.getD i 0 : Int)), some (vI (j : Int)), x7] [] σ := by
  intro nn
  induction nn with
  | zero => intros; omega
  | succ nn ih =>
    intro m j x7 hn hj
    obtain ⟨r1, r2⟩ := rows_iff.mp hr
    have h6 := hL.1
    have h7 := hL.2.1
    have hlt := r1.lt (i := i) (by omega)
    have hb1 := rk_outer K n s i l
    have hb2 := sm_bd (h := (fun o => if s = 0 then (if more K 0 i o (l.getD i 0) then (1 : Int) else 0) else (if more K 1 (l.getD i 0) o i then 1 else 0))) (a := 0) (b := 1) j (fun x _ => by
      show (0 : Int) ≤ (if s = 0 then (if more K 0 i x (l.getD i 0) then (1 : Int) else 0) else (if more K 1 (l.getD i 0) x i then 1 else 0)) ∧ (if s = 0 then (if more K 0 i x (l.getD i 0) then (1 : Int) else 0) else (if more K 1 (l.getD i 0) x i then 1 else 0)) ≤ 1
      split <;> split <;> decide)
    have hmul : (n : Int) * i ≤ 49 := by
      have h1 : (n : Int) * i ≤ 7 * i := Int.mul_le_mul_of_nonneg_right (by omega) (by omega)
      omega
    refine AW_iload dX0_rankSum_26 rfl ?_
    refine AW_aload_n dX0_rankSum_28 rfl ?_
    refine AW_getI dX0_rankSum_29 gfX0_27 (hS.cel rfl) ?_
    refine AW_icmp_ge (tgt := 85) dX0_rankSum_32 (by decide) (fun c_32 => ?_) (fun c_32 => ?_)
    · skip
      have hm : j = n := by omega
      subst hm
      rw [rk_inner, ← sm_s]
      refine AW_iincE4 dX0_rankSum_85 (by omega) (by omega) ?_
      refine AW_goto (tgt := 5) dX0_rankSum_88 (by decide) ?_
      rw [show (i : Int) + 1 = ((i + 1 : Nat) : Int) by omega]
      exact hnx _
    · skip
      obtain ⟨m1, rfl⟩ : ∃ m1, m = m1 + 1 := ⟨m - 1, by omega⟩
      have hss := sm_s (fun o => if s = 0 then (if more K 0 i o (l.getD i 0) then (1 : Int) else 0) else (if more K 1 (l.getD i 0) o i then 1 else 0)) j
      refine AW_iload_n dX0_rankSum_35 rfl ?_
      refine AW_if_ne (tgt := 53) dX0_rankSum_36 (by decide) (fun c_36 => ?_) (fun c_36 => ?_)
      · skip
        have hs0 : ¬ s = 0 := by omega
        rw [if_neg hs0] at hss
        refine AW_aload_n dX0_rankSum_53 rfl ?_
        refine AW_iconst dX0_rankSum_54 ?_
        refine AW_iload dX0_rankSum_55 rfl ?_
        refine AW_iload dX0_rankSum_57 rfl ?_
        refine AW_iload dX0_rankSum_59 rfl ?_
        refine AW_callV4 (d' := d - 1) dX0_rankSum_61 (Or.inl lkX0_85) mfX0_likesMore (hS.cel rfl) ⟨_, rfl, rfl⟩ (k_lmore (by omega) hS hL _ _ _ _ 1 (l.getD i 0) j i rfl rfl rfl rfl (by decide) hlt (by omega) hi) (by omega) (Nat.le_of_ble_eq_true rfl) ?_
        rintro _ _ ⟨e_, rfl⟩ -
        rw [e_]
        clear e_
        refine AW_istore7 dX0_rankSum_64 ?_
        refine AW_iload_n dX0_rankSum_66 rfl ?_
        refine AW_iload dX0_rankSum_67 rfl ?_
        refine AW_if_eq (tgt := 76) dX0_rankSum_69 (by decide) (fun c_69 => ?_) (fun c_69 => ?_)
        · skip
          replace c_69 := bz0 c_69
          rw [if_neg c_69] at hss
          refine AW_iconst dX0_rankSum_76 ?_
          refine AW_iaddE dX0_rankSum_77 (by omega) (by omega) ?_
          refine AW_istore3 dX0_rankSum_78 ?_
          refine AW_iincE6 dX0_rankSum_79 (by omega) (by omega) ?_
          refine AW_goto (tgt := 26) dX0_rankSum_82 (by decide) ?_
          rw [show (j : Int) + 1 = ((j + 1 : Nat) : Int) by omega, show ∀ a : Int, sm (fun m => if s = 0 then rk K n 0 m (l.getD m 0) else rk K n 1 (l.getD m 0) m) i + sm (fun o => if s = 0 then (if more K 0 i o (l.getD i 0) then (1 : Int) else 0) else (if more K 1 (l.getD i 0) o i then 1 else 0)) j + a = sm (fun m => if s = 0 then rk K n 0 m (l.getD m 0) else rk K n 1 (l.getD m 0) m) i + (sm (fun o => if s = 0 then (if more K 0 i o (l.getD i 0) then (1 : Int) else 0) else (if more K 1 (l.getD i 0) o i then 1 else 0)) j + a) from fun a => by omega, ← hss]
          exact ih m1 (j + 1) _ (by omega) (by omega)
        · skip
          replace c_69 := bz1 c_69
          rw [if_pos c_69] at hss
          refine AW_iconst dX0_rankSum_72 ?_
          refine AW_goto (tgt := 77) dX0_rankSum_73 (by decide) ?_
          refine AW_iaddE dX0_rankSum_77 (by omega) (by omega) ?_
          refine AW_istore3 dX0_rankSum_78 ?_
          refine AW_iincE6 dX0_rankSum_79 (by omega) (by omega) ?_
          refine AW_goto (tgt := 26) dX0_rankSum_82 (by decide) ?_
          rw [show (j : Int) + 1 = ((j + 1 : Nat) : Int) by omega, show ∀ a : Int, sm (fun m => if s = 0 then rk K n 0 m (l.getD m 0) else rk K n 1 (l.getD m 0) m) i + sm (fun o => if s = 0 then (if more K 0 i o (l.getD i 0) then (1 : Int) else 0) else (if more K 1 (l.getD i 0) o i then 1 else 0)) j + a = sm (fun m => if s = 0 then rk K n 0 m (l.getD m 0) else rk K n 1 (l.getD m 0) m) i + (sm (fun o => if s = 0 then (if more K 0 i o (l.getD i 0) then (1 : Int) else 0) else (if more K 1 (l.getD i 0) o i then 1 else 0)) j + a) from fun a => by omega, ← hss]
          exact ih m1 (j + 1) _ (by omega) (by omega)
      · skip
        have hs0 : s = 0 := by omega
        rw [if_pos hs0] at hss
        refine AW_aload_n dX0_rankSum_39 rfl ?_
        refine AW_iconst dX0_rankSum_40 ?_
        refine AW_iload dX0_rankSum_41 rfl ?_
        refine AW_iload dX0_rankSum_43 rfl ?_
        refine AW_iload dX0_rankSum_45 rfl ?_
        refine AW_callV4 (d' := d - 1) dX0_rankSum_47 (Or.inl lkX0_85) mfX0_likesMore (hS.cel rfl) ⟨_, rfl, rfl⟩ (k_lmore (by omega) hS hL _ _ _ _ 0 i j (l.getD i 0) rfl rfl rfl rfl (by decide) hi (by omega) hlt) (by omega) (Nat.le_of_ble_eq_true rfl) ?_
        rintro _ _ ⟨e_, rfl⟩ -
        rw [e_]
        clear e_
        refine AW_goto (tgt := 64) dX0_rankSum_50 (by decide) ?_
        refine AW_istore7 dX0_rankSum_64 ?_
        refine AW_iload_n dX0_rankSum_66 rfl ?_
        refine AW_iload dX0_rankSum_67 rfl ?_
        refine AW_if_eq (tgt := 76) dX0_rankSum_69 (by decide) (fun c_69 => ?_) (fun c_69 => ?_)
        · skip
          replace c_69 := bz0 c_69
          rw [if_neg c_69] at hss
          refine AW_iconst dX0_rankSum_76 ?_
          refine AW_iaddE dX0_rankSum_77 (by omega) (by omega) ?_
          refine AW_istore3 dX0_rankSum_78 ?_
          refine AW_iincE6 dX0_rankSum_79 (by omega) (by omega) ?_
          refine AW_goto (tgt := 26) dX0_rankSum_82 (by decide) ?_
          rw [show (j : Int) + 1 = ((j + 1 : Nat) : Int) by omega, show ∀ a : Int, sm (fun m => if s = 0 then rk K n 0 m (l.getD m 0) else rk K n 1 (l.getD m 0) m) i + sm (fun o => if s = 0 then (if more K 0 i o (l.getD i 0) then (1 : Int) else 0) else (if more K 1 (l.getD i 0) o i then 1 else 0)) j + a = sm (fun m => if s = 0 then rk K n 0 m (l.getD m 0) else rk K n 1 (l.getD m 0) m) i + (sm (fun o => if s = 0 then (if more K 0 i o (l.getD i 0) then (1 : Int) else 0) else (if more K 1 (l.getD i 0) o i then 1 else 0)) j + a) from fun a => by omega, ← hss]
          exact ih m1 (j + 1) _ (by omega) (by omega)
        · skip
          replace c_69 := bz1 c_69
          rw [if_pos c_69] at hss
          refine AW_iconst dX0_rankSum_72 ?_
          refine AW_goto (tgt := 77) dX0_rankSum_73 (by decide) ?_
          refine AW_iaddE dX0_rankSum_77 (by omega) (by omega) ?_
          refine AW_istore3 dX0_rankSum_78 ?_
          refine AW_iincE6 dX0_rankSum_79 (by omega) (by omega) ?_
          refine AW_goto (tgt := 26) dX0_rankSum_82 (by decide) ?_
          rw [show (j : Int) + 1 = ((j + 1 : Nat) : Int) by omega, show ∀ a : Int, sm (fun m => if s = 0 then rk K n 0 m (l.getD m 0) else rk K n 1 (l.getD m 0) m) i + sm (fun o => if s = 0 then (if more K 0 i o (l.getD i 0) then (1 : Int) else 0) else (if more K 1 (l.getD i 0) o i then 1 else 0)) j + a = sm (fun m => if s = 0 then rk K n 0 m (l.getD m 0) else rk K n 1 (l.getD m 0) m) i + (sm (fun o => if s = 0 then (if more K 0 i o (l.getD i 0) then (1 : Int) else 0) else (if more K 1 (l.getD i 0) o i then 1 else 0)) j + a) from fun a => by omega, ← hss]
          exact ih m1 (j + 1) _ (by omega) (by omega)
theorem l_rk1 {G : Gt} {d : Nat} {σ : St} (hd : 3 ≤ d) {n hc N : Nat} {K : Nat → Int} {H : List (List Nat)} (hS : Sta σ) (hL : LkC n K σ) (hW : RwC hc N H σ) {h : Nat} {l : List Nat} (hh : H[h]? = some l) (hr : l ∈ rowsN n) {s : Nat} (hs : s < 2) : ∀ (nn : Nat) (m i : Nat) (x5 x6 x7 : Option AV), m < nn → i + m = n →  AW mX0_rankSum G d 0 0 (mq G (fun ro ρ => ρ = σ ∧ ro = some (vI (rs K n s l)))) 5 [some (vR 85), some (vI (s : Int)), some (vI (h : Int)), some (vI (sm (fun m => if s = 0 then rk K n 0 m (l.getD m 0) else rk K n 1 (l.getD m 0) m) i)), some (vI (i : Int)), x5, x6, x7] [] σ := by
  intro nn
  induction nn with
  | zero => intros; omega
  | succ nn ih =>
    intro m i x5 x6 x7 hn hi
    have h6 := hL.1
    have h7 := hL.2.1
    refine AW_iload dX0_rankSum_5 rfl ?_
    refine AW_aload_n dX0_rankSum_7 rfl ?_
    refine AW_getI dX0_rankSum_8 gfX0_27 (hS.cel rfl) ?_
    refine AW_icmp_ge (tgt := 91) dX0_rankSum_11 (by decide) (fun c_11 => ?_) (fun c_11 => ?_)
    · skip
      have hm : i = n := by omega
      subst hm
      refine AW_iload_n dX0_rankSum_91 rfl ?_
      refine AW_iret dX0_rankSum_92 rfl ?_
      exact ⟨rfl, rfl⟩
    · skip
      obtain ⟨m1, rfl⟩ : ∃ m1, m = m1 + 1 := ⟨m - 1, by omega⟩
      refine AW_aload_n dX0_rankSum_14 rfl ?_
      refine AW_iload_n dX0_rankSum_15 rfl ?_
      refine AW_iload dX0_rankSum_16 rfl ?_
      refine AW_callV2 (d' := d - 1) dX0_rankSum_18 (Or.inl lkX0_61) mfX0_womanOf (hS.cel rfl) ⟨_, rfl, rfl⟩ (k_womanOf (by omega) hS hL hW hh hr _ _ i rfl rfl (by omega)) (by omega) (Nat.le_of_ble_eq_true rfl) ?_
      rintro _ _ ⟨e_, rfl⟩ -
      rw [e_]
      clear e_
      refine AW_istore5 dX0_rankSum_21 ?_
      refine AW_iconst dX0_rankSum_23 ?_
      refine AW_istore6 dX0_rankSum_24 ?_
      rw [show sm (fun m => if s = 0 then rk K n 0 m (l.getD m 0) else rk K n 1 (l.getD m 0) m) i = sm (fun m => if s = 0 then rk K n 0 m (l.getD m 0) else rk K n 1 (l.getD m 0) m) i + sm (fun o => if s = 0 then (if more K 0 i o (l.getD i 0) then (1 : Int) else 0) else (if more K 1 (l.getD i 0) o i then 1 else 0)) 0 from (Int.add_zero _).symm]
      exact l_rk2 hd hS hL hW hh hr hs (show i < n by omega) (fun x7 => ih m1 (i + 1) _ _ x7 (by omega) (by omega)) (n + 1) n 0 _ (by omega) (by omega)
theorem k_rankSum {G : Gt} {d : Nat} {σ : St} (hd : 3 ≤ d) {n hc N : Nat} {K : Nat → Int} {H : List (List Nat)} (hS : Sta σ) (hL : LkC n K σ) (hW : RwC hc N H σ) {h : Nat} {l : List Nat} (hh : H[h]? = some l) (hr : l ∈ rowsN n) (s0 h0 : Int) (s : Nat) (e0 : s0 = s) (e1 : h0 = h) (hs : s < 2) : AM mX0_rankSum G d 0 0 [vR 85, vI s0, vI h0] σ (fun ro ρ => ρ = σ ∧ ro = some (vI (rs K n s l))) := by
  subst e1
  subst e0
  refine AM.intro (by decide +kernel) (by simp [nLg]) (Nat.le_of_ble_eq_true rfl) (fun hO => ?_)
  show AW _ _ _ _ _ _ 0 [some (vR 85), some (vI (s : Int)), some (vI (h : Int)), none, none, none, none, none] [] σ
  refine AW_iconst dX0_rankSum_0 ?_
  refine AW_istore3 dX0_rankSum_1 ?_
  refine AW_iconst dX0_rankSum_2 ?_
  refine AW_istore4 dX0_rankSum_3 ?_
  exact l_rk1 hd hS hL hW hh hr hs (n + 1) n 0 none none none (by omega) (by omega)
def mxR (f : List Nat → Int) : List (List Nat) → Int → Int
  | [], a => a
  | l :: t, a => mxR f t (if a < f l then f l else a)
theorem mxR_s (f : List Nat → Int) (l : List Nat) (t : List (List Nat)) (a : Int) : mxR f (l :: t) a = mxR f t (if a < f l then f l else a) := rfl
theorem RwC.u85 {hc N : Nat} {H : List (List Nat)} {σ : St} (h : RwC hc N H σ) {j : Nat} (hj : j ≠ 5) (x : Int) : RwC hc N H (upI σ 85 j x) := by
  obtain ⟨a1, a2, a3, a4⟩ := h
  refine ⟨⟨a1.1, a1.2⟩, by rw [up_j _ _ _ (fun q => hj q.symm)]; exact a2, a3, fun i l hi => ?_⟩
  rw [up_r _ _ _ _ (by rcases a1.2.2.1 with q | q <;> omega)]
  exact a4 i l hi
theorem drop_get {α : Type} {H : List α} {i : Nat} {l : α} (h : H[i]? = some l) : H.drop i = l :: H.drop (i + 1) := by
  obtain ⟨h1, h2⟩ := List.getElem?_eq_some_iff.mp h
  rw [← h2]
  exact List.drop_eq_getElem_cons h1
theorem l_fbt {G : Gt} {d : Nat} {σ : St} {n hc N i : Nat} {K : Nat → Int} {H : List (List Nat)} {l : List Nat} {B0 B1 : Int} {x4 x5 : Option AV} {Qz : QZ} (hd : 4 ≤ d) (hS : Sta σ) (hL : LkC n K σ) (hW : RwC hc N H σ) (hh : H[i]? = some l) (hr : l ∈ rowsN n) (hi : i < 100000) (hnx : AW mX0_findBests G d 0 0 Qz 13 [some (vR 85), some (vI B0), some (vI B1), some (vI ((i + 1 : Nat) : Int)), x4, x5] [] (upI σ 85 9 (if σ.2.1 85 9 < sR K l then sR K l else σ.2.1 85 9))) : AW mX0_findBests G d 0 0 (Qz) 65 [some (vR 85), some (vI B0), some (vI B1), some (vI (i : Int)), x4, x5] [] σ := by
  refine AW_aload_n dX0_findBests_65 rfl ?_
  refine AW_aload_n dX0_findBests_66 rfl ?_
  refine AW_getI dX0_findBests_67 gfX0_44 (hS.cel rfl) ?_
  refine AW_aload_n dX0_findBests_70 rfl ?_
  refine AW_iload_n dX0_findBests_71 rfl ?_
  refine AW_callV1 (d' := d - 1) dX0_findBests_72 (Or.inl lkX0_96) mfX0_total (hS.cel rfl) ⟨_, rfl, rfl⟩ (k_total (by omega) hS hL hW hh hr _ rfl) (by omega) (Nat.le_of_ble_eq_true rfl) ?_
  rintro _ _ ⟨e_, rfl⟩ -
  rw [e_]
  clear e_
  refine AW_mmax dX0_findBests_75 lkX0_100 (by omega) (Nat.le_of_ble_eq_true rfl) ?_
  refine AW_putI dX0_findBests_78 (Or.inl pfX0_44) (hS.cel rfl) ?_
  refine AW_iincE3 dX0_findBests_81 (by omega) (by omega) ?_
  refine AW_goto (tgt := 13) dX0_findBests_84 (by decide) ?_
  rw [show (i : Int) + 1 = ((i + 1 : Nat) : Int) by omega]
  exact hnx
theorem l_fb {G : Gt} {d : Nat} {σ : St} {n hc N : Nat} {K : Nat → Int} {H : List (List Nat)} {F0 F1 : Int × Nat} {g : Int} (hd : 4 ≤ d) (hS0 : Sta σ) (hr : ∀ l, l ∈ H → l ∈ rowsN n) : ∀ (nn : Nat) (m i : Nat) (b0 b1 : Int × Nat) (x4 x5 : Option AV) (τ : St), m < nn → i + m = H.length → LkC n K τ → RwC hc N H τ → Ff σ τ → τ.2.1 85 7 = (b0.2 : Int) → τ.2.1 85 8 = (b1.2 : Int) → 0 ≤ τ.2.1 85 9 → τ.2.1 85 10 = σ.2.1 85 10 → bsi (rs K n 0) (H.drop i) i b0 = F0 → bsi (rs K n 1) (H.drop i) i b1 = F1 → mxR (sR K) (H.drop i) (τ.2.1 85 9) = g →  AW mX0_findBests G d 0 0 (mq G (fun ro ρ => ro = none ∧ RwC hc N H ρ ∧ LkC n K ρ ∧ Ff σ ρ ∧ ρ.2.1 85 7 = (F0.2 : Int) ∧ ρ.2.1 85 8 = (F1.2 : Int) ∧ ρ.2.1 85 9 = g ∧ ρ.2.1 85 10 = σ.2.1 85 10)) 13 [some (vR 85), some (vI b0.1), some (vI b1.1), some (vI (i : Int)), x4, x5] [] τ := by
  intro nn
  induction nn with
  | zero => intros; omega
  | succ nn ih =>
    intro m i b0 b1 x4 x5 τ hn hi hL hW hF h7 h8 h9 h10 hB0 hB1 hB2
    have hS := hF.sta hS0
    have h5 := hW.2.1
    have hle := hW.2.2.1
    have hN8 := hW.1.2.2.2
    refine AW_iload_n dX0_findBests_13 rfl ?_
    refine AW_aload_n dX0_findBests_14 rfl ?_
    refine AW_getI dX0_findBests_15 gfX0_35 (hS.cel rfl) ?_
    refine AW_icmp_ge (tgt := 87) dX0_findBests_18 (by decide) (fun c_18 => ?_) (fun c_18 => ?_)
    · skip
      have hm : i = H.length := by omega
      subst hm
      rw [List.drop_length] at hB0 hB1 hB2
      refine AW_vret dX0_findBests_87 rfl ?_
      have e0 : b0 = F0 := hB0
      have e1 : b1 = F1 := hB1
      subst e0
      subst e1
      exact ⟨rfl, hW, hL, hF, h7, h8, hB2, h10⟩
    · skip
      obtain ⟨m1, rfl⟩ : ∃ m1, m = m1 + 1 := ⟨m - 1, by omega⟩
      have hil : i < H.length := by omega
      obtain ⟨l, hh⟩ : ∃ l, H[i]? = some l := ⟨_, List.getElem?_eq_getElem hil⟩
      have hlr := hr l (List.mem_of_getElem? hh)
      rw [drop_get hh] at hB0 hB1 hB2
      rw [bsi_s] at hB0 hB1
      rw [mxR_s] at hB2
      refine AW_aload_n dX0_findBests_21 rfl ?_
      refine AW_iconst dX0_findBests_22 ?_
      refine AW_iload_n dX0_findBests_23 rfl ?_
      refine AW_callV2 (d' := d - 1) dX0_findBests_24 (Or.inl lkX0_93) mfX0_rankSum (hS.cel rfl) ⟨_, rfl, rfl⟩ (k_rankSum (by omega) hS hL hW hh hlr _ _ 0 rfl rfl (by decide)) (by omega) (Nat.le_of_ble_eq_true rfl) ?_
      rintro _ _ ⟨e_, rfl⟩ -
      rw [e_]
      clear e_
      refine AW_istore4 dX0_findBests_27 ?_
      refine AW_aload_n dX0_findBests_29 rfl ?_
      refine AW_iconst dX0_findBests_30 ?_
      refine AW_iload_n dX0_findBests_31 rfl ?_
      refine AW_callV2 (d' := d - 1) dX0_findBests_32 (Or.inl lkX0_93) mfX0_rankSum (hS.cel rfl) ⟨_, rfl, rfl⟩ (k_rankSum (by omega) hS hL hW hh hlr _ _ 1 rfl rfl (by decide)) (by omega) (Nat.le_of_ble_eq_true rfl) ?_
      rintro _ _ ⟨e_, rfl⟩ -
      rw [e_]
      clear e_
      refine AW_istore5 dX0_findBests_35 ?_
      refine AW_iload dX0_findBests_37 rfl ?_
      refine AW_iload_n dX0_findBests_39 rfl ?_
      refine AW_icmp_ge (tgt := 51) dX0_findBests_40 (by decide) (fun c_40 => ?_) (fun c_40 => ?_)
      · skip
        rw [if_neg (by omega)] at hB0
        first
        | (have hX := c_40
           skip)
        | skip
        refine AW_iload dX0_findBests_51 rfl ?_
        refine AW_iload_n dX0_findBests_53 rfl ?_
        refine AW_icmp_ge (tgt := 65) dX0_findBests_54 (by decide) (fun c_54 => ?_) (fun c_54 => ?_)
        · skip
          rw [if_neg (by omega)] at hB1
          first
          | (have hX := o1
             have hY := o2
             refine l_fbt hd hS2 hL2 hW2 hh hlr (by omega) ?_
             have hF9 : Ff τ2 (upI τ2 85 9 (if τ2.2.1 85 9 < sR K l then sR K l else τ2.2.1 85 9)) := Ff.rf.up (Or.inr (Or.inr (Or.inr ⟨rfl, by decide⟩))) _
             refine ih m1 (i + 1) (rs K n 0 l, i) (rs K n 1 l, i) _ _ _ (by omega) (by omega) (hL2.ff hS2 hW2.1 hF9) (hW2.u85 (by decide) _) (((hF.tr hF1).tr hF2).tr hF9) ?_ ?_ ?_ ?_ hB0 hB1 ?_
             · rw [up_j _ _ _ (by decide)]; rw [o2 7 (by decide), a1]
             · rw [up_j _ _ _ (by decide)]; rw [a2]
             · rw [up_at]; have := sR_in hL.2.2.2 l; split <;> omega
             · rw [up_j _ _ _ (by decide)]; rw [o2 10 (by decide), o1 10 (by decide)]; exact h10
             · rw [up_at, o2 9 (by decide), o1 9 (by decide)]; exact hB2)
          | (have hX := o1
             refine l_fbt hd hS1 hL1 hW1 hh hlr (by omega) ?_
             have hF9 : Ff τ1 (upI τ1 85 9 (if τ1.2.1 85 9 < sR K l then sR K l else τ1.2.1 85 9)) := Ff.rf.up (Or.inr (Or.inr (Or.inr ⟨rfl, by decide⟩))) _
             refine ih m1 (i + 1) (rs K n 0 l, i) b1 _ _ _ (by omega) (by omega) (hL1.ff hS1 hW1.1 hF9) (hW1.u85 (by decide) _) ((hF.tr hF1).tr hF9) ?_ ?_ ?_ ?_ hB0 hB1 ?_
             · rw [up_j _ _ _ (by decide)]; rw [a1]
             · rw [up_j _ _ _ (by decide)]; rw [o1 8 (by decide)]; exact h8
             · rw [up_at]; have := sR_in hL.2.2.2 l; split <;> omega
             · rw [up_j _ _ _ (by decide)]; rw [o1 10 (by decide)]; exact h10
             · rw [up_at, o1 9 (by decide)]; exact hB2)
          | (have hX := o3
             refine l_fbt hd hS3 hL3 hW3 hh hlr (by omega) ?_
             have hF9 : Ff τ3 (upI τ3 85 9 (if τ3.2.1 85 9 < sR K l then sR K l else τ3.2.1 85 9)) := Ff.rf.up (Or.inr (Or.inr (Or.inr ⟨rfl, by decide⟩))) _
             refine ih m1 (i + 1) b0 (rs K n 1 l, i) _ _ _ (by omega) (by omega) (hL3.ff hS3 hW3.1 hF9) (hW3.u85 (by decide) _) ((hF.tr hF3).tr hF9) ?_ ?_ ?_ ?_ hB0 hB1 ?_
             · rw [up_j _ _ _ (by decide)]; rw [o3 7 (by decide)]; exact h7
             · rw [up_j _ _ _ (by decide)]; rw [a3]
             · rw [up_at]; have := sR_in hL.2.2.2 l; split <;> omega
             · rw [up_j _ _ _ (by decide)]; rw [o3 10 (by decide)]; exact h10
             · rw [up_at, o3 9 (by decide)]; exact hB2)
          | (refine l_fbt hd hS hL hW hh hlr (by omega) ?_
             have hF9 : Ff τ (upI τ 85 9 (if τ.2.1 85 9 < sR K l then sR K l else τ.2.1 85 9)) := Ff.rf.up (Or.inr (Or.inr (Or.inr ⟨rfl, by decide⟩))) _
             refine ih m1 (i + 1) b0 b1 _ _ _ (by omega) (by omega) (hL.ff hS hW.1 hF9) (hW.u85 (by decide) _) ((hF).tr hF9) ?_ ?_ ?_ ?_ hB0 hB1 ?_
             · rw [up_j _ _ _ (by decide)]; exact h7
             · rw [up_j _ _ _ (by decide)]; exact h8
             · rw [up_at]; have := sR_in hL.2.2.2 l; split <;> omega
             · rw [up_j _ _ _ (by decide)]; exact h10
             · rw [up_at]; exact hB2)
        · skip
          rw [if_pos (by omega)] at hB1
          refine AW_iload dX0_findBests_57 rfl ?_
          refine AW_istore2 dX0_findBests_59 ?_
          refine AW_aload_n dX0_findBests_60 rfl ?_
          refine AW_iload_n dX0_findBests_61 rfl ?_
          refine AW_putI dX0_findBests_62 (Or.inl pfX0_41) (hS.cel rfl) ?_
          have hF3 : Ff τ (upI τ 85 8 (i : Int)) := Ff.rf.up (Or.inr (Or.inr (Or.inr ⟨rfl, by decide⟩))) _
          have hS3 := hF3.sta hS
          have hL3 := hL.ff hS hW.1 hF3
          have hW3 := hW.u85 (j := 8) (by decide) (i : Int)
          have a3 : (upI τ 85 8 (i : Int)).2.1 85 8 = (i : Int) := up_at _ _ _ _
          have o3 : ∀ j, j ≠ 8 → (upI τ 85 8 (i : Int)).2.1 85 j = τ.2.1 85 j := fun j hj => up_j _ _ _ hj
          generalize upI τ 85 8 (i : Int) = τ3 at hF3 hS3 hL3 hW3 a3 o3 ⊢
          first
          | (have hX := o1
             have hY := o2
             refine l_fbt hd hS2 hL2 hW2 hh hlr (by omega) ?_
             have hF9 : Ff τ2 (upI τ2 85 9 (if τ2.2.1 85 9 < sR K l then sR K l else τ2.2.1 85 9)) := Ff.rf.up (Or.inr (Or.inr (Or.inr ⟨rfl, by decide⟩))) _
             refine ih m1 (i + 1) (rs K n 0 l, i) (rs K n 1 l, i) _ _ _ (by omega) (by omega) (hL2.ff hS2 hW2.1 hF9) (hW2.u85 (by decide) _) (((hF.tr hF1).tr hF2).tr hF9) ?_ ?_ ?_ ?_ hB0 hB1 ?_
             · rw [up_j _ _ _ (by decide)]; rw [o2 7 (by decide), a1]
             · rw [up_j _ _ _ (by decide)]; rw [a2]
             · rw [up_at]; have := sR_in hL.2.2.2 l; split <;> omega
             · rw [up_j _ _ _ (by decide)]; rw [o2 10 (by decide), o1 10 (by decide)]; exact h10
             · rw [up_at, o2 9 (by decide), o1 9 (by decide)]; exact hB2)
          | (have hX := o1
             refine l_fbt hd hS1 hL1 hW1 hh hlr (by omega) ?_
             have hF9 : Ff τ1 (upI τ1 85 9 (if τ1.2.1 85 9 < sR K l then sR K l else τ1.2.1 85 9)) := Ff.rf.up (Or.inr (Or.inr (Or.inr ⟨rfl, by decide⟩))) _
             refine ih m1 (i + 1) (rs K n 0 l, i) b1 _ _ _ (by omega) (by omega) (hL1.ff hS1 hW1.1 hF9) (hW1.u85 (by decide) _) ((hF.tr hF1).tr hF9) ?_ ?_ ?_ ?_ hB0 hB1 ?_
             · rw [up_j _ _ _ (by decide)]; rw [a1]
             · rw [up_j _ _ _ (by decide)]; rw [o1 8 (by decide)]; exact h8
             · rw [up_at]; have := sR_in hL.2.2.2 l; split <;> omega
             · rw [up_j _ _ _ (by decide)]; rw [o1 10 (by decide)]; exact h10
             · rw [up_at, o1 9 (by decide)]; exact hB2)
          | (have hX := o3
             refine l_fbt hd hS3 hL3 hW3 hh hlr (by omega) ?_
             have hF9 : Ff τ3 (upI τ3 85 9 (if τ3.2.1 85 9 < sR K l then sR K l else τ3.2.1 85 9)) := Ff.rf.up (Or.inr (Or.inr (Or.inr ⟨rfl, by decide⟩))) _
             refine ih m1 (i + 1) b0 (rs K n 1 l, i) _ _ _ (by omega) (by omega) (hL3.ff hS3 hW3.1 hF9) (hW3.u85 (by decide) _) ((hF.tr hF3).tr hF9) ?_ ?_ ?_ ?_ hB0 hB1 ?_
             · rw [up_j _ _ _ (by decide)]; rw [o3 7 (by decide)]; exact h7
             · rw [up_j _ _ _ (by decide)]; rw [a3]
             · rw [up_at]; have := sR_in hL.2.2.2 l; split <;> omega
             · rw [up_j _ _ _ (by decide)]; rw [o3 10 (by decide)]; exact h10
             · rw [up_at, o3 9 (by decide)]; exact hB2)
          | (refine l_fbt hd hS hL hW hh hlr (by omega) ?_
             have hF9 : Ff τ (upI τ 85 9 (if τ.2.1 85 9 < sR K l then sR K l else τ.2.1 85 9)) := Ff.rf.up (Or.inr (Or.inr (Or.inr ⟨rfl, by decide⟩))) _
             refine ih m1 (i + 1) b0 b1 _ _ _ (by omega) (by omega) (hL.ff hS hW.1 hF9) (hW.u85 (by decide) _) ((hF).tr hF9) ?_ ?_ ?_ ?_ hB0 hB1 ?_
             · rw [up_j _ _ _ (by decide)]; exact h7
             · rw [up_j _ _ _ (by decide)]; exact h8
             · rw [up_at]; have := sR_in hL.2.2.2 l; split <;> omega
             · rw [up_j _ _ _ (by decide)]; exact h10
             · rw [up_at]; exact hB2)
      · skip
        rw [if_pos (by omega)] at hB0
        refine AW_iload dX0_findBests_43 rfl ?_
        refine AW_istore1 dX0_findBests_45 ?_
        refine AW_aload_n dX0_findBests_46 rfl ?_
        refine AW_iload_n dX0_findBests_47 rfl ?_
        refine AW_putI dX0_findBests_48 (Or.inl pfX0_38) (hS.cel rfl) ?_
        have hF1 : Ff τ (upI τ 85 7 (i : Int)) := Ff.rf.up (Or.inr (Or.inr (Or.inr ⟨rfl, by decide⟩))) _
        have hS1 := hF1.sta hS
        have hL1 := hL.ff hS hW.1 hF1
        have hW1 := hW.u85 (j := 7) (by decide) (i : Int)
        have a1 : (upI τ 85 7 (i : Int)).2.1 85 7 = (i : Int) := up_at _ _ _ _
        have o1 : ∀ j, j ≠ 7 → (upI τ 85 7 (i : Int)).2.1 85 j = τ.2.1 85 j := fun j hj => up_j _ _ _ hj
        generalize upI τ 85 7 (i : Int) = τ1 at hF1 hS1 hL1 hW1 a1 o1 ⊢
        first
        | (have hX := c_40
           skip)
        | skip
        refine AW_iload dX0_findBests_51 rfl ?_
        refine AW_iload_n dX0_findBests_53 rfl ?_
        refine AW_icmp_ge (tgt := 65) dX0_findBests_54 (by decide) (fun c_54 => ?_) (fun c_54 => ?_)
        · skip
          rw [if_neg (by omega)] at hB1
          first
          | (have hX := o1
             have hY := o2
             refine l_fbt hd hS2 hL2 hW2 hh hlr (by omega) ?_
             have hF9 : Ff τ2 (upI τ2 85 9 (if τ2.2.1 85 9 < sR K l then sR K l else τ2.2.1 85 9)) := Ff.rf.up (Or.inr (Or.inr (Or.inr ⟨rfl, by decide⟩))) _
             refine ih m1 (i + 1) (rs K n 0 l, i) (rs K n 1 l, i) _ _ _ (by omega) (by omega) (hL2.ff hS2 hW2.1 hF9) (hW2.u85 (by decide) _) (((hF.tr hF1).tr hF2).tr hF9) ?_ ?_ ?_ ?_ hB0 hB1 ?_
             · rw [up_j _ _ _ (by decide)]; rw [o2 7 (by decide), a1]
             · rw [up_j _ _ _ (by decide)]; rw [a2]
             · rw [up_at]; have := sR_in hL.2.2.2 l; split <;> omega
             · rw [up_j _ _ _ (by decide)]; rw [o2 10 (by decide), o1 10 (by decide)]; exact h10
             · rw [up_at, o2 9 (by decide), o1 9 (by decide)]; exact hB2)
          | (have hX := o1
             refine l_fbt hd hS1 hL1 hW1 hh hlr (by omega) ?_
             have hF9 : Ff τ1 (upI τ1 85 9 (if τ1.2.1 85 9 < sR K l then sR K l else τ1.2.1 85 9)) := Ff.rf.up (Or.inr (Or.inr (Or.inr ⟨rfl, by decide⟩))) _
             refine ih m1 (i + 1) (rs K n 0 l, i) b1 _ _ _ (by omega) (by omega) (hL1.ff hS1 hW1.1 hF9) (hW1.u85 (by decide) _) ((hF.tr hF1).tr hF9) ?_ ?_ ?_ ?_ hB0 hB1 ?_
             · rw [up_j _ _ _ (by decide)]; rw [a1]
             · rw [up_j _ _ _ (by decide)]; rw [o1 8 (by decide)]; exact h8
             · rw [up_at]; have := sR_in hL.2.2.2 l; split <;> omega
             · rw [up_j _ _ _ (by decide)]; rw [o1 10 (by decide)]; exact h10
             · rw [up_at, o1 9 (by decide)]; exact hB2)
          | (have hX := o3
             refine l_fbt hd hS3 hL3 hW3 hh hlr (by omega) ?_
             have hF9 : Ff τ3 (upI τ3 85 9 (if τ3.2.1 85 9 < sR K l then sR K l else τ3.2.1 85 9)) := Ff.rf.up (Or.inr (Or.inr (Or.inr ⟨rfl, by decide⟩))) _
             refine ih m1 (i + 1) b0 (rs K n 1 l, i) _ _ _ (by omega) (by omega) (hL3.ff hS3 hW3.1 hF9) (hW3.u85 (by decide) _) ((hF.tr hF3).tr hF9) ?_ ?_ ?_ ?_ hB0 hB1 ?_
             · rw [up_j _ _ _ (by decide)]; rw [o3 7 (by decide)]; exact h7
             · rw [up_j _ _ _ (by decide)]; rw [a3]
             · rw [up_at]; have := sR_in hL.2.2.2 l; split <;> omega
             · rw [up_j _ _ _ (by decide)]; rw [o3 10 (by decide)]; exact h10
             · rw [up_at, o3 9 (by decide)]; exact hB2)
          | (refine l_fbt hd hS hL hW hh hlr (by omega) ?_
             have hF9 : Ff τ (upI τ 85 9 (if τ.2.1 85 9 < sR K l then sR K l else τ.2.1 85 9)) := Ff.rf.up (Or.inr (Or.inr (Or.inr ⟨rfl, by decide⟩))) _
             refine ih m1 (i + 1) b0 b1 _ _ _ (by omega) (by omega) (hL.ff hS hW.1 hF9) (hW.u85 (by decide) _) ((hF).tr hF9) ?_ ?_ ?_ ?_ hB0 hB1 ?_
             · rw [up_j _ _ _ (by decide)]; exact h7
             · rw [up_j _ _ _ (by decide)]; exact h8
             · rw [up_at]; have := sR_in hL.2.2.2 l; split <;> omega
             · rw [up_j _ _ _ (by decide)]; exact h10
             · rw [up_at]; exact hB2)
        · skip
          rw [if_pos (by omega)] at hB1
          refine AW_iload dX0_findBests_57 rfl ?_
          refine AW_istore2 dX0_findBests_59 ?_
          refine AW_aload_n dX0_findBests_60 rfl ?_
          refine AW_iload_n dX0_findBests_61 rfl ?_
          refine AW_putI dX0_findBests_62 (Or.inl pfX0_41) (hS1.cel rfl) ?_
          have hF2 : Ff τ1 (upI τ1 85 8 (i : Int)) := Ff.rf.up (Or.inr (Or.inr (Or.inr ⟨rfl, by decide⟩))) _
          have hS2 := hF2.sta hS1
          have hL2 := hL1.ff hS1 hW1.1 hF2
          have hW2 := hW1.u85 (j := 8) (by decide) (i : Int)
          have a2 : (upI τ1 85 8 (i : Int)).2.1 85 8 = (i : Int) := up_at _ _ _ _
          have o2 : ∀ j, j ≠ 8 → (upI τ1 85 8 (i : Int)).2.1 85 j = τ1.2.1 85 j := fun j hj => up_j _ _ _ hj
          generalize upI τ1 85 8 (i : Int) = τ2 at hF2 hS2 hL2 hW2 a2 o2 ⊢
          first
          | (have hX := o1
             have hY := o2
             refine l_fbt hd hS2 hL2 hW2 hh hlr (by omega) ?_
             have hF9 : Ff τ2 (upI τ2 85 9 (if τ2.2.1 85 9 < sR K l then sR K l else τ2.2.1 85 9)) := Ff.rf.up (Or.inr (Or.inr (Or.inr ⟨rfl, by decide⟩))) _
             refine ih m1 (i + 1) (rs K n 0 l, i) (rs K n 1 l, i) _ _ _ (by omega) (by omega) (hL2.ff hS2 hW2.1 hF9) (hW2.u85 (by decide) _) (((hF.tr hF1).tr hF2).tr hF9) ?_ ?_ ?_ ?_ hB0 hB1 ?_
             · rw [up_j _ _ _ (by decide)]; rw [o2 7 (by decide), a1]
             · rw [up_j _ _ _ (by decide)]; rw [a2]
             · rw [up_at]; have := sR_in hL.2.2.2 l; split <;> omega
             · rw [up_j _ _ _ (by decide)]; rw [o2 10 (by decide), o1 10 (by decide)]; exact h10
             · rw [up_at, o2 9 (by decide), o1 9 (by decide)]; exact hB2)
          | (have hX := o1
             refine l_fbt hd hS1 hL1 hW1 hh hlr (by omega) ?_
             have hF9 : Ff τ1 (upI τ1 85 9 (if τ1.2.1 85 9 < sR K l then sR K l else τ1.2.1 85 9)) := Ff.rf.up (Or.inr (Or.inr (Or.inr ⟨rfl, by decide⟩))) _
             refine ih m1 (i + 1) (rs K n 0 l, i) b1 _ _ _ (by omega) (by omega) (hL1.ff hS1 hW1.1 hF9) (hW1.u85 (by decide) _) ((hF.tr hF1).tr hF9) ?_ ?_ ?_ ?_ hB0 hB1 ?_
             · rw [up_j _ _ _ (by decide)]; rw [a1]
             · rw [up_j _ _ _ (by decide)]; rw [o1 8 (by decide)]; exact h8
             · rw [up_at]; have := sR_in hL.2.2.2 l; split <;> omega
             · rw [up_j _ _ _ (by decide)]; rw [o1 10 (by decide)]; exact h10
             · rw [up_at, o1 9 (by decide)]; exact hB2)
          | (have hX := o3
             refine l_fbt hd hS3 hL3 hW3 hh hlr (by omega) ?_
             have hF9 : Ff τ3 (upI τ3 85 9 (if τ3.2.1 85 9 < sR K l then sR K l else τ3.2.1 85 9)) := Ff.rf.up (Or.inr (Or.inr (Or.inr ⟨rfl, by decide⟩))) _
             refine ih m1 (i + 1) b0 (rs K n 1 l, i) _ _ _ (by omega) (by omega) (hL3.ff hS3 hW3.1 hF9) (hW3.u85 (by decide) _) ((hF.tr hF3).tr hF9) ?_ ?_ ?_ ?_ hB0 hB1 ?_
             · rw [up_j _ _ _ (by decide)]; rw [o3 7 (by decide)]; exact h7
             · rw [up_j _ _ _ (by decide)]; rw [a3]
             · rw [up_at]; have := sR_in hL.2.2.2 l; split <;> omega
             · rw [up_j _ _ _ (by decide)]; rw [o3 10 (by decide)]; exact h10
             · rw [up_at, o3 9 (by decide)]; exact hB2)
          | (refine l_fbt hd hS hL hW hh hlr (by omega) ?_
             have hF9 : Ff τ (upI τ 85 9 (if τ.2.1 85 9 < sR K l then sR K l else τ.2.1 85 9)) := Ff.rf.up (Or.inr (Or.inr (Or.inr ⟨rfl, by decide⟩))) _
             refine ih m1 (i + 1) b0 b1 _ _ _ (by omega) (by omega) (hL.ff hS hW.1 hF9) (hW.u85 (by decide) _) ((hF).tr hF9) ?_ ?_ ?_ ?_ hB0 hB1 ?_
             · rw [up_j _ _ _ (by decide)]; exact h7
             · rw [up_j _ _ _ (by decide)]; exact h8
             · rw [up_at]; have := sR_in hL.2.2.2 l; split <;> omega
             · rw [up_j _ _ _ (by decide)]; exact h10
             · rw [up_at]; exact hB2)
theorem k_findBests {G : Gt} {d : Nat} {σ : St} {n hc N : Nat} {K : Nat → Int} {H : List (List Nat)} (hd : 4 ≤ d) (hS : Sta σ) (hL : LkC n K σ) (hW : RwC hc N H σ) (hr : ∀ l, l ∈ H → l ∈ rowsN n) (g7 : 0 ≤ σ.2.1 85 7 ∧ 0 ≤ σ.2.1 85 8) : AM mX0_findBests G d 0 0 [vR 85] σ (fun ro ρ => ro = none ∧ RwC hc N H ρ ∧ LkC n K ρ ∧ Ff σ ρ ∧ ρ.2.1 85 7 = ((bsi (rs K n 0) H 0 (49, (σ.2.1 85 7).toNat)).2 : Int) ∧ ρ.2.1 85 8 = ((bsi (rs K n 1) H 0 (49, (σ.2.1 85 8).toNat)).2 : Int) ∧ ρ.2.1 85 9 = mxR (sR K) H 0 ∧ ρ.2.1 85 10 = σ.2.1 85 10) := by
  refine AM.intro (by decide +kernel) (by simp [nLg]) (Nat.le_of_ble_eq_true rfl) (fun hO => ?_)
  show AW _ _ _ _ _ _ 0 [some (vR 85), none, none, none, none, none] [] σ
  refine AW_bipush dX0_findBests_0 ?_
  refine AW_istore1 dX0_findBests_2 ?_
  refine AW_bipush dX0_findBests_3 ?_
  refine AW_istore2 dX0_findBests_5 ?_
  refine AW_aload_n dX0_findBests_6 rfl ?_
  refine AW_iconst dX0_findBests_7 ?_
  refine AW_putI dX0_findBests_8 (Or.inl pfX0_44) (hS.cel rfl) ?_
  refine AW_iconst dX0_findBests_11 ?_
  refine AW_istore3 dX0_findBests_12 ?_
  have hF1 : Ff σ (upI σ 85 9 0) := Ff.rf.up (Or.inr (Or.inr (Or.inr ⟨rfl, by decide⟩))) _
  refine AW_mq (fun r τ q => ?_) (l_fb (F0 := bsi (rs K n 0) H 0 (49, (σ.2.1 85 7).toNat)) (F1 := bsi (rs K n 1) H 0 (49, (σ.2.1 85 8).toNat)) (g := mxR (sR K) H 0) hd hS hr (H.length + 1) H.length 0 (49, (σ.2.1 85 7).toNat) (49, (σ.2.1 85 8).toNat) none none _ (by omega) (by omega) (hL.ff hS hW.1 hF1) (hW.u85 (by decide) _) hF1 (by rw [up_j _ _ _ (by decide)]; show _ = ((σ.2.1 85 7).toNat : Int); omega) (by rw [up_j _ _ _ (by decide)]; show _ = ((σ.2.1 85 8).toNat : Int); omega) (by rw [up_at]; decide) (by rw [up_j _ _ _ (by decide)]) (by rw [List.drop_zero]) (by rw [List.drop_zero]) (by rw [List.drop_zero, up_at]))
  exact q
