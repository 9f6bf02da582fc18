noncomputable def ivL (n : Nat) (l : List Nat) : Nat → Nat := if h : l ∈ rowsN n then Classical.choose (inv_ex h) else fun _ => 0
theorem ivL_ok {n : Nat} {l : List Nat} (h : l ∈ rowsN n) : (∀ w, w < n → ivL n l w < n ∧ l.getD (ivL n l w) 0 = w) ∧ ∀ m, m < n → ivL n l (l.getD m 0) = m := by
  unfold ivL
  rw [dif_pos h]
  exact Classical.choose_spec (inv_ex h)
/-- whom one of a side has in a row -/
noncomputable def bbR (n s : Nat) (l : List Nat) (k : Nat) : Nat := if s = 0 then l.getD k 0 else ivL n l k
theorem bbR_lt {n s k : Nat} {l : List Nat} (h : l ∈ rowsN n) (hk : k < n) : bbR n s l k < n := by
  obtain ⟨r1, r2⟩ := rows_iff.mp h
  unfold bbR
  split
  · exact r1.lt (by omega)
  · exact ((ivL_ok h).1 k hk).1
def OptS (K : Nat → Int) (n s : Nat) (o : List Nat) : Prop := (s = 0 ∧ Opt0 K n o) ∨ (s = 1 ∧ Opt1 K n o)
theorem optS_ex (K : Nat → Int) (n : Nat) {s : Nat} (hs : s < 2) : ∃ o, OptS K n s o := by
  by_cases h : s = 0
  · obtain ⟨o, ho⟩ := opt0_ex K n
    exact ⟨o, Or.inl ⟨h, ho⟩⟩
  · obtain ⟨o, ho⟩ := opt1_ex K n
    exact ⟨o, Or.inr ⟨by omega, ho⟩⟩
theorem OptS.mem {K : Nat → Int} {n s : Nat} {o : List Nat} (h : OptS K n s o) : o ∈ heldL K n := h.elim (fun q => q.2.1) (fun q => q.2.1)
theorem opt_beats {K : Nat → Int} {n s : Nat} {o l : List Nat} (ho : OptS K n s o) (hl : l ∈ heldL K n) : ∀ k, k < n → ¬ more K s k (bbR n s l k) (bbR n s o k) := by
  intro k hk
  rcases ho with ⟨rfl, q⟩ | ⟨rfl, q⟩
  · exact q.2 l hl k hk
  · unfold bbR
    rw [if_neg (by decide), if_neg (by decide)]
    obtain ⟨a1, a2⟩ := (ivL_ok (held_iff.mp hl).1).1 k hk
    obtain ⟨b1, b2⟩ := (ivL_ok (held_iff.mp q.1).1).1 k hk
    have h := q.2 l hl (ivL n l k) (ivL n o k) a1 b1 (by rw [a2, b2])
    rw [b2] at h
    exact h
theorem opt_only {K : Nat → Int} {n s : Nat} {o l : List Nat} (ho : OptS K n s o) (hl : l ∈ heldL K n) (h : ∀ k, k < n → ¬ more K s k (bbR n s o k) (bbR n s l k)) : l = o := by
  have hb := opt_beats ho hl
  have hom := ho.mem
  have he : ∀ k, k < n → bbR n s l k = bbR n s o k := by
    intro k hk
    by_cases hc : bbR n s l k = bbR n s o k
    · exact hc
    · rcases ((more_ord K s n) k hk).2.2 _ _ hc with q | q
      · exact absurd q (hb k hk)
      · exact absurd q (h k hk)
  refine row_ext (held_len hl) (held_len hom) (fun i hi => ?_)
  by_cases hs : s = 0
  · have := he i hi
    unfold bbR at this
    rw [if_pos hs, if_pos hs] at this
    exact this
  · have hlr := (held_iff.mp hl).1
    have hor := (held_iff.mp hom).1
    obtain ⟨r1, r2⟩ := rows_iff.mp hlr
    have h1 := he (l.getD i 0) (r1.lt (by omega))
    unfold bbR at h1
    rw [if_neg hs, if_neg hs, (ivL_ok hlr).2 i hi] at h1
    have h2 := ((ivL_ok hor).1 (l.getD i 0) (r1.lt (by omega))).2
    rw [← h1] at h2
    exact h2.symm
theorem n_woman {G : Gt} {d : Nat} {σ : St} {n : Nat} {K : Nat → Int} {H : List (List Nat)} (hS : Sta σ) (hL : LkM n K σ) (hH : HeM H n σ) (hN : H.length ≤ 5040) (h0 m0 : Int) (h m : Nat) {l : List Nat} (e1 : h0 = h) (e2 : m0 = m) (hh : H[h]? = some l) (hm : m < n) : AM mX12_womanAt G d 0 0 [vR 94, vI h0, vI m0] σ (fun r τ => τ = σ ∧ r = some (vI (l.getD m 0 : Int))) := by
  have h7 := hL.2.1
  have hlt := (List.getElem?_eq_some_iff.mp hh).1
  refine AM.intro (by decide +kernel) (by simp [nLg]) (Nat.le_of_ble_eq_true rfl) (fun hO => ?_)
  show AW _ _ _ _ _ _ 0 [some (vR 94), some (vI h0), some (vI m0)] [] σ
  refine AW_aload_n dX12_womanAt_0 rfl ?_
  refine AW_getR (a := 127) dX12_womanAt_1 gfX12_127 (hS.cel rfl) (hS.rf rfl) ?_
  refine AW_bipush dX12_womanAt_4 ?_
  refine AW_iload_n dX12_womanAt_6 rfl ?_
  refine AW_imulE dX12_womanAt_7 (by omega) (by omega) ?_
  refine AW_iload_n dX12_womanAt_8 rfl ?_
  refine AW_iaddE dX12_womanAt_9 (by omega) (by omega) ?_
  refine AW_iald dX12_womanAt_10 (hS.cel rfl) (by omega) (by omega) ?_
  refine AW_iret dX12_womanAt_11 rfl ?_
  exact ⟨rfl, by rw [show (7 * h0 + m0).toNat = 7 * h + m by omega, hH.2 h l hh m hm]⟩
theorem ln_man {G : Gt} {d : Nat} {σ : St} (hd : 1 ≤ d) {n : Nat} {K : Nat → Int} {H : List (List Nat)} (hS : Sta σ) (hL : LkM n K σ) (hH : HeM H n σ) (hN : H.length ≤ 5040) {h w : Nat} {l : List Nat} (hh : H[h]? = some l) (hr : l ∈ rowsN n) (hw : w < n) : ∀ (nn : Nat) (q m : Nat), q < nn → m + q = ivL n l w →  AW mX12_manAt G d 0 0 (mq G (fun ro ρ => ρ = σ ∧ ro = some (vI (ivL n l w : Int)))) 2 [some (vR 94), some (vI (h : Int)), some (vI (w : Int)), some (vI (m : Int))] [] σ := by
  intro nn
  induction nn with
  | zero => intros; omega
  | succ nn ih =>
    intro q m hn hq
    have h7 := hL.2.1
    obtain ⟨a1, a2⟩ := (ivL_ok hr).1 w hw
    refine AW_aload_n dX12_manAt_2 rfl ?_
    refine AW_iload_n dX12_manAt_3 rfl ?_
    refine AW_iload_n dX12_manAt_4 rfl ?_
    refine AW_callV2 (d' := d - 1) dX12_manAt_5 (Or.inl lkX12_419) mfX12_womanAt (hS.cel rfl) ⟨_, rfl, rfl⟩ (n_woman hS hL hH hN _ _ h m rfl rfl hh (by omega)) (by omega) (Nat.le_of_ble_eq_true rfl) ?_
    rintro _ _ ⟨e_, rfl⟩ -
    rw [e_]
    clear e_
    refine AW_iload_n dX12_manAt_8 rfl ?_
    refine AW_icmp_eq (tgt := 19) dX12_manAt_9 (by decide) (fun c_9 => ?_) (fun c_9 => ?_)
    · skip
      have e := (ivL_ok hr).2 m (by omega)
      rw [show l.getD m 0 = w by omega] at e
      refine AW_iload_n dX12_manAt_19 rfl ?_
      refine AW_iret dX12_manAt_20 rfl ?_
      exact ⟨rfl, by rw [e]⟩
    · skip
      have hne : m ≠ ivL n l w := fun q => c_9 (by rw [q, a2])
      obtain ⟨q1, rfl⟩ : ∃ q1, q = q1 + 1 := ⟨q - 1, by omega⟩
      refine AW_iload_n dX12_manAt_12 rfl ?_
      refine AW_iconst dX12_manAt_13 ?_
      refine AW_iaddE dX12_manAt_14 (by omega) (by omega) ?_
      refine AW_istore3 dX12_manAt_15 ?_
      refine AW_goto (tgt := 2) dX12_manAt_16 (by decide) ?_
      rw [show (m : Int) + 1 = ((m + 1 : Nat) : Int) by omega]
      exact ih q1 (m + 1) (by omega) (by omega)
theorem n_man {G : Gt} {d : Nat} {σ : St} (hd : 1 ≤ d) {n : Nat} {K : Nat → Int} {H : List (List Nat)} (hS : Sta σ) (hL : LkM n K σ) (hH : HeM H n σ) (hN : H.length ≤ 5040) (h0 w0 : Int) (h w : Nat) {l : List Nat} (e1 : h0 = h) (e2 : w0 = w) (hh : H[h]? = some l) (hr : l ∈ rowsN n) (hw : w < n) : AM mX12_manAt G d 0 0 [vR 94, vI h0, vI w0] σ (fun ro ρ => ρ = σ ∧ ro = some (vI (ivL n l w : Int))) := by
  subst e1
  subst e2
  refine AM.intro (by decide +kernel) (by simp [nLg]) (Nat.le_of_ble_eq_true rfl) (fun hO => ?_)
  show AW _ _ _ _ _ _ 0 [some (vR 94), some (vI (h : Int)), some (vI (w : Int)), none] [] σ
  refine AW_iconst dX12_manAt_0 ?_
  refine AW_istore3 dX12_manAt_1 ?_
  exact ln_man hd hS hL hH hN hh hr hw (ivL n l w + 1) (ivL n l w) 0 (by omega) (by omega)
theorem ln_bst {G : Gt} {d : Nat} {σ : St} (hd : 2 ≤ d) {n : Nat} {K : Nat → Int} {H : List (List Nat)} (hS : Sta σ) (hL : LkM n K σ) (hH : HeM H n σ) (hN : H.length ≤ 5040) {s h t : Nat} {l l2 : List Nat} (hs : s < 2) (hh : H[h]? = some l) (hr : l ∈ rowsN n) (ht : H[t]? = some l2) (hr2 : l2 ∈ rowsN n) : ∀ (nn : Nat) (q k : Nat) (x5 x6 : Option AV), q < nn → k + q = n → (∀ x, x < k → ¬ more K s x (bbR n s l2 x) (bbR n s l x)) →  AW mX12_isBestFor G d 0 0 (mq G (fun ro ρ => ρ = σ ∧ ∃ z : Int, ro = some (vI z) ∧ ((z = 1 ∧ ∀ k, k < n → ¬ more K s k (bbR n s l2 k) (bbR n s l k)) ∨ (z = 0 ∧ ¬ ∀ k, k < n → ¬ more K s k (bbR n s l2 k) (bbR n s l k))))) 3 [some (vR 94), some (vI (s : Int)), some (vI (h : Int)), some (vI (t : Int)), some (vI (k : Int)), x5, x6] [] σ := by
  intro nn
  induction nn with
  | zero => intros; omega
  | succ nn ih =>
    intro q k x5 x6 hn hk hq
    have h7 := hL.2.1
    have h62 := hL.1
    refine AW_iload dX12_isBestFor_3 rfl ?_
    refine AW_aload_n dX12_isBestFor_5 rfl ?_
    refine AW_getI dX12_isBestFor_6 gfX12_117 (hS.cel rfl) ?_
    refine AW_icmp_ge (tgt := 80) dX12_isBestFor_9 (by decide) (fun c_9 => ?_) (fun c_9 => ?_)
    · skip
      have hm : k = n := by omega
      subst hm
      refine AW_iconst dX12_isBestFor_80 ?_
      refine AW_zret dX12_isBestFor_81 rfl (by decide) ?_
      exact ⟨rfl, 1, rfl, Or.inl ⟨rfl, hq⟩⟩
    · skip
      obtain ⟨q1, rfl⟩ : ∃ q1, q = q1 + 1 := ⟨q - 1, by omega⟩
      have hkn : k < n := by omega
      have b1 := bbR_lt (s := s) hr hkn
      have b2 := bbR_lt (s := s) hr2 hkn
      refine AW_iload_n dX12_isBestFor_12 rfl ?_
      refine AW_if_ne (tgt := 26) dX12_isBestFor_13 (by decide) (fun c_13 => ?_) (fun c_13 => ?_)
      · skip
        refine AW_aload_n dX12_isBestFor_26 rfl ?_
        refine AW_iload_n dX12_isBestFor_27 rfl ?_
        refine AW_iload dX12_isBestFor_28 rfl ?_
        refine AW_callV2 (d' := d - 1) dX12_isBestFor_30 (Or.inl lkX12_422) mfX12_manAt (hS.cel rfl) ⟨_, rfl, rfl⟩ (n_man (by omega) hS hL hH hN _ _ h k rfl rfl hh hr hkn) (by omega) (Nat.le_of_ble_eq_true rfl) ?_
        rintro _ _ ⟨e_, rfl⟩ -
        rw [e_]
        clear e_
        rw [show ivL n l k = bbR n s l k by unfold bbR; rw [if_neg (by omega)]]
        refine AW_istore5 dX12_isBestFor_33 ?_
        refine AW_iload_n dX12_isBestFor_35 rfl ?_
        refine AW_if_ne (tgt := 49) dX12_isBestFor_36 (by decide) (fun c_36 => ?_) (fun c_36 => ?_)
        · skip
          first
          | (exfalso; omega; done)
          | ( skip
              refine AW_aload_n dX12_isBestFor_49 rfl ?_
              refine AW_iload_n dX12_isBestFor_50 rfl ?_
              refine AW_iload dX12_isBestFor_51 rfl ?_
              refine AW_callV2 (d' := d - 1) dX12_isBestFor_53 (Or.inl lkX12_422) mfX12_manAt (hS.cel rfl) ⟨_, rfl, rfl⟩ (n_man (by omega) hS hL hH hN _ _ t k rfl rfl ht hr2 hkn) (by omega) (Nat.le_of_ble_eq_true rfl) ?_
              rintro _ _ ⟨e_, rfl⟩ -
              rw [e_]
              clear e_
              rw [show ivL n l2 k = bbR n s l2 k by unfold bbR; rw [if_neg (by omega)]]
              refine AW_istore6 dX12_isBestFor_56 ?_
              refine AW_aload_n dX12_isBestFor_58 rfl ?_
              refine AW_iload_n dX12_isBestFor_59 rfl ?_
              refine AW_iload dX12_isBestFor_60 rfl ?_
              refine AW_iload dX12_isBestFor_62 rfl ?_
              refine AW_iload dX12_isBestFor_64 rfl ?_
              refine AW_callV4 (d' := d - 1) dX12_isBestFor_66 (Or.inl lkX12_386) mfX12_isMore (hS.cel rfl) ⟨_, rfl, rfl⟩ (n_isMore hS hL _ _ _ _ s k (bbR n s l2 k) (bbR n s l k) rfl rfl rfl rfl hs hkn b2 b1) (by omega) (Nat.le_of_ble_eq_true rfl) ?_
              rintro _ _ ⟨e_, rfl⟩ -
              rw [e_]
              clear e_
              refine AW_if_eq (tgt := 74) dX12_isBestFor_69 (by decide) (fun c_69 => ?_) (fun c_69 => ?_)
              · skip
                replace c_69 := bz0 c_69
                refine AW_iincE4 dX12_isBestFor_74 (by omega) (by omega) ?_
                refine AW_goto (tgt := 3) dX12_isBestFor_77 (by decide) ?_
                rw [show (k : Int) + 1 = ((k + 1 : Nat) : Int) by omega]
                refine ih q1 (k + 1) _ _ (by omega) (by omega) (fun x hx => ?_)
                by_cases hc : x = k
                · rw [hc]; exact c_69
                · exact hq x (by omega)
              · skip
                replace c_69 := bz1 c_69
                refine AW_iconst dX12_isBestFor_72 ?_
                refine AW_zret dX12_isBestFor_73 rfl (by decide) ?_
                exact ⟨rfl, 0, rfl, Or.inr ⟨rfl, fun q => q k hkn c_69⟩⟩)
        · skip
          first
          | (exfalso; omega; done)
          | ( skip
              refine AW_aload_n dX12_isBestFor_39 rfl ?_
              refine AW_iload_n dX12_isBestFor_40 rfl ?_
              refine AW_iload dX12_isBestFor_41 rfl ?_
              refine AW_callV2 (d' := d - 1) dX12_isBestFor_43 (Or.inl lkX12_419) mfX12_womanAt (hS.cel rfl) ⟨_, rfl, rfl⟩ (n_woman hS hL hH hN _ _ t k rfl rfl ht hkn) (by omega) (Nat.le_of_ble_eq_true rfl) ?_
              rintro _ _ ⟨e_, rfl⟩ -
              rw [e_]
              clear e_
              rw [show l2.getD k 0 = bbR n s l2 k by unfold bbR; rw [if_pos (by omega)]]
              refine AW_goto (tgt := 56) dX12_isBestFor_46 (by decide) ?_
              refine AW_istore6 dX12_isBestFor_56 ?_
              refine AW_aload_n dX12_isBestFor_58 rfl ?_
              refine AW_iload_n dX12_isBestFor_59 rfl ?_
              refine AW_iload dX12_isBestFor_60 rfl ?_
              refine AW_iload dX12_isBestFor_62 rfl ?_
              refine AW_iload dX12_isBestFor_64 rfl ?_
              refine AW_callV4 (d' := d - 1) dX12_isBestFor_66 (Or.inl lkX12_386) mfX12_isMore (hS.cel rfl) ⟨_, rfl, rfl⟩ (n_isMore hS hL _ _ _ _ s k (bbR n s l2 k) (bbR n s l k) rfl rfl rfl rfl hs hkn b2 b1) (by omega) (Nat.le_of_ble_eq_true rfl) ?_
              rintro _ _ ⟨e_, rfl⟩ -
              rw [e_]
              clear e_
              refine AW_if_eq (tgt := 74) dX12_isBestFor_69 (by decide) (fun c_69 => ?_) (fun c_69 => ?_)
              · skip
                replace c_69 := bz0 c_69
                refine AW_iincE4 dX12_isBestFor_74 (by omega) (by omega) ?_
                refine AW_goto (tgt := 3) dX12_isBestFor_77 (by decide) ?_
                rw [show (k : Int) + 1 = ((k + 1 : Nat) : Int) by omega]
                refine ih q1 (k + 1) _ _ (by omega) (by omega) (fun x hx => ?_)
                by_cases hc : x = k
                · rw [hc]; exact c_69
                · exact hq x (by omega)
              · skip
                replace c_69 := bz1 c_69
                refine AW_iconst dX12_isBestFor_72 ?_
                refine AW_zret dX12_isBestFor_73 rfl (by decide) ?_
                exact ⟨rfl, 0, rfl, Or.inr ⟨rfl, fun q => q k hkn c_69⟩⟩)
      · skip
        refine AW_aload_n dX12_isBestFor_16 rfl ?_
        refine AW_iload_n dX12_isBestFor_17 rfl ?_
        refine AW_iload dX12_isBestFor_18 rfl ?_
        refine AW_callV2 (d' := d - 1) dX12_isBestFor_20 (Or.inl lkX12_419) mfX12_womanAt (hS.cel rfl) ⟨_, rfl, rfl⟩ (n_woman hS hL hH hN _ _ h k rfl rfl hh hkn) (by omega) (Nat.le_of_ble_eq_true rfl) ?_
        rintro _ _ ⟨e_, rfl⟩ -
        rw [e_]
        clear e_
        rw [show l.getD k 0 = bbR n s l k by unfold bbR; rw [if_pos (by omega)]]
        refine AW_goto (tgt := 33) dX12_isBestFor_23 (by decide) ?_
        refine AW_istore5 dX12_isBestFor_33 ?_
        refine AW_iload_n dX12_isBestFor_35 rfl ?_
        refine AW_if_ne (tgt := 49) dX12_isBestFor_36 (by decide) (fun c_36 => ?_) (fun c_36 => ?_)
        · skip
          first
          | (exfalso; omega; done)
          | ( skip
              refine AW_aload_n dX12_isBestFor_49 rfl ?_
              refine AW_iload_n dX12_isBestFor_50 rfl ?_
              refine AW_iload dX12_isBestFor_51 rfl ?_
              refine AW_callV2 (d' := d - 1) dX12_isBestFor_53 (Or.inl lkX12_422) mfX12_manAt (hS.cel rfl) ⟨_, rfl, rfl⟩ (n_man (by omega) hS hL hH hN _ _ t k rfl rfl ht hr2 hkn) (by omega) (Nat.le_of_ble_eq_true rfl) ?_
              rintro _ _ ⟨e_, rfl⟩ -
              rw [e_]
              clear e_
              rw [show ivL n l2 k = bbR n s l2 k by unfold bbR; rw [if_neg (by omega)]]
              refine AW_istore6 dX12_isBestFor_56 ?_
              refine AW_aload_n dX12_isBestFor_58 rfl ?_
              refine AW_iload_n dX12_isBestFor_59 rfl ?_
              refine AW_iload dX12_isBestFor_60 rfl ?_
              refine AW_iload dX12_isBestFor_62 rfl ?_
              refine AW_iload dX12_isBestFor_64 rfl ?_
              refine AW_callV4 (d' := d - 1) dX12_isBestFor_66 (Or.inl lkX12_386) mfX12_isMore (hS.cel rfl) ⟨_, rfl, rfl⟩ (n_isMore hS hL _ _ _ _ s k (bbR n s l2 k) (bbR n s l k) rfl rfl rfl rfl hs hkn b2 b1) (by omega) (Nat.le_of_ble_eq_true rfl) ?_
              rintro _ _ ⟨e_, rfl⟩ -
              rw [e_]
              clear e_
              refine AW_if_eq (tgt := 74) dX12_isBestFor_69 (by decide) (fun c_69 => ?_) (fun c_69 => ?_)
              · skip
                replace c_69 := bz0 c_69
                refine AW_iincE4 dX12_isBestFor_74 (by omega) (by omega) ?_
                refine AW_goto (tgt := 3) dX12_isBestFor_77 (by decide) ?_
                rw [show (k : Int) + 1 = ((k + 1 : Nat) : Int) by omega]
                refine ih q1 (k + 1) _ _ (by omega) (by omega) (fun x hx => ?_)
                by_cases hc : x = k
                · rw [hc]; exact c_69
                · exact hq x (by omega)
              · skip
                replace c_69 := bz1 c_69
                refine AW_iconst dX12_isBestFor_72 ?_
                refine AW_zret dX12_isBestFor_73 rfl (by decide) ?_
                exact ⟨rfl, 0, rfl, Or.inr ⟨rfl, fun q => q k hkn c_69⟩⟩)
        · skip
          first
          | (exfalso; omega; done)
          | ( skip
              refine AW_aload_n dX12_isBestFor_39 rfl ?_
              refine AW_iload_n dX12_isBestFor_40 rfl ?_
              refine AW_iload dX12_isBestFor_41 rfl ?_
              refine AW_callV2 (d' := d - 1) dX12_isBestFor_43 (Or.inl lkX12_419) mfX12_womanAt (hS.cel rfl) ⟨_, rfl, rfl⟩ (n_woman hS hL hH hN _ _ t k rfl rfl ht hkn) (by omega) (Nat.le_of_ble_eq_true rfl) ?_
              rintro _ _ ⟨e_, rfl⟩ -
              rw [e_]
              clear e_
              rw [show l2.getD k 0 = bbR n s l2 k by unfold bbR; rw [if_pos (by omega)]]
              refine AW_goto (tgt := 56) dX12_isBestFor_46 (by decide) ?_
              refine AW_istore6 dX12_isBestFor_56 ?_
              refine AW_aload_n dX12_isBestFor_58 rfl ?_
              refine AW_iload_n dX12_isBestFor_59 rfl ?_
              refine AW_iload dX12_isBestFor_60 rfl ?_
              refine AW_iload dX12_isBestFor_62 rfl ?_
              refine AW_iload dX12_isBestFor_64 rfl ?_
              refine AW_callV4 (d' := d - 1) dX12_isBestFor_66 (Or.inl lkX12_386) mfX12_isMore (hS.cel rfl) ⟨_, rfl, rfl⟩ (n_isMore hS hL _ _ _ _ s k (bbR n s l2 k) (bbR n s l k) rfl rfl rfl rfl hs hkn b2 b1) (by omega) (Nat.le_of_ble_eq_true rfl) ?_
              rintro _ _ ⟨e_, rfl⟩ -
              rw [e_]
              clear e_
              refine AW_if_eq (tgt := 74) dX12_isBestFor_69 (by decide) (fun c_69 => ?_) (fun c_69 => ?_)
              · skip
                replace c_69 := bz0 c_69
                refine AW_iincE4 dX12_isBestFor_74 (by omega) (by omega) ?_
                refine AW_goto (tgt := 3) dX12_isBestFor_77 (by decide) ?_
                rw [show (k : Int) + 1 = ((k + 1 : Nat) : Int) by omega]
                refine ih q1 (k + 1) _ _ (by omega) (by omega) (fun x hx => ?_)
                by_cases hc : x = k
                · rw [hc]; exact c_69
                · exact hq x (by omega)
              · skip
                replace c_69 := bz1 c_69
                refine AW_iconst dX12_isBestFor_72 ?_
                refine AW_zret dX12_isBestFor_73 rfl (by decide) ?_
                exact ⟨rfl, 0, rfl, Or.inr ⟨rfl, fun q => q k hkn c_69⟩⟩)
theorem n_bst {G : Gt} {d : Nat} {σ : St} (hd : 2 ≤ d) {n : Nat} {K : Nat → Int} {H : List (List Nat)} (hS : Sta σ) (hL : LkM n K σ) (hH : HeM H n σ) (hN : H.length ≤ 5040) {s h t : Nat} {l l2 : List Nat} (hs : s < 2) (hh : H[h]? = some l) (hr : l ∈ rowsN n) (ht : H[t]? = some l2) (hr2 : l2 ∈ rowsN n) (s0 h0 t0 : Int) (e1 : s0 = s) (e2 : h0 = h) (e3 : t0 = t) : AM mX12_isBestFor G d 0 0 [vR 94, vI s0, vI h0, vI t0] σ (fun ro ρ => ρ = σ ∧ ∃ z : Int, ro = some (vI z) ∧ ((z = 1 ∧ ∀ k, k < n → ¬ more K s k (bbR n s l2 k) (bbR n s l k)) ∨ (z = 0 ∧ ¬ ∀ k, k < n → ¬ more K s k (bbR n s l2 k) (bbR n s l k)))) := by
  subst e1
  subst e2
  subst e3
  refine AM.intro (by decide +kernel) (by simp [nLg]) (Nat.le_of_ble_eq_true rfl) (fun hO => ?_)
  show AW _ _ _ _ _ _ 0 [some (vR 94), some (vI (s : Int)), some (vI (h : Int)), some (vI (t : Int)), none, none, none] [] σ
  refine AW_iconst dX12_isBestFor_0 ?_
  refine AW_istore4 dX12_isBestFor_1 ?_
  exact ln_bst hd hS hL hH hN hs hh hr ht hr2 (n + 1) n 0 none none (by omega) (by omega) (fun x hx => absurd hx (Nat.not_lt_zero x))
theorem ln_bo {G : Gt} {d : Nat} {σ : St} (hd : 3 ≤ d) {n : Nat} {K : Nat → Int} (hS : Sta σ) (hL : LkM n K σ) (hH : HeM (heldL K n) n σ) (hN : (heldL K n).length ≤ 5040) {s : Nat} (hs : s < 2) {o : List Nat} (ho : OptS K n s o) : ∀ (nn : Nat) (q h b : Nat), q < nn → h + q = (heldL K n).length → b < (heldL K n).length → ((∃ j, j < h ∧ (heldL K n)[j]? = some o) → (heldL K n)[b]? = some o) →  AW mX12_bestOf G d 0 0 (mq G (fun ro ρ => ρ = σ ∧ ∃ b : Nat, ro = some (vI (b : Int)) ∧ (heldL K n)[b]? = some o)) 4 [some (vR 94), some (vI (s : Int)), some (vI (b : Int)), some (vI (h : Int))] [] σ := by
  intro nn
  induction nn with
  | zero => intros; omega
  | succ nn ih =>
    intro q h b hn hh hb hq
    have h67 := hH.1
    obtain ⟨lb, hlb⟩ : ∃ lb, (heldL K n)[b]? = some lb := ⟨_, List.getElem?_eq_getElem hb⟩
    have hmb := List.mem_of_getElem? hlb
    refine AW_iload_n dX12_bestOf_4 rfl ?_
    refine AW_aload_n dX12_bestOf_5 rfl ?_
    refine AW_getI dX12_bestOf_6 gfX12_401 (hS.cel rfl) ?_
    refine AW_icmp_ge (tgt := 30) dX12_bestOf_9 (by decide) (fun c_9 => ?_) (fun c_9 => ?_)
    · skip
      have hm : h = (heldL K n).length := by omega
      subst hm
      refine AW_iload_n dX12_bestOf_30 rfl ?_
      refine AW_iret dX12_bestOf_31 rfl ?_
      obtain ⟨j, hj⟩ := List.mem_iff_getElem?.mp ho.mem
      exact ⟨rfl, b, rfl, hq ⟨j, (List.getElem?_eq_some_iff.mp hj).1, hj⟩⟩
    · skip
      obtain ⟨q1, rfl⟩ : ∃ q1, q = q1 + 1 := ⟨q - 1, by omega⟩
      obtain ⟨l, hl⟩ : ∃ l, (heldL K n)[h]? = some l := ⟨_, List.getElem?_eq_getElem (show h < (heldL K n).length by omega)⟩
      have hml := List.mem_of_getElem? hl
      refine AW_aload_n dX12_bestOf_12 rfl ?_
      refine AW_iload_n dX12_bestOf_13 rfl ?_
      refine AW_iload_n dX12_bestOf_14 rfl ?_
      refine AW_iload_n dX12_bestOf_15 rfl ?_
      refine AW_callV3 (d' := d - 1) dX12_bestOf_16 (Or.inl lkX12_425) mfX12_isBestFor (hS.cel rfl) ⟨_, rfl, rfl⟩ (n_bst (by omega) hS hL hH hN hs hl (held_iff.mp hml).1 hlb (held_iff.mp hmb).1 _ _ _ rfl rfl rfl) (by omega) (Nat.le_of_ble_eq_true rfl) ?_
      rintro _ _ ⟨e_, z, rfl, hz⟩ -
      rw [e_]
      clear e_
      refine AW_if_eq (tgt := 24) dX12_bestOf_19 (by decide) (fun c_19 => ?_) (fun c_19 => ?_)
      · skip
        refine AW_iincE3 dX12_bestOf_24 (by omega) (by omega) ?_
        refine AW_goto (tgt := 4) dX12_bestOf_27 (by decide) ?_
        rw [show (h : Int) + 1 = ((h + 1 : Nat) : Int) by omega]
        refine ih q1 (h + 1) _ (by omega) (by omega) (by omega) (fun w => ?_)
        obtain ⟨j, hj, hj2⟩ := w
        first
        | (have hz0 : ¬ ∀ k, k < n → ¬ more K s k (bbR n s lb k) (bbR n s l k) := by
             rcases hz with q | q
             · rw [q.1] at c_19; exact absurd c_19 (by decide)
             · exact q.2
           by_cases hc : j = h
           · rw [hc, hl] at hj2
             rw [Option.some.inj hj2] at hz0
             exact absurd (opt_beats ho hmb) hz0
           · exact hq ⟨j, by omega, hj2⟩
           done)
        | (have hz1 : ∀ k, k < n → ¬ more K s k (bbR n s lb k) (bbR n s l k) := by
             rcases hz with q | q
             · exact q.2
             · exact absurd q.1 c_19
           by_cases hc : j = h
           · rw [← hc]; exact hj2
           · have h1 := hq ⟨j, by omega, hj2⟩
             rw [h1] at hlb
             rw [← Option.some.inj hlb] at hz1
             rw [hl, opt_only ho hml hz1]
           done)
      · skip
        refine AW_iload_n dX12_bestOf_22 rfl ?_
        refine AW_istore2 dX12_bestOf_23 ?_
        refine AW_iincE3 dX12_bestOf_24 (by omega) (by omega) ?_
        refine AW_goto (tgt := 4) dX12_bestOf_27 (by decide) ?_
        rw [show (h : Int) + 1 = ((h + 1 : Nat) : Int) by omega]
        refine ih q1 (h + 1) _ (by omega) (by omega) (by omega) (fun w => ?_)
        obtain ⟨j, hj, hj2⟩ := w
        first
        | (have hz0 : ¬ ∀ k, k < n → ¬ more K s k (bbR n s lb k) (bbR n s l k) := by
             rcases hz with q | q
             · rw [q.1] at c_19; exact absurd c_19 (by decide)
             · exact q.2
           by_cases hc : j = h
           · rw [hc, hl] at hj2
             rw [Option.some.inj hj2] at hz0
             exact absurd (opt_beats ho hmb) hz0
           · exact hq ⟨j, by omega, hj2⟩
           done)
        | (have hz1 : ∀ k, k < n → ¬ more K s k (bbR n s lb k) (bbR n s l k) := by
             rcases hz with q | q
             · exact q.2
             · exact absurd q.1 c_19
           by_cases hc : j = h
           · rw [← hc]; exact hj2
           · have h1 := hq ⟨j, by omega, hj2⟩
             rw [h1] at hlb
             rw [← Option.some.inj hlb] at hz1
             rw [hl, opt_only ho hml hz1]
           done)
theorem n_bestOf {G : Gt} {d : Nat} {σ : St} (hd : 3 ≤ d) {n : Nat} {K : Nat → Int} (hS : Sta σ) (hL : LkM n K σ) (hH : HeM (heldL K n) n σ) (hN : (heldL K n).length ≤ 5040) {s : Nat} (hs : s < 2) {o : List Nat} (ho : OptS K n s o) (s0 : Int) (e1 : s0 = s) : AM mX12_bestOf G d 0 0 [vR 94, vI s0] σ (fun ro ρ => ρ = σ ∧ ∃ b : Nat, ro = some (vI (b : Int)) ∧ (heldL K n)[b]? = some o) := by
  subst e1
  refine AM.intro (by decide +kernel) (by simp [nLg]) (Nat.le_of_ble_eq_true rfl) (fun hO => ?_)
  show AW _ _ _ _ _ _ 0 [some (vR 94), some (vI (s : Int)), none, none] [] σ
  refine AW_iconst dX12_bestOf_0 ?_
  refine AW_istore2 dX12_bestOf_1 ?_
  refine AW_iconst dX12_bestOf_2 ?_
  refine AW_istore3 dX12_bestOf_3 ?_
  have hne : 0 < (heldL K n).length := List.length_pos_iff.mpr (held_ne K n)
  refine ln_bo hd hS hL hH hN hs ho (heldL K n).length ((heldL K n).length - 1) 1 0 (by omega) (by omega) hne (fun w => ?_)
  obtain ⟨j, hj, hj2⟩ := w
  rw [show j = 0 by omega] at hj2
  exact hj2
