theorem tpC.byt {n : Nat} {B : Nat → Int} {σ : St} (hT : tpC n B σ) {k : Nat} (hk : k < n) : 0 ≤ B k ∧ B k < 256 := by
  have := hT.2.2 k hk
  rw [and255] at this
  omega
theorem k_signAt {G : Gt} {d : Nat} {σ : St}  {n : Nat} {B : Nat → Int} (hS : Sta σ) (hT : tpC n B σ) (at_ : Int)  : AM mX8_signAt G d 0 0 [vR 29, vI at_] σ (fun r τ => τ = σ ∧ r = some (vI (if 0 ≤ at_ ∧ at_ < n then B at_.toNat else 0))) := by
  refine AM.intro (by decide +kernel) (by simp [nLg]) (Nat.le_of_ble_eq_true rfl) (fun hO => ?_)
  have i_at_ : -2147483648 ≤ at_ ∧ at_ < 2147483648 := hO (vI at_) (by simp)
  show AW _ _ _ _ _ _ 0 [some (vR 29), some (vI at_)] [] σ
  have h4 := hT.1
  have h5 := hT.2.1
  refine AW_iload_n dX8_signAt_0 rfl ?_
  refine AW_if_lt (tgt := 25) dX8_signAt_1 (by decide) (fun c_1 => ?_) (fun c_1 => ?_)
  · skip
    refine AW_iconst dX8_signAt_25 ?_
    refine AW_iret dX8_signAt_26 rfl ?_
    refine ⟨rfl, ?_⟩
    first | (rw [if_neg (by omega)]; done) | (rw [if_pos (by omega), hT.2.2 at_.toNat (by omega)]; done)
  · skip
    refine AW_iload_n dX8_signAt_4 rfl ?_
    refine AW_aload_n dX8_signAt_5 rfl ?_
    refine AW_getI dX8_signAt_6 gfX8_23 (hS.cel rfl) ?_
    refine AW_icmp_ge (tgt := 25) dX8_signAt_9 (by decide) (fun c_9 => ?_) (fun c_9 => ?_)
    · skip
      refine AW_iconst dX8_signAt_25 ?_
      refine AW_iret dX8_signAt_26 rfl ?_
      refine ⟨rfl, ?_⟩
      first | (rw [if_neg (by omega)]; done) | (rw [if_pos (by omega), hT.2.2 at_.toNat (by omega)]; done)
    · skip
      refine AW_aload_n dX8_signAt_12 rfl ?_
      refine AW_getR (a := 30) dX8_signAt_13 gfX8_9 (hS.cel rfl) (hS.rf rfl) ?_
      refine AW_iload_n dX8_signAt_16 rfl ?_
      refine AW_bald dX8_signAt_17 (hS.cel rfl) (by omega) (by omega) ?_
      refine AW_sipush dX8_signAt_18 ?_
      refine AW_iand dX8_signAt_21 ?_
      refine AW_goto (tgt := 26) dX8_signAt_22 (by decide) ?_
      refine AW_iret dX8_signAt_26 rfl ?_
      refine ⟨rfl, ?_⟩
      first | (rw [if_neg (by omega)]; done) | (rw [if_pos (by omega), hT.2.2 at_.toNat (by omega)]; done)
theorem k_signV {G : Gt} {d : Nat} {σ : St} {n : Nat} {B : Nat → Int} (hS : Sta σ) (hT : tpC n B σ) (at_ : Int) (k : Nat) (h : at_ = k) (hk : k < n) : AM mX8_signAt G d 0 0 [vR 29, vI at_] σ (fun r τ => τ = σ ∧ r = some (vI (B k))) :=
  AM_mono (fun r τ q => ⟨q.1, by rw [q.2, if_pos (by omega), show at_.toNat = k by omega]⟩) (k_signAt hS hT at_)
theorem k_isLet {G : Gt} {d : Nat} {σ : St}   (c : Int)  : AM mX8_isLetter G d 0 0 [vI c] σ (fun r τ => τ = σ ∧ r = some (vI (if isLet c then 1 else 0))) := by
  refine AM.intro (by decide +kernel) (by simp [nLg]) (Nat.le_of_ble_eq_true rfl) (fun hO => ?_)
  have i_c : -2147483648 ≤ c ∧ c < 2147483648 := hO (vI c) (by simp)
  show AW _ _ _ _ _ _ 0 [some (vI c)] [] σ
  refine AW_iload_n dX8_isLetter_0 rfl ?_
  refine AW_bipush dX8_isLetter_1 ?_
  refine AW_icmp_lt (tgt := 12) dX8_isLetter_3 (by decide) (fun c_3 => ?_) (fun c_3 => ?_)
  · skip
    refine AW_iload_n dX8_isLetter_12 rfl ?_
    refine AW_bipush dX8_isLetter_13 ?_
    refine AW_icmp_lt (tgt := 28) dX8_isLetter_15 (by decide) (fun c_15 => ?_) (fun c_15 => ?_)
    · skip
      refine AW_iconst dX8_isLetter_28 ?_
      refine AW_zret dX8_isLetter_29 rfl (by decide) ?_
      refine ⟨rfl, ?_⟩
      first | (exfalso; omega; done) | rw [if_pos (by omega)] | rw [if_neg (by omega)]
    · skip
      refine AW_iload_n dX8_isLetter_18 rfl ?_
      refine AW_bipush dX8_isLetter_19 ?_
      refine AW_icmp_gt (tgt := 28) dX8_isLetter_21 (by decide) (fun c_21 => ?_) (fun c_21 => ?_)
      · skip
        refine AW_iconst dX8_isLetter_28 ?_
        refine AW_zret dX8_isLetter_29 rfl (by decide) ?_
        refine ⟨rfl, ?_⟩
        first | (exfalso; omega; done) | rw [if_pos (by omega)] | rw [if_neg (by omega)]
      · skip
        refine AW_iconst dX8_isLetter_24 ?_
        refine AW_goto (tgt := 29) dX8_isLetter_25 (by decide) ?_
        refine AW_zret dX8_isLetter_29 rfl (by decide) ?_
        refine ⟨rfl, ?_⟩
        first | (exfalso; omega; done) | rw [if_pos (by omega)] | rw [if_neg (by omega)]
  · skip
    refine AW_iload_n dX8_isLetter_6 rfl ?_
    refine AW_bipush dX8_isLetter_7 ?_
    refine AW_icmp_le (tgt := 24) dX8_isLetter_9 (by decide) (fun c_9 => ?_) (fun c_9 => ?_)
    · skip
      refine AW_iconst dX8_isLetter_24 ?_
      refine AW_goto (tgt := 29) dX8_isLetter_25 (by decide) ?_
      refine AW_zret dX8_isLetter_29 rfl (by decide) ?_
      refine ⟨rfl, ?_⟩
      first | (exfalso; omega; done) | rw [if_pos (by omega)] | rw [if_neg (by omega)]
    · skip
      refine AW_iload_n dX8_isLetter_12 rfl ?_
      refine AW_bipush dX8_isLetter_13 ?_
      refine AW_icmp_lt (tgt := 28) dX8_isLetter_15 (by decide) (fun c_15 => ?_) (fun c_15 => ?_)
      · skip
        refine AW_iconst dX8_isLetter_28 ?_
        refine AW_zret dX8_isLetter_29 rfl (by decide) ?_
        refine ⟨rfl, ?_⟩
        first | (exfalso; omega; done) | rw [if_pos (by omega)] | rw [if_neg (by omega)]
      · skip
        refine AW_iload_n dX8_isLetter_18 rfl ?_
        refine AW_bipush dX8_isLetter_19 ?_
        refine AW_icmp_gt (tgt := 28) dX8_isLetter_21 (by decide) (fun c_21 => ?_) (fun c_21 => ?_)
        · skip
          refine AW_iconst dX8_isLetter_28 ?_
          refine AW_zret dX8_isLetter_29 rfl (by decide) ?_
          refine ⟨rfl, ?_⟩
          first | (exfalso; omega; done) | rw [if_pos (by omega)] | rw [if_neg (by omega)]
        · skip
          refine AW_iconst dX8_isLetter_24 ?_
          refine AW_goto (tgt := 29) dX8_isLetter_25 (by decide) ?_
          refine AW_zret dX8_isLetter_29 rfl (by decide) ?_
          refine ⟨rfl, ?_⟩
          first | (exfalso; omega; done) | rw [if_pos (by omega)] | rw [if_neg (by omega)]
theorem k_isDig {G : Gt} {d : Nat} {σ : St}   (c : Int)  : AM mX8_isDigit G d 0 0 [vI c] σ (fun r τ => τ = σ ∧ r = some (vI (if isDig c then 1 else 0))) := by
  refine AM.intro (by decide +kernel) (by simp [nLg]) (Nat.le_of_ble_eq_true rfl) (fun hO => ?_)
  have i_c : -2147483648 ≤ c ∧ c < 2147483648 := hO (vI c) (by simp)
  show AW _ _ _ _ _ _ 0 [some (vI c)] [] σ
  refine AW_iload_n dX8_isDigit_0 rfl ?_
  refine AW_bipush dX8_isDigit_1 ?_
  refine AW_icmp_lt (tgt := 16) dX8_isDigit_3 (by decide) (fun c_3 => ?_) (fun c_3 => ?_)
  · skip
    refine AW_iconst dX8_isDigit_16 ?_
    refine AW_zret dX8_isDigit_17 rfl (by decide) ?_
    refine ⟨rfl, ?_⟩
    first | rw [if_pos (by omega)] | rw [if_neg (by omega)]
  · skip
    refine AW_iload_n dX8_isDigit_6 rfl ?_
    refine AW_bipush dX8_isDigit_7 ?_
    refine AW_icmp_gt (tgt := 16) dX8_isDigit_9 (by decide) (fun c_9 => ?_) (fun c_9 => ?_)
    · skip
      refine AW_iconst dX8_isDigit_16 ?_
      refine AW_zret dX8_isDigit_17 rfl (by decide) ?_
      refine ⟨rfl, ?_⟩
      first | rw [if_pos (by omega)] | rw [if_neg (by omega)]
    · skip
      refine AW_iconst dX8_isDigit_12 ?_
      refine AW_goto (tgt := 17) dX8_isDigit_13 (by decide) ?_
      refine AW_zret dX8_isDigit_17 rfl (by decide) ?_
      refine ⟨rfl, ?_⟩
      first | rw [if_pos (by omega)] | rw [if_neg (by omega)]
theorem kn_W {G : Gt} (s : State) (h : Kn G s) : vk_R "NotYet$Tape" 68 tWORDS (G.2.2.2.1 4) s := h.2.2.2.2.2.2.1
theorem kn_S {G : Gt} (s : State) (h : Kn G s) : vk_R "NotYet$Tape" 58 tSIGNS (G.2.2.2.1 5) s := h.2.2.2.2.2.2.2.1
theorem l_spl {G : Gt} {d : Nat} {σ : St} {n : Nat} {B : Nat → Int} {b p len : Nat} (hd : 4 ≤ d) (hS : Sta σ) (hT : tpC n B σ) (hb : b + len ≤ 64) (hp : p + len ≤ n) : ∀ (nn : Nat) (i : Nat), (len - i) < nn → i ≤ len → (∀ k, k < i → txB 0 (b + k) = B (p + k)) →  AW mX8_spells G d 0 0 (mq G (fun ro ρ => ρ = σ ∧ ro = some (vI (if spl B b p len then 1 else 0)))) 3 [some (vR 29), some (vI (b : Int)), some (vI (p : Int)), some (vI (len : Int)), some (vI (i : Int))] [] σ := by
  intro nn
  induction nn with
  | zero => intros; omega
  | succ nn ih =>
    intro i hn hi hk
    have h4 := hT.1
    have h5 := hT.2.1
    refine AW_iload dX8_spells_3 rfl ?_
    refine AW_iload_n dX8_spells_5 rfl ?_
    refine AW_icmp_ge (tgt := 49) dX8_spells_6 (by decide) (fun c_6 => ?_) (fun c_6 => ?_)
    · skip
      refine AW_iconst dX8_spells_49 ?_
      refine AW_zret dX8_spells_50 rfl (by decide) ?_
      exact ⟨rfl, by rw [if_pos (fun k h => hk k (by omega))]⟩
    · skip
      refine AW_iload_n dX8_spells_9 rfl ?_
      refine AW_iload dX8_spells_10 rfl ?_
      refine AW_iaddE dX8_spells_12 (by omega) (by omega) ?_
      refine AW_ldcs (e := 4) dX8_spells_13 kn_W (by decide) (by decide) ?_
      refine AW_callVx0 0 dX8_spells_15 lkX8_70 mfJ0_length_8abf5 (by decide) rfl (k_len0 (by omega)) (by omega) (Nat.le_of_ble_eq_true rfl) ?_
      rintro _ _ ⟨e_, rfl⟩ -
      rw [e_]
      clear e_
      refine AW_icmp_ge (tgt := 41) dX8_spells_18 (by decide) (fun c_18 => ?_) (fun c_18 => ?_)
      · skip
        exact absurd c_18 (by omega)
      · skip
        refine AW_ldcs (e := 4) dX8_spells_21 kn_W (by decide) (by decide) ?_
        refine AW_iload_n dX8_spells_23 rfl ?_
        refine AW_iload dX8_spells_24 rfl ?_
        refine AW_iaddE dX8_spells_26 (by omega) (by omega) ?_
        refine AW_callVx1 0 dX8_spells_27 lkX8_74 mfJ0_charAt_5068e (by decide) rfl (k_charAt (by omega) _ (by omega) (by omega)) (by omega) (Nat.le_of_ble_eq_true rfl) ?_
        rintro _ _ ⟨e_, rfl⟩ -
        rw [e_]
        clear e_
        refine AW_aload_n dX8_spells_30 rfl ?_
        refine AW_iload_n dX8_spells_31 rfl ?_
        refine AW_iload dX8_spells_32 rfl ?_
        refine AW_iaddE dX8_spells_34 (by omega) (by omega) ?_
        refine AW_callV1 (d' := d - 1) dX8_spells_35 (Or.inl lkX8_30) mfX8_signAt (hS.cel rfl) ⟨_, rfl, rfl⟩ (k_signV hS hT _ (p + i) (by omega) (by omega)) (by omega) (Nat.le_of_ble_eq_true rfl) ?_
        rintro _ _ ⟨e_, rfl⟩ -
        rw [e_]
        clear e_
        refine AW_icmp_eq (tgt := 43) dX8_spells_38 (by decide) (fun c_38 => ?_) (fun c_38 => ?_)
        · skip
          rw [show ((b : Int) + (i : Int)).toNat = b + i by omega] at c_38
          refine AW_iincE4 dX8_spells_43 (by omega) (by omega) ?_
          refine AW_goto (tgt := 3) dX8_spells_46 (by decide) ?_
          rw [show (i : Int) + 1 = ((i + 1 : Nat) : Int) by omega]
          refine ih (i + 1) (by omega) (by omega) (fun k h => ?_)
          by_cases hc : k = i
          · subst hc; exact c_38
          · exact hk k (by omega)
        · skip
          rw [show ((b : Int) + (i : Int)).toNat = b + i by omega] at c_38
          refine AW_iconst dX8_spells_41 ?_
          refine AW_zret dX8_spells_42 rfl (by decide) ?_
          exact ⟨rfl, by rw [if_neg (fun h => c_38 (h i (by omega)))]⟩
theorem k_spells {G : Gt} {d : Nat} {σ : St} {n : Nat} {B : Nat → Int} (hd : 4 ≤ d) (hS : Sta σ) (hT : tpC n B σ) (b0 p0 l0 : Int) (b p len : Nat) (e1 : b0 = b) (e2 : p0 = p) (e3 : l0 = len) (hb : b + len ≤ 64) (hp : p + len ≤ n) : AM mX8_spells G d 0 0 [vR 29, vI b0, vI p0, vI l0] σ (fun ro ρ => ρ = σ ∧ ro = some (vI (if spl B b p len then 1 else 0))) := by
  subst e1 e2 e3
  refine AM.intro (by decide +kernel) (by simp [nLg]) (Nat.le_of_ble_eq_true rfl) (fun hO => ?_)
  show AW _ _ _ _ _ _ 0 [some (vR 29), some (vI (b : Int)), some (vI (p : Int)), some (vI (len : Int)), none] [] σ
  refine AW_iconst dX8_spells_0 ?_
  refine AW_istore4 dX8_spells_1 ?_
  exact l_spl hd hS hT hb hp (len + 1) 0 (by omega) (by omega) (fun k h => by omega)
/-- the word that place i of the KEYWORDS' text lies in, and where it begins -/
def wdN (i : Nat) : Nat := [0, 0, 0, 0, 0, 1, 1, 1, 1, 1, 1, 2, 2, 2, 2, 2, 3, 3, 3, 4, 4, 4, 4, 5, 5, 5, 5, 6, 6, 6, 6, 6, 7, 7, 7, 7, 7, 7, 7, 8, 8, 8, 8, 8, 9, 9, 9, 9, 9, 10, 10, 10, 10, 10, 11, 11, 11, 11, 11, 12, 12, 12, 12, 12].getD i 13
theorem wd_go : ∀ i, i < 64 → (txB 0 i ≠ 32 → wdN (i + 1) = wdN i) ∧ (txB 0 i = 32 → wdN (i + 1) = wdN i + 1 ∧ kst (wdN i) + kln (wdN i) = i ∧ (kst (wdN (i + 1)) = i + 1)) ∧ wdN i < 13 ∧ kst (wdN i) ≤ i := by decide +kernel
theorem l_kw {G : Gt} {d : Nat} {σ : St} {n : Nat} {B : Nat → Int} {p len : Nat} (hd : 5 ≤ d) (hS : Sta σ) (hT : tpC n B σ) (hp : p + len ≤ n) : ∀ (nn : Nat) (i : Nat), (64 - i) < nn → i ≤ 64 → (∀ k, k < wdN i → ¬ kwHit B p len k) →  AW mX8_keyword G d 0 0 (mq G (fun ro ρ => ρ = σ ∧ ro = some (vI (if kw B p len = -1 then 1 else 256 + kw B p len)))) 8 [some (vR 29), some (vI (p : Int)), some (vI (len : Int)), some (vI (kst (wdN i) : Int)), some (vI (wdN i : Int)), some (vI (i : Int))] [] σ := by
  intro nn
  induction nn with
  | zero => intros; omega
  | succ nn ih =>
    intro i hn hi hk
    have h4 := hT.1
    have h5 := hT.2.1
    have hw64 : wdN 64 = 13 := rfl
    have hk64 : kst 13 = 64 := rfl
    refine AW_iload dX8_keyword_8 rfl ?_
    refine AW_ldcs (e := 4) dX8_keyword_10 kn_W (by decide) (by decide) ?_
    refine AW_callVx0 0 dX8_keyword_12 lkX8_70 mfJ0_length_8abf5 (by decide) rfl (k_len0 (by omega)) (by omega) (Nat.le_of_ble_eq_true rfl) ?_
    rintro _ _ ⟨e_, rfl⟩ -
    rw [e_]
    clear e_
    refine AW_icmp_ge (tgt := 69) dX8_keyword_15 (by decide) (fun c_15 => ?_) (fun c_15 => ?_)
    · skip
      rw [show i = 64 by omega] at hk
      refine AW_iconst dX8_keyword_69 ?_
      refine AW_iret dX8_keyword_70 rfl ?_
      refine ⟨rfl, ?_⟩
      rw [kw_none (fun k h => hk k h), if_pos rfl]
    · skip
      refine AW_ldcs (e := 4) dX8_keyword_18 kn_W (by decide) (by decide) ?_
      refine AW_iload dX8_keyword_20 rfl ?_
      refine AW_callVx1 0 dX8_keyword_22 lkX8_74 mfJ0_charAt_5068e (by decide) rfl (k_charAt (by omega) _ (by omega) (by omega)) (by omega) (Nat.le_of_ble_eq_true rfl) ?_
      rintro _ _ ⟨e_, rfl⟩ -
      rw [e_]
      clear e_
      rw [Int.toNat_natCast]
      have hg := wd_go i (by omega)
      refine AW_bipush dX8_keyword_25 ?_
      refine AW_icmp_ne (tgt := 63) dX8_keyword_27 (by decide) (fun c_27 => ?_) (fun c_27 => ?_)
      · skip
        have hg2 := hg.1 c_27
        refine AW_iincE5 dX8_keyword_63 (by omega) (by omega) ?_
        refine AW_goto (tgt := 8) dX8_keyword_66 (by decide) ?_
        first
        | (rw [show (i : Int) + 1 = ((i + 1 : Nat) : Int) by omega, ← hg2]
           exact ih (i + 1) (by omega) (by omega) (fun k h => hk k (by omega)))
        | (have q := ih (i + 1) (by omega) (by omega) (fun k h => (by
             by_cases hc : k = wdN i
             · subst hc
               first | exact fun q => c_35 (by have := q.1; omega) | exact fun q => c_45 q.2
             · exact hk k (by omega)))
           rw [show ((kst (wdN (i + 1)) : Nat) : Int) = (i : Int) + 1 by omega, show ((wdN (i + 1) : Nat) : Int) = (wdN i : Int) + 1 by omega, show ((i + 1 : Nat) : Int) = (i : Int) + 1 by omega] at q
           exact q)
      · skip
        have hg2 := hg.2.1 c_27
        refine AW_iload dX8_keyword_30 rfl ?_
        refine AW_iload_n dX8_keyword_32 rfl ?_
        refine AW_isubE dX8_keyword_33 (by omega) (by omega) ?_
        refine AW_iload_n dX8_keyword_34 rfl ?_
        refine AW_icmp_ne (tgt := 55) dX8_keyword_35 (by decide) (fun c_35 => ?_) (fun c_35 => ?_)
        · skip
          refine AW_iload dX8_keyword_55 rfl ?_
          refine AW_iconst dX8_keyword_57 ?_
          refine AW_iaddE dX8_keyword_58 (by omega) (by omega) ?_
          refine AW_istore3 dX8_keyword_59 ?_
          refine AW_iincE4 dX8_keyword_60 (by omega) (by omega) ?_
          refine AW_iincE5 dX8_keyword_63 (by omega) (by omega) ?_
          refine AW_goto (tgt := 8) dX8_keyword_66 (by decide) ?_
          first
          | (rw [show (i : Int) + 1 = ((i + 1 : Nat) : Int) by omega, ← hg2]
             exact ih (i + 1) (by omega) (by omega) (fun k h => hk k (by omega)))
          | (have q := ih (i + 1) (by omega) (by omega) (fun k h => (by
               by_cases hc : k = wdN i
               · subst hc
                 first | exact fun q => c_35 (by have := q.1; omega) | exact fun q => c_45 q.2
               · exact hk k (by omega)))
             rw [show ((kst (wdN (i + 1)) : Nat) : Int) = (i : Int) + 1 by omega, show ((wdN (i + 1) : Nat) : Int) = (wdN i : Int) + 1 by omega, show ((i + 1 : Nat) : Int) = (i : Int) + 1 by omega] at q
             exact q)
        · skip
          refine AW_aload_n dX8_keyword_38 rfl ?_
          refine AW_iload_n dX8_keyword_39 rfl ?_
          refine AW_iload_n dX8_keyword_40 rfl ?_
          refine AW_iload_n dX8_keyword_41 rfl ?_
          refine AW_callV3 (d' := d - 1) dX8_keyword_42 (Or.inl lkX8_78) mfX8_spells (hS.cel rfl) ⟨_, rfl, rfl⟩ (k_spells (by omega) hS hT _ _ _ (kst (wdN i)) p len rfl rfl rfl (by omega) hp) (by omega) (Nat.le_of_ble_eq_true rfl) ?_
          rintro _ _ ⟨e_, rfl⟩ -
          rw [e_]
          clear e_
          refine AW_if_eq (tgt := 55) dX8_keyword_45 (by decide) (fun c_45 => ?_) (fun c_45 => ?_)
          · skip
            replace c_45 := bz0 c_45
            refine AW_iload dX8_keyword_55 rfl ?_
            refine AW_iconst dX8_keyword_57 ?_
            refine AW_iaddE dX8_keyword_58 (by omega) (by omega) ?_
            refine AW_istore3 dX8_keyword_59 ?_
            refine AW_iincE4 dX8_keyword_60 (by omega) (by omega) ?_
            refine AW_iincE5 dX8_keyword_63 (by omega) (by omega) ?_
            refine AW_goto (tgt := 8) dX8_keyword_66 (by decide) ?_
            first
            | (rw [show (i : Int) + 1 = ((i + 1 : Nat) : Int) by omega, ← hg2]
               exact ih (i + 1) (by omega) (by omega) (fun k h => hk k (by omega)))
            | (have q := ih (i + 1) (by omega) (by omega) (fun k h => (by
                 by_cases hc : k = wdN i
                 · subst hc
                   first | exact fun q => c_35 (by have := q.1; omega) | exact fun q => c_45 q.2
                 · exact hk k (by omega)))
               rw [show ((kst (wdN (i + 1)) : Nat) : Int) = (i : Int) + 1 by omega, show ((wdN (i + 1) : Nat) : Int) = (wdN i : Int) + 1 by omega, show ((i + 1 : Nat) : Int) = (i : Int) + 1 by omega] at q
               exact q)
          · skip
            replace c_45 := bz1 c_45
            refine AW_sipush dX8_keyword_48 ?_
            refine AW_iload dX8_keyword_51 rfl ?_
            refine AW_iaddE dX8_keyword_53 (by omega) (by omega) ?_
            refine AW_iret dX8_keyword_54 rfl ?_
            refine ⟨rfl, ?_⟩
            rw [kw_at (j := wdN i) hg.2.2.1 ⟨by omega, c_45⟩ hk, if_neg (by omega)]
theorem k_keyword {G : Gt} {d : Nat} {σ : St} {n : Nat} {B : Nat → Int} (hd : 5 ≤ d) (hS : Sta σ) (hT : tpC n B σ) (p0 l0 : Int) (p len : Nat) (e2 : p0 = p) (e3 : l0 = len) (hp : p + len ≤ n) : AM mX8_keyword G d 0 0 [vR 29, vI p0, vI l0] σ (fun ro ρ => ρ = σ ∧ ro = some (vI (if kw B p len = -1 then 1 else 256 + kw B p len))) := by
  subst e2 e3
  refine AM.intro (by decide +kernel) (by simp [nLg]) (Nat.le_of_ble_eq_true rfl) (fun hO => ?_)
  show AW _ _ _ _ _ _ 0 [some (vR 29), some (vI (p : Int)), some (vI (len : Int)), none, none, none] [] σ
  refine AW_iconst dX8_keyword_0 ?_
  refine AW_istore3 dX8_keyword_1 ?_
  refine AW_iconst dX8_keyword_2 ?_
  refine AW_istore4 dX8_keyword_3 ?_
  refine AW_iconst dX8_keyword_5 ?_
  refine AW_istore5 dX8_keyword_6 ?_
  exact l_kw hd hS hT hp 65 0 (by omega) (by omega) (fun k h => absurd h (Nat.not_lt_zero k))
/-- one TOKEN more, the c-th -/
def kpC (c : Nat) (k p v : Int) (σ ρ : St) : Prop := ρ.2.1 29 5 = (c : Int) + 1 ∧ (∀ j : Nat, ρ.2.1 31 j = if j = c then k else σ.2.1 31 j) ∧ (∀ j : Nat, ρ.2.1 32 j = if j = c then p else σ.2.1 32 j) ∧ (∀ j : Nat, ρ.2.1 33 j = if j = c then v else σ.2.1 33 j) ∧ Fo 29 [5] [31, 32, 33] σ ρ
theorem kpC.tp {n c : Nat} {B : Nat → Int} {k p v : Int} {σ ρ : St} (h : kpC c k p v σ ρ) (hT : tpC n B σ) : tpC n B ρ := ⟨(h.2.2.2.2.2 4 (by decide)).trans hT.1, hT.2.1, fun q hq => by rw [h.2.2.2.2.1.iv 30 q]; exact hT.2.2 q hq⟩
theorem k_keep {G : Gt} {d : Nat} {σ : St}  {c : Nat} (hS : Sta σ) (hc : σ.2.1 29 5 = c) (hc4 : c ≤ 400) (k p v : Int)  : AM mX8_keep G d 0 0 [vR 29, vI k, vI p, vI v] σ (fun ro ρ => ro = none ∧ kpC c k p v σ ρ) := by
  refine AM.intro (by decide +kernel) (by simp [nLg]) (Nat.le_of_ble_eq_true rfl) (fun hO => ?_)
  have i_k : -2147483648 ≤ k ∧ k < 2147483648 := hO (vI k) (by simp)
  have i_p : -2147483648 ≤ p ∧ p < 2147483648 := hO (vI p) (by simp)
  have i_v : -2147483648 ≤ v ∧ v < 2147483648 := hO (vI v) (by simp)
  show AW _ _ _ _ _ _ 0 [some (vR 29), some (vI k), some (vI p), some (vI v)] [] σ
  refine AW_aload_n dX8_keep_0 rfl ?_
  refine AW_getI dX8_keep_1 gfX8_27 (hS.cel rfl) ?_
  refine AW_aload_n dX8_keep_4 rfl ?_
  refine AW_getR (a := 31) dX8_keep_5 gfX8_13 (hS.cel rfl) (hS.rf rfl) ?_
  refine AW_alen dX8_keep_8 (hS.cel rfl) (by decide) (by decide) ?_
  refine AW_icmp_ge (tgt := 52) dX8_keep_9 (by decide) (fun c_9 => ?_) (fun c_9 => ?_)
  · skip
    exact absurd c_9 (by rw [hc]; omega)
  · skip
    refine AW_aload_n dX8_keep_12 rfl ?_
    refine AW_getR (a := 31) dX8_keep_13 gfX8_13 (hS.cel rfl) (hS.rf rfl) ?_
    refine AW_aload_n dX8_keep_16 rfl ?_
    refine AW_getI dX8_keep_17 gfX8_27 (hS.cel rfl) ?_
    refine AW_iload_n dX8_keep_20 rfl ?_
    rw [hc]
    refine AW_iast dX8_keep_21 (hS.cel rfl) (by omega) (by omega) ?_
    refine AW_aload_n dX8_keep_22 rfl ?_
    refine AW_getR (a := 32) dX8_keep_23 gfX8_17 (hS.cel rfl) (hS.rf rfl) ?_
    refine AW_aload_n dX8_keep_26 rfl ?_
    refine AW_getI dX8_keep_27 gfX8_27 (hS.cel rfl) ?_
    (repeat (first | rw [up_r _ _ _ _ (by decide)] | rw [up_j _ _ _ (by decide)] | rw [up_at]))
    refine AW_iload_n dX8_keep_30 rfl ?_
    rw [hc]
    refine AW_iast dX8_keep_31 (hS.cel rfl) (by omega) (by omega) ?_
    refine AW_aload_n dX8_keep_32 rfl ?_
    refine AW_getR (a := 33) dX8_keep_33 gfX8_20 (hS.cel rfl) (hS.rf rfl) ?_
    refine AW_aload_n dX8_keep_36 rfl ?_
    refine AW_getI dX8_keep_37 gfX8_27 (hS.cel rfl) ?_
    (repeat (first | rw [up_r _ _ _ _ (by decide)] | rw [up_j _ _ _ (by decide)] | rw [up_at]))
    refine AW_iload_n dX8_keep_40 rfl ?_
    rw [hc]
    refine AW_iast dX8_keep_41 (hS.cel rfl) (by omega) (by omega) ?_
    refine AW_aload_n dX8_keep_42 rfl ?_
    refine AW_dup dX8_keep_43 ?_
    refine AW_getI dX8_keep_44 gfX8_27 (hS.cel rfl) ?_
    (repeat (first | rw [up_r _ _ _ _ (by decide)] | rw [up_j _ _ _ (by decide)] | rw [up_at]))
    refine AW_iconst dX8_keep_47 ?_
    rw [hc]
    refine AW_iaddE dX8_keep_48 (by omega) (by omega) ?_
    refine AW_putI dX8_keep_49 (Or.inl pfX8_27) (hS.cel rfl) ?_
    refine AW_vret dX8_keep_52 rfl ?_
    refine ⟨rfl, ?_, fun j => ?_, fun j => ?_, fun j => ?_, (((Fo.rf.ua (by decide) (by decide) _ _).ua (by decide) (by decide) _ _).ua (by decide) (by decide) _ _).uf (by decide) _⟩
    · rw [up_at]
    all_goals
      simp only [up_if, Int.toNat_natCast]
      by_cases hj : j = c <;> simp [hj]
theorem l_mw {G : Gt} {d : Nat} {σ : St} {n c : Nat} {B : Nat → Int} (hS : Sta σ) (hT : tpC n B σ) (hc : σ.2.1 29 5 = c) (hc4 : c ≤ 400) {p : Nat} (hd : 6 ≤ d) (hp : p < n) : ∀ (nn : Nat) (q : Nat), (n - q) < nn → p < q → q ≤ n → endP letB B n (p + 1) = endP letB B n q →  AW mX8_makeWord G d 0 0 (mq G (fun ro ρ => ro = some (vI (endP letB B n (p + 1) : Int)) ∧ kpC c (if kw B p (endP letB B n (p + 1) - p) = -1 then 1 else 256 + kw B p (endP letB B n (p + 1) - p)) p 0 σ ρ)) 4 [some (vR 29), some (vI (p : Int)), some (vI (q : Int))] [] σ := by
  intro nn
  induction nn with
  | zero => intros; omega
  | succ nn ih =>
    intro q hn hq hq2 hE
    have h4 := hT.1
    have h5 := hT.2.1
    refine AW_iload_n dX8_makeWord_4 rfl ?_
    refine AW_aload_n dX8_makeWord_5 rfl ?_
    refine AW_getI dX8_makeWord_6 gfX8_23 (hS.cel rfl) ?_
    refine AW_icmp_ge (tgt := 29) dX8_makeWord_9 (by decide) (fun c_9 => ?_) (fun c_9 => ?_)
    · skip
      have hE2 : endP letB B n (p + 1) = q := by rw [hE, endP_stop (by omega)]
      refine AW_aload_n dX8_makeWord_29 rfl ?_
      refine AW_aload_n dX8_makeWord_30 rfl ?_
      refine AW_iload_n dX8_makeWord_31 rfl ?_
      refine AW_iload_n dX8_makeWord_32 rfl ?_
      refine AW_iload_n dX8_makeWord_33 rfl ?_
      refine AW_isubE dX8_makeWord_34 (by omega) (by omega) ?_
      refine AW_callV2 (d' := d - 1) dX8_makeWord_35 (Or.inl lkX8_65) mfX8_keyword (hS.cel rfl) ⟨_, rfl, rfl⟩ (k_keyword (by omega) hS hT _ _ p (q - p) rfl (by omega) (by omega)) (by omega) (Nat.le_of_ble_eq_true rfl) ?_
      rintro _ _ ⟨e_, rfl⟩ -
      rw [e_]
      clear e_
      refine AW_iload_n dX8_makeWord_38 rfl ?_
      refine AW_iconst dX8_makeWord_39 ?_
      refine AW_callV3 (d' := d - 1) dX8_makeWord_40 (Or.inl lkX8_41) mfX8_keep (hS.cel rfl) ⟨_, rfl, rfl⟩ (k_keep hS hc hc4 _ _ _) (by omega) (Nat.le_of_ble_eq_true rfl) ?_
      rintro _ ρ1 ⟨rfl, hK⟩ -
      refine AW_iload_n dX8_makeWord_43 rfl ?_
      refine AW_iret dX8_makeWord_44 rfl ?_
      exact ⟨by rw [hE2], by rw [hE2]; exact hK⟩
    · skip
      refine AW_aload_n dX8_makeWord_12 rfl ?_
      refine AW_iload_n dX8_makeWord_13 rfl ?_
      refine AW_callV1 (d' := d - 1) dX8_makeWord_14 (Or.inl lkX8_30) mfX8_signAt (hS.cel rfl) ⟨_, rfl, rfl⟩ (k_signV hS hT _ q rfl (by omega)) (by omega) (Nat.le_of_ble_eq_true rfl) ?_
      rintro _ _ ⟨e_, rfl⟩ -
      rw [e_]
      clear e_
      refine AW_callS1 (d' := d - 1) dX8_makeWord_17 lkX8_45 mfX8_isLetter (k_isLet _) (by omega) (Nat.le_of_ble_eq_true rfl) ?_
      rintro _ _ ⟨e_, rfl⟩ -
      rw [e_]
      clear e_
      refine AW_if_eq (tgt := 29) dX8_makeWord_20 (by decide) (fun c_20 => ?_) (fun c_20 => ?_)
      · skip
        replace c_20 := bz0 c_20
        have hE2 : endP letB B n (p + 1) = q := by rw [hE, endP_stop (fun h => c_20 ((letB_iff _).mp h.2))]
        refine AW_aload_n dX8_makeWord_29 rfl ?_
        refine AW_aload_n dX8_makeWord_30 rfl ?_
        refine AW_iload_n dX8_makeWord_31 rfl ?_
        refine AW_iload_n dX8_makeWord_32 rfl ?_
        refine AW_iload_n dX8_makeWord_33 rfl ?_
        refine AW_isubE dX8_makeWord_34 (by omega) (by omega) ?_
        refine AW_callV2 (d' := d - 1) dX8_makeWord_35 (Or.inl lkX8_65) mfX8_keyword (hS.cel rfl) ⟨_, rfl, rfl⟩ (k_keyword (by omega) hS hT _ _ p (q - p) rfl (by omega) (by omega)) (by omega) (Nat.le_of_ble_eq_true rfl) ?_
        rintro _ _ ⟨e_, rfl⟩ -
        rw [e_]
        clear e_
        refine AW_iload_n dX8_makeWord_38 rfl ?_
        refine AW_iconst dX8_makeWord_39 ?_
        refine AW_callV3 (d' := d - 1) dX8_makeWord_40 (Or.inl lkX8_41) mfX8_keep (hS.cel rfl) ⟨_, rfl, rfl⟩ (k_keep hS hc hc4 _ _ _) (by omega) (Nat.le_of_ble_eq_true rfl) ?_
        rintro _ ρ1 ⟨rfl, hK⟩ -
        refine AW_iload_n dX8_makeWord_43 rfl ?_
        refine AW_iret dX8_makeWord_44 rfl ?_
        exact ⟨by rw [hE2], by rw [hE2]; exact hK⟩
      · skip
        replace c_20 := bz1 c_20
        refine AW_iincE2 dX8_makeWord_23 (by omega) (by omega) ?_
        refine AW_goto (tgt := 4) dX8_makeWord_26 (by decide) ?_
        rw [show (q : Int) + 1 = ((q + 1 : Nat) : Int) by omega]
        exact ih (q + 1) (by omega) (by omega) (by omega) (hE.trans (endP_go (by omega) ((letB_iff _).mpr c_20)))
theorem k_mw {G : Gt} {d : Nat} {σ : St} {n c : Nat} {B : Nat → Int} (hS : Sta σ) (hT : tpC n B σ) (hc : σ.2.1 29 5 = c) (hc4 : c ≤ 400) (p0 : Int) (p : Nat) (e : p0 = p) (hd : 6 ≤ d) (hp : p < n) : AM mX8_makeWord G d 0 0 [vR 29, vI p0] σ (fun ro ρ => ro = some (vI (endP letB B n (p + 1) : Int)) ∧ kpC c (if kw B p (endP letB B n (p + 1) - p) = -1 then 1 else 256 + kw B p (endP letB B n (p + 1) - p)) p 0 σ ρ) := by
  subst e
  refine AM.intro (by decide +kernel) (by simp [nLg]) (Nat.le_of_ble_eq_true rfl) (fun hO => ?_)
  have h5 := hT.2.1
  show AW _ _ _ _ _ _ 0 [some (vR 29), some (vI (p : Int)), none] [] σ
  refine AW_iload_n dX8_makeWord_0 rfl ?_
  refine AW_iconst dX8_makeWord_1 ?_
  refine AW_iaddE dX8_makeWord_2 (by omega) (by omega) ?_
  refine AW_istore2 dX8_makeWord_3 ?_
  rw [show (p : Int) + 1 = ((p + 1 : Nat) : Int) by omega]
  exact l_mw hS hT hc hc4 hd hp (n + 1) (p + 1) (by omega) (by omega) (by omega) rfl
theorem numV_4 {B : Nat → Int} {p k : Nat} (hk : k ≤ 4) (h : ∀ j, j < k → isDig (B (p + j))) : 0 ≤ numV B k p ∧ numV B k p < 10000 := by
  have h1 := numV_b (p := p) k h
  rcases (show k = 0 ∨ k = 1 ∨ k = 2 ∨ k = 3 ∨ k = 4 by omega) with rfl | rfl | rfl | rfl | rfl
  · exact ⟨h1.1, Int.lt_of_lt_of_le h1.2 (by decide)⟩
  · exact ⟨h1.1, Int.lt_of_lt_of_le h1.2 (by decide)⟩
  · exact ⟨h1.1, Int.lt_of_lt_of_le h1.2 (by decide)⟩
  · exact ⟨h1.1, Int.lt_of_lt_of_le h1.2 (by decide)⟩
  · exact ⟨h1.1, Int.lt_of_lt_of_le h1.2 (by decide)⟩
theorem l_mn {G : Gt} {d : Nat} {σ : St} {n c : Nat} {B : Nat → Int} (hS : Sta σ) (hT : tpC n B σ) (hc : σ.2.1 29 5 = c) (hc4 : c ≤ 400) {p : Nat} (hd : 6 ≤ d) (hp : p < n) : ∀ (nn : Nat) (q : Nat) (v : Int), (n - q) < nn → p ≤ q → q ≤ n → endP digB B n p = endP digB B n q → (∀ j, p ≤ j → j < q → isDig (B j)) → (q - p ≤ 4 → v = numV B (q - p) p) →  AW mX8_makeNumber G d 0 0 (mq G (fun ro ρ => ro = some (vI (endP digB B n p : Int)) ∧ ∃ v : Int, kpC c (if endP digB B n p - p ≤ 4 then 2 else 1) p v σ ρ ∧ (endP digB B n p - p ≤ 4 → v = tkV B n p))) 4 [some (vR 29), some (vI (p : Int)), some (vI (q : Int)), some (vI v)] [] σ := by
  intro nn
  induction nn with
  | zero => intros; omega
  | succ nn ih =>
    intro q v hn hq hq2 hE hdg hv
    have h4 := hT.1
    have h5 := hT.2.1
    refine AW_iload_n dX8_makeNumber_4 rfl ?_
    refine AW_aload_n dX8_makeNumber_5 rfl ?_
    refine AW_getI dX8_makeNumber_6 gfX8_23 (hS.cel rfl) ?_
    refine AW_icmp_ge (tgt := 43) dX8_makeNumber_9 (by decide) (fun c_9 => ?_) (fun c_9 => ?_)
    · skip
      have hE2 : endP digB B n p = q := by rw [hE, endP_stop (by omega)]
      refine AW_aload_n dX8_makeNumber_43 rfl ?_
      refine AW_iload_n dX8_makeNumber_44 rfl ?_
      refine AW_iload_n dX8_makeNumber_45 rfl ?_
      refine AW_isubE dX8_makeNumber_46 (by omega) (by omega) ?_
      refine AW_iconst dX8_makeNumber_47 ?_
      refine AW_icmp_gt (tgt := 55) dX8_makeNumber_48 (by decide) (fun c_48 => ?_) (fun c_48 => ?_)
      · skip
        refine AW_iconst dX8_makeNumber_55 ?_
        refine AW_iload_n dX8_makeNumber_56 rfl ?_
        refine AW_iload_n dX8_makeNumber_57 rfl ?_
        refine AW_callV3 (d' := d - 1) dX8_makeNumber_58 (Or.inl lkX8_41) mfX8_keep (hS.cel rfl) ⟨_, rfl, rfl⟩ (k_keep hS hc hc4 _ _ _) (by omega) (Nat.le_of_ble_eq_true rfl) ?_
        rintro _ ρ1 ⟨rfl, hK⟩ -
        refine AW_iload_n dX8_makeNumber_61 rfl ?_
        refine AW_iret dX8_makeNumber_62 rfl ?_
        refine ⟨by rw [hE2], v, ?_, fun h => ?_⟩
        · rw [hE2]
          first | (rw [if_pos (by omega)]; exact hK) | (rw [if_neg (by omega)]; exact hK)
        · rw [hE2] at h
          rw [hv h, tkV, hE2]
      · skip
        refine AW_iconst dX8_makeNumber_51 ?_
        refine AW_goto (tgt := 56) dX8_makeNumber_52 (by decide) ?_
        refine AW_iload_n dX8_makeNumber_56 rfl ?_
        refine AW_iload_n dX8_makeNumber_57 rfl ?_
        refine AW_callV3 (d' := d - 1) dX8_makeNumber_58 (Or.inl lkX8_41) mfX8_keep (hS.cel rfl) ⟨_, rfl, rfl⟩ (k_keep hS hc hc4 _ _ _) (by omega) (Nat.le_of_ble_eq_true rfl) ?_
        rintro _ ρ1 ⟨rfl, hK⟩ -
        refine AW_iload_n dX8_makeNumber_61 rfl ?_
        refine AW_iret dX8_makeNumber_62 rfl ?_
        refine ⟨by rw [hE2], v, ?_, fun h => ?_⟩
        · rw [hE2]
          first | (rw [if_pos (by omega)]; exact hK) | (rw [if_neg (by omega)]; exact hK)
        · rw [hE2] at h
          rw [hv h, tkV, hE2]
    · skip
      refine AW_aload_n dX8_makeNumber_12 rfl ?_
      refine AW_iload_n dX8_makeNumber_13 rfl ?_
      refine AW_callV1 (d' := d - 1) dX8_makeNumber_14 (Or.inl lkX8_30) mfX8_signAt (hS.cel rfl) ⟨_, rfl, rfl⟩ (k_signV hS hT _ q rfl (by omega)) (by omega) (Nat.le_of_ble_eq_true rfl) ?_
      rintro _ _ ⟨e_, rfl⟩ -
      rw [e_]
      clear e_
      refine AW_callS1 (d' := d - 1) dX8_makeNumber_17 lkX8_52 mfX8_isDigit (k_isDig _) (by omega) (Nat.le_of_ble_eq_true rfl) ?_
      rintro _ _ ⟨e_, rfl⟩ -
      rw [e_]
      clear e_
      refine AW_if_eq (tgt := 43) dX8_makeNumber_20 (by decide) (fun c_20 => ?_) (fun c_20 => ?_)
      · skip
        replace c_20 := bz0 c_20
        have hE2 : endP digB B n p = q := by rw [hE, endP_stop (fun h => c_20 ((digB_iff _).mp h.2))]
        refine AW_aload_n dX8_makeNumber_43 rfl ?_
        refine AW_iload_n dX8_makeNumber_44 rfl ?_
        refine AW_iload_n dX8_makeNumber_45 rfl ?_
        refine AW_isubE dX8_makeNumber_46 (by omega) (by omega) ?_
        refine AW_iconst dX8_makeNumber_47 ?_
        refine AW_icmp_gt (tgt := 55) dX8_makeNumber_48 (by decide) (fun c_48 => ?_) (fun c_48 => ?_)
        · skip
          refine AW_iconst dX8_makeNumber_55 ?_
          refine AW_iload_n dX8_makeNumber_56 rfl ?_
          refine AW_iload_n dX8_makeNumber_57 rfl ?_
          refine AW_callV3 (d' := d - 1) dX8_makeNumber_58 (Or.inl lkX8_41) mfX8_keep (hS.cel rfl) ⟨_, rfl, rfl⟩ (k_keep hS hc hc4 _ _ _) (by omega) (Nat.le_of_ble_eq_true rfl) ?_
          rintro _ ρ1 ⟨rfl, hK⟩ -
          refine AW_iload_n dX8_makeNumber_61 rfl ?_
          refine AW_iret dX8_makeNumber_62 rfl ?_
          refine ⟨by rw [hE2], v, ?_, fun h => ?_⟩
          · rw [hE2]
            first | (rw [if_pos (by omega)]; exact hK) | (rw [if_neg (by omega)]; exact hK)
          · rw [hE2] at h
            rw [hv h, tkV, hE2]
        · skip
          refine AW_iconst dX8_makeNumber_51 ?_
          refine AW_goto (tgt := 56) dX8_makeNumber_52 (by decide) ?_
          refine AW_iload_n dX8_makeNumber_56 rfl ?_
          refine AW_iload_n dX8_makeNumber_57 rfl ?_
          refine AW_callV3 (d' := d - 1) dX8_makeNumber_58 (Or.inl lkX8_41) mfX8_keep (hS.cel rfl) ⟨_, rfl, rfl⟩ (k_keep hS hc hc4 _ _ _) (by omega) (Nat.le_of_ble_eq_true rfl) ?_
          rintro _ ρ1 ⟨rfl, hK⟩ -
          refine AW_iload_n dX8_makeNumber_61 rfl ?_
          refine AW_iret dX8_makeNumber_62 rfl ?_
          refine ⟨by rw [hE2], v, ?_, fun h => ?_⟩
          · rw [hE2]
            first | (rw [if_pos (by omega)]; exact hK) | (rw [if_neg (by omega)]; exact hK)
          · rw [hE2] at h
            rw [hv h, tkV, hE2]
      · skip
        replace c_20 := bz1 c_20
        refine AW_iload_n dX8_makeNumber_23 rfl ?_
        refine AW_bipush dX8_makeNumber_24 ?_
        refine AW_imul dX8_makeNumber_26 ?_
        refine AW_aload_n dX8_makeNumber_27 rfl ?_
        refine AW_iload_n dX8_makeNumber_28 rfl ?_
        refine AW_callV1 (d' := d - 1) dX8_makeNumber_29 (Or.inl lkX8_30) mfX8_signAt (hS.cel rfl) ⟨_, rfl, rfl⟩ (k_signV hS hT _ q rfl (by omega)) (by omega) (Nat.le_of_ble_eq_true rfl) ?_
        rintro _ _ ⟨e_, rfl⟩ -
        rw [e_]
        clear e_
        refine AW_iadd dX8_makeNumber_32 ?_
        refine AW_bipush dX8_makeNumber_33 ?_
        refine AW_isub dX8_makeNumber_35 ?_
        refine AW_istore3 dX8_makeNumber_36 ?_
        refine AW_iincE2 dX8_makeNumber_37 (by omega) (by omega) ?_
        refine AW_goto (tgt := 4) dX8_makeNumber_40 (by decide) ?_
        rw [show (q : Int) + 1 = ((q + 1 : Nat) : Int) by omega]
        refine ih (q + 1) _ (by omega) (by omega) (by omega) (hE.trans (endP_go (by omega) ((digB_iff _).mpr c_20))) (fun j h1 h2 => ?_) (fun h4 => ?_)
        · by_cases hj : j = q
          · subst hj; exact c_20
          · exact hdg j h1 (by omega)
        · have hb := numV_4 (B := B) (p := p) (k := q - p) (by omega) (fun j hj => hdg (p + j) (by omega) (by omega))
          have hv2 := hv (by omega)
          rw [show q + 1 - p = (q - p) + 1 by omega]
          simp only [numV]
          rw [show p + (q - p) = q by omega, ← hv2]
          rw [← hv2] at hb
          rw [wr_id (x := v * 10) (by omega) (by omega), wr_id (x := v * 10 + B q) (by omega) (by omega), wr_id (by omega) (by omega)]
          omega
theorem k_mn {G : Gt} {d : Nat} {σ : St} {n c : Nat} {B : Nat → Int} (hS : Sta σ) (hT : tpC n B σ) (hc : σ.2.1 29 5 = c) (hc4 : c ≤ 400) (p0 : Int) (p : Nat) (e : p0 = p) (hd : 6 ≤ d) (hp : p < n) : AM mX8_makeNumber G d 0 0 [vR 29, vI p0] σ (fun ro ρ => ro = some (vI (endP digB B n p : Int)) ∧ ∃ v : Int, kpC c (if endP digB B n p - p ≤ 4 then 2 else 1) p v σ ρ ∧ (endP digB B n p - p ≤ 4 → v = tkV B n p)) := by
  subst e
  refine AM.intro (by decide +kernel) (by simp [nLg]) (Nat.le_of_ble_eq_true rfl) (fun hO => ?_)
  have h5 := hT.2.1
  show AW _ _ _ _ _ _ 0 [some (vR 29), some (vI (p : Int)), none, none] [] σ
  refine AW_iload_n dX8_makeNumber_0 rfl ?_
  refine AW_istore2 dX8_makeNumber_1 ?_
  refine AW_iconst dX8_makeNumber_2 ?_
  refine AW_istore3 dX8_makeNumber_3 ?_
  exact l_mn hS hT hc hc4 hd hp (n + 1) p 0 (by omega) (by omega) (by omega) rfl (fun j h1 h2 => by omega) (fun _ => by rw [Nat.sub_self]; rfl)
theorem i2c_id : ∀ c : Int, 0 ≤ c → c < 256 → aI2c c = c := by
  intro c h0 h1
  have := (by decide +kernel : ∀ k : Fin 256, aI2c (k.val : Int) = (k.val : Int)) ⟨c.toNat, by omega⟩
  simp only at this
  rwa [show ((c.toNat : Nat) : Int) = c by omega] at this
theorem k_mo {G : Gt} {d : Nat} {σ : St} {n c : Nat} {B : Nat → Int} (hS : Sta σ) (hT : tpC n B σ) (hc : σ.2.1 29 5 = c) (hc4 : c ≤ 400) (p0 s0 : Int) (p : Nat) (e : p0 = p) (e2 : s0 = B p) (hd : 7 ≤ d) (hp : p < n) : AM mX8_makeOne G d 0 0 [vR 29, vI p0, vI s0] σ (fun ro ρ => ro = some (vI (tkQ B n p : Int)) ∧ ∃ v : Int, kpC c (tkK B n p) p v σ ρ ∧ (tkK B n p = 2 → v = tkV B n p)) := by
  subst e e2
  refine AM.intro (by decide +kernel) (by simp [nLg]) (Nat.le_of_ble_eq_true rfl) (fun hO => ?_)
  have h5 := hT.2.1
  have hby := hT.byt hp
  show AW _ _ _ _ _ _ 0 [some (vR 29), some (vI (p : Int)), some (vI (B p))] [] σ
  refine AW_iload_n dX8_makeOne_0 rfl ?_
  refine AW_callS1 (d' := d - 1) dX8_makeOne_1 lkX8_45 mfX8_isLetter (k_isLet _) (by omega) (Nat.le_of_ble_eq_true rfl) ?_
  rintro _ _ ⟨e_, rfl⟩ -
  rw [e_]
  clear e_
  refine AW_if_eq (tgt := 13) dX8_makeOne_4 (by decide) (fun c_4 => ?_) (fun c_4 => ?_)
  · skip
    replace c_4 := bz0 c_4
    refine AW_iload_n dX8_makeOne_13 rfl ?_
    refine AW_callS1 (d' := d - 1) dX8_makeOne_14 lkX8_52 mfX8_isDigit (k_isDig _) (by omega) (Nat.le_of_ble_eq_true rfl) ?_
    rintro _ _ ⟨e_, rfl⟩ -
    rw [e_]
    clear e_
    refine AW_if_eq (tgt := 26) dX8_makeOne_17 (by decide) (fun c_17 => ?_) (fun c_17 => ?_)
    · skip
      replace c_17 := bz0 c_17
      refine AW_aload_n dX8_makeOne_26 rfl ?_
      refine AW_ldcs (e := 5) dX8_makeOne_27 kn_S (by decide) (by decide) ?_
      refine AW_iload_n dX8_makeOne_29 rfl ?_
      refine AW_i2c dX8_makeOne_30 ?_
      rw [i2c_id _ hby.1 hby.2]
      refine AW_callVx1 1 dX8_makeOne_31 lkX8_60 mfJ0_indexOf_0f7a4 (by decide) rfl (k_sio (by omega) _ hby) (by omega) (Nat.le_of_ble_eq_true rfl) ?_
      rintro _ _ ⟨e_, z, rfl, hz⟩ -
      rw [e_]
      clear e_
      refine AW_if_lt (tgt := 41) dX8_makeOne_34 (by decide) (fun c_34 => ?_) (fun c_34 => ?_)
      · skip
        refine AW_iconst dX8_makeOne_41 ?_
        refine AW_iload_n dX8_makeOne_42 rfl ?_
        refine AW_iconst dX8_makeOne_43 ?_
        refine AW_callV3 (d' := d - 1) dX8_makeOne_44 (Or.inl lkX8_41) mfX8_keep (hS.cel rfl) ⟨_, rfl, rfl⟩ (k_keep hS hc hc4 _ _ _) (by omega) (Nat.le_of_ble_eq_true rfl) ?_
        rintro _ ρ1 ⟨rfl, hK⟩ -
        refine AW_iload_n dX8_makeOne_47 rfl ?_
        refine AW_iconst dX8_makeOne_48 ?_
        refine AW_iaddE dX8_makeOne_49 (by omega) (by omega) ?_
        refine AW_iret dX8_makeOne_50 rfl ?_
        have e1 : tkQ B n p = p + 1 := by
          unfold tkQ
          rw [if_neg (by omega), if_neg c_4, if_neg c_17]
        have e2 : tkK B n p = (if isSig (B p) then B p else 1) := by
          unfold tkK
          rw [if_neg (by omega), if_neg c_4, if_neg c_17]
        refine ⟨by rw [e1]; congr 2, 0, ?_, fun h => ?_⟩
        · rw [e2]
          first | (rw [if_pos (hz.mp (by omega))]; exact hK) | (rw [if_neg (fun q => absurd (hz.mpr q) (by omega))]; exact hK)
        · rw [e2] at h
          split at h
          · rename_i hs
            rcases hs with q | q | q | q | q | q | q | q | q | q <;> omega
          · omega
      · skip
        refine AW_iload_n dX8_makeOne_37 rfl ?_
        refine AW_goto (tgt := 42) dX8_makeOne_38 (by decide) ?_
        refine AW_iload_n dX8_makeOne_42 rfl ?_
        refine AW_iconst dX8_makeOne_43 ?_
        refine AW_callV3 (d' := d - 1) dX8_makeOne_44 (Or.inl lkX8_41) mfX8_keep (hS.cel rfl) ⟨_, rfl, rfl⟩ (k_keep hS hc hc4 _ _ _) (by omega) (Nat.le_of_ble_eq_true rfl) ?_
        rintro _ ρ1 ⟨rfl, hK⟩ -
        refine AW_iload_n dX8_makeOne_47 rfl ?_
        refine AW_iconst dX8_makeOne_48 ?_
        refine AW_iaddE dX8_makeOne_49 (by omega) (by omega) ?_
        refine AW_iret dX8_makeOne_50 rfl ?_
        have e1 : tkQ B n p = p + 1 := by
          unfold tkQ
          rw [if_neg (by omega), if_neg c_4, if_neg c_17]
        have e2 : tkK B n p = (if isSig (B p) then B p else 1) := by
          unfold tkK
          rw [if_neg (by omega), if_neg c_4, if_neg c_17]
        refine ⟨by rw [e1]; congr 2, 0, ?_, fun h => ?_⟩
        · rw [e2]
          first | (rw [if_pos (hz.mp (by omega))]; exact hK) | (rw [if_neg (fun q => absurd (hz.mpr q) (by omega))]; exact hK)
        · rw [e2] at h
          split at h
          · rename_i hs
            rcases hs with q | q | q | q | q | q | q | q | q | q <;> omega
          · omega
    · skip
      replace c_17 := bz1 c_17
      refine AW_aload_n dX8_makeOne_20 rfl ?_
      refine AW_iload_n dX8_makeOne_21 rfl ?_
      refine AW_callV1 (d' := d - 1) dX8_makeOne_22 (Or.inl lkX8_55) mfX8_makeNumber (hS.cel rfl) ⟨_, rfl, rfl⟩ (k_mn hS hT hc hc4 _ p rfl (by omega) hp) (by omega) (Nat.le_of_ble_eq_true rfl) ?_
      rintro _ ρ1 ⟨rfl, v, hK, hv⟩ -
      refine AW_iret dX8_makeOne_25 rfl ?_
      have e1 : tkQ B n p = endP digB B n p := by
        unfold tkQ
        rw [if_neg (by omega), if_neg c_4, if_pos c_17]
      have e2 : tkK B n p = (if endP digB B n p - p ≤ 4 then 2 else 1) := by
        unfold tkK
        rw [if_neg (by omega), if_neg c_4, if_pos c_17]
      refine ⟨by rw [e1], v, by rw [e2]; exact hK, fun h => hv ?_⟩
      rw [e2] at h
      split at h
      · assumption
      · omega
  · skip
    replace c_4 := bz1 c_4
    refine AW_aload_n dX8_makeOne_7 rfl ?_
    refine AW_iload_n dX8_makeOne_8 rfl ?_
    refine AW_callV1 (d' := d - 1) dX8_makeOne_9 (Or.inl lkX8_49) mfX8_makeWord (hS.cel rfl) ⟨_, rfl, rfl⟩ (k_mw hS hT hc hc4 _ p rfl (by omega) hp) (by omega) (Nat.le_of_ble_eq_true rfl) ?_
    rintro _ ρ1 ⟨rfl, hK⟩ -
    refine AW_iret dX8_makeOne_12 rfl ?_
    have e1 : tkQ B n p = endP letB B n (p + 1) := by
      unfold tkQ
      rw [if_neg (by omega), if_pos c_4]
    have e2 : tkK B n p = (if kw B p (endP letB B n (p + 1) - p) = -1 then 1 else 256 + kw B p (endP letB B n (p + 1) - p)) := by
      unfold tkK
      rw [if_neg (by omega), if_pos c_4]
    have hb := kw_b B p (endP letB B n (p + 1) - p)
    refine ⟨by rw [e1], 0, by rw [e2]; exact hK, fun h => ?_⟩
    rw [e2] at h
    split at h <;> omega
