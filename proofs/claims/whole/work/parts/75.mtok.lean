/-- bytes -/
def byB (B : Nat → Int) (n : Nat) : Prop := ∀ k, k < n → 0 ≤ B k ∧ B k < 256
/-- the model's row of KEYWORDS -/
def wdM (σ : St) : Prop := ∀ k, k < 65 → σ.2.1 104 k = if k = 0 then 32 else txB 0 (k - 1)
theorem wdM.fm {fs L : List Nat} {σ τ : St} (h : wdM σ) (hF : Fm fs L σ τ) (h2 : 104 ∉ 94 :: L := by decide) : wdM τ := fun k hk => (hF.a 104 k h2).trans (h k hk)
theorem n_raw {G : Gt} {d : Nat} {σ : St}  {n : Nat} {B : Nat → Int} (hS : Sta σ) (hT : tpM n B σ) (k : Int) (hk : 0 ≤ k) : AM mX12_raw G d 0 0 [vR 94, vI k] σ (fun r τ => τ = σ ∧ r = some (vI (if k < n then B k.toNat else -1))) := by
  refine AM.intro (by decide +kernel) (by simp [nLg]) (Nat.le_of_ble_eq_true rfl) (fun hO => ?_)
  have i_k : -2147483648 ≤ k ∧ k < 2147483648 := hO (vI k) (by simp)
  show AW _ _ _ _ _ _ 0 [some (vR 94), some (vI k)] [] σ
  have h4 := hT.1
  have h5 := hT.2.1
  refine AW_iload_n dX12_raw_0 rfl ?_
  refine AW_aload_n dX12_raw_1 rfl ?_
  refine AW_getI dX12_raw_2 gfX12_211 (hS.cel rfl) ?_
  refine AW_icmp_ge (tgt := 17) dX12_raw_5 (by decide) (fun c_5 => ?_) (fun c_5 => ?_)
  · skip
    refine AW_iconst dX12_raw_17 ?_
    refine AW_iret dX12_raw_18 rfl ?_
    refine ⟨rfl, ?_⟩
    first | (rw [if_neg (by omega)]; done) | (rw [if_pos (by omega), hT.2.2 k.toNat (by omega)]; done)
  · skip
    refine AW_aload_n dX12_raw_8 rfl ?_
    refine AW_getR (a := 103) dX12_raw_9 gfX12_47 (hS.cel rfl) (hS.rf rfl) ?_
    refine AW_iload_n dX12_raw_12 rfl ?_
    refine AW_iald dX12_raw_13 (hS.cel rfl) (by omega) (by omega) ?_
    refine AW_goto (tgt := 18) dX12_raw_14 (by decide) ?_
    refine AW_iret dX12_raw_18 rfl ?_
    refine ⟨rfl, ?_⟩
    first | (rw [if_neg (by omega)]; done) | (rw [if_pos (by omega), hT.2.2 k.toNat (by omega)]; done)
theorem n_isLet {G : Gt} {d : Nat} {σ : St} (hd : 1 ≤ d) (hS : Sta σ) (c : Int)  : AM mX12_isLetter G d 0 0 [vR 94, vI c] σ (fun r τ => τ = σ ∧ r = some (vI (if isLet c then 1 else 0))) := by
  refine AM.intro (by decide +kernel) (by simp [nLg]) (Nat.le_of_ble_eq_true rfl) (fun hO => ?_)
  have i_c : -2147483648 ≤ c ∧ c < 2147483648 := hO (vI c) (by simp)
  show AW _ _ _ _ _ _ 0 [some (vR 94), some (vI c)] [] σ
  refine AW_aload_n dX12_isLetter_0 rfl ?_
  refine AW_iload_n dX12_isLetter_1 rfl ?_
  refine AW_bipush dX12_isLetter_2 ?_
  refine AW_bipush dX12_isLetter_4 ?_
  refine AW_callV3 (d' := d - 1) dX12_isLetter_6 (Or.inl lkX12_149) mfX12_isIn (hS.cel rfl) ⟨_, rfl, rfl⟩ (n_isIn c 97 122) (by omega) (Nat.le_of_ble_eq_true rfl) ?_
  rintro _ _ ⟨e_, rfl⟩ -
  rw [e_]
  clear e_
  refine AW_if_ne (tgt := 24) dX12_isLetter_9 (by decide) (fun c_9 => ?_) (fun c_9 => ?_)
  · skip
    replace c_9 := bz1 c_9
    refine AW_iconst dX12_isLetter_24 ?_
    refine AW_goto (tgt := 29) dX12_isLetter_25 (by decide) ?_
    refine AW_zret dX12_isLetter_29 rfl (by decide) ?_
    refine ⟨rfl, ?_⟩
    first | (exfalso; omega; done) | rw [if_pos (by omega)] | rw [if_neg (by omega)]
  · skip
    replace c_9 := bz0 c_9
    refine AW_aload_n dX12_isLetter_12 rfl ?_
    refine AW_iload_n dX12_isLetter_13 rfl ?_
    refine AW_bipush dX12_isLetter_14 ?_
    refine AW_bipush dX12_isLetter_16 ?_
    refine AW_callV3 (d' := d - 1) dX12_isLetter_18 (Or.inl lkX12_149) mfX12_isIn (hS.cel rfl) ⟨_, rfl, rfl⟩ (n_isIn c 65 90) (by omega) (Nat.le_of_ble_eq_true rfl) ?_
    rintro _ _ ⟨e_, rfl⟩ -
    rw [e_]
    clear e_
    refine AW_if_eq (tgt := 28) dX12_isLetter_21 (by decide) (fun c_21 => ?_) (fun c_21 => ?_)
    · skip
      replace c_21 := bz0 c_21
      refine AW_iconst dX12_isLetter_28 ?_
      refine AW_zret dX12_isLetter_29 rfl (by decide) ?_
      refine ⟨rfl, ?_⟩
      first | (exfalso; omega; done) | rw [if_pos (by omega)] | rw [if_neg (by omega)]
    · skip
      replace c_21 := bz1 c_21
      refine AW_iconst dX12_isLetter_24 ?_
      refine AW_goto (tgt := 29) dX12_isLetter_25 (by decide) ?_
      refine AW_zret dX12_isLetter_29 rfl (by decide) ?_
      refine ⟨rfl, ?_⟩
      first | (exfalso; omega; done) | rw [if_pos (by omega)] | rw [if_neg (by omega)]
theorem n_isDig {G : Gt} {d : Nat} {σ : St} (hd : 1 ≤ d) (hS : Sta σ) (c : Int)  : AM mX12_isDigit G d 0 0 [vR 94, vI c] σ (fun r τ => τ = σ ∧ r = some (vI (if isDig c then 1 else 0))) := by
  refine AM.intro (by decide +kernel) (by simp [nLg]) (Nat.le_of_ble_eq_true rfl) (fun hO => ?_)
  have i_c : -2147483648 ≤ c ∧ c < 2147483648 := hO (vI c) (by simp)
  show AW _ _ _ _ _ _ 0 [some (vR 94), some (vI c)] [] σ
  refine AW_aload_n dX12_isDigit_0 rfl ?_
  refine AW_iload_n dX12_isDigit_1 rfl ?_
  refine AW_bipush dX12_isDigit_2 ?_
  refine AW_bipush dX12_isDigit_4 ?_
  refine AW_callV3 (d' := d - 1) dX12_isDigit_6 (Or.inl lkX12_149) mfX12_isIn (hS.cel rfl) ⟨_, rfl, rfl⟩ (n_isIn c 48 57) (by omega) (Nat.le_of_ble_eq_true rfl) ?_
  rintro _ _ ⟨e_, rfl⟩ -
  rw [e_]
  clear e_
  refine AW_zret dX12_isDigit_9 rfl (b01 _) ?_
  exact ⟨rfl, rfl⟩
theorem n_mark {G : Gt} {d : Nat} {σ : St}   (c : Int)  : AM mX12_isMarkSign G d 0 0 [vR 94, vI c] σ (fun r τ => τ = σ ∧ r = some (vI (if isSig c then 1 else 0))) := by
  refine AM.intro (by decide +kernel) (by simp [nLg]) (Nat.le_of_ble_eq_true rfl) (fun hO => ?_)
  have i_c : -2147483648 ≤ c ∧ c < 2147483648 := hO (vI c) (by simp)
  show AW _ _ _ _ _ _ 0 [some (vR 94), some (vI c)] [] σ
  refine AW_iload_n dX12_isMarkSign_0 rfl ?_
  refine AW_bipush dX12_isMarkSign_1 ?_
  refine AW_icmp_eq (tgt := 60) dX12_isMarkSign_3 (by decide) (fun c_3 => ?_) (fun c_3 => ?_)
  · skip
    refine AW_iconst dX12_isMarkSign_60 ?_
    refine AW_goto (tgt := 65) dX12_isMarkSign_61 (by decide) ?_
    refine AW_zret dX12_isMarkSign_65 rfl (by decide) ?_
    refine ⟨rfl, ?_⟩
    first | rw [if_pos (by omega)] | rw [if_neg (by omega)]
  · skip
    refine AW_iload_n dX12_isMarkSign_6 rfl ?_
    refine AW_bipush dX12_isMarkSign_7 ?_
    refine AW_icmp_eq (tgt := 60) dX12_isMarkSign_9 (by decide) (fun c_9 => ?_) (fun c_9 => ?_)
    · skip
      refine AW_iconst dX12_isMarkSign_60 ?_
      refine AW_goto (tgt := 65) dX12_isMarkSign_61 (by decide) ?_
      refine AW_zret dX12_isMarkSign_65 rfl (by decide) ?_
      refine ⟨rfl, ?_⟩
      first | rw [if_pos (by omega)] | rw [if_neg (by omega)]
    · skip
      refine AW_iload_n dX12_isMarkSign_12 rfl ?_
      refine AW_bipush dX12_isMarkSign_13 ?_
      refine AW_icmp_eq (tgt := 60) dX12_isMarkSign_15 (by decide) (fun c_15 => ?_) (fun c_15 => ?_)
      · skip
        refine AW_iconst dX12_isMarkSign_60 ?_
        refine AW_goto (tgt := 65) dX12_isMarkSign_61 (by decide) ?_
        refine AW_zret dX12_isMarkSign_65 rfl (by decide) ?_
        refine ⟨rfl, ?_⟩
        first | rw [if_pos (by omega)] | rw [if_neg (by omega)]
      · skip
        refine AW_iload_n dX12_isMarkSign_18 rfl ?_
        refine AW_bipush dX12_isMarkSign_19 ?_
        refine AW_icmp_eq (tgt := 60) dX12_isMarkSign_21 (by decide) (fun c_21 => ?_) (fun c_21 => ?_)
        · skip
          refine AW_iconst dX12_isMarkSign_60 ?_
          refine AW_goto (tgt := 65) dX12_isMarkSign_61 (by decide) ?_
          refine AW_zret dX12_isMarkSign_65 rfl (by decide) ?_
          refine ⟨rfl, ?_⟩
          first | rw [if_pos (by omega)] | rw [if_neg (by omega)]
        · skip
          refine AW_iload_n dX12_isMarkSign_24 rfl ?_
          refine AW_bipush dX12_isMarkSign_25 ?_
          refine AW_icmp_eq (tgt := 60) dX12_isMarkSign_27 (by decide) (fun c_27 => ?_) (fun c_27 => ?_)
          · skip
            refine AW_iconst dX12_isMarkSign_60 ?_
            refine AW_goto (tgt := 65) dX12_isMarkSign_61 (by decide) ?_
            refine AW_zret dX12_isMarkSign_65 rfl (by decide) ?_
            refine ⟨rfl, ?_⟩
            first | rw [if_pos (by omega)] | rw [if_neg (by omega)]
          · skip
            refine AW_iload_n dX12_isMarkSign_30 rfl ?_
            refine AW_bipush dX12_isMarkSign_31 ?_
            refine AW_icmp_eq (tgt := 60) dX12_isMarkSign_33 (by decide) (fun c_33 => ?_) (fun c_33 => ?_)
            · skip
              refine AW_iconst dX12_isMarkSign_60 ?_
              refine AW_goto (tgt := 65) dX12_isMarkSign_61 (by decide) ?_
              refine AW_zret dX12_isMarkSign_65 rfl (by decide) ?_
              refine ⟨rfl, ?_⟩
              first | rw [if_pos (by omega)] | rw [if_neg (by omega)]
            · skip
              refine AW_iload_n dX12_isMarkSign_36 rfl ?_
              refine AW_bipush dX12_isMarkSign_37 ?_
              refine AW_icmp_eq (tgt := 60) dX12_isMarkSign_39 (by decide) (fun c_39 => ?_) (fun c_39 => ?_)
              · skip
                refine AW_iconst dX12_isMarkSign_60 ?_
                refine AW_goto (tgt := 65) dX12_isMarkSign_61 (by decide) ?_
                refine AW_zret dX12_isMarkSign_65 rfl (by decide) ?_
                refine ⟨rfl, ?_⟩
                first | rw [if_pos (by omega)] | rw [if_neg (by omega)]
              · skip
                refine AW_iload_n dX12_isMarkSign_42 rfl ?_
                refine AW_bipush dX12_isMarkSign_43 ?_
                refine AW_icmp_eq (tgt := 60) dX12_isMarkSign_45 (by decide) (fun c_45 => ?_) (fun c_45 => ?_)
                · skip
                  refine AW_iconst dX12_isMarkSign_60 ?_
                  refine AW_goto (tgt := 65) dX12_isMarkSign_61 (by decide) ?_
                  refine AW_zret dX12_isMarkSign_65 rfl (by decide) ?_
                  refine ⟨rfl, ?_⟩
                  first | rw [if_pos (by omega)] | rw [if_neg (by omega)]
                · skip
                  refine AW_iload_n dX12_isMarkSign_48 rfl ?_
                  refine AW_bipush dX12_isMarkSign_49 ?_
                  refine AW_icmp_eq (tgt := 60) dX12_isMarkSign_51 (by decide) (fun c_51 => ?_) (fun c_51 => ?_)
                  · skip
                    refine AW_iconst dX12_isMarkSign_60 ?_
                    refine AW_goto (tgt := 65) dX12_isMarkSign_61 (by decide) ?_
                    refine AW_zret dX12_isMarkSign_65 rfl (by decide) ?_
                    refine ⟨rfl, ?_⟩
                    first | rw [if_pos (by omega)] | rw [if_neg (by omega)]
                  · skip
                    refine AW_iload_n dX12_isMarkSign_54 rfl ?_
                    refine AW_bipush dX12_isMarkSign_55 ?_
                    refine AW_icmp_ne (tgt := 64) dX12_isMarkSign_57 (by decide) (fun c_57 => ?_) (fun c_57 => ?_)
                    · skip
                      refine AW_iconst dX12_isMarkSign_64 ?_
                      refine AW_zret dX12_isMarkSign_65 rfl (by decide) ?_
                      refine ⟨rfl, ?_⟩
                      first | rw [if_pos (by omega)] | rw [if_neg (by omega)]
                    · skip
                      refine AW_iconst dX12_isMarkSign_60 ?_
                      refine AW_goto (tgt := 65) dX12_isMarkSign_61 (by decide) ?_
                      refine AW_zret dX12_isMarkSign_65 rfl (by decide) ?_
                      refine ⟨rfl, ?_⟩
                      first | rw [if_pos (by omega)] | rw [if_neg (by omega)]
theorem tx_let : ∀ j, j < 13 → (∀ i, i < kln j → txB 0 (kst j + i) ≠ 32) ∧ txB 0 (kst j + kln j) = 32 ∧ kst j + kln j < 64 ∧ (j < 12 → kst (j + 1) = kst j + kln j + 1) ∧ (j = 12 → kst j + kln j + 1 = 64) ∧ kst j < 64 := by decide +kernel
theorem kst13 : kst 13 = 64 := rfl
theorem kst_next {j : Nat} (hj : j < 13) : kst (j + 1) = kst j + kln j + 1 := by
  have h := tx_let j hj
  by_cases h2 : j < 12
  · exact h.2.2.2.1 h2
  · have : j = 12 := by omega
    subst this
    exact (h.2.2.2.2.1 rfl).symm
theorem l_wa3 {G : Gt} {d : Nat} {σ : St} {n : Nat} {B : Nat → Int} {p q : Nat} (hS : Sta σ) (hT : tpM n B σ) (hw : wdM σ) (hp : p ≤ q) (hq : q ≤ n) (hlet : ∀ k, p ≤ k → k < q → isLet (B k)) {j : Nat} (hj : j < 13) {x5 : Option AV} (K : AW mX12_wordAt G d 0 0 (mq G (fun ro ρ => ρ = σ ∧ ro = some (vI (kw B p (q - p))))) 5 [some (vR 94), some (vI (p : Int)), some (vI (q : Int)), some (vI (j : Int)), some (vI (kst (j + 1) : Int)), x5] [] σ) : ∀ (nn : Nat) (k : Nat), (kst (j + 1) - k) < nn → kst j < k → k ≤ kst (j + 1) →  AW mX12_wordAt G d 0 0 (mq G (fun ro ρ => ρ = σ ∧ ro = some (vI (kw B p (q - p))))) 93 [some (vR 94), some (vI (p : Int)), some (vI (q : Int)), some (vI (j : Int)), some (vI (k : Int)), x5] [] σ := by
  intro nn
  induction nn with
  | zero => intros; omega
  | succ nn ih =>
    intro k hn h1 h2
    have ht := tx_let j hj
    have hnx := kst_next hj
    have hwk := hw k (by omega)
    rw [if_neg (by omega)] at hwk
    refine AW_aload_n dX12_wordAt_93 rfl ?_
    refine AW_getR (a := 104) dX12_wordAt_94 gfX12_50 (hS.cel rfl) (hS.rf rfl) ?_
    refine AW_iload dX12_wordAt_97 rfl ?_
    refine AW_iald dX12_wordAt_99 (hS.cel rfl) (by omega) (by omega) ?_
    rw [Int.toNat_natCast, hwk]
    refine AW_bipush dX12_wordAt_100 ?_
    refine AW_icmp_eq (tgt := 114) dX12_wordAt_102 (by decide) (fun c_102 => ?_) (fun c_102 => ?_)
    · skip
      refine AW_goto (tgt := 5) dX12_wordAt_114 (by decide) ?_
      have hke : k = kst (j + 1) := by
        rcases Nat.lt_or_ge k (kst (j + 1)) with h | h
        · exfalso
          have := ht.1 (k - 1 - kst j) (by omega)
          rw [show kst j + (k - 1 - kst j) = k - 1 by omega] at this
          exact this c_102
        · omega
      rw [hke]
      exact K
    · skip
      refine AW_iload dX12_wordAt_105 rfl ?_
      refine AW_iconst dX12_wordAt_107 ?_
      refine AW_iaddE dX12_wordAt_108 (by omega) (by omega) ?_
      refine AW_istore4 dX12_wordAt_109 ?_
      refine AW_goto (tgt := 93) dX12_wordAt_111 (by decide) ?_
      rw [show (k : Int) + 1 = ((k + 1 : Nat) : Int) by omega]
      have hlt : k < kst (j + 1) := by
        rcases Nat.lt_or_ge k (kst (j + 1)) with h | h
        · exact h
        · exfalso
          apply c_102
          rw [show k - 1 = kst j + kln j by omega]
          exact ht.2.1
      exact ih (k + 1) (by omega) (by omega) (by omega)
theorem spl_le {B : Nat → Int} {p q j i : Nat} (hj : j < 13) (hpi : p + i ≤ q) (hlet : ∀ k, p ≤ k → k < q → isLet (B k)) (h : ∀ k, k < i → txB 0 (kst j + k) = B (p + k)) : i ≤ kln j := by
  rcases Nat.lt_or_ge (kln j) i with h2 | h2
  · exfalso
    have h3 := h (kln j) h2
    rw [(tx_let j hj).2.1] at h3
    have h4 := hlet (p + kln j) (by omega) (by omega)
    omega
  · exact h2
theorem l_wa2 {G : Gt} {d : Nat} {σ : St} {n : Nat} {B : Nat → Int} {p q : Nat} (hS : Sta σ) (hT : tpM n B σ) (hw : wdM σ) (hp : p ≤ q) (hq : q ≤ n) (hlet : ∀ k, p ≤ k → k < q → isLet (B k)) {j : Nat} (hj : j < 13) (hno : ∀ k, k < j → ¬ kwHit B p (q - p) k) (K : ∀ x5, (¬ kwHit B p (q - p) j) → AW mX12_wordAt G d 0 0 (mq G (fun ro ρ => ρ = σ ∧ ro = some (vI (kw B p (q - p))))) 5 [some (vR 94), some (vI (p : Int)), some (vI (q : Int)), some (vI (j : Int)), some (vI (kst (j + 1) : Int)), x5] [] σ) : ∀ (nn : Nat) (i : Nat), (q - (p + i)) < nn → p + i ≤ q → (∀ k, k < i → txB 0 (kst j + k) = B (p + k)) →  AW mX12_wordAt G d 0 0 (mq G (fun ro ρ => ρ = σ ∧ ro = some (vI (kw B p (q - p))))) 19 [some (vR 94), some (vI (p : Int)), some (vI (q : Int)), some (vI (j : Int)), some (vI (kst j : Int)), some (vI (i : Int))] [] σ := by
  intro nn
  induction nn with
  | zero => intros; omega
  | succ nn ih =>
    intro i hn hi hk
    have h4 := hT.1
    have h5 := hT.2.1
    have ht := tx_let j hj
    have hle := spl_le hj hi hlet hk
    have hwk := hw (kst j + 1 + i) (by omega)
    rw [if_neg (by omega), show kst j + 1 + i - 1 = kst j + i by omega] at hwk
    have ew : ((kst j : Int) + 1 + (i : Int)).toNat = kst j + 1 + i := by omega
    refine AW_iload_n dX12_wordAt_19 rfl ?_
    refine AW_iload dX12_wordAt_20 rfl ?_
    refine AW_iaddE dX12_wordAt_22 (by omega) (by omega) ?_
    refine AW_iload_n dX12_wordAt_23 rfl ?_
    refine AW_icmp_ge (tgt := 60) dX12_wordAt_24 (by decide) (fun c_24 => ?_) (fun c_24 => ?_)
    · skip
      refine AW_iload_n dX12_wordAt_60 rfl ?_
      refine AW_iload dX12_wordAt_61 rfl ?_
      refine AW_iaddE dX12_wordAt_63 (by omega) (by omega) ?_
      refine AW_iload_n dX12_wordAt_64 rfl ?_
      refine AW_icmp_ne (tgt := 87) dX12_wordAt_65 (by decide) (fun c_65 => ?_) (fun c_65 => ?_)
      · skip
        refine AW_iload dX12_wordAt_87 rfl ?_
        refine AW_iconst dX12_wordAt_89 ?_
        refine AW_iaddE dX12_wordAt_90 (by omega) (by omega) ?_
        refine AW_istore4 dX12_wordAt_91 ?_
        have hnh : ¬ kwHit B p (q - p) j := by
          rintro ⟨e1, e2⟩
          first
          | exact c_48 (e2 i (by omega))
          | exact absurd c_65 (by omega)
          | exact c_82 (by rw [show kst j + i = kst j + kln j by omega]; exact ht.2.1)
        rw [show (kst j : Int) + 1 = ((kst j + 1 : Nat) : Int) by omega]
        exact l_wa3 hS hT hw hp hq hlet hj (K _ hnh) 65 (kst j + 1) (by have := kst_next hj; omega) (by omega) (by have := kst_next hj; omega)
      · skip
        refine AW_aload_n dX12_wordAt_68 rfl ?_
        refine AW_getR (a := 104) dX12_wordAt_69 gfX12_50 (hS.cel rfl) (hS.rf rfl) ?_
        refine AW_iload dX12_wordAt_72 rfl ?_
        refine AW_iconst dX12_wordAt_74 ?_
        refine AW_iaddE dX12_wordAt_75 (by omega) (by omega) ?_
        refine AW_iload dX12_wordAt_76 rfl ?_
        refine AW_iaddE dX12_wordAt_78 (by omega) (by omega) ?_
        refine AW_iald dX12_wordAt_79 (hS.cel rfl) (by omega) (by omega) ?_
        rw [ew, hwk]
        refine AW_bipush dX12_wordAt_80 ?_
        refine AW_icmp_ne (tgt := 87) dX12_wordAt_82 (by decide) (fun c_82 => ?_) (fun c_82 => ?_)
        · skip
          refine AW_iload dX12_wordAt_87 rfl ?_
          refine AW_iconst dX12_wordAt_89 ?_
          refine AW_iaddE dX12_wordAt_90 (by omega) (by omega) ?_
          refine AW_istore4 dX12_wordAt_91 ?_
          have hnh : ¬ kwHit B p (q - p) j := by
            rintro ⟨e1, e2⟩
            first
            | exact c_48 (e2 i (by omega))
            | exact absurd c_65 (by omega)
            | exact c_82 (by rw [show kst j + i = kst j + kln j by omega]; exact ht.2.1)
          rw [show (kst j : Int) + 1 = ((kst j + 1 : Nat) : Int) by omega]
          exact l_wa3 hS hT hw hp hq hlet hj (K _ hnh) 65 (kst j + 1) (by have := kst_next hj; omega) (by omega) (by have := kst_next hj; omega)
        · skip
          refine AW_iload_n dX12_wordAt_85 rfl ?_
          refine AW_iret dX12_wordAt_86 rfl ?_
          refine ⟨rfl, ?_⟩
          have hii : i = q - p := by omega
          have hkl : kln j = i := by
            rcases Nat.lt_or_ge i (kln j) with h | h
            · exact absurd c_82 (ht.1 i h)
            · omega
          rw [kw_at hj ⟨by omega, fun k h => hk k (by omega)⟩ hno]
    · skip
      refine AW_aload_n dX12_wordAt_27 rfl ?_
      refine AW_getR (a := 104) dX12_wordAt_28 gfX12_50 (hS.cel rfl) (hS.rf rfl) ?_
      refine AW_iload dX12_wordAt_31 rfl ?_
      refine AW_iconst dX12_wordAt_33 ?_
      refine AW_iaddE dX12_wordAt_34 (by omega) (by omega) ?_
      refine AW_iload dX12_wordAt_35 rfl ?_
      refine AW_iaddE dX12_wordAt_37 (by omega) (by omega) ?_
      refine AW_iald dX12_wordAt_38 (hS.cel rfl) (by omega) (by omega) ?_
      rw [ew, hwk]
      refine AW_aload_n dX12_wordAt_39 rfl ?_
      refine AW_getR (a := 103) dX12_wordAt_40 gfX12_47 (hS.cel rfl) (hS.rf rfl) ?_
      refine AW_iload_n dX12_wordAt_43 rfl ?_
      refine AW_iload dX12_wordAt_44 rfl ?_
      refine AW_iaddE dX12_wordAt_46 (by omega) (by omega) ?_
      refine AW_iald dX12_wordAt_47 (hS.cel rfl) (by omega) (by omega) ?_
      rw [show ((p : Int) + (i : Int)).toNat = p + i by omega, hT.2.2 (p + i) (by omega)]
      refine AW_icmp_ne (tgt := 60) dX12_wordAt_48 (by decide) (fun c_48 => ?_) (fun c_48 => ?_)
      · skip
        refine AW_iload_n dX12_wordAt_60 rfl ?_
        refine AW_iload dX12_wordAt_61 rfl ?_
        refine AW_iaddE dX12_wordAt_63 (by omega) (by omega) ?_
        refine AW_iload_n dX12_wordAt_64 rfl ?_
        refine AW_icmp_ne (tgt := 87) dX12_wordAt_65 (by decide) (fun c_65 => ?_) (fun c_65 => ?_)
        · skip
          refine AW_iload dX12_wordAt_87 rfl ?_
          refine AW_iconst dX12_wordAt_89 ?_
          refine AW_iaddE dX12_wordAt_90 (by omega) (by omega) ?_
          refine AW_istore4 dX12_wordAt_91 ?_
          have hnh : ¬ kwHit B p (q - p) j := by
            rintro ⟨e1, e2⟩
            first
            | exact c_48 (e2 i (by omega))
            | exact absurd c_65 (by omega)
            | exact c_82 (by rw [show kst j + i = kst j + kln j by omega]; exact ht.2.1)
          rw [show (kst j : Int) + 1 = ((kst j + 1 : Nat) : Int) by omega]
          exact l_wa3 hS hT hw hp hq hlet hj (K _ hnh) 65 (kst j + 1) (by have := kst_next hj; omega) (by omega) (by have := kst_next hj; omega)
        · skip
          refine AW_aload_n dX12_wordAt_68 rfl ?_
          refine AW_getR (a := 104) dX12_wordAt_69 gfX12_50 (hS.cel rfl) (hS.rf rfl) ?_
          refine AW_iload dX12_wordAt_72 rfl ?_
          refine AW_iconst dX12_wordAt_74 ?_
          refine AW_iaddE dX12_wordAt_75 (by omega) (by omega) ?_
          refine AW_iload dX12_wordAt_76 rfl ?_
          refine AW_iaddE dX12_wordAt_78 (by omega) (by omega) ?_
          refine AW_iald dX12_wordAt_79 (hS.cel rfl) (by omega) (by omega) ?_
          rw [ew, hwk]
          refine AW_bipush dX12_wordAt_80 ?_
          refine AW_icmp_ne (tgt := 87) dX12_wordAt_82 (by decide) (fun c_82 => ?_) (fun c_82 => ?_)
          · skip
            refine AW_iload dX12_wordAt_87 rfl ?_
            refine AW_iconst dX12_wordAt_89 ?_
            refine AW_iaddE dX12_wordAt_90 (by omega) (by omega) ?_
            refine AW_istore4 dX12_wordAt_91 ?_
            have hnh : ¬ kwHit B p (q - p) j := by
              rintro ⟨e1, e2⟩
              first
              | exact c_48 (e2 i (by omega))
              | exact absurd c_65 (by omega)
              | exact c_82 (by rw [show kst j + i = kst j + kln j by omega]; exact ht.2.1)
            rw [show (kst j : Int) + 1 = ((kst j + 1 : Nat) : Int) by omega]
            exact l_wa3 hS hT hw hp hq hlet hj (K _ hnh) 65 (kst j + 1) (by have := kst_next hj; omega) (by omega) (by have := kst_next hj; omega)
          · skip
            refine AW_iload_n dX12_wordAt_85 rfl ?_
            refine AW_iret dX12_wordAt_86 rfl ?_
            refine ⟨rfl, ?_⟩
            have hii : i = q - p := by omega
            have hkl : kln j = i := by
              rcases Nat.lt_or_ge i (kln j) with h | h
              · exact absurd c_82 (ht.1 i h)
              · omega
            rw [kw_at hj ⟨by omega, fun k h => hk k (by omega)⟩ hno]
      · skip
        refine AW_iload dX12_wordAt_51 rfl ?_
        refine AW_iconst dX12_wordAt_53 ?_
        refine AW_iaddE dX12_wordAt_54 (by omega) (by omega) ?_
        refine AW_istore5 dX12_wordAt_55 ?_
        refine AW_goto (tgt := 19) dX12_wordAt_57 (by decide) ?_
        rw [show (i : Int) + 1 = ((i + 1 : Nat) : Int) by omega]
        refine ih (i + 1) (by omega) (by omega) (fun k h => ?_)
        by_cases hc : k = i
        · subst hc; exact c_48
        · exact hk k (by omega)
theorem l_wa1 {G : Gt} {d : Nat} {σ : St} {n : Nat} {B : Nat → Int} {p q : Nat} (hS : Sta σ) (hT : tpM n B σ) (hw : wdM σ) (hp : p ≤ q) (hq : q ≤ n) (hlet : ∀ k, p ≤ k → k < q → isLet (B k)) : ∀ (nn : Nat) (j : Nat) (x5 : Option AV), (13 - j) < nn → j ≤ 13 → (∀ k, k < j → ¬ kwHit B p (q - p) k) →  AW mX12_wordAt G d 0 0 (mq G (fun ro ρ => ρ = σ ∧ ro = some (vI (kw B p (q - p))))) 5 [some (vR 94), some (vI (p : Int)), some (vI (q : Int)), some (vI ((j : Int) - 1)), some (vI (kst j : Int)), x5] [] σ := by
  intro nn
  induction nn with
  | zero => intros; omega
  | succ nn ih =>
    intro j x5 hn hj hno
    have k13 := kst13
    have ht := fun h => tx_let j h
    refine AW_iload dX12_wordAt_5 rfl ?_
    refine AW_bipush dX12_wordAt_7 ?_
    refine AW_icmp_ge (tgt := 117) dX12_wordAt_9 (by decide) (fun c_9 => ?_) (fun c_9 => ?_)
    · skip
      have hj13 : j = 13 := by
        rcases Nat.lt_or_ge j 13 with h | h
        · have := (ht h).2.2.2.2.2; omega
        · omega
      refine AW_iconst dX12_wordAt_117 ?_
      refine AW_iret dX12_wordAt_118 rfl ?_
      exact ⟨rfl, by rw [kw_none (fun k h => hno k (by omega))]⟩
    · skip
      have hj13 : j < 13 := by
        rcases Nat.lt_or_ge j 13 with h | h
        · exact h
        · rw [show j = 13 by omega] at c_9; omega
      refine AW_iconst dX12_wordAt_12 ?_
      refine AW_istore5 dX12_wordAt_13 ?_
      refine AW_iload_n dX12_wordAt_15 rfl ?_
      refine AW_iconst dX12_wordAt_16 ?_
      refine AW_iaddE dX12_wordAt_17 (by omega) (by omega) ?_
      refine AW_istore3 dX12_wordAt_18 ?_
      rw [show (j : Int) - 1 + 1 = (j : Int) by omega]
      refine l_wa2 hS hT hw hp hq hlet hj13 hno (fun x hnh => ?_) (q + 1) 0 (by omega) (by omega) (fun k h => absurd h (Nat.not_lt_zero k))
      have := ih (j + 1) x (by omega) (by omega) (fun k h => ?_)
      · rw [show ((j + 1 : Nat) : Int) - 1 = (j : Int) by omega] at this
        exact this
      · by_cases hc : k = j
        · subst hc; exact hnh
        · exact hno k (by omega)
theorem n_wordAt {G : Gt} {d : Nat} {σ : St} {n : Nat} {B : Nat → Int} {p q : Nat} (hS : Sta σ) (hT : tpM n B σ) (hw : wdM σ) (hp : p ≤ q) (hq : q ≤ n) (hlet : ∀ k, p ≤ k → k < q → isLet (B k)) (p0 q0 : Int) (e1 : p0 = p) (e2 : q0 = q) : AM mX12_wordAt G d 0 0 [vR 94, vI p0, vI q0] σ (fun ro ρ => ρ = σ ∧ ro = some (vI (kw B p (q - p)))) := by
  subst e1 e2
  refine AM.intro (by decide +kernel) (by simp [nLg]) (Nat.le_of_ble_eq_true rfl) (fun hO => ?_)
  show AW _ _ _ _ _ _ 0 [some (vR 94), some (vI (p : Int)), some (vI (q : Int)), none, none, none] [] σ
  refine AW_iconst dX12_wordAt_0 ?_
  refine AW_istore3 dX12_wordAt_1 ?_
  refine AW_iconst dX12_wordAt_2 ?_
  refine AW_istore4 dX12_wordAt_3 ?_
  exact l_wa1 hS hT hw hp hq hlet 14 0 none (by omega) (by omega) (fun k h => absurd h (Nat.not_lt_zero k))
