/-- a step of the code as the model writes it -/
def mop (x : Int) : Int := if 0 ≤ x then 0 else if -7 ≤ x then 1 else if -14 ≤ x then -6 - x else if x = -15 then 10 else if x = -16 then 11 else 9
def marg (x : Int) : Int := if 0 ≤ x then x else if -7 ≤ x then -1 - x else 0
def Md (B : Nat → Int) (n : Nat) (σ : St) (s : PS) : Prop := tpM n B σ ∧ wdM σ ∧ σ.2.1 94 23 = tP B n s.2.1 ∧ tokR σ (tK B n s.2.1) (tV B n s.2.1) ∧ (tP B n s.2.1 < n → σ.2.1 94 22 = tkS B n (s.2.1 + 1)) ∧ σ.2.1 94 34 = s.2.2.1 ∧ ∀ k, k < s.2.2.1 → σ.2.1 110 (2400 + k) = mop (s.2.2.2 k) ∧ σ.2.1 111 (2400 + k) = marg (s.2.2.2 k)
theorem tokR.fm {fs L : List Nat} {σ ρ : St} {k v : Int} (h : tokR σ k v) (hF : Fm fs L σ ρ) (h1 : 24 ∉ fs := by decide) (h2 : 25 ∉ fs := by decide) : tokR ρ k v := by
  unfold tokR
  rw [hF.f 24 h1, hF.f 25 h2]
  exact h
theorem Md.fm {B : Nat → Int} {n : Nat} {fs L : List Nat} {σ ρ : St} {s : PS} (h : Md B n σ s) (hF : Fe fs L σ ρ) (h1 : ∀ j ∈ fs, j ≠ 21 ∧ j ≠ 22 ∧ j ≠ 23 ∧ j ≠ 24 ∧ j ≠ 25 ∧ j ≠ 34 := by decide) (h2 : ∀ j ∈ 94 :: L, j ≠ 103 ∧ j ≠ 104 ∧ j ≠ 110 ∧ j ≠ 111 := by decide) : Md B n ρ s := by
  have q1 : ∀ j, (j = 21 ∨ j = 22 ∨ j = 23 ∨ j = 24 ∨ j = 25 ∨ j = 34) → j ∉ fs := fun j hj hm => by have := h1 j hm; omega
  have q2 : ∀ j, (j = 103 ∨ j = 104 ∨ j = 110 ∨ j = 111) → j ∉ 94 :: L := fun j hj hm => by have := h2 j hm; omega
  obtain ⟨a1, a2, a3, a4, a5, a6, a7⟩ := h
  refine ⟨a1.fm hF.1 (q1 _ (by decide)) (q2 _ (by decide)), a2.fm hF.1 (q2 _ (by decide)), (hF.f 23 (q1 _ (by decide))).trans a3, a4.fm hF.1 (q1 _ (by decide)) (q1 _ (by decide)), ?_, (hF.f 34 (q1 _ (by decide))).trans a6, fun k hk => ?_⟩
  · rw [hF.f 22 (q1 _ (by decide))]; exact a5
  · rw [hF.a 110 _ (q2 _ (by decide)), hF.a 111 _ (q2 _ (by decide))]; exact a7 k hk
/-- how a reading ends: well, or with its first FAULT -/
def Ret (B : Nat → Int) (n : Nat) (X : PS) (ro : Option AV) (ρ : St) : Prop := (X.1 = 0 ∧ ro = some (vI 0) ∧ Md B n ρ X) ∨ (X.1 ≠ 0 ∧ ro = some (vI (-1)) ∧ ρ.2.1 94 38 = X.1 ∧ ρ.2.1 94 39 = tP B n X.2.1)
theorem tk_cases (B : Nat → Int) (n p : Nat) : tkK B n p = 0 ∨ tkK B n p = 1 ∨ tkK B n p = 2 ∨ (256 ≤ tkK B n p ∧ tkK B n p ≤ 268) ∨ isSig (tkK B n p) := by
  unfold tkK
  have := kw_b B p (endP letB B n (p + 1) - p)
  split
  · exact Or.inl rfl
  · split
    · split
      · exact Or.inr (Or.inl rfl)
      · exact Or.inr (Or.inr (Or.inr (Or.inl (by omega))))
    · split
      · split
        · exact Or.inr (Or.inr (Or.inl rfl))
        · exact Or.inr (Or.inl rfl)
      · split
        · exact Or.inr (Or.inr (Or.inr (Or.inr (by assumption))))
        · exact Or.inr (Or.inl rfl)
theorem tokR.cs {B : Nat → Int} {n i : Nat} {σ : St} (h : tokR σ (tK B n i) (tV B n i)) : (tK B n i = 0 ∧ σ.2.1 94 24 = 0) ∨ (tK B n i = 1 ∧ σ.2.1 94 24 = 1) ∨ (tK B n i = 2 ∧ σ.2.1 94 24 = 3 ∧ σ.2.1 94 25 = tV B n i) ∨ ((256 ≤ tK B n i ∧ tK B n i ≤ 268) ∧ σ.2.1 94 24 = 2 ∧ σ.2.1 94 25 = tK B n i - 256) ∨ ((40 ≤ tK B n i ∧ tK B n i ≤ 62) ∧ σ.2.1 94 24 = 4 ∧ σ.2.1 94 25 = tK B n i) := by
  rcases tk_cases B n (tP B n i) with q | q | q | q | q
  · exact Or.inl ⟨q, h.1 q⟩
  · exact Or.inr (Or.inl ⟨q, h.2.1 q⟩)
  · exact Or.inr (Or.inr (Or.inl ⟨q, h.2.2.1 q⟩))
  · exact Or.inr (Or.inr (Or.inr (Or.inl ⟨q, h.2.2.2.1 q.1⟩)))
  · exact Or.inr (Or.inr (Or.inr (Or.inr ⟨sig_b q, h.2.2.2.2 q⟩)))
theorem tP_lt {B : Nat → Int} {n i : Nat} (h : tK B n i ≠ 0) : tP B n i < n := by
  rcases Nat.lt_or_ge (tP B n i) n with q | q
  · exact q
  · exact absurd (tK_end q) h
theorem tV_b {B : Nat → Int} {n i : Nat} (h : tK B n i = 2) : 0 ≤ tV B n i ∧ tV B n i < 10000 := by
  have hlt := tP_lt (B := B) (n := n) (i := i) (by omega)
  unfold tK tkK at h
  rw [if_neg (by omega)] at h
  have hkb := kw_b B (tP B n i) (endP letB B n (tP B n i + 1) - tP B n i)
  split at h
  · split at h <;> omega
  · split at h
    · split at h
      · unfold tV tkV
        refine numV_4 (by assumption) (fun j hj => ?_)
        have := endP_all digB B n _ (tP B n i) (Nat.le_refl _) (tP B n i + j) (by omega) (by omega)
        exact (digB_iff _).mp this.2
      · omega
    · split at h
      · rename_i hs
        have := sig_b hs
        omega
      · omega
theorem kd0 {K : Nat → Int} {s : PS} (h : s.1 = 0) : kd K s = K s.2.1 := by
  unfold kd
  rw [if_pos h]
theorem n_mreads {G : Gt} {d : Nat} {σ : St} {B : Nat → Int} {n : Nat} {s : PS} (hd : 2 ≤ d) (hS : Sta σ) (hby : byB B n) (hM : Md B n σ s) (hk : tK B n s.2.1 ≠ 0) : AM mX12_reads G d 0 0 [vR 94] σ (fun ro ρ => ro = none ∧ Md B n ρ (stepS s) ∧ Fe [22, 23, 24, 25] [] σ ρ) := by
  obtain ⟨a1, a2, a3, a4, a5, a6, a7⟩ := hM
  have hlt := tP_lt hk
  refine AM_mono (fun r τ q => ?_) (n_reads hd hS a1 a2 hby (tkS B n (s.2.1 + 1)) (tS_b B n _) (a5 hlt))
  obtain ⟨q1, q2, q3, q4, q5⟩ := q
  refine ⟨q1, ⟨a1.fm q5, a2.fm q5, q2, q3, q4, (q5.f 34).trans a6, fun k hk => ?_⟩, q5.e⟩
  rw [q5.a 110 _, q5.a 111 _]
  exact a7 k hk
theorem n_fails {G : Gt} {d : Nat} {σ : St}  (hS : Sta σ) (k : Int)  : AM mX12_fails G d 0 0 [vR 94, vI k] σ (fun ro ρ => ro = some (vI (-1)) ∧ ρ.2.1 94 38 = k ∧ ρ.2.1 94 39 = σ.2.1 94 23 ∧ Fe [38, 39] [] σ ρ) := by
  refine AM.intro (by decide +kernel) (by simp [nLg]) (Nat.le_of_ble_eq_true rfl) (fun hO => ?_)
  have i_k : -2147483648 ≤ k ∧ k < 2147483648 := hO (vI k) (by simp)
  show AW _ _ _ _ _ _ 0 [some (vR 94), some (vI k)] [] σ
  refine AW_aload_n dX12_fails_0 rfl ?_
  refine AW_iload_n dX12_fails_1 rfl ?_
  refine AW_putI dX12_fails_2 (Or.inl pfX12_246) (hS.cel rfl) ?_
  refine AW_aload_n dX12_fails_5 rfl ?_
  refine AW_aload_n dX12_fails_6 rfl ?_
  refine AW_getI dX12_fails_7 gfX12_225 (hS.cel rfl) ?_
  (repeat (first | rw [up_r _ _ _ _ (by decide)] | rw [up_j _ _ _ (by decide)] | rw [up_at]))
  refine AW_putI dX12_fails_10 (Or.inl pfX12_249) (hS.cel rfl) ?_
  refine AW_iconst dX12_fails_13 ?_
  refine AW_iret dX12_fails_14 rfl ?_
  exact ⟨rfl, by rw [up_j _ _ _ (by decide), up_at], up_at _ _ _ _, (Fe.rf.uf (by decide) _).uf (by decide) _⟩
theorem n_isWord {G : Gt} {d : Nat} {σ : St}  {B : Nat → Int} {n : Nat} {s : PS} (hS : Sta σ) (hM : Md B n σ s) (w : Int) (hw : 0 ≤ w) : AM mX12_isWord G d 0 0 [vR 94, vI w] σ (fun r τ => τ = σ ∧ r = some (vI (if tK B n s.2.1 = 256 + w then 1 else 0))) := by
  refine AM.intro (by decide +kernel) (by simp [nLg]) (Nat.le_of_ble_eq_true rfl) (fun hO => ?_)
  have i_w : -2147483648 ≤ w ∧ w < 2147483648 := hO (vI w) (by simp)
  show AW _ _ _ _ _ _ 0 [some (vR 94), some (vI w)] [] σ
  have hc := hM.2.2.2.1.cs
  refine AW_aload_n dX12_isWord_0 rfl ?_
  refine AW_getI dX12_isWord_1 gfX12_228 (hS.cel rfl) ?_
  refine AW_iconst dX12_isWord_4 ?_
  refine AW_icmp_ne (tgt := 20) dX12_isWord_5 (by decide) (fun c_5 => ?_) (fun c_5 => ?_)
  · skip
    refine AW_iconst dX12_isWord_20 ?_
    refine AW_zret dX12_isWord_21 rfl (by decide) ?_
    refine ⟨rfl, ?_⟩
    first | rw [if_pos (by omega)] | rw [if_neg (by omega)]
  · skip
    refine AW_aload_n dX12_isWord_8 rfl ?_
    refine AW_getI dX12_isWord_9 gfX12_231 (hS.cel rfl) ?_
    refine AW_iload_n dX12_isWord_12 rfl ?_
    refine AW_icmp_ne (tgt := 20) dX12_isWord_13 (by decide) (fun c_13 => ?_) (fun c_13 => ?_)
    · skip
      refine AW_iconst dX12_isWord_20 ?_
      refine AW_zret dX12_isWord_21 rfl (by decide) ?_
      refine ⟨rfl, ?_⟩
      first | rw [if_pos (by omega)] | rw [if_neg (by omega)]
    · skip
      refine AW_iconst dX12_isWord_16 ?_
      refine AW_goto (tgt := 21) dX12_isWord_17 (by decide) ?_
      refine AW_zret dX12_isWord_21 rfl (by decide) ?_
      refine ⟨rfl, ?_⟩
      first | rw [if_pos (by omega)] | rw [if_neg (by omega)]
theorem n_isSign {G : Gt} {d : Nat} {σ : St}  {B : Nat → Int} {n : Nat} {s : PS} (hS : Sta σ) (hM : Md B n σ s) (c : Int) (hc0 : 40 ≤ c ∧ c ≤ 62) : AM mX12_isSign G d 0 0 [vR 94, vI c] σ (fun r τ => τ = σ ∧ r = some (vI (if tK B n s.2.1 = c then 1 else 0))) := by
  refine AM.intro (by decide +kernel) (by simp [nLg]) (Nat.le_of_ble_eq_true rfl) (fun hO => ?_)
  have i_c : -2147483648 ≤ c ∧ c < 2147483648 := hO (vI c) (by simp)
  show AW _ _ _ _ _ _ 0 [some (vR 94), some (vI c)] [] σ
  have hc := hM.2.2.2.1.cs
  refine AW_aload_n dX12_isSign_0 rfl ?_
  refine AW_getI dX12_isSign_1 gfX12_228 (hS.cel rfl) ?_
  refine AW_iconst dX12_isSign_4 ?_
  refine AW_icmp_ne (tgt := 20) dX12_isSign_5 (by decide) (fun c_5 => ?_) (fun c_5 => ?_)
  · skip
    refine AW_iconst dX12_isSign_20 ?_
    refine AW_zret dX12_isSign_21 rfl (by decide) ?_
    refine ⟨rfl, ?_⟩
    first | rw [if_pos (by omega)] | rw [if_neg (by omega)]
  · skip
    refine AW_aload_n dX12_isSign_8 rfl ?_
    refine AW_getI dX12_isSign_9 gfX12_231 (hS.cel rfl) ?_
    refine AW_iload_n dX12_isSign_12 rfl ?_
    refine AW_icmp_ne (tgt := 20) dX12_isSign_13 (by decide) (fun c_13 => ?_) (fun c_13 => ?_)
    · skip
      refine AW_iconst dX12_isSign_20 ?_
      refine AW_zret dX12_isSign_21 rfl (by decide) ?_
      refine ⟨rfl, ?_⟩
      first | rw [if_pos (by omega)] | rw [if_neg (by omega)]
    · skip
      refine AW_iconst dX12_isSign_16 ?_
      refine AW_goto (tgt := 21) dX12_isSign_17 (by decide) ?_
      refine AW_zret dX12_isSign_21 rfl (by decide) ?_
      refine ⟨rfl, ?_⟩
      first | rw [if_pos (by omega)] | rw [if_neg (by omega)]
theorem n_emits {G : Gt} {d : Nat} {σ : St}  {B : Nat → Int} {n : Nat} {s : PS} (hS : Sta σ) (hM : Md B n σ s) (x : Int) (what v : Int) (hl : s.2.2.1 < 400) (e1 : what = mop x) (e2 : v = marg x) : AM mX12_emits G d 0 0 [vR 94, vI what, vI v] σ (fun ro ρ => ro = none ∧ Md B n ρ (putS x s) ∧ Fe [34] [110, 111] σ ρ) := by
  refine AM.intro (by decide +kernel) (by simp [nLg]) (Nat.le_of_ble_eq_true rfl) (fun hO => ?_)
  have i_what : -2147483648 ≤ what ∧ what < 2147483648 := hO (vI what) (by simp)
  have i_v : -2147483648 ≤ v ∧ v < 2147483648 := hO (vI v) (by simp)
  show AW _ _ _ _ _ _ 0 [some (vR 94), some (vI what), some (vI v)] [] σ
  obtain ⟨a1, a2, a3, a4, a5, a6, a7⟩ := hM
  refine AW_aload_n dX12_emits_0 rfl ?_
  refine AW_getR (a := 110) dX12_emits_1 gfX12_68 (hS.cel rfl) (hS.rf rfl) ?_
  refine AW_sipush dX12_emits_4 ?_
  refine AW_aload_n dX12_emits_7 rfl ?_
  refine AW_getI dX12_emits_8 gfX12_252 (hS.cel rfl) ?_
  rw [a6]
  refine AW_iaddE dX12_emits_11 (by omega) (by omega) ?_
  refine AW_iload_n dX12_emits_12 rfl ?_
  refine AW_iast dX12_emits_13 (hS.cel rfl) (by omega) (by omega) ?_
  refine AW_aload_n dX12_emits_14 rfl ?_
  refine AW_getR (a := 111) dX12_emits_15 gfX12_71 (hS.cel rfl) (hS.rf rfl) ?_
  refine AW_sipush dX12_emits_18 ?_
  refine AW_aload_n dX12_emits_21 rfl ?_
  refine AW_getI dX12_emits_22 gfX12_252 (hS.cel rfl) ?_
  (repeat (first | rw [up_r _ _ _ _ (by decide)] | rw [up_j _ _ _ (by decide)] | rw [up_at]))
  rw [a6]
  refine AW_iaddE dX12_emits_25 (by omega) (by omega) ?_
  refine AW_iload_n dX12_emits_26 rfl ?_
  refine AW_iast dX12_emits_27 (hS.cel rfl) (by omega) (by omega) ?_
  refine AW_aload_n dX12_emits_28 rfl ?_
  refine AW_aload_n dX12_emits_29 rfl ?_
  refine AW_getI dX12_emits_30 gfX12_252 (hS.cel rfl) ?_
  (repeat (first | rw [up_r _ _ _ _ (by decide)] | rw [up_j _ _ _ (by decide)] | rw [up_at]))
  refine AW_iconst dX12_emits_33 ?_
  rw [a6]
  refine AW_iaddE dX12_emits_34 (by omega) (by omega) ?_
  refine AW_putI dX12_emits_35 (Or.inl pfX12_252) (hS.cel rfl) ?_
  refine AW_vret dX12_emits_38 rfl ?_
  have hF : Fe [34] [110, 111] σ (upI (upI (upI σ 110 (2400 + (s.2.2.1 : Int)).toNat what) 111 (2400 + (s.2.2.1 : Int)).toNat v) 94 34 ((s.2.2.1 : Int) + 1)) := ((Fe.rf.ue (by decide) (by decide) _ _ (by omega)).ue (by decide) (by decide) _ _ (by omega)).uf (by decide) _
  refine ⟨rfl, ⟨a1.fm hF.1, a2.fm hF.1, (hF.f 23).trans a3, a4.fm hF.1, ?_, ?_, fun k hk => ?_⟩, hF⟩
  · rw [hF.f 22]; exact a5
  · rw [up_at]; show (s.2.2.1 : Int) + 1 = ((s.2.2.1 + 1 : Nat) : Int); omega
  · have hk2 : k < s.2.2.1 + 1 := hk
    show _ = mop (if k = s.2.2.1 then x else s.2.2.2 k) ∧ _ = marg (if k = s.2.2.1 then x else s.2.2.2 k)
    rw [up_r _ _ _ _ (by decide), up_r _ _ _ _ (by decide), up_if, up_r _ _ _ _ (by decide), up_if]
    by_cases hc : k = s.2.2.1
    · rw [if_pos hc, if_pos (by omega), if_pos (by omega)]
      exact ⟨e1, e2⟩
    · rw [if_neg hc, if_neg (by omega), if_neg (by omega), up_r _ _ _ _ (by decide)]
      exact a7 k (by omega)
