/-- a row filled -/
def filI (σ : St) (r N : Nat) (x : Int) : St := (σ.1, (fun r' j => if r' = r ∧ j < N then x else σ.2.1 r' j), σ.2.2)
theorem fil_0 (σ : St) (r : Nat) (x : Int) : filI σ r 0 x = σ := by
  obtain ⟨a, b, c⟩ := σ
  show (a, (fun r' j => if r' = r ∧ j < 0 then x else b r' j), c) = (a, b, c)
  have h : (fun r' j => if r' = r ∧ j < 0 then x else b r' j) = b := by
    funext r' j
    rw [if_neg (fun q => Nat.not_lt_zero j q.2)]
  rw [h]
theorem fil_s (σ : St) (r i : Nat) (x : Int) : upI (filI σ r i x) r i x = filI σ r (i + 1) x := by
  have h : (upI (filI σ r i x) r i x).2.1 = (filI σ r (i + 1) x).2.1 := by
    funext r' j
    rw [up_if]
    show (if r' = r ∧ j = i then x else (if r' = r ∧ j < i then x else σ.2.1 r' j)) = (if r' = r ∧ j < i + 1 then x else σ.2.1 r' j)
    by_cases h1 : r' = r ∧ j = i
    · rw [if_pos h1, if_pos ⟨h1.1, by omega⟩]
    · rw [if_neg h1]
      by_cases h2 : r' = r ∧ j < i
      · rw [if_pos h2, if_pos ⟨h2.1, by omega⟩]
      · rw [if_neg h2, if_neg (fun q => h2 ⟨q.1, by
          have h3 : j ≠ i := fun e => h1 ⟨q.1, e⟩
          omega⟩)]
  calc upI (filI σ r i x) r i x = (σ.1, (upI (filI σ r i x) r i x).2.1, σ.2.2) := rfl
    _ = filI σ r (i + 1) x := by rw [h]; rfl
theorem l_fillX {G : Gt} {d : Nat} {σ : St} {r N : Nat} {v : Int} (hk : Cel σ r (20, N)) (hN : N < 1000000) : ∀ (nn : Nat) (q i : Nat), q < nn → i + q = N →  AW mJ7_fill_53178 G d 0 0 (mq G (fun ro ρ => ro = none ∧ ρ = filI σ r N v)) 5 [some (vR r), some (vI v), some (vI (i : Int)), some (vI (N : Int))] [] (filI σ r i v) := by
  intro nn
  induction nn with
  | zero => intros; omega
  | succ nn ih =>
    intro q i hn hi
    refine AW_iload_n dJ7_fill_53178_5 rfl ?_
    refine AW_iload_n dJ7_fill_53178_6 rfl ?_
    refine AW_icmp_ge (tgt := 20) dJ7_fill_53178_7 (by decide) (fun c_7 => ?_) (fun c_7 => ?_)
    · skip
      have hm : i = N := by omega
      subst hm
      refine AW_vret dJ7_fill_53178_20 rfl ?_
      exact ⟨rfl, rfl⟩
    · skip
      obtain ⟨q1, rfl⟩ : ∃ q1, q = q1 + 1 := ⟨q - 1, by omega⟩
      refine AW_aload_n dJ7_fill_53178_10 rfl ?_
      refine AW_iload_n dJ7_fill_53178_11 rfl ?_
      refine AW_iload_n dJ7_fill_53178_12 rfl ?_
      refine AW_iast dJ7_fill_53178_13 (celX hk rfl rfl) (by omega) (by omega) ?_
      refine AW_iincE2 dJ7_fill_53178_14 (by omega) (by omega) ?_
      refine AW_goto (tgt := 5) dJ7_fill_53178_17 (by decide) ?_
      rw [Int.toNat_natCast, fil_s, show (i : Int) + 1 = ((i + 1 : Nat) : Int) by omega]
      exact ih q1 (i + 1) (by omega) (by omega)
theorem k_fillX {G : Gt} {d : Nat} {σ : St}  {r N : Nat} (hk : Cel σ r (20, N)) (hN : N < 1000000) (v : Int)  : AM mJ7_fill_53178 G d 0 0 [(vR r), vI v] σ (fun ro τ => ro = none ∧ τ = filI σ r N v) := by
  refine AM.intro (by decide +kernel) (by simp [nLg]) (Nat.le_of_ble_eq_true rfl) (fun hO => ?_)
  have i_v : -2147483648 ≤ v ∧ v < 2147483648 := hO (vI v) (by simp)
  show AW _ _ _ _ _ _ 0 [some ((vR r)), some (vI v), none, none] [] σ
  refine AW_iconst dJ7_fill_53178_0 ?_
  refine AW_istore2 dJ7_fill_53178_1 ?_
  refine AW_aload_n dJ7_fill_53178_2 rfl ?_
  refine AW_alen dJ7_fill_53178_3 hk (by decide) (by omega) ?_
  refine AW_istore3 dJ7_fill_53178_4 ?_
  rw [show AW mJ7_fill_53178 G d 0 0 _ _ _ _ σ = AW mJ7_fill_53178 G d 0 0 _ _ _ _ (filI σ r 0 v) by rw [fil_0]]
  exact l_fillX hk hN (N + 1) N 0 (by omega) (by omega)
def fMarket (σ : St) : St := (filI (upR (upI (upI (upI (upI (upI (upI (upI (nwC (upR (nwC (upR (nwC (upR (nwC (upR (upI (upI (nwC σ (20, 2)) (18) 0 (3)) (18) 1 (3)) 17 0 (18)) (20, 12)) 17 1 (19)) (20, 12)) 17 2 (20)) (20, 72)) 17 3 (21)) (20, 7)) (22) 0 (1)) (22) 1 (100)) (22) 2 (10)) (22) 3 (0)) (22) 4 (3)) (22) 5 (0)) (22) 6 (0)) 17 4 (22)) (21) 72 (-1))
theorem i_market {G : Gt} {d : Nat} {σ : St} (hd : 1 ≤ d) (hn : σ.2.2.2 = 18) (hk : Cel σ 17 (3, 6)) : AM mX3_init G d 5 105 [vR 17] σ (fun ro ρ => ro = none ∧ ρ = fMarket σ) := by
  obtain ⟨kd, iv, rv, nx⟩ := σ
  change nx = 18 at hn
  subst hn
  have hk0 : kd 17 = (3, 6) := hk.2.2
  refine AM.intro (by decide +kernel) (by simp [nLg]) (Nat.le_of_ble_eq_true rfl) (fun hO => ?_)
  show AW _ _ _ _ _ _ 0 [some (vR 17)] [] _
  refine AW_aload_n dX3_init_0 rfl ?_
  refine AW_objInit dX3_init_1 oiX3 (by decide) (by omega) (Nat.le_of_ble_eq_true rfl) ?_
  refine AW_aload_n dX3_init_4 rfl ?_
  refine AW_iconst dX3_init_5 ?_
  refine AW_newaN (c := 2) (n := 18) dX3_init_6 (Or.inl ⟨rfl, rfl⟩) ar_int rfl (by decide) (by decide) rfl ?_
  refine AW_dup dX3_init_8 ?_
  refine AW_iconst dX3_init_9 ?_
  refine AW_iconst dX3_init_10 ?_
  refine AW_iastK 0 dX3_init_11 ⟨by decide, Nat.le_of_ble_eq_true rfl, rfl⟩ (by decide) ?_
  refine AW_dup dX3_init_12 ?_
  refine AW_iconst dX3_init_13 ?_
  refine AW_iconst dX3_init_14 ?_
  refine AW_iastK 1 dX3_init_15 ⟨by decide, Nat.le_of_ble_eq_true rfl, rfl⟩ (by decide) ?_
  refine AW_putR dX3_init_16 (Or.inr (Or.inl ⟨pfX3_9, rfl⟩)) ⟨by decide, Nat.le_of_ble_eq_true rfl, hk0⟩ ?_
  refine AW_aload_n dX3_init_19 rfl ?_
  refine AW_bipush dX3_init_20 ?_
  refine AW_newaN (c := 12) (n := 19) dX3_init_22 (Or.inl ⟨rfl, rfl⟩) ar_int rfl (by decide) (by decide) rfl ?_
  refine AW_putR dX3_init_24 (Or.inr (Or.inl ⟨pfX3_15, rfl⟩)) ⟨by decide, Nat.le_of_ble_eq_true rfl, hk0⟩ ?_
  refine AW_aload_n dX3_init_27 rfl ?_
  refine AW_bipush dX3_init_28 ?_
  refine AW_newaN (c := 12) (n := 20) dX3_init_30 (Or.inl ⟨rfl, rfl⟩) ar_int rfl (by decide) (by decide) rfl ?_
  refine AW_putR dX3_init_32 (Or.inr (Or.inl ⟨pfX3_18, rfl⟩)) ⟨by decide, Nat.le_of_ble_eq_true rfl, hk0⟩ ?_
  refine AW_aload_n dX3_init_35 rfl ?_
  refine AW_bipush dX3_init_36 ?_
  refine AW_newaN (c := 72) (n := 21) dX3_init_38 (Or.inl ⟨rfl, rfl⟩) ar_int rfl (by decide) (by decide) rfl ?_
  refine AW_putR dX3_init_40 (Or.inr (Or.inl ⟨pfX3_21, rfl⟩)) ⟨by decide, Nat.le_of_ble_eq_true rfl, hk0⟩ ?_
  refine AW_aload_n dX3_init_43 rfl ?_
  refine AW_bipush dX3_init_44 ?_
  refine AW_newaN (c := 7) (n := 22) dX3_init_46 (Or.inl ⟨rfl, rfl⟩) ar_int rfl (by decide) (by decide) rfl ?_
  refine AW_dup dX3_init_48 ?_
  refine AW_iconst dX3_init_49 ?_
  refine AW_iconst dX3_init_50 ?_
  refine AW_iastK 0 dX3_init_51 ⟨by decide, Nat.le_of_ble_eq_true rfl, rfl⟩ (by decide) ?_
  refine AW_dup dX3_init_52 ?_
  refine AW_iconst dX3_init_53 ?_
  refine AW_bipush dX3_init_54 ?_
  refine AW_iastK 1 dX3_init_56 ⟨by decide, Nat.le_of_ble_eq_true rfl, rfl⟩ (by decide) ?_
  refine AW_dup dX3_init_57 ?_
  refine AW_iconst dX3_init_58 ?_
  refine AW_bipush dX3_init_59 ?_
  refine AW_iastK 2 dX3_init_61 ⟨by decide, Nat.le_of_ble_eq_true rfl, rfl⟩ (by decide) ?_
  refine AW_dup dX3_init_62 ?_
  refine AW_iconst dX3_init_63 ?_
  refine AW_iconst dX3_init_64 ?_
  refine AW_iastK 3 dX3_init_65 ⟨by decide, Nat.le_of_ble_eq_true rfl, rfl⟩ (by decide) ?_
  refine AW_dup dX3_init_66 ?_
  refine AW_iconst dX3_init_67 ?_
  refine AW_iconst dX3_init_68 ?_
  refine AW_iastK 4 dX3_init_69 ⟨by decide, Nat.le_of_ble_eq_true rfl, rfl⟩ (by decide) ?_
  refine AW_dup dX3_init_70 ?_
  refine AW_iconst dX3_init_71 ?_
  refine AW_iconst dX3_init_72 ?_
  refine AW_iastK 5 dX3_init_73 ⟨by decide, Nat.le_of_ble_eq_true rfl, rfl⟩ (by decide) ?_
  refine AW_dup dX3_init_74 ?_
  refine AW_bipush dX3_init_75 ?_
  refine AW_iconst dX3_init_77 ?_
  refine AW_iastK 6 dX3_init_78 ⟨by decide, Nat.le_of_ble_eq_true rfl, rfl⟩ (by decide) ?_
  refine AW_putR dX3_init_79 (Or.inr (Or.inl ⟨pfX3_24, rfl⟩)) ⟨by decide, Nat.le_of_ble_eq_true rfl, hk0⟩ ?_
  refine AW_aload_n dX3_init_82 rfl ?_
  refine AW_getR (a := 21) dX3_init_83 gfX3_21 ⟨by decide, Nat.le_of_ble_eq_true rfl, hk0⟩ rfl ?_
  refine AW_iconst dX3_init_86 ?_
  refine AW_callS2 (d' := d - 1) dX3_init_87 lkX3_27 mfJ7_fill_53178 (k_fillX (N := 72) ⟨by decide, Nat.le_of_ble_eq_true rfl, rfl⟩ (by decide) _) (by omega) (Nat.le_of_ble_eq_true rfl) ?_
  rintro _ _ ⟨rfl, rfl⟩ -
  refine AW_vret dX3_init_90 rfl ?_
  exact ⟨rfl, rfl⟩
