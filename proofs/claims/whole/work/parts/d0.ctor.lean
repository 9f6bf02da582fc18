theorem ar_byte : Cond.arrayClass (newarray.typeOf .byte) ∈ lw_g := mem_g 252 (by decide +kernel) rfl
theorem ar_bool : Cond.arrayClass (newarray.typeOf .boolean) ∈ lw_g := mem_g 1573 (by decide +kernel) rfl
theorem CelN {σ : St} {n : Nat} {k : Nat × Nat} (hn : σ.2.2.2 = n) (h : 16 ≤ n) : Cel (nwC σ k) n k := by
  subst hn
  exact Cel.new h k
theorem celX {σ τ : St} {r : Nat} {k : Nat × Nat} (h : Cel σ r k) (h1 : τ.2.2.2 = σ.2.2.2) (h2 : τ.1 r = σ.1 r) : Cel τ r k := ⟨h.1, by rw [h1]; exact h.2.1, h2.trans h.2.2⟩
section
variable {M : MT} {G : Gt} {d bc bs : Nat} {Qz : QZ} {pc : Nat} {ls : List (Option AV)} {st : List AV} {σ : St}
theorem AW_newN {ci N idx n : Nat} (hd : decode M.2.1 pc = .ok (.new idx, 3)) (hl : NWF M.1.cls idx ci N) (hn : σ.2.2.2 = n) (k : AW M G d bc bs Qz (pc + 3) ls (vR n :: st) (nwC σ (ci, N))) : AW M G d (bc + 1) (bs + N) Qz pc ls st σ := by
  subst hn
  exact AW_new hd hl k
theorem AW_newaN {z : Int} {c n : Nat} {ty : ArrayType} {ci : Nat} (hd : decode M.2.1 pc = .ok (.newarray ty, 2)) (hc : (ty = .int ∧ ci = 20) ∨ (ty = .byte ∧ ci = 21) ∨ (ty = .boolean ∧ ci = 22)) (hw : Cond.arrayClass (newarray.typeOf ty) ∈ lw_g) (hz : z.toNat = c) (h0 : 0 ≤ z) (hz2 : z ≤ 100000000) (hn : σ.2.2.2 = n) (k : AW M G d bc bs Qz (pc + 2) ls (vR n :: st) (nwC σ (ci, c))) : AW M G d (bc + 1) (bs + c) Qz pc ls (vI z :: st) σ := by
  subst hn
  subst hz
  exact AW_newa hd hc hw h0 hz2 k
end
def fWay (σ : St) (r n : Nat) : St := (upR (nwC (upR (nwC (upR (nwC (upR (nwC (upR (nwC σ (20, 400)) r 0 (n)) (20, 12)) r 1 (n + 1)) (20, 12)) r 2 (n + 2)) (20, 12)) r 3 (n + 3)) (20, 12)) r 4 (n + 4))
theorem i_way {G : Gt} {d : Nat} {σ : St} (hd : 1 ≤ d) {r n : Nat} (hn : σ.2.2.2 = n) (h16 : 16 ≤ n) (hk : Cel σ r (10, 7)) : AM mX10_init G d 5 448 [vR r] σ (fun ro ρ => ro = none ∧ ρ = fWay σ r n) := by
  refine AM.intro (by decide +kernel) (by simp [nLg]) (Nat.le_of_ble_eq_true rfl) (fun hO => ?_)
  show AW _ _ _ _ _ _ 0 [some (vR r)] [] σ
  refine AW_aload_n dX10_init_0 rfl ?_
  refine AW_objInit dX10_init_1 oiX10 hk.1 (by omega) (Nat.le_of_ble_eq_true rfl) ?_
  refine AW_aload_n dX10_init_4 rfl ?_
  refine AW_sipush dX10_init_5 ?_
  refine AW_newaN (c := 400) (n := n) dX10_init_8 (Or.inl ⟨rfl, rfl⟩) ar_int rfl (by decide) (by decide) (show σ.2.2.2 = n by omega) ?_
  refine AW_putR dX10_init_10 (Or.inr (Or.inl ⟨pfX10_9, rfl⟩)) (by exact celX (hk.nw (20, 400)) rfl rfl) ?_
  refine AW_aload_n dX10_init_13 rfl ?_
  refine AW_bipush dX10_init_14 ?_
  refine AW_newaN (c := 12) (n := n + 1) dX10_init_16 (Or.inl ⟨rfl, rfl⟩) ar_int rfl (by decide) (by decide) (show σ.2.2.2 + 1 = n + 1 by omega) ?_
  refine AW_putR dX10_init_18 (Or.inr (Or.inl ⟨pfX10_15, rfl⟩)) (by exact celX ((hk.nw (20, 400)).nw (20, 12)) rfl rfl) ?_
  refine AW_aload_n dX10_init_21 rfl ?_
  refine AW_bipush dX10_init_22 ?_
  refine AW_newaN (c := 12) (n := n + 2) dX10_init_24 (Or.inl ⟨rfl, rfl⟩) ar_int rfl (by decide) (by decide) (show σ.2.2.2 + 1 + 1 = n + 2 by omega) ?_
  refine AW_putR dX10_init_26 (Or.inr (Or.inl ⟨pfX10_18, rfl⟩)) (by exact celX (((hk.nw (20, 400)).nw (20, 12)).nw (20, 12)) rfl rfl) ?_
  refine AW_aload_n dX10_init_29 rfl ?_
  refine AW_bipush dX10_init_30 ?_
  refine AW_newaN (c := 12) (n := n + 3) dX10_init_32 (Or.inl ⟨rfl, rfl⟩) ar_int rfl (by decide) (by decide) (show σ.2.2.2 + 1 + 1 + 1 = n + 3 by omega) ?_
  refine AW_putR dX10_init_34 (Or.inr (Or.inl ⟨pfX10_21, rfl⟩)) (by exact celX ((((hk.nw (20, 400)).nw (20, 12)).nw (20, 12)).nw (20, 12)) rfl rfl) ?_
  refine AW_aload_n dX10_init_37 rfl ?_
  refine AW_bipush dX10_init_38 ?_
  refine AW_newaN (c := 12) (n := n + 4) dX10_init_40 (Or.inl ⟨rfl, rfl⟩) ar_int rfl (by decide) (by decide) (show σ.2.2.2 + 1 + 1 + 1 + 1 = n + 4 by omega) ?_
  refine AW_putR dX10_init_42 (Or.inr (Or.inl ⟨pfX10_24, rfl⟩)) (by exact celX (((((hk.nw (20, 400)).nw (20, 12)).nw (20, 12)).nw (20, 12)).nw (20, 12)) rfl rfl) ?_
  refine AW_vret dX10_init_45 rfl ?_
  exact ⟨rfl, rfl⟩
def fJudge (σ : St) (r n : Nat) : St := (upR (nwC (upR (nwC σ (20, 7)) r 0 (n)) (20, 32)) r 1 (n + 1))
theorem i_judge {G : Gt} {d : Nat} {σ : St} (hd : 1 ≤ d) {r n : Nat} (hn : σ.2.2.2 = n) (h16 : 16 ≤ n) (hk : Cel σ r (2, 2)) : AM mX2_init G d 2 39 [vR r] σ (fun ro ρ => ro = none ∧ ρ = fJudge σ r n) := by
  refine AM.intro (by decide +kernel) (by simp [nLg]) (Nat.le_of_ble_eq_true rfl) (fun hO => ?_)
  show AW _ _ _ _ _ _ 0 [some (vR r)] [] σ
  refine AW_aload_n dX2_init_0 rfl ?_
  refine AW_objInit dX2_init_1 oiX2 hk.1 (by omega) (Nat.le_of_ble_eq_true rfl) ?_
  refine AW_aload_n dX2_init_4 rfl ?_
  refine AW_bipush dX2_init_5 ?_
  refine AW_newaN (c := 7) (n := n) dX2_init_7 (Or.inl ⟨rfl, rfl⟩) ar_int rfl (by decide) (by decide) (show σ.2.2.2 = n by omega) ?_
  refine AW_putR dX2_init_9 (Or.inr (Or.inl ⟨pfX2_11, rfl⟩)) (by exact celX (hk.nw (20, 7)) rfl rfl) ?_
  refine AW_aload_n dX2_init_12 rfl ?_
  refine AW_bipush dX2_init_13 ?_
  refine AW_newaN (c := 32) (n := n + 1) dX2_init_15 (Or.inl ⟨rfl, rfl⟩) ar_int rfl (by decide) (by decide) (show σ.2.2.2 + 1 = n + 1 by omega) ?_
  refine AW_putR dX2_init_17 (Or.inr (Or.inl ⟨pfX2_17, rfl⟩)) (by exact celX ((hk.nw (20, 7)).nw (20, 32)) rfl rfl) ?_
  refine AW_vret dX2_init_20 rfl ?_
  exact ⟨rfl, rfl⟩
def fFeast (σ : St) (r n : Nat) : St := (upI (upI (upR (nwC (upR (nwC (upR (nwC (upR (nwC (upR (nwC σ (20, 98)) r 0 (n)) (20, 7)) r 1 (n + 1)) (20, 7)) r 2 (n + 2)) (20, 128)) r 3 (n + 3)) (20, 8)) r 4 (n + 4)) r 6 (3)) r 10 (1))
theorem i_feast {G : Gt} {d : Nat} {σ : St} (hd : 1 ≤ d) {r n : Nat} (hn : σ.2.2.2 = n) (h16 : 16 ≤ n) (hk : Cel σ r (0, 11)) : AM mX0_init G d 5 248 [vR r] σ (fun ro ρ => ro = none ∧ ρ = fFeast σ r n) := by
  refine AM.intro (by decide +kernel) (by simp [nLg]) (Nat.le_of_ble_eq_true rfl) (fun hO => ?_)
  show AW _ _ _ _ _ _ 0 [some (vR r)] [] σ
  refine AW_aload_n dX0_init_0 rfl ?_
  refine AW_objInit dX0_init_1 oiX0 hk.1 (by omega) (Nat.le_of_ble_eq_true rfl) ?_
  refine AW_aload_n dX0_init_4 rfl ?_
  refine AW_bipush dX0_init_5 ?_
  refine AW_newaN (c := 98) (n := n) dX0_init_7 (Or.inl ⟨rfl, rfl⟩) ar_int rfl (by decide) (by decide) (show σ.2.2.2 = n by omega) ?_
  refine AW_putR dX0_init_9 (Or.inr (Or.inl ⟨pfX0_11, rfl⟩)) (by exact celX (hk.nw (20, 98)) rfl rfl) ?_
  refine AW_aload_n dX0_init_12 rfl ?_
  refine AW_bipush dX0_init_13 ?_
  refine AW_newaN (c := 7) (n := n + 1) dX0_init_15 (Or.inl ⟨rfl, rfl⟩) ar_int rfl (by decide) (by decide) (show σ.2.2.2 + 1 = n + 1 by omega) ?_
  refine AW_putR dX0_init_17 (Or.inr (Or.inl ⟨pfX0_15, rfl⟩)) (by exact celX ((hk.nw (20, 98)).nw (20, 7)) rfl rfl) ?_
  refine AW_aload_n dX0_init_20 rfl ?_
  refine AW_bipush dX0_init_21 ?_
  refine AW_newaN (c := 7) (n := n + 2) dX0_init_23 (Or.inl ⟨rfl, rfl⟩) ar_int rfl (by decide) (by decide) (show σ.2.2.2 + 1 + 1 = n + 2 by omega) ?_
  refine AW_putR dX0_init_25 (Or.inr (Or.inl ⟨pfX0_18, rfl⟩)) (by exact celX (((hk.nw (20, 98)).nw (20, 7)).nw (20, 7)) rfl rfl) ?_
  refine AW_aload_n dX0_init_28 rfl ?_
  refine AW_sipush dX0_init_29 ?_
  refine AW_newaN (c := 128) (n := n + 3) dX0_init_32 (Or.inl ⟨rfl, rfl⟩) ar_int rfl (by decide) (by decide) (show σ.2.2.2 + 1 + 1 + 1 = n + 3 by omega) ?_
  refine AW_putR dX0_init_34 (Or.inr (Or.inl ⟨pfX0_21, rfl⟩)) (by exact celX ((((hk.nw (20, 98)).nw (20, 7)).nw (20, 7)).nw (20, 128)) rfl rfl) ?_
  refine AW_aload_n dX0_init_37 rfl ?_
  refine AW_bipush dX0_init_38 ?_
  refine AW_newaN (c := 8) (n := n + 4) dX0_init_40 (Or.inl ⟨rfl, rfl⟩) ar_int rfl (by decide) (by decide) (show σ.2.2.2 + 1 + 1 + 1 + 1 = n + 4 by omega) ?_
  refine AW_putR dX0_init_42 (Or.inl pfX0_24) (by exact celX (((((hk.nw (20, 98)).nw (20, 7)).nw (20, 7)).nw (20, 128)).nw (20, 8)) rfl rfl) ?_
  refine AW_aload_n dX0_init_45 rfl ?_
  refine AW_iconst dX0_init_46 ?_
  refine AW_putI dX0_init_47 (Or.inl pfX0_27) (by exact celX (((((hk.nw (20, 98)).nw (20, 7)).nw (20, 7)).nw (20, 128)).nw (20, 8)) rfl rfl) ?_
  refine AW_aload_n dX0_init_50 rfl ?_
  refine AW_iconst dX0_init_51 ?_
  refine AW_putZ dX0_init_52 (Or.inl pfX0_31) (by exact celX (((((hk.nw (20, 98)).nw (20, 7)).nw (20, 7)).nw (20, 128)).nw (20, 8)) rfl rfl) (by decide) ?_
  refine AW_vret dX0_init_55 rfl ?_
  exact ⟨rfl, rfl⟩
def fPurse (σ : St) (r n x1 : Nat) : St := (upR (upR (nwC (upR (nwC σ (20, 7)) r 1 (n)) (20, 7)) r 2 (n + 1)) r 0 x1)
theorem i_purse {G : Gt} {d : Nat} {σ : St} (hd : 1 ≤ d) {r n x1 : Nat} (hn : σ.2.2.2 = n) (h16 : 16 ≤ n) (hk : Cel σ r (5, 3)) : AM mX5_init G d 2 14 [vR r, vR x1] σ (fun ro ρ => ro = none ∧ ρ = fPurse σ r n x1) := by
  refine AM.intro (by decide +kernel) (by simp [nLg]) (Nat.le_of_ble_eq_true rfl) (fun hO => ?_)
  show AW _ _ _ _ _ _ 0 [some (vR r), some (vR x1)] [] σ
  refine AW_aload_n dX5_init_0 rfl ?_
  refine AW_objInit dX5_init_1 oiX5 hk.1 (by omega) (Nat.le_of_ble_eq_true rfl) ?_
  refine AW_aload_n dX5_init_4 rfl ?_
  refine AW_bipush dX5_init_5 ?_
  refine AW_newaN (c := 7) (n := n) dX5_init_7 (Or.inl ⟨rfl, rfl⟩) ar_int rfl (by decide) (by decide) (show σ.2.2.2 = n by omega) ?_
  refine AW_putR dX5_init_9 (Or.inr (Or.inl ⟨pfX5_11, rfl⟩)) (by exact celX (hk.nw (20, 7)) rfl rfl) ?_
  refine AW_aload_n dX5_init_12 rfl ?_
  refine AW_bipush dX5_init_13 ?_
  refine AW_newaN (c := 7) (n := n + 1) dX5_init_15 (Or.inl ⟨rfl, rfl⟩) ar_int rfl (by decide) (by decide) (show σ.2.2.2 + 1 = n + 1 by omega) ?_
  refine AW_putR dX5_init_17 (Or.inr (Or.inl ⟨pfX5_17, rfl⟩)) (by exact celX ((hk.nw (20, 7)).nw (20, 7)) rfl rfl) ?_
  refine AW_aload_n dX5_init_20 rfl ?_
  refine AW_aload_n dX5_init_21 rfl ?_
  refine AW_putR dX5_init_22 (Or.inr (Or.inl ⟨pfX5_20, rfl⟩)) (by exact celX ((hk.nw (20, 7)).nw (20, 7)) rfl rfl) ?_
  refine AW_vret dX5_init_25 rfl ?_
  exact ⟨rfl, rfl⟩
def fRanks (σ : St) (r n x1 : Nat) : St := (upR (upI (upR (nwC (upR (nwC σ (20, 36)) r 1 (n)) (20, 2)) r 2 (n + 1)) r 3 (-1)) r 0 x1)
theorem i_ranks {G : Gt} {d : Nat} {σ : St} (hd : 1 ≤ d) {r n x1 : Nat} (hn : σ.2.2.2 = n) (h16 : 16 ≤ n) (hk : Cel σ r (6, 9)) : AM mX6_init G d 2 38 [vR r, vR x1] σ (fun ro ρ => ro = none ∧ ρ = fRanks σ r n x1) := by
  refine AM.intro (by decide +kernel) (by simp [nLg]) (Nat.le_of_ble_eq_true rfl) (fun hO => ?_)
  show AW _ _ _ _ _ _ 0 [some (vR r), some (vR x1)] [] σ
  refine AW_aload_n dX6_init_0 rfl ?_
  refine AW_objInit dX6_init_1 oiX6 hk.1 (by omega) (Nat.le_of_ble_eq_true rfl) ?_
  refine AW_aload_n dX6_init_4 rfl ?_
  refine AW_bipush dX6_init_5 ?_
  refine AW_newaN (c := 36) (n := n) dX6_init_7 (Or.inl ⟨rfl, rfl⟩) ar_int rfl (by decide) (by decide) (show σ.2.2.2 = n by omega) ?_
  refine AW_putR dX6_init_9 (Or.inr (Or.inl ⟨pfX6_13, rfl⟩)) (by exact celX (hk.nw (20, 36)) rfl rfl) ?_
  refine AW_aload_n dX6_init_12 rfl ?_
  refine AW_iconst dX6_init_13 ?_
  refine AW_newaN (c := 2) (n := n + 1) dX6_init_14 (Or.inl ⟨rfl, rfl⟩) ar_int rfl (by decide) (by decide) (show σ.2.2.2 + 1 = n + 1 by omega) ?_
  refine AW_putR dX6_init_16 (Or.inr (Or.inl ⟨pfX6_17, rfl⟩)) (by exact celX ((hk.nw (20, 36)).nw (20, 2)) rfl rfl) ?_
  refine AW_aload_n dX6_init_19 rfl ?_
  refine AW_iconst dX6_init_20 ?_
  refine AW_putI dX6_init_21 (Or.inl pfX6_20) (by exact celX ((hk.nw (20, 36)).nw (20, 2)) rfl rfl) ?_
  refine AW_aload_n dX6_init_24 rfl ?_
  refine AW_aload_n dX6_init_25 rfl ?_
  refine AW_putR dX6_init_26 (Or.inr (Or.inl ⟨pfX6_24, rfl⟩)) (by exact celX ((hk.nw (20, 36)).nw (20, 2)) rfl rfl) ?_
  refine AW_vret dX6_init_29 rfl ?_
  exact ⟨rfl, rfl⟩
def fTape (σ : St) (r n : Nat) : St := (upR (nwC (upR (nwC (upR (nwC (upR (nwC σ (21, 400)) r 0 (n)) (20, 401)) r 1 (n + 1)) (20, 401)) r 2 (n + 2)) (20, 401)) r 3 (n + 3))
theorem i_tape {G : Gt} {d : Nat} {σ : St} (hd : 1 ≤ d) {r n : Nat} (hn : σ.2.2.2 = n) (h16 : 16 ≤ n) (hk : Cel σ r (8, 6)) : AM mX8_init G d 4 1603 [vR r] σ (fun ro ρ => ro = none ∧ ρ = fTape σ r n) := by
  refine AM.intro (by decide +kernel) (by simp [nLg]) (Nat.le_of_ble_eq_true rfl) (fun hO => ?_)
  show AW _ _ _ _ _ _ 0 [some (vR r)] [] σ
  refine AW_aload_n dX8_init_0 rfl ?_
  refine AW_objInit dX8_init_1 oiX8 hk.1 (by omega) (Nat.le_of_ble_eq_true rfl) ?_
  refine AW_aload_n dX8_init_4 rfl ?_
  refine AW_sipush dX8_init_5 ?_
  refine AW_newaN (c := 400) (n := n) dX8_init_8 (Or.inr (Or.inl ⟨rfl, rfl⟩)) ar_byte rfl (by decide) (by decide) (show σ.2.2.2 = n by omega) ?_
  refine AW_putR dX8_init_10 (Or.inr (Or.inl ⟨pfX8_9, rfl⟩)) (by exact celX (hk.nw (21, 400)) rfl rfl) ?_
  refine AW_aload_n dX8_init_13 rfl ?_
  refine AW_sipush dX8_init_14 ?_
  refine AW_newaN (c := 401) (n := n + 1) dX8_init_17 (Or.inl ⟨rfl, rfl⟩) ar_int rfl (by decide) (by decide) (show σ.2.2.2 + 1 = n + 1 by omega) ?_
  refine AW_putR dX8_init_19 (Or.inr (Or.inl ⟨pfX8_13, rfl⟩)) (by exact celX ((hk.nw (21, 400)).nw (20, 401)) rfl rfl) ?_
  refine AW_aload_n dX8_init_22 rfl ?_
  refine AW_sipush dX8_init_23 ?_
  refine AW_newaN (c := 401) (n := n + 2) dX8_init_26 (Or.inl ⟨rfl, rfl⟩) ar_int rfl (by decide) (by decide) (show σ.2.2.2 + 1 + 1 = n + 2 by omega) ?_
  refine AW_putR dX8_init_28 (Or.inr (Or.inl ⟨pfX8_17, rfl⟩)) (by exact celX (((hk.nw (21, 400)).nw (20, 401)).nw (20, 401)) rfl rfl) ?_
  refine AW_aload_n dX8_init_31 rfl ?_
  refine AW_sipush dX8_init_32 ?_
  refine AW_newaN (c := 401) (n := n + 3) dX8_init_35 (Or.inl ⟨rfl, rfl⟩) ar_int rfl (by decide) (by decide) (show σ.2.2.2 + 1 + 1 + 1 = n + 3 by omega) ?_
  refine AW_putR dX8_init_37 (Or.inr (Or.inl ⟨pfX8_20, rfl⟩)) (by exact celX ((((hk.nw (21, 400)).nw (20, 401)).nw (20, 401)).nw (20, 401)) rfl rfl) ?_
  refine AW_vret dX8_init_40 rfl ?_
  exact ⟨rfl, rfl⟩
def fWaits (σ : St) (r n x1 : Nat) : St := (upR (upI (upR (nwC (upR (nwC σ (20, 732)) r 1 (n)) (20, 72)) r 2 (n + 1)) r 3 (-1)) r 0 x1)
theorem i_waits {G : Gt} {d : Nat} {σ : St} (hd : 1 ≤ d) {r n x1 : Nat} (hn : σ.2.2.2 = n) (h16 : 16 ≤ n) (hk : Cel σ r (9, 4)) : AM mX9_init G d 2 804 [vR r, vR x1] σ (fun ro ρ => ro = none ∧ ρ = fWaits σ r n x1) := by
  refine AM.intro (by decide +kernel) (by simp [nLg]) (Nat.le_of_ble_eq_true rfl) (fun hO => ?_)
  show AW _ _ _ _ _ _ 0 [some (vR r), some (vR x1)] [] σ
  refine AW_aload_n dX9_init_0 rfl ?_
  refine AW_objInit dX9_init_1 oiX9 hk.1 (by omega) (Nat.le_of_ble_eq_true rfl) ?_
  refine AW_aload_n dX9_init_4 rfl ?_
  refine AW_sipush dX9_init_5 ?_
  refine AW_newaN (c := 732) (n := n) dX9_init_8 (Or.inl ⟨rfl, rfl⟩) ar_int rfl (by decide) (by decide) (show σ.2.2.2 = n by omega) ?_
  refine AW_putR dX9_init_10 (Or.inr (Or.inl ⟨pfX9_13, rfl⟩)) (by exact celX (hk.nw (20, 732)) rfl rfl) ?_
  refine AW_aload_n dX9_init_13 rfl ?_
  refine AW_bipush dX9_init_14 ?_
  refine AW_newaN (c := 72) (n := n + 1) dX9_init_16 (Or.inl ⟨rfl, rfl⟩) ar_int rfl (by decide) (by decide) (show σ.2.2.2 + 1 = n + 1 by omega) ?_
  refine AW_putR dX9_init_18 (Or.inr (Or.inl ⟨pfX9_17, rfl⟩)) (by exact celX ((hk.nw (20, 732)).nw (20, 72)) rfl rfl) ?_
  refine AW_aload_n dX9_init_21 rfl ?_
  refine AW_iconst dX9_init_22 ?_
  refine AW_putI dX9_init_23 (Or.inl pfX9_20) (by exact celX ((hk.nw (20, 732)).nw (20, 72)) rfl rfl) ?_
  refine AW_aload_n dX9_init_26 rfl ?_
  refine AW_aload_n dX9_init_27 rfl ?_
  refine AW_putR dX9_init_28 (Or.inr (Or.inl ⟨pfX9_24, rfl⟩)) (by exact celX ((hk.nw (20, 732)).nw (20, 72)) rfl rfl) ?_
  refine AW_vret dX9_init_31 rfl ?_
  exact ⟨rfl, rfl⟩
