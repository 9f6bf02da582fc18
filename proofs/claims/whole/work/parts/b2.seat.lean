theorem ar_int : Cond.arrayClass (newarray.typeOf .int) ∈ lw_g := mem_g 169 (by decide +kernel) rfl
theorem cl_AI : Cond.classLink RJ7 317 "[I" ∈ lw_g := mem_g 1225 (by decide +kernel) rfl
theorem Cel.cpI {σ : St} {r : Nat} {k : Nat × Nat} (h : Cel σ r k) (r0 r1 sp dp n : Nat) : Cel (cpI σ r0 r1 sp dp n) r k := h
-- how the rows' place grows
def capG (N c : Nat) : Nat := if c = N then 2 * N else N
def groN : Nat → Nat → Nat → Nat
  | 0, N, _ => N
  | r + 1, N, c => groN r (capG N c) (c + 1)
def groC : Nat → Nat → Nat → Nat
  | 0, _, _ => 0
  | r + 1, N, c => (if c = N then 1 else 0) + groC r (capG N c) (c + 1)
def groS : Nat → Nat → Nat → Nat
  | 0, _, _ => 0
  | r + 1, N, c => (if c = N then 2 * N else 0) + groS r (capG N c) (c + 1)
theorem groN_s (r N c : Nat) : groN (r + 1) N c = groN r (capG N c) (c + 1) := rfl
theorem groC_s (r N c : Nat) : groC (r + 1) N c = (if c = N then 1 else 0) + groC r (capG N c) (c + 1) := rfl
theorem groS_s (r N c : Nat) : groS (r + 1) N c = (if c = N then 2 * N else 0) + groS r (capG N c) (c + 1) := rfl
theorem gro_add : ∀ (a b N c : Nat), groN (a + b) N c = groN b (groN a N c) (c + a) ∧ groC (a + b) N c = groC a N c + groC b (groN a N c) (c + a) ∧ groS (a + b) N c = groS a N c + groS b (groN a N c) (c + a) := by
  intro a
  induction a with
  | zero =>
    intro b N c
    rw [Nat.zero_add, Nat.add_zero]
    refine ⟨rfl, ?_, ?_⟩
    · show groC b N c = 0 + groC b N c; omega
    · show groS b N c = 0 + groS b N c; omega
  | succ a ih =>
    intro b N c
    have h := ih b (capG N c) (c + 1)
    rw [show a + 1 + b = (a + b) + 1 by omega, groN_s, groC_s, groS_s, groN_s, groC_s, groS_s, h.1, h.2.1, h.2.2, show c + 1 + a = c + (a + 1) by omega]
    exact ⟨rfl, by omega, by omega⟩
theorem gro_sum : ∀ (r N c : Nat), groS r N c + 2 * N = 2 * groN r N c := by
  intro r
  induction r with
  | zero => intro N c; show 0 + 2 * N = 2 * N; omega
  | succ r ih =>
    intro N c
    rw [groS_s, groN_s]
    have h := ih (capG N c) (c + 1)
    unfold capG at *
    split at h <;> split <;> omega
theorem gro_cell : ∀ (r N c : Nat), 8 ≤ N → 16 * groC r N c ≤ groS r N c := by
  intro r
  induction r with
  | zero => intro N c _; show 16 * 0 ≤ 0; omega
  | succ r ih =>
    intro N c hN
    rw [groS_s, groC_s]
    have h := ih (capG N c) (c + 1) (by unfold capG; split <;> omega)
    split <;> omega
theorem gro_bd : ∀ (r N c : Nat), N ≤ 10080 → c + r ≤ 5040 → groN r N c ≤ 10080 := by
  intro r
  induction r with
  | zero => intro N c h _; exact h
  | succ r ih =>
    intro N c h1 h2
    rw [groN_s]
    refine ih _ _ ?_ (by omega)
    unfold capG
    split <;> omega
/-- the rows that were found so far -/
def RwC (hc N : Nat) (H : List (List Nat)) (σ : St) : Prop := HcC hc N σ ∧ σ.2.1 85 5 = (H.length : Int) ∧ H.length ≤ N ∧ ∀ i l, H[i]? = some l → σ.2.1 hc i = (pk8 l : Int)
theorem k_copyI {G : Gt} {d : Nat} {σ : St} (hd : 1 ≤ d) {hc N : Nat} (h16 : 16 ≤ σ.2.2.2) (ha : Cel σ hc (20, N)) (hN : 8 ≤ N ∧ N ≤ 10080) : AM mJ7_copyOf_59c91 G d 1 (2 * N) [vR hc, vI (2 * (N : Int))] σ (fun ro ρ => ro = some (vR σ.2.2.2) ∧ ρ = cpI (nwC σ (20, 2 * N)) hc σ.2.2.2 0 0 N) := by
  refine AM.intro (by decide +kernel) (by simp [nLg]) (Nat.le_of_ble_eq_true rfl) (fun hO => ?_)
  show AW _ _ _ _ _ _ 0 [some (vR hc), some (vI (2 * (N : Int))), none] [] σ
  refine AW_iload_n dJ7_copyOf_59c91_0 rfl ?_
  refine AW_aload_n dJ7_copyOf_59c91_1 rfl ?_
  refine AW_alen dJ7_copyOf_59c91_2 ha (by decide) (by omega) ?_
  refine AW_icmp_ne (tgt := 14) dJ7_copyOf_59c91_3 (by decide) (fun c_3 => ?_) (fun c_3 => ?_)
  · skip
    refine AW_iload_n dJ7_copyOf_59c91_14 rfl ?_
    refine AW_up (bc := 0 + 1) (bs := 0 + (2 * (N : Int)).toNat) (by omega) (by omega) ?_
    refine AW_newa (ci := 20) dJ7_copyOf_59c91_15 (Or.inl ⟨rfl, rfl⟩) ar_int (by omega) (by omega) ?_
    rw [show (2 * (N : Int)).toNat = 2 * N by omega]
    refine AW_astore2 dJ7_copyOf_59c91_17 ?_
    refine AW_aload_n dJ7_copyOf_59c91_18 rfl ?_
    refine AW_iconst dJ7_copyOf_59c91_19 ?_
    refine AW_aload_n dJ7_copyOf_59c91_20 rfl ?_
    refine AW_iconst dJ7_copyOf_59c91_21 ?_
    refine AW_aload_n dJ7_copyOf_59c91_22 rfl ?_
    refine AW_alen dJ7_copyOf_59c91_23 (ha.nw _) (by decide) (by omega) ?_
    refine AW_iload_n dJ7_copyOf_59c91_24 rfl ?_
    refine AW_mmin dJ7_copyOf_59c91_25 lkJ7_304 (by omega) (Nat.le_of_ble_eq_true rfl) ?_
    rw [if_neg (by omega)]
    refine AW_copyI (r0 := hc) (r1 := σ.2.2.2) (n0 := N) (n1 := 2 * N) dJ7_copyOf_59c91_28 ac_J7 (ha.nw _) (Cel.new h16 _) (by decide) (by decide) (by omega) (by omega) (by omega) (by omega) (Nat.le_of_ble_eq_true rfl) ?_
    rw [show Int.toNat 0 = 0 from rfl, Int.toNat_natCast]
    refine AW_aload_n dJ7_copyOf_59c91_31 rfl ?_
    refine AW_aret dJ7_copyOf_59c91_32 rfl ?_
    exact ⟨rfl, rfl⟩
  · skip
    exact absurd c_3 (by omega)
theorem getq_snoc {α : Type} {H : List α} {p l : α} {i : Nat} (h : (H ++ [p])[i]? = some l) : (i < H.length ∧ H[i]? = some l) ∨ (i = H.length ∧ l = p) := by
  by_cases hi : i < H.length
  · rw [List.getElem?_append_left hi] at h; exact Or.inl ⟨hi, h⟩
  · rw [List.getElem?_append_right (by omega)] at h
    by_cases h2 : i = H.length
    · subst h2
      simp at h
      exact Or.inr ⟨rfl, h.symm⟩
    · rw [List.getElem?_eq_none (by simp; omega)] at h
      cases h
theorem RwC.keep {σ : St} (hS : Sta σ) {hc N : Nat} {H : List (List Nat)} {pre : List Nat} (h : RwC hc N H σ) (hlt : H.length < N) : RwC hc N (H ++ [pre]) (upI (upI σ hc H.length (pk8 pre : Int)) 85 5 ((H.length : Int) + 1)) := by
  obtain ⟨a1, a2, a3, a4⟩ := h
  have hne : hc ≠ 85 := by rcases a1.2.2.1 with q | q <;> omega
  refine ⟨⟨a1.1, a1.2⟩, ?_, by simp; omega, fun i l hi => ?_⟩
  · rw [up_at]; simp
  · rw [up_r _ _ _ _ hne]
    rcases getq_snoc hi with ⟨q1, q2⟩ | ⟨rfl, rfl⟩
    · rw [up_j _ _ _ (by omega)]; exact a4 i l q2
    · rw [up_at]
theorem RwC.grow {σ : St} (hS : Sta σ) {hc : Nat} {H : List (List Nat)} {pre : List Nat} (h : RwC hc H.length H σ) (h50 : H.length < 5040) : RwC σ.2.2.2 (2 * H.length) (H ++ [pre]) (upI (upI (upR (cpI (nwC σ (20, 2 * H.length)) hc σ.2.2.2 0 0 H.length) 85 4 σ.2.2.2) σ.2.2.2 H.length (pk8 pre : Int)) 85 5 ((H.length : Int) + 1)) ∧ Ff σ (upI (upI (upR (cpI (nwC σ (20, 2 * H.length)) hc σ.2.2.2 0 0 H.length) 85 4 σ.2.2.2) σ.2.2.2 H.length (pk8 pre : Int)) 85 5 ((H.length : Int) + 1)) := by
  obtain ⟨a1, a2, a3, a4⟩ := h
  have h132 := hS.1
  have hlt := a1.2.1.2.1
  have h8 := a1.2.2.2
  refine ⟨⟨⟨?_, ⟨by omega, Nat.lt_succ_self _, ?_⟩, Or.inr h132, by omega⟩, ?_, by simp; omega, fun i l hi => ?_⟩, ?_⟩
  · show (upR (cpI (nwC σ (20, 2 * H.length)) hc σ.2.2.2 0 0 H.length) 85 4 σ.2.2.2).2.2.1 85 4 = _
    rw [upR_if, if_pos ⟨rfl, rfl⟩]
  · show (nwC σ (20, 2 * H.length)).1 σ.2.2.2 = _
    rw [nw_k, if_pos rfl]
  · rw [up_at]; simp
  · rw [up_r _ _ _ _ (by omega)]
    rcases getq_snoc hi with ⟨q1, q2⟩ | ⟨rfl, rfl⟩
    · rw [up_j _ _ _ (by omega)]
      show (cpI (nwC σ (20, 2 * H.length)) hc σ.2.2.2 0 0 H.length).2.1 σ.2.2.2 i = _
      rw [cp_hit _ _ _ _ _ _ _ (by omega), nw_i, if_neg (by omega), show 0 + (i - 0) = i by omega]
      exact a4 i l q2
    · rw [up_at]
  · refine ⟨Nat.le_succ _, fun r hr => ?_, Or.inr ?_, fun r j hr hcn => ?_, fun r j hr hn hne => ?_, ?_⟩
    · show (nwC σ (20, 2 * H.length)).1 r = _
      rw [nw_k, if_neg (by omega)]
    · show σ.2.2.2 ≤ (upR (cpI (nwC σ (20, 2 * H.length)) hc σ.2.2.2 0 0 H.length) 85 4 σ.2.2.2).2.2.1 85 4
      rw [upR_if, if_pos ⟨rfl, rfl⟩]
      exact Nat.le_refl _
    · show (upR (cpI (nwC σ (20, 2 * H.length)) hc σ.2.2.2 0 0 H.length) 85 4 σ.2.2.2).2.2.1 r j = _
      rw [upR_if, if_neg (by omega)]
      show (nwC σ (20, 2 * H.length)).2.2.1 r j = _
      rw [nw_r, if_neg (by omega)]
    · rw [up_r _ _ _ _ (fun q => hn (by simp [q])), up_r _ _ _ _ (by omega)]
      show (cpI (nwC σ (20, 2 * H.length)) hc σ.2.2.2 0 0 H.length).2.1 r j = _
      rw [cp_miss _ _ _ _ _ _ (by omega), nw_i, if_neg (by omega)]
    · rw [up_j _ _ _ (by decide), up_r _ _ _ _ (by omega)]
      show (cpI (nwC σ (20, 2 * H.length)) hc σ.2.2.2 0 0 H.length).2.1 85 6 = _
      rw [cp_miss _ _ _ _ _ _ (by omega), nw_i, if_neg (by omega)]
theorem l_keep2 {G : Gt} {d : Nat} {σ : St} {n hc N : Nat} {K : Nat → Int} {pre : List Nat} {H : List (List Nat)} (hd : 2 ≤ d) (hS : Sta σ) (hL : LkC n K σ) (hR : Rw n pre) (hP : StC pre σ) (hl : pre.length = n) (hW : RwC hc N H σ) (h50 : H.length < 5040) {x2 : Option AV} : AW mX0_keepSeats G d (if H.length = N then 1 else 0) (if H.length = N then 2 * N else 0) (mq G (fun ro ρ => ro = none ∧ ∃ hc2, RwC hc2 (capG N H.length) (H ++ [pre]) ρ ∧ Ff σ ρ ∧ (∀ i, ρ.2.1 87 i = σ.2.1 87 i) ∧ ∀ j, j ≠ 5 → ρ.2.1 85 j = σ.2.1 85 j)) 37 [some (vR 85), some (vI (pk8 pre : Int)), x2] [] σ := by
  have h132 := hS.1
  have hw1 := hW.1
  have h5 := hW.2.1
  have h8 := hW.1.2.2.2
  have hle := hW.2.2.1
  have hcne : hc ≠ 87 ∧ hc ≠ 85 := by rcases hW.1.2.2.1 with q | q <;> omega
  refine AW_aload_n dX0_keepSeats_37 rfl ?_
  refine AW_getI dX0_keepSeats_38 gfX0_35 (hS.cel rfl) ?_
  refine AW_aload_n dX0_keepSeats_41 rfl ?_
  refine AW_getR (a := hc) dX0_keepSeats_42 gfX0_24 (hS.cel rfl) hW.1.1 ?_
  refine AW_alen dX0_keepSeats_45 hW.1.2.1 (by decide) (by omega) ?_
  refine AW_icmp_lt (tgt := 67) dX0_keepSeats_46 (by decide) (fun c_46 => ?_) (fun c_46 => ?_)
  · skip
    rw [h5] at c_46
    rw [if_neg (show ¬ H.length = N by omega), if_neg (show ¬ H.length = N by omega)]
    first
    | (have h5x : (upR (cpI (nwC σ (20, 2 * H.length)) hc σ.2.2.2 0 0 H.length) 85 4 σ.2.2.2).2.1 85 5 = (H.length : Int) := by
         show (cpI (nwC σ (20, 2 * H.length)) hc σ.2.2.2 0 0 H.length).2.1 85 5 = _
         rw [cp_miss _ _ _ _ _ _ (by omega), nw_i, if_neg (by omega)]
         exact h5
       have hX := hS1
       refine AW_aload_n dX0_keepSeats_67 rfl ?_
       refine AW_getR (a := σ.2.2.2) dX0_keepSeats_68 gfX0_24 (hS1.cel rfl) (by rw [upR_if, if_pos ⟨rfl, rfl⟩]) ?_
       refine AW_aload_n dX0_keepSeats_71 rfl ?_
       refine AW_getI dX0_keepSeats_72 gfX0_35 (hS1.cel rfl) ?_
       refine AW_iload_n dX0_keepSeats_75 rfl ?_
       refine AW_iast dX0_keepSeats_76 (Cel.new (by omega) (20, 2 * H.length)) (by rw [h5x]; omega) (by rw [h5x]; omega) ?_
       rw [h5x, Int.toNat_natCast]
       refine AW_aload_n dX0_keepSeats_77 rfl ?_
       refine AW_dup dX0_keepSeats_78 ?_
       refine AW_getI dX0_keepSeats_79 gfX0_35 (hS1.cel rfl) ?_
       refine AW_iconst dX0_keepSeats_82 ?_
       rw [up_r _ _ _ _ (by omega), h5x]
       refine AW_iaddE dX0_keepSeats_83 (by omega) (by omega) ?_
       refine AW_putI dX0_keepSeats_84 (Or.inl pfX0_35) (hS1.cel rfl) ?_
       refine AW_vret dX0_keepSeats_87 rfl ?_
       obtain ⟨r1, r2⟩ := hW.grow hS h50 (pre := pre)
       have e1 : capG H.length H.length = 2 * H.length := by unfold capG; rw [if_pos rfl]
       rw [e1]
       refine ⟨rfl, σ.2.2.2, r1, r2, fun i => ?_, fun j hj => ?_⟩
       · rw [up_r _ _ _ _ (by decide), up_r _ _ _ _ (by omega)]
         show (cpI (nwC σ (20, 2 * H.length)) hc σ.2.2.2 0 0 H.length).2.1 87 i = _
         rw [cp_miss _ _ _ _ _ _ (by omega), nw_i, if_neg (by omega)]
       · rw [up_j _ _ _ hj, up_r _ _ _ _ (by omega)]
         show (cpI (nwC σ (20, 2 * H.length)) hc σ.2.2.2 0 0 H.length).2.1 85 j = _
         rw [cp_miss _ _ _ _ _ _ (by omega), nw_i, if_neg (by omega)])
    | (have hX := c_46
       refine AW_aload_n dX0_keepSeats_67 rfl ?_
       refine AW_getR (a := hc) dX0_keepSeats_68 gfX0_24 (hS.cel rfl) hW.1.1 ?_
       refine AW_aload_n dX0_keepSeats_71 rfl ?_
       refine AW_getI dX0_keepSeats_72 gfX0_35 (hS.cel rfl) ?_
       refine AW_iload_n dX0_keepSeats_75 rfl ?_
       refine AW_iast dX0_keepSeats_76 hW.1.2.1 (by rw [h5]; omega) (by rw [h5]; omega) ?_
       rw [h5, Int.toNat_natCast]
       refine AW_aload_n dX0_keepSeats_77 rfl ?_
       refine AW_dup dX0_keepSeats_78 ?_
       refine AW_getI dX0_keepSeats_79 gfX0_35 (hS.cel rfl) ?_
       refine AW_iconst dX0_keepSeats_82 ?_
       rw [up_r _ _ _ _ (by omega), h5]
       refine AW_iaddE dX0_keepSeats_83 (by omega) (by omega) ?_
       refine AW_putI dX0_keepSeats_84 (Or.inl pfX0_35) (hS.cel rfl) ?_
       refine AW_vret dX0_keepSeats_87 rfl ?_
       have e1 : capG N H.length = N := by unfold capG; rw [if_neg (by omega)]
       rw [e1]
       refine ⟨rfl, hc, hW.keep hS (by omega), (Ff.rf.uh hS hW.1 _ _).up (Or.inr (Or.inr (Or.inr ⟨rfl, by decide⟩))) _, fun i => ?_, fun j hj => ?_⟩
       · rw [up_r _ _ _ _ (by decide), up_r _ _ _ _ (by omega)]
       · rw [up_j _ _ _ hj, up_r _ _ _ _ (by omega)])
  · skip
    rw [h5] at c_46
    have hN : H.length = N := by omega
    subst hN
    rw [if_pos rfl, if_pos rfl]
    refine AW_up (bc := 0 + 1) (bs := 0 + 2 * H.length) (by omega) (by omega) ?_
    refine AW_aload_n dX0_keepSeats_49 rfl ?_
    refine AW_aload_n dX0_keepSeats_50 rfl ?_
    refine AW_getR (a := hc) dX0_keepSeats_51 gfX0_24 (hS.cel rfl) hW.1.1 ?_
    refine AW_iconst dX0_keepSeats_54 ?_
    refine AW_aload_n dX0_keepSeats_55 rfl ?_
    refine AW_getR (a := hc) dX0_keepSeats_56 gfX0_24 (hS.cel rfl) hW.1.1 ?_
    refine AW_alen dX0_keepSeats_59 hW.1.2.1 (by decide) (by omega) ?_
    refine AW_imulE dX0_keepSeats_60 (by omega) (by omega) ?_
    refine AW_callSb2 (d' := d - 1) dX0_keepSeats_61 lkX0_89 mfJ7_copyOf_59c91 (k_copyI (by omega) (by omega) hW.1.2.1 (by omega)) (by omega) (Nat.le_of_ble_eq_true rfl) ?_
    rintro _ _ ⟨rfl, rfl⟩ -
    have hS1 : Sta (cpI (nwC σ (20, 2 * H.length)) hc σ.2.2.2 0 0 H.length) := hS.nw _
    refine AW_putR dX0_keepSeats_64 (Or.inl pfX0_24) (hS1.cel rfl) ?_
    first
    | (have h5x : (upR (cpI (nwC σ (20, 2 * H.length)) hc σ.2.2.2 0 0 H.length) 85 4 σ.2.2.2).2.1 85 5 = (H.length : Int) := by
         show (cpI (nwC σ (20, 2 * H.length)) hc σ.2.2.2 0 0 H.length).2.1 85 5 = _
         rw [cp_miss _ _ _ _ _ _ (by omega), nw_i, if_neg (by omega)]
         exact h5
       have hX := hS1
       refine AW_aload_n dX0_keepSeats_67 rfl ?_
       refine AW_getR (a := σ.2.2.2) dX0_keepSeats_68 gfX0_24 (hS1.cel rfl) (by rw [upR_if, if_pos ⟨rfl, rfl⟩]) ?_
       refine AW_aload_n dX0_keepSeats_71 rfl ?_
       refine AW_getI dX0_keepSeats_72 gfX0_35 (hS1.cel rfl) ?_
       refine AW_iload_n dX0_keepSeats_75 rfl ?_
       refine AW_iast dX0_keepSeats_76 (Cel.new (by omega) (20, 2 * H.length)) (by rw [h5x]; omega) (by rw [h5x]; omega) ?_
       rw [h5x, Int.toNat_natCast]
       refine AW_aload_n dX0_keepSeats_77 rfl ?_
       refine AW_dup dX0_keepSeats_78 ?_
       refine AW_getI dX0_keepSeats_79 gfX0_35 (hS1.cel rfl) ?_
       refine AW_iconst dX0_keepSeats_82 ?_
       rw [up_r _ _ _ _ (by omega), h5x]
       refine AW_iaddE dX0_keepSeats_83 (by omega) (by omega) ?_
       refine AW_putI dX0_keepSeats_84 (Or.inl pfX0_35) (hS1.cel rfl) ?_
       refine AW_vret dX0_keepSeats_87 rfl ?_
       obtain ⟨r1, r2⟩ := hW.grow hS h50 (pre := pre)
       have e1 : capG H.length H.length = 2 * H.length := by unfold capG; rw [if_pos rfl]
       rw [e1]
       refine ⟨rfl, σ.2.2.2, r1, r2, fun i => ?_, fun j hj => ?_⟩
       · rw [up_r _ _ _ _ (by decide), up_r _ _ _ _ (by omega)]
         show (cpI (nwC σ (20, 2 * H.length)) hc σ.2.2.2 0 0 H.length).2.1 87 i = _
         rw [cp_miss _ _ _ _ _ _ (by omega), nw_i, if_neg (by omega)]
       · rw [up_j _ _ _ hj, up_r _ _ _ _ (by omega)]
         show (cpI (nwC σ (20, 2 * H.length)) hc σ.2.2.2 0 0 H.length).2.1 85 j = _
         rw [cp_miss _ _ _ _ _ _ (by omega), nw_i, if_neg (by omega)])
    | (have hX := c_46
       refine AW_aload_n dX0_keepSeats_67 rfl ?_
       refine AW_getR (a := hc) dX0_keepSeats_68 gfX0_24 (hS.cel rfl) hW.1.1 ?_
       refine AW_aload_n dX0_keepSeats_71 rfl ?_
       refine AW_getI dX0_keepSeats_72 gfX0_35 (hS.cel rfl) ?_
       refine AW_iload_n dX0_keepSeats_75 rfl ?_
       refine AW_iast dX0_keepSeats_76 hW.1.2.1 (by rw [h5]; omega) (by rw [h5]; omega) ?_
       rw [h5, Int.toNat_natCast]
       refine AW_aload_n dX0_keepSeats_77 rfl ?_
       refine AW_dup dX0_keepSeats_78 ?_
       refine AW_getI dX0_keepSeats_79 gfX0_35 (hS.cel rfl) ?_
       refine AW_iconst dX0_keepSeats_82 ?_
       rw [up_r _ _ _ _ (by omega), h5]
       refine AW_iaddE dX0_keepSeats_83 (by omega) (by omega) ?_
       refine AW_putI dX0_keepSeats_84 (Or.inl pfX0_35) (hS.cel rfl) ?_
       refine AW_vret dX0_keepSeats_87 rfl ?_
       have e1 : capG N H.length = N := by unfold capG; rw [if_neg (by omega)]
       rw [e1]
       refine ⟨rfl, hc, hW.keep hS (by omega), (Ff.rf.uh hS hW.1 _ _).up (Or.inr (Or.inr (Or.inr ⟨rfl, by decide⟩))) _, fun i => ?_, fun j hj => ?_⟩
       · rw [up_r _ _ _ _ (by decide), up_r _ _ _ _ (by omega)]
       · rw [up_j _ _ _ hj, up_r _ _ _ _ (by omega)])
theorem l_keep1 {G : Gt} {d : Nat} {σ : St} {n hc N : Nat} {K : Nat → Int} {pre : List Nat} {H : List (List Nat)} (hd : 2 ≤ d) (hS : Sta σ) (hL : LkC n K σ) (hR : Rw n pre) (hP : StC pre σ) (hl : pre.length = n) (hW : RwC hc N H σ) (h50 : H.length < 5040) : ∀ (nn : Nat) (m i : Nat), m < nn → i + m = n →  AW mX0_keepSeats G d (if H.length = N then 1 else 0) (if H.length = N then 2 * N else 0) (mq G (fun ro ρ => ro = none ∧ ∃ hc2, RwC hc2 (capG N H.length) (H ++ [pre]) ρ ∧ Ff σ ρ ∧ (∀ i, ρ.2.1 87 i = σ.2.1 87 i) ∧ ∀ j, j ≠ 5 → ρ.2.1 85 j = σ.2.1 85 j)) 4 [some (vR 85), some (vI (pk8 (pre.take i) : Int)), some (vI (i : Int))] [] σ := by
  intro nn
  induction nn with
  | zero => intros; omega
  | succ nn ih =>
    intro m i hn hi
    have h6 := hL.1
    have h7 := hL.2.1
    refine AW_iload_n dX0_keepSeats_4 rfl ?_
    refine AW_aload_n dX0_keepSeats_5 rfl ?_
    refine AW_getI dX0_keepSeats_6 gfX0_27 (hS.cel rfl) ?_
    refine AW_icmp_ge (tgt := 37) dX0_keepSeats_9 (by decide) (fun c_9 => ?_) (fun c_9 => ?_)
    · skip
      have hm : i = n := by omega
      subst hm
      rw [← hl, List.take_length]
      exact l_keep2 hd hS hL hR hP hl hW h50
    · skip
      obtain ⟨m1, rfl⟩ : ∃ m1, m = m1 + 1 := ⟨m - 1, by omega⟩
      have hil : i < pre.length := by omega
      have hlt := hR.lt hil
      have hpi := hP i hil
      have htl : (pre.take i).length = i := by rw [List.length_take]; omega
      have htk : pre.take (i + 1) = pre.take i ++ [pre.getD i 0] := by rw [List.take_add_one, List.getElem?_eq_getElem hil, List.getD_eq_getElem?_getD, List.getElem?_eq_getElem hil]; rfl
      have hpl : pk8 (pre.take i) < 8 ^ i := by have := pk8_lt (pre.take i) (fun x hx => by have := hR.1 x (List.mem_of_mem_take hx); omega); rw [htl] at this; exact this
      have hsn := pk8_snoc (pre.take i) (pre.getD i 0)
      rw [← htk, htl] at hsn
      refine AW_iload_n dX0_keepSeats_12 rfl ?_
      refine AW_bipush dX0_keepSeats_13 ?_
      refine AW_icmp_ge (tgt := 37) dX0_keepSeats_15 (by decide) (fun c_15 => ?_) (fun c_15 => ?_)
      · skip
        exact absurd c_15 (by omega)
      · skip
        refine AW_iload_n dX0_keepSeats_18 rfl ?_
        refine AW_aload_n dX0_keepSeats_19 rfl ?_
        refine AW_getR (a := 87) dX0_keepSeats_20 gfX0_15 (hS.cel rfl) (hS.rf rfl) ?_
        refine AW_iload_n dX0_keepSeats_23 rfl ?_
        refine AW_iald dX0_keepSeats_24 (hS.cel rfl) (by omega) (by omega) ?_
        rw [Int.toNat_natCast, hpi]
        refine AW_iconst dX0_keepSeats_25 ?_
        refine AW_iload_n dX0_keepSeats_26 rfl ?_
        refine AW_imulE dX0_keepSeats_27 (by omega) (by omega) ?_
        refine AW_ishl dX0_keepSeats_28 ?_
        refine AW_ior dX0_keepSeats_29 ?_
        rw [pk_step hpl (by omega) (by omega), ← hsn]
        refine AW_istore1 dX0_keepSeats_30 ?_
        refine AW_iincE2 dX0_keepSeats_31 (by omega) (by omega) ?_
        refine AW_goto (tgt := 4) dX0_keepSeats_34 (by decide) ?_
        rw [show (i : Int) + 1 = ((i + 1 : Nat) : Int) by omega]
        exact ih m1 (i + 1) (by omega) (by omega)
theorem k_keepS {G : Gt} {d : Nat} {σ : St} {n hc N : Nat} {K : Nat → Int} {pre : List Nat} {H : List (List Nat)} (hd : 2 ≤ d) (hS : Sta σ) (hL : LkC n K σ) (hR : Rw n pre) (hP : StC pre σ) (hl : pre.length = n) (hW : RwC hc N H σ) (h50 : H.length < 5040) : AM mX0_keepSeats G d (if H.length = N then 1 else 0) (if H.length = N then 2 * N else 0) [vR 85] σ (fun ro ρ => ro = none ∧ ∃ hc2, RwC hc2 (capG N H.length) (H ++ [pre]) ρ ∧ Ff σ ρ ∧ (∀ i, ρ.2.1 87 i = σ.2.1 87 i) ∧ ∀ j, j ≠ 5 → ρ.2.1 85 j = σ.2.1 85 j) := by
  refine AM.intro (by decide +kernel) (by simp [nLg]) (Nat.le_of_ble_eq_true rfl) (fun hO => ?_)
  show AW _ _ _ _ _ _ 0 [some (vR 85), none, none] [] σ
  refine AW_iconst dX0_keepSeats_0 ?_
  refine AW_istore1 dX0_keepSeats_1 ?_
  refine AW_iconst dX0_keepSeats_2 ?_
  refine AW_istore2 dX0_keepSeats_3 ?_
  exact l_keep1 hd hS hL hR hP hl hW h50 (n + 1) n 0 (by omega) (by omega)
