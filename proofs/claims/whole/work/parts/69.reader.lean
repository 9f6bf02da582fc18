/-- how the class holds what is read so far -/
def Rd (B : Nat → Int) (n N : Nat) (σ : St) (s : PS) : Prop := TkC B n (N + 1) σ ∧ tpC n B σ ∧ σ.2.1 34 2 = s.2.1 ∧ σ.2.1 34 4 = s.1 ∧ σ.2.1 34 3 = kd (tK B n) s ∧ (s.1 ≠ 0 → σ.2.1 34 5 = tP B n s.2.1) ∧ (s.1 = 0 → σ.2.1 34 5 = -1) ∧ (0 ≤ σ.2.1 35 5 ∧ σ.2.1 35 5 ≤ 400) ∧ (s.1 = 0 → σ.2.1 35 5 = s.2.2.1 ∧ ∀ k, k < s.2.2.1 → σ.2.1 36 k = s.2.2.2 k)
def Fq (σ ρ : St) : Prop := Fr [34, 35, 36] σ ρ ∧ ρ.2.1 35 6 = σ.2.1 35 6
theorem Fq.rf {σ : St} : Fq σ σ := ⟨Fr.rf, rfl⟩
theorem Fq.tr {σ τ ρ : St} (h : Fq σ τ) (h2 : Fq τ ρ) : Fq σ ρ := ⟨h.1.tr h2.1, h2.2.trans h.2⟩
theorem Fq.sta {σ τ : St} (h : Fq σ τ) (hS : Sta σ) : Sta τ := h.1.sta hS
theorem Rd.tok {B : Nat → Int} {n N : Nat} {σ : St} {s : PS} (h : Rd B n N σ s) : σ.2.1 34 3 = kd (tK B n) s := h.2.2.2.2.1
theorem TkC.fr {B : Nat → Int} {n c : Nat} {L : List Nat} {σ ρ : St} (h : TkC B n c σ) (hF : Fr L σ ρ) (h1 : 29 ∉ L := by decide) (h2 : 31 ∉ L := by decide) (h3 : 32 ∉ L := by decide) (h4 : 33 ∉ L := by decide) : TkC B n c ρ := ⟨(hF.iv 29 5 h1).trans h.1, fun k hk => by rw [hF.iv 31 k h2, hF.iv 32 k h3, hF.iv 33 k h4]; exact h.2 k hk⟩
theorem tpC.fr {B : Nat → Int} {n : Nat} {L : List Nat} {σ ρ : St} (h : tpC n B σ) (hF : Fr L σ ρ) (h1 : 29 ∉ L := by decide) (h2 : 30 ∉ L := by decide) : tpC n B ρ := ⟨(hF.iv 29 4 h1).trans h.1, h.2.1, fun k hk => by rw [hF.iv 30 k h2]; exact h.2.2 k hk⟩
theorem Inv.lt {N p : Nat} {s : PS} (h : Inv N (p + 1) s) (hN : N ≤ 400) (h0 : s.1 = 0) : s.2.2.1 < 400 := by
  have h1 := h.1
  have := h.2 h0
  omega
theorem k_wput {G : Gt} {d : Nat} {σ : St}  {B : Nat → Int} {n N : Nat} {s : PS} (hS : Sta σ) (hN : Fn (tK B n) N) (hNn : N ≤ 400) (hR : Rd B n N σ s) (hl : s.1 = 0 → s.2.2.1 < 400) (x : Int)  : AM mX10_put G d 0 0 [vR 35, vI x] σ (fun ro ρ => ro = none ∧ Rd B n N ρ (putS x s) ∧ Fq σ ρ) := by
  refine AM.intro (by decide +kernel) (by simp [nLg]) (Nat.le_of_ble_eq_true rfl) (fun hO => ?_)
  have i_x : -2147483648 ≤ x ∧ x < 2147483648 := hO (vI x) (by simp)
  show AW _ _ _ _ _ _ 0 [some (vR 35), some (vI x)] [] σ
  obtain ⟨r1, r2, r3, r4, r5, r6, r7, r8, r9⟩ := hR
  refine AW_aload_n dX10_put_0 rfl ?_
  refine AW_getI dX10_put_1 gfX10_31 (hS.cel rfl) ?_
  refine AW_aload_n dX10_put_4 rfl ?_
  refine AW_getR (a := 36) dX10_put_5 gfX10_9 (hS.cel rfl) (hS.rf rfl) ?_
  refine AW_alen dX10_put_8 (hS.cel rfl) (by decide) (by decide) ?_
  refine AW_icmp_ge (tgt := 32) dX10_put_9 (by decide) (fun c_9 => ?_) (fun c_9 => ?_)
  · skip
    refine AW_vret dX10_put_32 rfl ?_
    first
    | (have hF : Fr [34, 35, 36] σ (upI (upI σ 36 (σ.2.1 35 5).toNat x) 35 5 (σ.2.1 35 5 + 1)) := (Fr.rf.up (by decide) _ _).up (by decide) _ _
       refine ⟨rfl, ⟨r1.fr hF, r2.fr hF, ?_, ?_, ?_, ?_, ?_, ?_, ?_⟩, hF, ?_⟩
       · rw [up_r _ _ _ _ (by decide), up_r _ _ _ _ (by decide)]; exact r3
       · rw [up_r _ _ _ _ (by decide), up_r _ _ _ _ (by decide)]; exact r4
       · rw [up_r _ _ _ _ (by decide), up_r _ _ _ _ (by decide)]; exact r5
       · rw [up_r _ _ _ _ (by decide), up_r _ _ _ _ (by decide)]; exact r6
       · rw [up_r _ _ _ _ (by decide), up_r _ _ _ _ (by decide)]; exact r7
       · rw [up_at]; omega
       · intro h0
         have h9 := r9 h0
         refine ⟨by rw [up_at, h9.1]; show ((s.2.2.1 : Int) + 1) = ((s.2.2.1 + 1 : Nat) : Int); omega, fun k hk => ?_⟩
         have hk2 : k < s.2.2.1 + 1 := hk
         show _ = (if k = s.2.2.1 then x else s.2.2.2 k)
         rw [up_r _ _ _ _ (by decide), up_if]
         by_cases hc : k = s.2.2.1
         · rw [if_pos ⟨rfl, by rw [h9.1]; omega⟩, if_pos hc]
         · rw [if_neg (fun q => hc (by have := q.2; rw [h9.1] at this; omega)), if_neg hc]
           exact h9.2 k (by omega)
       · rw [up_j _ _ _ (by decide), up_r _ _ _ _ (by decide)])
    | (refine ⟨rfl, ⟨r1, r2, r3, r4, r5, r6, r7, r8, fun h0 => ?_⟩, Fq.rf⟩
       exfalso
       have h9 := r9 h0
       have := hl h0
       rw [h9.1] at c_9
       omega)
  · skip
    refine AW_aload_n dX10_put_12 rfl ?_
    refine AW_getR (a := 36) dX10_put_13 gfX10_9 (hS.cel rfl) (hS.rf rfl) ?_
    refine AW_aload_n dX10_put_16 rfl ?_
    refine AW_getI dX10_put_17 gfX10_31 (hS.cel rfl) ?_
    refine AW_iload_n dX10_put_20 rfl ?_
    refine AW_iast dX10_put_21 (hS.cel rfl) (by omega) (by omega) ?_
    refine AW_aload_n dX10_put_22 rfl ?_
    refine AW_dup dX10_put_23 ?_
    refine AW_getI dX10_put_24 gfX10_31 (hS.cel rfl) ?_
    (repeat (first | rw [up_r _ _ _ _ (by decide)] | rw [up_j _ _ _ (by decide)] | rw [up_at]))
    refine AW_iconst dX10_put_27 ?_
    refine AW_iaddE dX10_put_28 (by omega) (by omega) ?_
    refine AW_putI dX10_put_29 (Or.inl pfX10_31) (hS.cel rfl) ?_
    refine AW_vret dX10_put_32 rfl ?_
    first
    | (have hF : Fr [34, 35, 36] σ (upI (upI σ 36 (σ.2.1 35 5).toNat x) 35 5 (σ.2.1 35 5 + 1)) := (Fr.rf.up (by decide) _ _).up (by decide) _ _
       refine ⟨rfl, ⟨r1.fr hF, r2.fr hF, ?_, ?_, ?_, ?_, ?_, ?_, ?_⟩, hF, ?_⟩
       · rw [up_r _ _ _ _ (by decide), up_r _ _ _ _ (by decide)]; exact r3
       · rw [up_r _ _ _ _ (by decide), up_r _ _ _ _ (by decide)]; exact r4
       · rw [up_r _ _ _ _ (by decide), up_r _ _ _ _ (by decide)]; exact r5
       · rw [up_r _ _ _ _ (by decide), up_r _ _ _ _ (by decide)]; exact r6
       · rw [up_r _ _ _ _ (by decide), up_r _ _ _ _ (by decide)]; exact r7
       · rw [up_at]; omega
       · intro h0
         have h9 := r9 h0
         refine ⟨by rw [up_at, h9.1]; show ((s.2.2.1 : Int) + 1) = ((s.2.2.1 + 1 : Nat) : Int); omega, fun k hk => ?_⟩
         have hk2 : k < s.2.2.1 + 1 := hk
         show _ = (if k = s.2.2.1 then x else s.2.2.2 k)
         rw [up_r _ _ _ _ (by decide), up_if]
         by_cases hc : k = s.2.2.1
         · rw [if_pos ⟨rfl, by rw [h9.1]; omega⟩, if_pos hc]
         · rw [if_neg (fun q => hc (by have := q.2; rw [h9.1] at this; omega)), if_neg hc]
           exact h9.2 k (by omega)
       · rw [up_j _ _ _ (by decide), up_r _ _ _ _ (by decide)])
    | (refine ⟨rfl, ⟨r1, r2, r3, r4, r5, r6, r7, r8, fun h0 => ?_⟩, Fq.rf⟩
       exfalso
       have h9 := r9 h0
       have := hl h0
       rw [h9.1] at c_9
       omega)
theorem k_step {G : Gt} {d : Nat} {σ : St}  {B : Nat → Int} {n N : Nat} {s : PS} (hS : Sta σ) (hN : Fn (tK B n) N) (hNn : N ≤ 400) (hR : Rd B n N σ s) (hi : s.2.1 ≤ N) (h0 : kd (tK B n) s ≠ 0) (h1 : kd (tK B n) s ≠ 1)  : AM mX7_step G d 0 0 [vR 34] σ (fun ro ρ => ro = none ∧ Rd B n N ρ (stepS s) ∧ Fq σ ρ) := by
  refine AM.intro (by decide +kernel) (by simp [nLg]) (Nat.le_of_ble_eq_true rfl) (fun hO => ?_)
  show AW _ _ _ _ _ _ 0 [some (vR 34)] [] σ
  obtain ⟨r1, r2, r3, r4, r5, r6, r7, r8, r9⟩ := hR
  have q := kd_lt hN hi h0 h1
  have hc := r1.1
  refine AW_aload_n dX7_step_0 rfl ?_
  refine AW_dup dX7_step_1 ?_
  refine AW_getI dX7_step_2 gfX7_40 (hS.cel rfl) ?_
  refine AW_iconst dX7_step_5 ?_
  refine AW_iaddE dX7_step_6 (by omega) (by omega) ?_
  refine AW_putI dX7_step_7 (Or.inl pfX7_40) (hS.cel rfl) ?_
  refine AW_aload_n dX7_step_10 rfl ?_
  refine AW_aload_n dX7_step_11 rfl ?_
  refine AW_getI dX7_step_12 gfX7_40 (hS.cel rfl) ?_
  (repeat (first | rw [up_r _ _ _ _ (by decide)] | rw [up_j _ _ _ (by decide)] | rw [up_at]))
  refine AW_aload_n dX7_step_15 rfl ?_
  refine AW_getR (a := 29) dX7_step_16 gfX7_22 (hS.cel rfl) (hS.rf rfl) ?_
  refine AW_getI dX7_step_19 gfX7_97 (hS.cel rfl) ?_
  (repeat (first | rw [up_r _ _ _ _ (by decide)] | rw [up_j _ _ _ (by decide)] | rw [up_at]))
  refine AW_icmp_ge (tgt := 55) dX7_step_22 (by decide) (fun c_22 => ?_) (fun c_22 => ?_)
  · skip
    exact absurd c_22 (by omega)
  · skip
    refine AW_aload_n dX7_step_25 rfl ?_
    refine AW_getI dX7_step_26 gfX7_40 (hS.cel rfl) ?_
    (repeat (first | rw [up_r _ _ _ _ (by decide)] | rw [up_j _ _ _ (by decide)] | rw [up_at]))
    refine AW_aload_n dX7_step_29 rfl ?_
    refine AW_getR (a := 29) dX7_step_30 gfX7_22 (hS.cel rfl) (hS.rf rfl) ?_
    refine AW_getR (a := 31) dX7_step_33 gfX7_100 (hS.cel rfl) (hS.rf rfl) ?_
    refine AW_alen dX7_step_36 (hS.cel rfl) (by decide) (by decide) ?_
    refine AW_icmp_ge (tgt := 55) dX7_step_37 (by decide) (fun c_37 => ?_) (fun c_37 => ?_)
    · skip
      exact absurd c_37 (by omega)
    · skip
      refine AW_aload_n dX7_step_40 rfl ?_
      refine AW_getR (a := 29) dX7_step_41 gfX7_22 (hS.cel rfl) (hS.rf rfl) ?_
      refine AW_getR (a := 31) dX7_step_44 gfX7_100 (hS.cel rfl) (hS.rf rfl) ?_
      refine AW_aload_n dX7_step_47 rfl ?_
      refine AW_getI dX7_step_48 gfX7_40 (hS.cel rfl) ?_
      (repeat (first | rw [up_r _ _ _ _ (by decide)] | rw [up_j _ _ _ (by decide)] | rw [up_at]))
      refine AW_iald dX7_step_51 (hS.cel rfl) (by omega) (by omega) ?_
      (repeat (first | rw [up_r _ _ _ _ (by decide)] | rw [up_j _ _ _ (by decide)] | rw [up_at]))
      refine AW_goto (tgt := 56) dX7_step_52 (by decide) ?_
      refine AW_putI dX7_step_56 (Or.inl pfX7_47) (hS.cel rfl) ?_
      refine AW_vret dX7_step_59 rfl ?_
      have hF : Fr [34, 35, 36] σ (upI (upI σ 34 2 (σ.2.1 34 2 + 1)) 34 3 (σ.2.1 31 (σ.2.1 34 2 + 1).toNat)) := (Fr.rf.up (by decide) _ _).up (by decide) _ _
      refine ⟨rfl, ⟨r1.fr hF, r2.fr hF, ?_, ?_, ?_, ?_, ?_, ?_, ?_⟩, hF, ?_⟩
      · rw [up_j _ _ _ (by decide), up_at, r3]; show ((s.2.1 : Int) + 1) = ((s.2.1 + 1 : Nat) : Int); omega
      · rw [up_j _ _ _ (by decide), up_j _ _ _ (by decide)]; exact r4
      · rw [up_at, r3, show ((s.2.1 : Int) + 1).toNat = s.2.1 + 1 by omega, (r1.2 (s.2.1 + 1) (by omega)).1]
        unfold kd stepS
        rw [if_pos q.1]
      · intro h; exact absurd q.1 h
      · rw [up_j _ _ _ (by decide), up_j _ _ _ (by decide)]; exact r7
      · rw [up_r _ _ _ _ (by decide), up_r _ _ _ _ (by decide)]; exact r8
      · intro h
        refine ⟨by rw [up_r _ _ _ _ (by decide), up_r _ _ _ _ (by decide)]; exact (r9 h).1, fun k hk => by rw [up_r _ _ _ _ (by decide), up_r _ _ _ _ (by decide)]; exact (r9 h).2 k hk⟩
      · rw [up_r _ _ _ _ (by decide), up_r _ _ _ _ (by decide)]
theorem k_blame {G : Gt} {d : Nat} {σ : St}  {B : Nat → Int} {n N : Nat} {s : PS} (hS : Sta σ) (hN : Fn (tK B n) N) (hNn : N ≤ 400) (hR : Rd B n N σ s) (hi : s.2.1 ≤ N) (k : Int) (hk : k ≠ 0) : AM mX7_blame G d 0 0 [vR 34, vI k] σ (fun ro ρ => ro = none ∧ Rd B n N ρ (blameS k s) ∧ Fq σ ρ) := by
  refine AM.intro (by decide +kernel) (by simp [nLg]) (Nat.le_of_ble_eq_true rfl) (fun hO => ?_)
  have i_k : -2147483648 ≤ k ∧ k < 2147483648 := hO (vI k) (by simp)
  show AW _ _ _ _ _ _ 0 [some (vR 34), some (vI k)] [] σ
  obtain ⟨r1, r2, r3, r4, r5, r6, r7, r8, r9⟩ := hR
  have hc := r1.1
  refine AW_aload_n dX7_blame_0 rfl ?_
  refine AW_getI dX7_blame_1 gfX7_26 (hS.cel rfl) ?_
  refine AW_if_ne (tgt := 72) dX7_blame_4 (by decide) (fun c_4 => ?_) (fun c_4 => ?_)
  · skip
    rw [r4] at c_4
    refine AW_vret dX7_blame_72 rfl ?_
    first
    | (have e : blameS k s = s := by
         unfold blameS
         rw [if_neg c_4]
       rw [e]
       exact ⟨rfl, ⟨r1, r2, r3, r4, r5, r6, r7, r8, r9⟩, Fq.rf⟩)
    | (have c4 := c_4
       have e : blameS k s = (k, s.2) := by
         unfold blameS
         rw [if_pos c4]
       rw [e]
       have hF : Fr [34, 35, 36] σ (upI (upI (upI σ 34 4 k) 34 5 (σ.2.1 32 (σ.2.1 34 2).toNat)) 34 3 1) := ((Fr.rf.up (by decide) _ _).up (by decide) _ _).up (by decide) _ _
       refine ⟨rfl, ⟨r1.fr hF, r2.fr hF, ?_, ?_, ?_, ?_, ?_, ?_, ?_⟩, hF, ?_⟩
       · rw [up_j _ _ _ (by decide), up_j _ _ _ (by decide), up_j _ _ _ (by decide)]; exact r3
       · rw [up_j _ _ _ (by decide), up_j _ _ _ (by decide), up_at]
       · rw [up_at]
         unfold kd
         rw [if_neg hk]
       · intro _
         rw [up_j _ _ _ (by decide), up_at, r3, Int.toNat_natCast]
         exact (r1.2 s.2.1 (by omega)).2.1
       · intro h; exact absurd h hk
       · rw [up_r _ _ _ _ (by decide), up_r _ _ _ _ (by decide), up_r _ _ _ _ (by decide)]; exact r8
       · intro h; exact absurd h hk
       · rw [up_r _ _ _ _ (by decide), up_r _ _ _ _ (by decide), up_r _ _ _ _ (by decide)])
  · skip
    rw [r4] at c_4
    refine AW_aload_n dX7_blame_7 rfl ?_
    refine AW_iload_n dX7_blame_8 rfl ?_
    refine AW_putI dX7_blame_9 (Or.inl pfX7_26) (hS.cel rfl) ?_
    refine AW_aload_n dX7_blame_12 rfl ?_
    refine AW_aload_n dX7_blame_13 rfl ?_
    refine AW_getI dX7_blame_14 gfX7_40 (hS.cel rfl) ?_
    (repeat (first | rw [up_r _ _ _ _ (by decide)] | rw [up_j _ _ _ (by decide)] | rw [up_at]))
    refine AW_aload_n dX7_blame_17 rfl ?_
    refine AW_getR (a := 29) dX7_blame_18 gfX7_22 (hS.cel rfl) (hS.rf rfl) ?_
    refine AW_getI dX7_blame_21 gfX7_97 (hS.cel rfl) ?_
    (repeat (first | rw [up_r _ _ _ _ (by decide)] | rw [up_j _ _ _ (by decide)] | rw [up_at]))
    refine AW_icmp_ge (tgt := 57) dX7_blame_24 (by decide) (fun c_24 => ?_) (fun c_24 => ?_)
    · skip
      exact absurd c_24 (by omega)
    · skip
      refine AW_aload_n dX7_blame_27 rfl ?_
      refine AW_getI dX7_blame_28 gfX7_40 (hS.cel rfl) ?_
      (repeat (first | rw [up_r _ _ _ _ (by decide)] | rw [up_j _ _ _ (by decide)] | rw [up_at]))
      refine AW_aload_n dX7_blame_31 rfl ?_
      refine AW_getR (a := 29) dX7_blame_32 gfX7_22 (hS.cel rfl) (hS.rf rfl) ?_
      refine AW_getR (a := 32) dX7_blame_35 gfX7_104 (hS.cel rfl) (hS.rf rfl) ?_
      refine AW_alen dX7_blame_38 (hS.cel rfl) (by decide) (by decide) ?_
      refine AW_icmp_ge (tgt := 57) dX7_blame_39 (by decide) (fun c_39 => ?_) (fun c_39 => ?_)
      · skip
        exact absurd c_39 (by omega)
      · skip
        refine AW_aload_n dX7_blame_42 rfl ?_
        refine AW_getR (a := 29) dX7_blame_43 gfX7_22 (hS.cel rfl) (hS.rf rfl) ?_
        refine AW_getR (a := 32) dX7_blame_46 gfX7_104 (hS.cel rfl) (hS.rf rfl) ?_
        refine AW_aload_n dX7_blame_49 rfl ?_
        refine AW_getI dX7_blame_50 gfX7_40 (hS.cel rfl) ?_
        (repeat (first | rw [up_r _ _ _ _ (by decide)] | rw [up_j _ _ _ (by decide)] | rw [up_at]))
        refine AW_iald dX7_blame_53 (hS.cel rfl) (by omega) (by omega) ?_
        (repeat (first | rw [up_r _ _ _ _ (by decide)] | rw [up_j _ _ _ (by decide)] | rw [up_at]))
        refine AW_goto (tgt := 64) dX7_blame_54 (by decide) ?_
        refine AW_putI dX7_blame_64 (Or.inl pfX7_18) (hS.cel rfl) ?_
        refine AW_aload_n dX7_blame_67 rfl ?_
        refine AW_iconst dX7_blame_68 ?_
        refine AW_putI dX7_blame_69 (Or.inl pfX7_47) (hS.cel rfl) ?_
        refine AW_vret dX7_blame_72 rfl ?_
        first
        | (have e : blameS k s = s := by
             unfold blameS
             rw [if_neg c_4]
           rw [e]
           exact ⟨rfl, ⟨r1, r2, r3, r4, r5, r6, r7, r8, r9⟩, Fq.rf⟩)
        | (have c4 := c_4
           have e : blameS k s = (k, s.2) := by
             unfold blameS
             rw [if_pos c4]
           rw [e]
           have hF : Fr [34, 35, 36] σ (upI (upI (upI σ 34 4 k) 34 5 (σ.2.1 32 (σ.2.1 34 2).toNat)) 34 3 1) := ((Fr.rf.up (by decide) _ _).up (by decide) _ _).up (by decide) _ _
           refine ⟨rfl, ⟨r1.fr hF, r2.fr hF, ?_, ?_, ?_, ?_, ?_, ?_, ?_⟩, hF, ?_⟩
           · rw [up_j _ _ _ (by decide), up_j _ _ _ (by decide), up_j _ _ _ (by decide)]; exact r3
           · rw [up_j _ _ _ (by decide), up_j _ _ _ (by decide), up_at]
           · rw [up_at]
             unfold kd
             rw [if_neg hk]
           · intro _
             rw [up_j _ _ _ (by decide), up_at, r3, Int.toNat_natCast]
             exact (r1.2 s.2.1 (by omega)).2.1
           · intro h; exact absurd h hk
           · rw [up_r _ _ _ _ (by decide), up_r _ _ _ _ (by decide), up_r _ _ _ _ (by decide)]; exact r8
           · intro h; exact absurd h hk
           · rw [up_r _ _ _ _ (by decide), up_r _ _ _ _ (by decide), up_r _ _ _ _ (by decide)])
theorem k_unit {G : Gt} {d : Nat} {σ : St} (hd : 2 ≤ d) {B : Nat → Int} {n N : Nat} {s : PS} (hS : Sta σ) (hN : Fn (tK B n) N) (hNn : N ≤ 400) (hR : Rd B n N σ s) (hI : Inv N 0 s)  : AM mX7_readUnit G d 0 0 [vR 34] σ (fun ro ρ => ro = none ∧ Rd B n N ρ (unitS (tK B n) (tV B n) s) ∧ Fq σ ρ) := by
  refine AM.intro (by decide +kernel) (by simp [nLg]) (Nat.le_of_ble_eq_true rfl) (fun hO => ?_)
  show AW _ _ _ _ _ _ 0 [some (vR 34)] [] σ
  have hi := hI.1
  refine AW_aload_n dX7_readUnit_0 rfl ?_
  refine AW_getI dX7_readUnit_1 gfX7_47 (hS.cel rfl) ?_
  refine AW_iconst dX7_readUnit_4 ?_
  refine AW_icmp_ne (tgt := 33) dX7_readUnit_5 (by decide) (fun c_5 => ?_) (fun c_5 => ?_)
  · skip
    rw [hR.tok] at c_5
    refine AW_aload_n dX7_readUnit_33 rfl ?_
    refine AW_getI dX7_readUnit_34 gfX7_47 (hS.cel rfl) ?_
    refine AW_sipush dX7_readUnit_37 ?_
    refine AW_icmp_lt (tgt := 75) dX7_readUnit_40 (by decide) (fun c_40 => ?_) (fun c_40 => ?_)
    · skip
      rw [hR.tok] at c_40
      refine AW_aload_n dX7_readUnit_75 rfl ?_
      refine AW_iconst dX7_readUnit_76 ?_
      refine AW_callV1 (d' := d - 1) dX7_readUnit_77 (Or.inl lkX7_53) mfX7_blame (hS.cel rfl) ⟨_, rfl, rfl⟩ (k_blame hS hN hNn hR hI.1 1 (by decide)) (by omega) (Nat.le_of_ble_eq_true rfl) ?_
      rintro _ ρ1 ⟨rfl, hR1, hG1⟩ -
      have hS1 := hG1.sta hS
      have hQ1 : Fq σ ρ1 := hG1
      refine AW_vret dX7_readUnit_80 rfl ?_
      first
      | (have c5 : kd (tK B n) s = 2 := by first | exact c_5 | exact Classical.not_not.mp c_5
         have q := kd_lt hN hI.1 (s := s) (by omega) (by omega)
         rw [(hR.1.2 s.2.1 (by omega)).2.2 (by rw [← q.2.2]; exact c5)] at hR2
         unfold unitS
         rw [if_pos c5]
         exact ⟨rfl, hR2, hQ2⟩)
      | (unfold unitS
         rw [if_neg (by omega), if_pos (by omega)]
         exact ⟨rfl, hR2, hQ2⟩)
      | (unfold unitS
         rw [if_neg (by omega), if_neg (by omega)]
         exact ⟨rfl, hR1, hQ1⟩)
    · skip
      rw [hR.tok] at c_40
      refine AW_aload_n dX7_readUnit_43 rfl ?_
      refine AW_getI dX7_readUnit_44 gfX7_47 (hS.cel rfl) ?_
      refine AW_sipush dX7_readUnit_47 ?_
      refine AW_icmp_gt (tgt := 75) dX7_readUnit_50 (by decide) (fun c_50 => ?_) (fun c_50 => ?_)
      · skip
        rw [hR.tok] at c_50
        refine AW_aload_n dX7_readUnit_75 rfl ?_
        refine AW_iconst dX7_readUnit_76 ?_
        refine AW_callV1 (d' := d - 1) dX7_readUnit_77 (Or.inl lkX7_53) mfX7_blame (hS.cel rfl) ⟨_, rfl, rfl⟩ (k_blame hS hN hNn hR hI.1 1 (by decide)) (by omega) (Nat.le_of_ble_eq_true rfl) ?_
        rintro _ ρ1 ⟨rfl, hR1, hG1⟩ -
        have hS1 := hG1.sta hS
        have hQ1 : Fq σ ρ1 := hG1
        refine AW_vret dX7_readUnit_80 rfl ?_
        first
        | (have c5 : kd (tK B n) s = 2 := by first | exact c_5 | exact Classical.not_not.mp c_5
           have q := kd_lt hN hI.1 (s := s) (by omega) (by omega)
           rw [(hR.1.2 s.2.1 (by omega)).2.2 (by rw [← q.2.2]; exact c5)] at hR2
           unfold unitS
           rw [if_pos c5]
           exact ⟨rfl, hR2, hQ2⟩)
        | (unfold unitS
           rw [if_neg (by omega), if_pos (by omega)]
           exact ⟨rfl, hR2, hQ2⟩)
        | (unfold unitS
           rw [if_neg (by omega), if_neg (by omega)]
           exact ⟨rfl, hR1, hQ1⟩)
      · skip
        rw [hR.tok] at c_50
        refine AW_aload_n dX7_readUnit_53 rfl ?_
        refine AW_getR (a := 35) dX7_readUnit_54 gfX7_12 (hS.cel rfl) (hS.rf rfl) ?_
        refine AW_sipush dX7_readUnit_57 ?_
        refine AW_aload_n dX7_readUnit_60 rfl ?_
        refine AW_getI dX7_readUnit_61 gfX7_47 (hS.cel rfl) ?_
        rw [hR.tok]
        refine AW_isubE dX7_readUnit_64 (by omega) (by omega) ?_
        refine AW_callV1 (d' := d - 1) dX7_readUnit_65 (Or.inl lkX7_82) mfX10_put (hS.cel rfl) ⟨_, rfl, rfl⟩ (k_wput hS hN hNn hR (fun h0 => by have q := kd_lt hN hI.1 (s := s) (by omega) (by omega); have := hI.2 h0; omega) _) (by omega) (Nat.le_of_ble_eq_true rfl) ?_
        rintro _ ρ1 ⟨rfl, hR1, hG1⟩ -
        have hS1 := hG1.sta hS
        have hQ1 : Fq σ ρ1 := hG1
        refine AW_aload_n dX7_readUnit_68 rfl ?_
        refine AW_callV0 (d' := d - 1) dX7_readUnit_69 (Or.inl lkX7_64) mfX7_step (hS1.cel rfl) ⟨_, rfl, rfl⟩ (k_step hS1 hN hNn hR1 (by exact hI.1) (by rw [kd_put]; omega) (by rw [kd_put]; omega)) (by omega) (Nat.le_of_ble_eq_true rfl) ?_
        rintro _ ρ2 ⟨rfl, hR2, hG2⟩ -
        have hS2 := hG2.sta hS1
        have hQ2 : Fq σ ρ2 := hQ1.tr hG2
        refine AW_goto (tgt := 80) dX7_readUnit_72 (by decide) ?_
        refine AW_vret dX7_readUnit_80 rfl ?_
        first
        | (have c5 : kd (tK B n) s = 2 := by first | exact c_5 | exact Classical.not_not.mp c_5
           have q := kd_lt hN hI.1 (s := s) (by omega) (by omega)
           rw [(hR.1.2 s.2.1 (by omega)).2.2 (by rw [← q.2.2]; exact c5)] at hR2
           unfold unitS
           rw [if_pos c5]
           exact ⟨rfl, hR2, hQ2⟩)
        | (unfold unitS
           rw [if_neg (by omega), if_pos (by omega)]
           exact ⟨rfl, hR2, hQ2⟩)
        | (unfold unitS
           rw [if_neg (by omega), if_neg (by omega)]
           exact ⟨rfl, hR1, hQ1⟩)
  · skip
    rw [hR.tok] at c_5
    refine AW_aload_n dX7_readUnit_8 rfl ?_
    refine AW_getR (a := 35) dX7_readUnit_9 gfX7_12 (hS.cel rfl) (hS.rf rfl) ?_
    refine AW_aload_n dX7_readUnit_12 rfl ?_
    refine AW_getR (a := 29) dX7_readUnit_13 gfX7_22 (hS.cel rfl) (hS.rf rfl) ?_
    refine AW_aload_n dX7_readUnit_16 rfl ?_
    refine AW_getI dX7_readUnit_17 gfX7_40 (hS.cel rfl) ?_
    refine AW_callV1 (d' := d - 1) dX7_readUnit_20 (Or.inl lkX7_94) mfX8_number (hS.cel rfl) ⟨_, rfl, rfl⟩ ((k_tknumber (c := N + 1) hS hR.1.1 (by omega) _)) (by omega) (Nat.le_of_ble_eq_true rfl) ?_
    rintro _ _ ⟨e_, rfl⟩ -
    rw [e_]
    clear e_
    have h3 := hR.2.2.1
    rw [if_pos (by rw [h3]; omega), show (σ.2.1 34 2).toNat = s.2.1 by rw [h3]; omega]
    refine AW_callV1 (d' := d - 1) dX7_readUnit_23 (Or.inl lkX7_82) mfX10_put (hS.cel rfl) ⟨_, rfl, rfl⟩ (k_wput hS hN hNn hR (fun h0 => by have q := kd_lt hN hI.1 (s := s) (by omega) (by omega); have := hI.2 h0; omega) _) (by omega) (Nat.le_of_ble_eq_true rfl) ?_
    rintro _ ρ1 ⟨rfl, hR1, hG1⟩ -
    have hS1 := hG1.sta hS
    have hQ1 : Fq σ ρ1 := hG1
    refine AW_aload_n dX7_readUnit_26 rfl ?_
    refine AW_callV0 (d' := d - 1) dX7_readUnit_27 (Or.inl lkX7_64) mfX7_step (hS1.cel rfl) ⟨_, rfl, rfl⟩ (k_step hS1 hN hNn hR1 (by exact hI.1) (by rw [kd_put]; omega) (by rw [kd_put]; omega)) (by omega) (Nat.le_of_ble_eq_true rfl) ?_
    rintro _ ρ2 ⟨rfl, hR2, hG2⟩ -
    have hS2 := hG2.sta hS1
    have hQ2 : Fq σ ρ2 := hQ1.tr hG2
    refine AW_goto (tgt := 80) dX7_readUnit_30 (by decide) ?_
    refine AW_vret dX7_readUnit_80 rfl ?_
    first
    | (have c5 : kd (tK B n) s = 2 := by first | exact c_5 | exact Classical.not_not.mp c_5
       have q := kd_lt hN hI.1 (s := s) (by omega) (by omega)
       rw [(hR.1.2 s.2.1 (by omega)).2.2 (by rw [← q.2.2]; exact c5)] at hR2
       unfold unitS
       rw [if_pos c5]
       exact ⟨rfl, hR2, hQ2⟩)
    | (unfold unitS
       rw [if_neg (by omega), if_pos (by omega)]
       exact ⟨rfl, hR2, hQ2⟩)
    | (unfold unitS
       rw [if_neg (by omega), if_neg (by omega)]
       exact ⟨rfl, hR1, hQ1⟩)
theorem k_div {G : Gt} {d : Nat} {σ : St} (hd : 2 ≤ d) {B : Nat → Int} {n N : Nat} {s : PS} (hS : Sta σ) (hN : Fn (tK B n) N) (hNn : N ≤ 400) (hR : Rd B n N σ s) (hI : Inv N 0 s)  : AM mX7_readDivisor G d 0 0 [vR 34] σ (fun ro ρ => ro = none ∧ Rd B n N ρ (divS (tK B n) (tV B n) s) ∧ Fq σ ρ) := by
  refine AM.intro (by decide +kernel) (by simp [nLg]) (Nat.le_of_ble_eq_true rfl) (fun hO => ?_)
  show AW _ _ _ _ _ _ 0 [some (vR 34), none] [] σ
  have hi := hI.1
  refine AW_aload_n dX7_readDivisor_0 rfl ?_
  refine AW_getR (a := 29) dX7_readDivisor_1 gfX7_22 (hS.cel rfl) (hS.rf rfl) ?_
  refine AW_aload_n dX7_readDivisor_4 rfl ?_
  refine AW_getI dX7_readDivisor_5 gfX7_40 (hS.cel rfl) ?_
  refine AW_callV1 (d' := d - 1) dX7_readDivisor_8 (Or.inl lkX7_94) mfX8_number (hS.cel rfl) ⟨_, rfl, rfl⟩ ((k_tknumber (c := N + 1) hS hR.1.1 (by omega) _)) (by omega) (Nat.le_of_ble_eq_true rfl) ?_
  rintro _ _ ⟨e_, rfl⟩ -
  rw [e_]
  clear e_
  have h3 := hR.2.2.1
  rw [if_pos (by rw [h3]; omega), show (σ.2.1 34 2).toNat = s.2.1 by rw [h3]; omega]
  refine AW_istore1 dX7_readDivisor_11 ?_
  refine AW_aload_n dX7_readDivisor_12 rfl ?_
  refine AW_getI dX7_readDivisor_13 gfX7_47 (hS.cel rfl) ?_
  refine AW_iconst dX7_readDivisor_16 ?_
  refine AW_icmp_eq (tgt := 28) dX7_readDivisor_17 (by decide) (fun c_17 => ?_) (fun c_17 => ?_)
  · skip
    rw [hR.tok] at c_17
    have q := kd_lt hN hI.1 (s := s) (by omega) (by omega)
    rw [(hR.1.2 s.2.1 (by omega)).2.2 (by rw [← q.2.2]; exact c_17)]
    refine AW_iload_n dX7_readDivisor_28 rfl ?_
    refine AW_if_ne (tgt := 40) dX7_readDivisor_29 (by decide) (fun c_29 => ?_) (fun c_29 => ?_)
    · skip
      refine AW_aload_n dX7_readDivisor_40 rfl ?_
      refine AW_getR (a := 35) dX7_readDivisor_41 gfX7_12 (hS.cel rfl) (hS.rf rfl) ?_
      refine AW_iload_n dX7_readDivisor_44 rfl ?_
      refine AW_callV1 (d' := d - 1) dX7_readDivisor_45 (Or.inl lkX7_82) mfX10_put (hS.cel rfl) ⟨_, rfl, rfl⟩ (k_wput hS hN hNn hR (fun h0 => by have := hI.2 h0; omega) _) (by omega) (Nat.le_of_ble_eq_true rfl) ?_
      rintro _ ρ1 ⟨rfl, hR1, hG1⟩ -
      have hS1 := hG1.sta hS
      have hQ1 : Fq σ ρ1 := hG1
      refine AW_aload_n dX7_readDivisor_48 rfl ?_
      refine AW_callV0 (d' := d - 1) dX7_readDivisor_49 (Or.inl lkX7_64) mfX7_step (hS1.cel rfl) ⟨_, rfl, rfl⟩ (k_step hS1 hN hNn hR1 (by exact hI.1) (by rw [kd_put]; omega) (by rw [kd_put]; omega)) (by omega) (Nat.le_of_ble_eq_true rfl) ?_
      rintro _ ρ2 ⟨rfl, hR2, hG2⟩ -
      have hS2 := hG2.sta hS1
      have hQ2 : Fq σ ρ2 := hQ1.tr hG2
      refine AW_vret dX7_readDivisor_52 rfl ?_
      unfold divS
      first
      | (rw [if_pos (by assumption), if_pos (by assumption)]; exact ⟨rfl, hR1, hQ1⟩)
      | (rw [if_pos (by assumption), if_neg (by assumption)]; exact ⟨rfl, hR2, hQ2⟩)
      | (rw [if_neg (by assumption)]; exact ⟨rfl, hR1, hQ1⟩)
    · skip
      refine AW_aload_n dX7_readDivisor_32 rfl ?_
      refine AW_iconst dX7_readDivisor_33 ?_
      refine AW_callV1 (d' := d - 1) dX7_readDivisor_34 (Or.inl lkX7_53) mfX7_blame (hS.cel rfl) ⟨_, rfl, rfl⟩ (k_blame hS hN hNn hR hI.1 2 (by decide)) (by omega) (Nat.le_of_ble_eq_true rfl) ?_
      rintro _ ρ1 ⟨rfl, hR1, hG1⟩ -
      have hS1 := hG1.sta hS
      have hQ1 : Fq σ ρ1 := hG1
      refine AW_goto (tgt := 52) dX7_readDivisor_37 (by decide) ?_
      refine AW_vret dX7_readDivisor_52 rfl ?_
      unfold divS
      first
      | (rw [if_pos (by assumption), if_pos (by assumption)]; exact ⟨rfl, hR1, hQ1⟩)
      | (rw [if_pos (by assumption), if_neg (by assumption)]; exact ⟨rfl, hR2, hQ2⟩)
      | (rw [if_neg (by assumption)]; exact ⟨rfl, hR1, hQ1⟩)
  · skip
    rw [hR.tok] at c_17
    refine AW_aload_n dX7_readDivisor_20 rfl ?_
    refine AW_iconst dX7_readDivisor_21 ?_
    refine AW_callV1 (d' := d - 1) dX7_readDivisor_22 (Or.inl lkX7_53) mfX7_blame (hS.cel rfl) ⟨_, rfl, rfl⟩ (k_blame hS hN hNn hR hI.1 1 (by decide)) (by omega) (Nat.le_of_ble_eq_true rfl) ?_
    rintro _ ρ1 ⟨rfl, hR1, hG1⟩ -
    have hS1 := hG1.sta hS
    have hQ1 : Fq σ ρ1 := hG1
    refine AW_goto (tgt := 52) dX7_readDivisor_25 (by decide) ?_
    refine AW_vret dX7_readDivisor_52 rfl ?_
    unfold divS
    first
    | (rw [if_pos (by assumption), if_pos (by assumption)]; exact ⟨rfl, hR1, hQ1⟩)
    | (rw [if_pos (by assumption), if_neg (by assumption)]; exact ⟨rfl, hR2, hQ2⟩)
    | (rw [if_neg (by assumption)]; exact ⟨rfl, hR1, hQ1⟩)
