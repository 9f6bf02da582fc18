theorem Ret.z {B : Nat → Int} {n : Nat} {X : PS} {ro : Option AV} {ρ : St} (h : Ret B n X ro ρ) : ∃ z : Int, ro = some (vI z) ∧ ((z = 0 ∧ X.1 = 0 ∧ Md B n ρ X) ∨ (z = -1 ∧ X.1 ≠ 0 ∧ ρ.2.1 94 38 = X.1 ∧ ρ.2.1 94 39 = tP B n X.2.1)) := by
  rcases h with ⟨a, b, c⟩ | ⟨a, b, c⟩
  · exact ⟨0, b, Or.inl ⟨rfl, a, c⟩⟩
  · exact ⟨-1, b, Or.inr ⟨rfl, a, c⟩⟩
def prodL (K V : Nat → Int) : Nat → PS → PS
  | 0, s => s
  | f + 1, s => if kd K s = 42 then prodL K V f (putS (-10) (unitS K V (stepS s))) else if kd K s = 47 then prodL K V f (putS (-11) (divS K V (stepS s))) else s
theorem prodL_s (K V : Nat → Int) (f : Nat) (s : PS) : prodL K V (f + 1) s = if kd K s = 42 then prodL K V f (putS (-10) (unitS K V (stepS s))) else if kd K s = 47 then prodL K V f (putS (-11) (divS K V (stepS s))) else s := rfl
theorem kd_f {K : Nat → Int} {s : PS} (h : s.1 ≠ 0) : kd K s = 1 := by unfold kd; rw [if_neg h]
theorem prodL_f {K V : Nat → Int} {s : PS} (h : s.1 ≠ 0) (g : Nat) : prodL K V g s = s := by
  cases g with
  | zero => rfl
  | succ g => rw [prodL_s, kd_f h, if_neg (by decide), if_neg (by decide)]
theorem Inv.prodLp {K : Nat → Int} {N : Nat} (V : Nat → Int) (hN : Fn K N) : ∀ (f p : Nat) (s : PS), Inv N p s → Inv N p (prodL K V f s) := by
  intro f
  induction f with
  | zero => intro p s h; exact h
  | succ f ih =>
    intro p s h
    rw [prodL_s]
    split
    · exact ih p _ (Inv.put (Inv.unit V hN (h.step hN (by omega) (by omega))) _)
    · split
      · exact ih p _ (Inv.put (Inv.div V hN (h.step hN (by omega) (by omega))) _)
      · exact h
theorem unit_i (K V : Nat → Int) (s : PS) : s.2.1 ≤ (unitS K V s).2.1 := by
  unfold unitS
  split
  · show s.2.1 ≤ s.2.1 + 1; omega
  · split
    · show s.2.1 ≤ s.2.1 + 1; omega
    · unfold blameS; split <;> exact Nat.le_refl _
theorem div_i (K V : Nat → Int) (s : PS) : s.2.1 ≤ (divS K V s).2.1 := by
  unfold divS
  split
  · split
    · unfold blameS; split <;> exact Nat.le_refl _
    · show s.2.1 ≤ s.2.1 + 1; omega
  · unfold blameS; split <;> exact Nat.le_refl _
/-- what is multiplied is read the same way, alone or within a sum -/
theorem sum_prod {K V : Nat → Int} {N : Nat} (hN : Fn K N) : ∀ (g f : Nat) (w : Int) (s : PS), Inv N 0 s → N + 1 ≤ g + s.2.1 → N + 1 ≤ f + s.2.1 → ∃ f', N + 1 ≤ f' + (prodL K V g s).2.1 ∧ sumL K V f w s = sumL K V f' w (prodL K V g s) ∧ kd K (prodL K V g s) ≠ 42 ∧ kd K (prodL K V g s) ≠ 47 := by
  intro g
  induction g with
  | zero => intro f w s hI h1; have := hI.1; omega
  | succ g ih =>
    intro f w s hI h1 h2
    rw [prodL_s]
    have hi := hI.1
    obtain ⟨f1, rfl⟩ : ∃ f1, f = f1 + 1 := ⟨f - 1, by omega⟩
    split
    · rename_i hc
      have h3 := unit_i K V (stepS s)
      have h4 : (stepS s).2.1 = s.2.1 + 1 := rfl
      obtain ⟨f', q1, q2, q3⟩ := ih f1 w (putS (-10) (unitS K V (stepS s))) (Inv.put (Inv.unit V hN (hI.step hN (by omega) (by omega))) _) (by show N + 1 ≤ g + (unitS K V (stepS s)).2.1; omega) (by show N + 1 ≤ f1 + (unitS K V (stepS s)).2.1; omega)
      exact ⟨f', q1, by rw [sumL_s, if_pos hc]; exact q2, q3⟩
    · split
      · rename_i hc0 hc
        have h3 := div_i K V (stepS s)
        have h4 : (stepS s).2.1 = s.2.1 + 1 := rfl
        obtain ⟨f', q1, q2, q3⟩ := ih f1 w (putS (-11) (divS K V (stepS s))) (Inv.put (Inv.div V hN (hI.step hN (by omega) (by omega))) _) (by show N + 1 ≤ g + (divS K V (stepS s)).2.1; omega) (by show N + 1 ≤ f1 + (divS K V (stepS s)).2.1; omega)
        exact ⟨f', q1, by rw [sumL_s, if_neg hc0, if_pos hc]; exact q2, q3⟩
      · rename_i hc0 hc
        exact ⟨f1 + 1, h2, rfl, hc0, hc⟩
theorem unit_0 {K V : Nat → Int} {s : PS} (h : (unitS K V s).1 = 0) (h0 : s.1 = 0) : (unitS K V s).2.1 = s.2.1 + 1 := by
  unfold unitS at *
  split
  · rfl
  · split
    · rfl
    · exfalso
      rename_i h1 h2
      rw [if_neg h1, if_neg h2] at h
      unfold blameS at h
      rw [if_pos h0] at h
      exact absurd h (by decide : ¬ (1 : Int) = 0)
theorem n_unit {G : Gt} {d : Nat} {σ : St} (hd : 3 ≤ d) {B : Nat → Int} {n N : Nat} {s : PS} (hS : Sta σ) (hby : byB B n) (hN : Fn (tK B n) N) (hNn : N ≤ 400) (hM : Md B n σ s) (h0 : s.1 = 0) (hI : Inv N 0 s)  : AM mX12_readUnit G d 0 0 [vR 94] σ (fun ro ρ => Ret B n (unitS (tK B n) (tV B n) s) ro ρ ∧ Fe [22, 23, 24, 25, 34, 38, 39] [110, 111] σ ρ) := by
  refine AM.intro (by decide +kernel) (by simp [nLg]) (Nat.le_of_ble_eq_true rfl) (fun hO => ?_)
  show AW _ _ _ _ _ _ 0 [some (vR 94), none] [] σ
  have hc := hM.2.2.2.1.cs
  have hk0 := kd0 (K := tK B n) h0
  have hil := hI.2 h0
  have hin := hI.1
  refine AW_aload_n dX12_readUnit_0 rfl ?_
  refine AW_getI dX12_readUnit_1 gfX12_228 (hS.cel rfl) ?_
  refine AW_iconst dX12_readUnit_4 ?_
  refine AW_icmp_ne (tgt := 21) dX12_readUnit_5 (by decide) (fun c_5 => ?_) (fun c_5 => ?_)
  · skip
    refine AW_iconst dX12_readUnit_21 ?_
    refine AW_istore1 dX12_readUnit_22 ?_
    refine AW_iload_n dX12_readUnit_23 rfl ?_
    refine AW_if_ne (tgt := 41) dX12_readUnit_24 (by decide) (fun c_24 => absurd c_24 (by decide)) (fun _ => ?_)
    refine AW_aload_n dX12_readUnit_27 rfl ?_
    refine AW_getI dX12_readUnit_28 gfX12_228 (hS.cel rfl) ?_
    refine AW_iconst dX12_readUnit_31 ?_
    refine AW_icmp_eq (tgt := 41) dX12_readUnit_32 (by decide) (fun c_32 => ?_) (fun c_32 => ?_)
    · skip
      refine AW_aload_n dX12_readUnit_41 rfl ?_
      refine AW_iload_n dX12_readUnit_42 rfl ?_
      refine AW_if_eq (tgt := 50) dX12_readUnit_43 (by decide) (fun _ => ?_) (fun c_43 => absurd c_43 (by decide))
      refine AW_iconst dX12_readUnit_50 ?_
      refine AW_iload_n dX12_readUnit_51 rfl ?_
      refine AW_if_eq (tgt := 65) dX12_readUnit_52 (by decide) (fun _ => ?_) (fun c_52 => absurd c_52 (by decide))
      refine AW_aload_n dX12_readUnit_65 rfl ?_
      refine AW_getI dX12_readUnit_66 gfX12_231 (hS.cel rfl) ?_
      refine AW_callV2 (d' := d - 1) dX12_readUnit_69 (Or.inl lkX12_258) mfX12_emits (hS.cel rfl) ⟨_, rfl, rfl⟩ (n_emits hS hM (if tK B n s.2.1 = 2 then tV B n s.2.1 else 261 - tK B n s.2.1) _ _ (by have q := kd_lt hN hI.1 (s := s) (by omega) (by omega); omega) (by first | (rw [if_pos (by omega)]; have := tV_b (B := B) (n := n) (i := s.2.1) (by omega); unfold mop; rw [if_pos (by omega)]; done) | (rw [if_neg (by omega)]; unfold mop; rw [if_neg (by omega), if_pos (by omega)]; done)) (by first | (rw [if_pos (by omega)]; have := tV_b (B := B) (n := n) (i := s.2.1) (by omega); unfold marg; rw [if_pos (by omega)]; omega) | (rw [if_neg (by omega)]; unfold marg; rw [if_neg (by omega), if_pos (by omega)]; omega))) (by omega) (Nat.le_of_ble_eq_true rfl) ?_
      rintro _ ρ1 ⟨rfl, hM1, hG1⟩ -
      have hS1 := hG1.sta hS
      refine AW_aload_n dX12_readUnit_72 rfl ?_
      refine AW_callV0 (d' := d - 1) dX12_readUnit_73 (Or.inl lkX12_262) mfX12_reads (hS1.cel rfl) ⟨_, rfl, rfl⟩ (n_mreads (by omega) hS1 hby hM1 (show tK B n s.2.1 ≠ 0 by omega)) (by omega) (Nat.le_of_ble_eq_true rfl) ?_
      rintro _ ρ2 ⟨rfl, hM2, hG2⟩ -
      refine AW_iconst dX12_readUnit_76 ?_
      refine AW_iret dX12_readUnit_77 rfl ?_
      have e : unitS (tK B n) (tV B n) s = stepS (putS (if tK B n s.2.1 = 2 then tV B n s.2.1 else 261 - tK B n s.2.1) s) := by
        unfold unitS
        first
        | (rw [if_pos (by omega), if_pos (by omega)]; done)
        | (rw [if_neg (by omega), if_pos (by omega), if_neg (by omega), hk0]; done)
      rw [e]
      exact ⟨Or.inl ⟨h0, rfl, hM2⟩, (hG1.mo (by decide) (by decide)).tr (hG2.mo (by decide) (by decide))⟩
    · skip
      refine AW_aload_n dX12_readUnit_35 rfl ?_
      refine AW_iconst dX12_readUnit_36 ?_
      refine AW_callV1 (d' := d - 1) dX12_readUnit_37 (Or.inl lkX12_255) mfX12_fails (hS.cel rfl) ⟨_, rfl, rfl⟩ (n_fails hS 1) (by omega) (Nat.le_of_ble_eq_true rfl) ?_
      rintro _ ρ1 ⟨rfl, q1, q2, q3⟩ -
      refine AW_iret dX12_readUnit_40 rfl ?_
      have e : unitS (tK B n) (tV B n) s = (1, s.2) := by
        unfold unitS blameS
        rw [if_neg (by omega), if_neg (by omega), if_pos h0]
      rw [e]
      exact ⟨Or.inr ⟨(by decide : (1 : Int) ≠ 0), rfl, q1, by rw [q2, hM.2.2.1]⟩, q3.mo (by decide) (by decide)⟩
  · skip
    refine AW_aload_n dX12_readUnit_8 rfl ?_
    refine AW_getI dX12_readUnit_9 gfX12_231 (hS.cel rfl) ?_
    refine AW_bipush dX12_readUnit_12 ?_
    refine AW_icmp_lt (tgt := 21) dX12_readUnit_14 (by decide) (fun c_14 => ?_) (fun c_14 => ?_)
    · skip
      refine AW_iconst dX12_readUnit_21 ?_
      refine AW_istore1 dX12_readUnit_22 ?_
      refine AW_iload_n dX12_readUnit_23 rfl ?_
      refine AW_if_ne (tgt := 41) dX12_readUnit_24 (by decide) (fun c_24 => absurd c_24 (by decide)) (fun _ => ?_)
      refine AW_aload_n dX12_readUnit_27 rfl ?_
      refine AW_getI dX12_readUnit_28 gfX12_228 (hS.cel rfl) ?_
      refine AW_iconst dX12_readUnit_31 ?_
      refine AW_icmp_eq (tgt := 41) dX12_readUnit_32 (by decide) (fun c_32 => ?_) (fun c_32 => ?_)
      · skip
        refine AW_aload_n dX12_readUnit_41 rfl ?_
        refine AW_iload_n dX12_readUnit_42 rfl ?_
        refine AW_if_eq (tgt := 50) dX12_readUnit_43 (by decide) (fun _ => ?_) (fun c_43 => absurd c_43 (by decide))
        refine AW_iconst dX12_readUnit_50 ?_
        refine AW_iload_n dX12_readUnit_51 rfl ?_
        refine AW_if_eq (tgt := 65) dX12_readUnit_52 (by decide) (fun _ => ?_) (fun c_52 => absurd c_52 (by decide))
        refine AW_aload_n dX12_readUnit_65 rfl ?_
        refine AW_getI dX12_readUnit_66 gfX12_231 (hS.cel rfl) ?_
        refine AW_callV2 (d' := d - 1) dX12_readUnit_69 (Or.inl lkX12_258) mfX12_emits (hS.cel rfl) ⟨_, rfl, rfl⟩ (n_emits hS hM (if tK B n s.2.1 = 2 then tV B n s.2.1 else 261 - tK B n s.2.1) _ _ (by have q := kd_lt hN hI.1 (s := s) (by omega) (by omega); omega) (by first | (rw [if_pos (by omega)]; have := tV_b (B := B) (n := n) (i := s.2.1) (by omega); unfold mop; rw [if_pos (by omega)]; done) | (rw [if_neg (by omega)]; unfold mop; rw [if_neg (by omega), if_pos (by omega)]; done)) (by first | (rw [if_pos (by omega)]; have := tV_b (B := B) (n := n) (i := s.2.1) (by omega); unfold marg; rw [if_pos (by omega)]; omega) | (rw [if_neg (by omega)]; unfold marg; rw [if_neg (by omega), if_pos (by omega)]; omega))) (by omega) (Nat.le_of_ble_eq_true rfl) ?_
        rintro _ ρ1 ⟨rfl, hM1, hG1⟩ -
        have hS1 := hG1.sta hS
        refine AW_aload_n dX12_readUnit_72 rfl ?_
        refine AW_callV0 (d' := d - 1) dX12_readUnit_73 (Or.inl lkX12_262) mfX12_reads (hS1.cel rfl) ⟨_, rfl, rfl⟩ (n_mreads (by omega) hS1 hby hM1 (show tK B n s.2.1 ≠ 0 by omega)) (by omega) (Nat.le_of_ble_eq_true rfl) ?_
        rintro _ ρ2 ⟨rfl, hM2, hG2⟩ -
        refine AW_iconst dX12_readUnit_76 ?_
        refine AW_iret dX12_readUnit_77 rfl ?_
        have e : unitS (tK B n) (tV B n) s = stepS (putS (if tK B n s.2.1 = 2 then tV B n s.2.1 else 261 - tK B n s.2.1) s) := by
          unfold unitS
          first
          | (rw [if_pos (by omega), if_pos (by omega)]; done)
          | (rw [if_neg (by omega), if_pos (by omega), if_neg (by omega), hk0]; done)
        rw [e]
        exact ⟨Or.inl ⟨h0, rfl, hM2⟩, (hG1.mo (by decide) (by decide)).tr (hG2.mo (by decide) (by decide))⟩
      · skip
        refine AW_aload_n dX12_readUnit_35 rfl ?_
        refine AW_iconst dX12_readUnit_36 ?_
        refine AW_callV1 (d' := d - 1) dX12_readUnit_37 (Or.inl lkX12_255) mfX12_fails (hS.cel rfl) ⟨_, rfl, rfl⟩ (n_fails hS 1) (by omega) (Nat.le_of_ble_eq_true rfl) ?_
        rintro _ ρ1 ⟨rfl, q1, q2, q3⟩ -
        refine AW_iret dX12_readUnit_40 rfl ?_
        have e : unitS (tK B n) (tV B n) s = (1, s.2) := by
          unfold unitS blameS
          rw [if_neg (by omega), if_neg (by omega), if_pos h0]
        rw [e]
        exact ⟨Or.inr ⟨(by decide : (1 : Int) ≠ 0), rfl, q1, by rw [q2, hM.2.2.1]⟩, q3.mo (by decide) (by decide)⟩
    · skip
      refine AW_iconst dX12_readUnit_17 ?_
      refine AW_goto (tgt := 22) dX12_readUnit_18 (by decide) ?_
      refine AW_istore1 dX12_readUnit_22 ?_
      refine AW_iload_n dX12_readUnit_23 rfl ?_
      refine AW_if_ne (tgt := 41) dX12_readUnit_24 (by decide) (fun _ => ?_) (fun c_24 => absurd c_24 (by decide))
      refine AW_aload_n dX12_readUnit_41 rfl ?_
      refine AW_iload_n dX12_readUnit_42 rfl ?_
      refine AW_if_eq (tgt := 50) dX12_readUnit_43 (by decide) (fun c_43 => absurd c_43 (by decide)) (fun _ => ?_)
      refine AW_iconst dX12_readUnit_46 ?_
      refine AW_goto (tgt := 51) dX12_readUnit_47 (by decide) ?_
      refine AW_iload_n dX12_readUnit_51 rfl ?_
      refine AW_if_eq (tgt := 65) dX12_readUnit_52 (by decide) (fun c_52 => absurd c_52 (by decide)) (fun _ => ?_)
      refine AW_aload_n dX12_readUnit_55 rfl ?_
      refine AW_getI dX12_readUnit_56 gfX12_231 (hS.cel rfl) ?_
      refine AW_bipush dX12_readUnit_59 ?_
      refine AW_isubE dX12_readUnit_61 (by omega) (by omega) ?_
      refine AW_goto (tgt := 69) dX12_readUnit_62 (by decide) ?_
      refine AW_callV2 (d' := d - 1) dX12_readUnit_69 (Or.inl lkX12_258) mfX12_emits (hS.cel rfl) ⟨_, rfl, rfl⟩ (n_emits hS hM (if tK B n s.2.1 = 2 then tV B n s.2.1 else 261 - tK B n s.2.1) _ _ (by have q := kd_lt hN hI.1 (s := s) (by omega) (by omega); omega) (by first | (rw [if_pos (by omega)]; have := tV_b (B := B) (n := n) (i := s.2.1) (by omega); unfold mop; rw [if_pos (by omega)]; done) | (rw [if_neg (by omega)]; unfold mop; rw [if_neg (by omega), if_pos (by omega)]; done)) (by first | (rw [if_pos (by omega)]; have := tV_b (B := B) (n := n) (i := s.2.1) (by omega); unfold marg; rw [if_pos (by omega)]; omega) | (rw [if_neg (by omega)]; unfold marg; rw [if_neg (by omega), if_pos (by omega)]; omega))) (by omega) (Nat.le_of_ble_eq_true rfl) ?_
      rintro _ ρ1 ⟨rfl, hM1, hG1⟩ -
      have hS1 := hG1.sta hS
      refine AW_aload_n dX12_readUnit_72 rfl ?_
      refine AW_callV0 (d' := d - 1) dX12_readUnit_73 (Or.inl lkX12_262) mfX12_reads (hS1.cel rfl) ⟨_, rfl, rfl⟩ (n_mreads (by omega) hS1 hby hM1 (show tK B n s.2.1 ≠ 0 by omega)) (by omega) (Nat.le_of_ble_eq_true rfl) ?_
      rintro _ ρ2 ⟨rfl, hM2, hG2⟩ -
      refine AW_iconst dX12_readUnit_76 ?_
      refine AW_iret dX12_readUnit_77 rfl ?_
      have e : unitS (tK B n) (tV B n) s = stepS (putS (if tK B n s.2.1 = 2 then tV B n s.2.1 else 261 - tK B n s.2.1) s) := by
        unfold unitS
        first
        | (rw [if_pos (by omega), if_pos (by omega)]; done)
        | (rw [if_neg (by omega), if_pos (by omega), if_neg (by omega), hk0]; done)
      rw [e]
      exact ⟨Or.inl ⟨h0, rfl, hM2⟩, (hG1.mo (by decide) (by decide)).tr (hG2.mo (by decide) (by decide))⟩
theorem ln_prod {G : Gt} {d : Nat} {σ : St} {B : Nat → Int} {n N : Nat} {T : PS} (hd : 4 ≤ d) (hS0 : Sta σ) (hby : byB B n) (hN : Fn (tK B n) N) (hNn : N ≤ 400) : ∀ (nn : Nat) (g : Nat) (s : PS) (x1 : Option AV) (τ : St), (N - s.2.1) < nn → s.1 = 0 → Md B n τ s → Inv N 0 s → N + 1 ≤ g + s.2.1 → prodL (tK B n) (tV B n) g s = T → Fe [22, 23, 24, 25, 34, 38, 39] [110, 111] σ τ →  AW mX12_readProduct G d 0 0 (mq G (fun ro ρ => Ret B n T ro ρ ∧ Fe [22, 23, 24, 25, 34, 38, 39] [110, 111] σ ρ)) 10 [some (vR 94), x1] [] τ := by
  intro nn
  induction nn with
  | zero => intros; omega
  | succ nn ih =>
    intro g s x1 τ hn h0 hM hI hg hT hF
    have hS := hF.sta hS0
    have hk0 := kd0 (K := tK B n) h0
    have hin := hI.1
    rw [show g = (g - 1) + 1 by omega, prodL_s, hk0] at hT
    refine AW_aload_n dX12_readProduct_10 rfl ?_
    refine AW_bipush dX12_readProduct_11 ?_
    refine AW_callV1 (d' := d - 1) dX12_readProduct_13 (Or.inl lkX12_269) mfX12_isSign (hS.cel rfl) ⟨_, rfl, rfl⟩ (n_isSign hS hM 42 (by decide)) (by omega) (Nat.le_of_ble_eq_true rfl) ?_
    rintro _ _ ⟨e_, rfl⟩ -
    rw [e_]
    clear e_
    refine AW_if_ne (tgt := 28) dX12_readProduct_16 (by decide) (fun c_16 => ?_) (fun c_16 => ?_)
    · skip
      replace c_16 := bz1 c_16
      refine AW_aload_n dX12_readProduct_28 rfl ?_
      refine AW_bipush dX12_readProduct_29 ?_
      refine AW_callV1 (d' := d - 1) dX12_readProduct_31 (Or.inl lkX12_269) mfX12_isSign (hS.cel rfl) ⟨_, rfl, rfl⟩ (n_isSign hS hM 42 (by decide)) (by omega) (Nat.le_of_ble_eq_true rfl) ?_
      rintro _ _ ⟨e_, rfl⟩ -
      rw [e_]
      clear e_
      refine AW_istore1 dX12_readProduct_34 ?_
      refine AW_aload_n dX12_readProduct_35 rfl ?_
      refine AW_callV0 (d' := d - 1) dX12_readProduct_36 (Or.inl lkX12_262) mfX12_reads (hS.cel rfl) ⟨_, rfl, rfl⟩ (n_mreads (by omega) hS hby hM (by omega)) (by omega) (Nat.le_of_ble_eq_true rfl) ?_
      rintro _ ρ2 ⟨rfl, hM2, hG2⟩ -
      have hS2 := hG2.sta hS
      have hI2 := hI.step hN (by omega) (by omega)
      have hc2 := hM2.2.2.2.1.cs
      have h02 : (stepS s).1 = 0 := h0
      have hk2 := kd0 (K := tK B n) h02
      have hi2 : (stepS s).2.1 = s.2.1 + 1 := rfl
      have hin2 := hI2.1
      refine AW_iload_n dX12_readProduct_39 rfl ?_
      refine AW_if_ne (tgt := 57) dX12_readProduct_40 (by decide) (fun c_40 => ?_) (fun c_40 => ?_)
      · skip
        replace c_40 := bz1 c_40
        refine AW_iload_n dX12_readProduct_57 rfl ?_
        refine AW_if_ne (tgt := 74) dX12_readProduct_58 (by decide) (fun c_58 => ?_) (fun c_58 => ?_)
        · skip
          replace c_58 := bz1 c_58
          refine AW_aload_n dX12_readProduct_74 rfl ?_
          refine AW_callV0 (d' := d - 1) dX12_readProduct_75 (Or.inl lkX12_265) mfX12_readUnit (hS2.cel rfl) ⟨_, rfl, rfl⟩ (n_unit (by omega) hS2 hby hN hNn hM2 h0 (hI2.mono (by omega))) (by omega) (Nat.le_of_ble_eq_true rfl) ?_
          rintro _ ρ3 ⟨hret3, hG3⟩ -
          obtain ⟨z3, rfl, hz3⟩ := hret3.z
          have hS3 := hG3.sta hS2
          have hI3 := hI2.unit (tV B n) hN
          refine AW_iconst dX12_readProduct_78 ?_
          refine AW_icmp_ne (tgt := 84) dX12_readProduct_79 (by decide) (fun c_79 => ?_) (fun c_79 => ?_)
          · skip
            have hy3 := hz3.elim id (fun q => absurd q.1 c_79)
            refine AW_aload_n dX12_readProduct_84 rfl ?_
            refine AW_iload_n dX12_readProduct_85 rfl ?_
            refine AW_if_eq (tgt := 93) dX12_readProduct_86 (by decide) (fun c_86 => ?_) (fun c_86 => ?_)
            · skip
              replace c_86 := bz0 c_86
              refine AW_iconst dX12_readProduct_93 ?_
              refine AW_iconst dX12_readProduct_94 ?_
              refine AW_callV2 (d' := d - 1) dX12_readProduct_95 (Or.inl lkX12_258) mfX12_emits (hS3.cel rfl) ⟨_, rfl, rfl⟩ (n_emits hS3 hy3.2.2 (if tK B n s.2.1 = 42 then -10 else -11) _ _ (hI3.lt hNn hy3.2.1) (by first | (rw [if_pos (by omega)]; decide) | (rw [if_neg (by omega)]; decide)) (by first | (rw [if_pos (by omega)]; decide) | (rw [if_neg (by omega)]; decide))) (by omega) (Nat.le_of_ble_eq_true rfl) ?_
              rintro _ ρ4 ⟨rfl, hM4, hG4⟩ -
              refine AW_goto (tgt := 10) dX12_readProduct_98 (by decide) ?_
              have hui := unit_0 hy3.2.1 h02
              first
              | (exfalso; omega; done)
              | (have c42 : tK B n s.2.1 = 42 := by omega
                 rw [if_pos c42] at hM4 hT
                 exact ih (g - 1) (putS (-10) (unitS (tK B n) (tV B n) (stepS s))) _ ρ4 (by show N - (unitS _ _ _).2.1 < nn; omega) hy3.2.1 hM4 (hI3.put _) (by show N + 1 ≤ g - 1 + (unitS _ _ _).2.1; omega) hT (((hF.tr (hG2.mo (by decide) (by decide))).tr (hG3.mo (by decide) (by decide))).tr (hG4.mo (by decide) (by decide))))
              | (have c47 : tK B n s.2.1 = 47 := by omega
                 have ed : divS (tK B n) (tV B n) (stepS s) = unitS (tK B n) (tV B n) (stepS s) := by
                   have hkk : kd (tK B n) (stepS s) = 2 := by omega
                   have hvv : ¬ tV B n (stepS s).2.1 = 0 := by omega
                   unfold divS unitS
                   rw [if_pos hkk, if_pos hkk, if_neg hvv]
                 rw [if_neg (by omega)] at hM4
                 rw [if_neg (by omega), if_pos c47, ed] at hT
                 exact ih (g - 1) (putS (-11) (unitS (tK B n) (tV B n) (stepS s))) _ ρ4 (by show N - (unitS _ _ _).2.1 < nn; omega) hy3.2.1 hM4 (hI3.put _) (by show N + 1 ≤ g - 1 + (unitS _ _ _).2.1; omega) hT (((hF.tr (hG2.mo (by decide) (by decide))).tr (hG3.mo (by decide) (by decide))).tr (hG4.mo (by decide) (by decide))))
            · skip
              replace c_86 := bz1 c_86
              refine AW_iconst dX12_readProduct_89 ?_
              refine AW_goto (tgt := 94) dX12_readProduct_90 (by decide) ?_
              refine AW_iconst dX12_readProduct_94 ?_
              refine AW_callV2 (d' := d - 1) dX12_readProduct_95 (Or.inl lkX12_258) mfX12_emits (hS3.cel rfl) ⟨_, rfl, rfl⟩ (n_emits hS3 hy3.2.2 (if tK B n s.2.1 = 42 then -10 else -11) _ _ (hI3.lt hNn hy3.2.1) (by first | (rw [if_pos (by omega)]; decide) | (rw [if_neg (by omega)]; decide)) (by first | (rw [if_pos (by omega)]; decide) | (rw [if_neg (by omega)]; decide))) (by omega) (Nat.le_of_ble_eq_true rfl) ?_
              rintro _ ρ4 ⟨rfl, hM4, hG4⟩ -
              refine AW_goto (tgt := 10) dX12_readProduct_98 (by decide) ?_
              have hui := unit_0 hy3.2.1 h02
              first
              | (exfalso; omega; done)
              | (have c42 : tK B n s.2.1 = 42 := by omega
                 rw [if_pos c42] at hM4 hT
                 exact ih (g - 1) (putS (-10) (unitS (tK B n) (tV B n) (stepS s))) _ ρ4 (by show N - (unitS _ _ _).2.1 < nn; omega) hy3.2.1 hM4 (hI3.put _) (by show N + 1 ≤ g - 1 + (unitS _ _ _).2.1; omega) hT (((hF.tr (hG2.mo (by decide) (by decide))).tr (hG3.mo (by decide) (by decide))).tr (hG4.mo (by decide) (by decide))))
              | (have c47 : tK B n s.2.1 = 47 := by omega
                 have ed : divS (tK B n) (tV B n) (stepS s) = unitS (tK B n) (tV B n) (stepS s) := by
                   have hkk : kd (tK B n) (stepS s) = 2 := by omega
                   have hvv : ¬ tV B n (stepS s).2.1 = 0 := by omega
                   unfold divS unitS
                   rw [if_pos hkk, if_pos hkk, if_neg hvv]
                 rw [if_neg (by omega)] at hM4
                 rw [if_neg (by omega), if_pos c47, ed] at hT
                 exact ih (g - 1) (putS (-11) (unitS (tK B n) (tV B n) (stepS s))) _ ρ4 (by show N - (unitS _ _ _).2.1 < nn; omega) hy3.2.1 hM4 (hI3.put _) (by show N + 1 ≤ g - 1 + (unitS _ _ _).2.1; omega) hT (((hF.tr (hG2.mo (by decide) (by decide))).tr (hG3.mo (by decide) (by decide))).tr (hG4.mo (by decide) (by decide))))
          · skip
            have hy3 := hz3.elim (fun q => absurd (q.1.symm.trans c_79) (by decide)) id
            refine AW_iconst dX12_readProduct_82 ?_
            refine AW_iret dX12_readProduct_83 rfl ?_
            have hW := (hF.tr (hG2.mo (by decide) (by decide))).tr (hG3.mo (by decide) (by decide))
            first
            | (exfalso; omega; done)
            | (have c42 : tK B n s.2.1 = 42 := by omega
               rw [if_pos c42, prodL_f (show (putS (-10) (unitS (tK B n) (tV B n) (stepS s))).1 ≠ 0 from hy3.2.1)] at hT
               rw [← hT]
               exact ⟨Or.inr ⟨hy3.2.1, rfl, hy3.2.2.1, hy3.2.2.2⟩, hW⟩)
            | (have c47 : tK B n s.2.1 = 47 := by omega
               have ed : divS (tK B n) (tV B n) (stepS s) = unitS (tK B n) (tV B n) (stepS s) := by
                 have hkk : kd (tK B n) (stepS s) = 2 := by omega
                 have hvv : ¬ tV B n (stepS s).2.1 = 0 := by omega
                 unfold divS unitS
                 rw [if_pos hkk, if_pos hkk, if_neg hvv]
               rw [if_neg (by omega), if_pos c47, ed, prodL_f (show (putS (-11) (unitS (tK B n) (tV B n) (stepS s))).1 ≠ 0 from hy3.2.1)] at hT
               rw [← hT]
               exact ⟨Or.inr ⟨hy3.2.1, rfl, hy3.2.2.1, hy3.2.2.2⟩, hW⟩)
        · skip
          replace c_58 := bz0 c_58
          refine AW_aload_n dX12_readProduct_61 rfl ?_
          refine AW_getI dX12_readProduct_62 gfX12_231 (hS2.cel rfl) ?_
          refine AW_if_ne (tgt := 74) dX12_readProduct_65 (by decide) (fun c_65 => ?_) (fun c_65 => ?_)
          · skip
            refine AW_aload_n dX12_readProduct_74 rfl ?_
            refine AW_callV0 (d' := d - 1) dX12_readProduct_75 (Or.inl lkX12_265) mfX12_readUnit (hS2.cel rfl) ⟨_, rfl, rfl⟩ (n_unit (by omega) hS2 hby hN hNn hM2 h0 (hI2.mono (by omega))) (by omega) (Nat.le_of_ble_eq_true rfl) ?_
            rintro _ ρ3 ⟨hret3, hG3⟩ -
            obtain ⟨z3, rfl, hz3⟩ := hret3.z
            have hS3 := hG3.sta hS2
            have hI3 := hI2.unit (tV B n) hN
            refine AW_iconst dX12_readProduct_78 ?_
            refine AW_icmp_ne (tgt := 84) dX12_readProduct_79 (by decide) (fun c_79 => ?_) (fun c_79 => ?_)
            · skip
              have hy3 := hz3.elim id (fun q => absurd q.1 c_79)
              refine AW_aload_n dX12_readProduct_84 rfl ?_
              refine AW_iload_n dX12_readProduct_85 rfl ?_
              refine AW_if_eq (tgt := 93) dX12_readProduct_86 (by decide) (fun c_86 => ?_) (fun c_86 => ?_)
              · skip
                replace c_86 := bz0 c_86
                refine AW_iconst dX12_readProduct_93 ?_
                refine AW_iconst dX12_readProduct_94 ?_
                refine AW_callV2 (d' := d - 1) dX12_readProduct_95 (Or.inl lkX12_258) mfX12_emits (hS3.cel rfl) ⟨_, rfl, rfl⟩ (n_emits hS3 hy3.2.2 (if tK B n s.2.1 = 42 then -10 else -11) _ _ (hI3.lt hNn hy3.2.1) (by first | (rw [if_pos (by omega)]; decide) | (rw [if_neg (by omega)]; decide)) (by first | (rw [if_pos (by omega)]; decide) | (rw [if_neg (by omega)]; decide))) (by omega) (Nat.le_of_ble_eq_true rfl) ?_
                rintro _ ρ4 ⟨rfl, hM4, hG4⟩ -
                refine AW_goto (tgt := 10) dX12_readProduct_98 (by decide) ?_
                have hui := unit_0 hy3.2.1 h02
                first
                | (exfalso; omega; done)
                | (have c42 : tK B n s.2.1 = 42 := by omega
                   rw [if_pos c42] at hM4 hT
                   exact ih (g - 1) (putS (-10) (unitS (tK B n) (tV B n) (stepS s))) _ ρ4 (by show N - (unitS _ _ _).2.1 < nn; omega) hy3.2.1 hM4 (hI3.put _) (by show N + 1 ≤ g - 1 + (unitS _ _ _).2.1; omega) hT (((hF.tr (hG2.mo (by decide) (by decide))).tr (hG3.mo (by decide) (by decide))).tr (hG4.mo (by decide) (by decide))))
                | (have c47 : tK B n s.2.1 = 47 := by omega
                   have ed : divS (tK B n) (tV B n) (stepS s) = unitS (tK B n) (tV B n) (stepS s) := by
                     have hkk : kd (tK B n) (stepS s) = 2 := by omega
                     have hvv : ¬ tV B n (stepS s).2.1 = 0 := by omega
                     unfold divS unitS
                     rw [if_pos hkk, if_pos hkk, if_neg hvv]
                   rw [if_neg (by omega)] at hM4
                   rw [if_neg (by omega), if_pos c47, ed] at hT
                   exact ih (g - 1) (putS (-11) (unitS (tK B n) (tV B n) (stepS s))) _ ρ4 (by show N - (unitS _ _ _).2.1 < nn; omega) hy3.2.1 hM4 (hI3.put _) (by show N + 1 ≤ g - 1 + (unitS _ _ _).2.1; omega) hT (((hF.tr (hG2.mo (by decide) (by decide))).tr (hG3.mo (by decide) (by decide))).tr (hG4.mo (by decide) (by decide))))
              · skip
                replace c_86 := bz1 c_86
                refine AW_iconst dX12_readProduct_89 ?_
                refine AW_goto (tgt := 94) dX12_readProduct_90 (by decide) ?_
                refine AW_iconst dX12_readProduct_94 ?_
                refine AW_callV2 (d' := d - 1) dX12_readProduct_95 (Or.inl lkX12_258) mfX12_emits (hS3.cel rfl) ⟨_, rfl, rfl⟩ (n_emits hS3 hy3.2.2 (if tK B n s.2.1 = 42 then -10 else -11) _ _ (hI3.lt hNn hy3.2.1) (by first | (rw [if_pos (by omega)]; decide) | (rw [if_neg (by omega)]; decide)) (by first | (rw [if_pos (by omega)]; decide) | (rw [if_neg (by omega)]; decide))) (by omega) (Nat.le_of_ble_eq_true rfl) ?_
                rintro _ ρ4 ⟨rfl, hM4, hG4⟩ -
                refine AW_goto (tgt := 10) dX12_readProduct_98 (by decide) ?_
                have hui := unit_0 hy3.2.1 h02
                first
                | (exfalso; omega; done)
                | (have c42 : tK B n s.2.1 = 42 := by omega
                   rw [if_pos c42] at hM4 hT
                   exact ih (g - 1) (putS (-10) (unitS (tK B n) (tV B n) (stepS s))) _ ρ4 (by show N - (unitS _ _ _).2.1 < nn; omega) hy3.2.1 hM4 (hI3.put _) (by show N + 1 ≤ g - 1 + (unitS _ _ _).2.1; omega) hT (((hF.tr (hG2.mo (by decide) (by decide))).tr (hG3.mo (by decide) (by decide))).tr (hG4.mo (by decide) (by decide))))
                | (have c47 : tK B n s.2.1 = 47 := by omega
                   have ed : divS (tK B n) (tV B n) (stepS s) = unitS (tK B n) (tV B n) (stepS s) := by
                     have hkk : kd (tK B n) (stepS s) = 2 := by omega
                     have hvv : ¬ tV B n (stepS s).2.1 = 0 := by omega
                     unfold divS unitS
                     rw [if_pos hkk, if_pos hkk, if_neg hvv]
                   rw [if_neg (by omega)] at hM4
                   rw [if_neg (by omega), if_pos c47, ed] at hT
                   exact ih (g - 1) (putS (-11) (unitS (tK B n) (tV B n) (stepS s))) _ ρ4 (by show N - (unitS _ _ _).2.1 < nn; omega) hy3.2.1 hM4 (hI3.put _) (by show N + 1 ≤ g - 1 + (unitS _ _ _).2.1; omega) hT (((hF.tr (hG2.mo (by decide) (by decide))).tr (hG3.mo (by decide) (by decide))).tr (hG4.mo (by decide) (by decide))))
            · skip
              have hy3 := hz3.elim (fun q => absurd (q.1.symm.trans c_79) (by decide)) id
              refine AW_iconst dX12_readProduct_82 ?_
              refine AW_iret dX12_readProduct_83 rfl ?_
              have hW := (hF.tr (hG2.mo (by decide) (by decide))).tr (hG3.mo (by decide) (by decide))
              first
              | (exfalso; omega; done)
              | (have c42 : tK B n s.2.1 = 42 := by omega
                 rw [if_pos c42, prodL_f (show (putS (-10) (unitS (tK B n) (tV B n) (stepS s))).1 ≠ 0 from hy3.2.1)] at hT
                 rw [← hT]
                 exact ⟨Or.inr ⟨hy3.2.1, rfl, hy3.2.2.1, hy3.2.2.2⟩, hW⟩)
              | (have c47 : tK B n s.2.1 = 47 := by omega
                 have ed : divS (tK B n) (tV B n) (stepS s) = unitS (tK B n) (tV B n) (stepS s) := by
                   have hkk : kd (tK B n) (stepS s) = 2 := by omega
                   have hvv : ¬ tV B n (stepS s).2.1 = 0 := by omega
                   unfold divS unitS
                   rw [if_pos hkk, if_pos hkk, if_neg hvv]
                 rw [if_neg (by omega), if_pos c47, ed, prodL_f (show (putS (-11) (unitS (tK B n) (tV B n) (stepS s))).1 ≠ 0 from hy3.2.1)] at hT
                 rw [← hT]
                 exact ⟨Or.inr ⟨hy3.2.1, rfl, hy3.2.2.1, hy3.2.2.2⟩, hW⟩)
          · skip
            refine AW_aload_n dX12_readProduct_68 rfl ?_
            refine AW_iconst dX12_readProduct_69 ?_
            refine AW_callV1 (d' := d - 1) dX12_readProduct_70 (Or.inl lkX12_255) mfX12_fails (hS2.cel rfl) ⟨_, rfl, rfl⟩ (n_fails hS2 2) (by omega) (Nat.le_of_ble_eq_true rfl) ?_
            rintro _ ρ3 ⟨rfl, q1, q2, q3⟩ -
            refine AW_iret dX12_readProduct_73 rfl ?_
            first
            | (exfalso; omega; done)
            | (have ed : divS (tK B n) (tV B n) (stepS s) = (2, (stepS s).2) := by
                 unfold divS blameS
                 rw [if_pos (by omega), if_pos (by omega), if_pos h02]
               rw [if_neg (by omega), if_pos (by omega), ed, prodL_f (show (putS (-11) (2, (stepS s).2)).1 ≠ 0 from (by decide : (2 : Int) ≠ 0))] at hT
               rw [← hT]
               exact ⟨Or.inr ⟨(by decide : (2 : Int) ≠ 0), rfl, q1, by rw [q2, hM2.2.2.1]; rfl⟩, (hF.tr (hG2.mo (by decide) (by decide))).tr (q3.mo (by decide) (by decide))⟩)
      · skip
        replace c_40 := bz0 c_40
        refine AW_aload_n dX12_readProduct_43 rfl ?_
        refine AW_getI dX12_readProduct_44 gfX12_228 (hS2.cel rfl) ?_
        refine AW_iconst dX12_readProduct_47 ?_
        refine AW_icmp_eq (tgt := 57) dX12_readProduct_48 (by decide) (fun c_48 => ?_) (fun c_48 => ?_)
        · skip
          refine AW_iload_n dX12_readProduct_57 rfl ?_
          refine AW_if_ne (tgt := 74) dX12_readProduct_58 (by decide) (fun c_58 => ?_) (fun c_58 => ?_)
          · skip
            replace c_58 := bz1 c_58
            refine AW_aload_n dX12_readProduct_74 rfl ?_
            refine AW_callV0 (d' := d - 1) dX12_readProduct_75 (Or.inl lkX12_265) mfX12_readUnit (hS2.cel rfl) ⟨_, rfl, rfl⟩ (n_unit (by omega) hS2 hby hN hNn hM2 h0 (hI2.mono (by omega))) (by omega) (Nat.le_of_ble_eq_true rfl) ?_
            rintro _ ρ3 ⟨hret3, hG3⟩ -
            obtain ⟨z3, rfl, hz3⟩ := hret3.z
            have hS3 := hG3.sta hS2
            have hI3 := hI2.unit (tV B n) hN
            refine AW_iconst dX12_readProduct_78 ?_
            refine AW_icmp_ne (tgt := 84) dX12_readProduct_79 (by decide) (fun c_79 => ?_) (fun c_79 => ?_)
            · skip
              have hy3 := hz3.elim id (fun q => absurd q.1 c_79)
              refine AW_aload_n dX12_readProduct_84 rfl ?_
              refine AW_iload_n dX12_readProduct_85 rfl ?_
              refine AW_if_eq (tgt := 93) dX12_readProduct_86 (by decide) (fun c_86 => ?_) (fun c_86 => ?_)
              · skip
                replace c_86 := bz0 c_86
                refine AW_iconst dX12_readProduct_93 ?_
                refine AW_iconst dX12_readProduct_94 ?_
                refine AW_callV2 (d' := d - 1) dX12_readProduct_95 (Or.inl lkX12_258) mfX12_emits (hS3.cel rfl) ⟨_, rfl, rfl⟩ (n_emits hS3 hy3.2.2 (if tK B n s.2.1 = 42 then -10 else -11) _ _ (hI3.lt hNn hy3.2.1) (by first | (rw [if_pos (by omega)]; decide) | (rw [if_neg (by omega)]; decide)) (by first | (rw [if_pos (by omega)]; decide) | (rw [if_neg (by omega)]; decide))) (by omega) (Nat.le_of_ble_eq_true rfl) ?_
                rintro _ ρ4 ⟨rfl, hM4, hG4⟩ -
                refine AW_goto (tgt := 10) dX12_readProduct_98 (by decide) ?_
                have hui := unit_0 hy3.2.1 h02
                first
                | (exfalso; omega; done)
                | (have c42 : tK B n s.2.1 = 42 := by omega
                   rw [if_pos c42] at hM4 hT
                   exact ih (g - 1) (putS (-10) (unitS (tK B n) (tV B n) (stepS s))) _ ρ4 (by show N - (unitS _ _ _).2.1 < nn; omega) hy3.2.1 hM4 (hI3.put _) (by show N + 1 ≤ g - 1 + (unitS _ _ _).2.1; omega) hT (((hF.tr (hG2.mo (by decide) (by decide))).tr (hG3.mo (by decide) (by decide))).tr (hG4.mo (by decide) (by decide))))
                | (have c47 : tK B n s.2.1 = 47 := by omega
                   have ed : divS (tK B n) (tV B n) (stepS s) = unitS (tK B n) (tV B n) (stepS s) := by
                     have hkk : kd (tK B n) (stepS s) = 2 := by omega
                     have hvv : ¬ tV B n (stepS s).2.1 = 0 := by omega
                     unfold divS unitS
                     rw [if_pos hkk, if_pos hkk, if_neg hvv]
                   rw [if_neg (by omega)] at hM4
                   rw [if_neg (by omega), if_pos c47, ed] at hT
                   exact ih (g - 1) (putS (-11) (unitS (tK B n) (tV B n) (stepS s))) _ ρ4 (by show N - (unitS _ _ _).2.1 < nn; omega) hy3.2.1 hM4 (hI3.put _) (by show N + 1 ≤ g - 1 + (unitS _ _ _).2.1; omega) hT (((hF.tr (hG2.mo (by decide) (by decide))).tr (hG3.mo (by decide) (by decide))).tr (hG4.mo (by decide) (by decide))))
              · skip
                replace c_86 := bz1 c_86
                refine AW_iconst dX12_readProduct_89 ?_
                refine AW_goto (tgt := 94) dX12_readProduct_90 (by decide) ?_
                refine AW_iconst dX12_readProduct_94 ?_
                refine AW_callV2 (d' := d - 1) dX12_readProduct_95 (Or.inl lkX12_258) mfX12_emits (hS3.cel rfl) ⟨_, rfl, rfl⟩ (n_emits hS3 hy3.2.2 (if tK B n s.2.1 = 42 then -10 else -11) _ _ (hI3.lt hNn hy3.2.1) (by first | (rw [if_pos (by omega)]; decide) | (rw [if_neg (by omega)]; decide)) (by first | (rw [if_pos (by omega)]; decide) | (rw [if_neg (by omega)]; decide))) (by omega) (Nat.le_of_ble_eq_true rfl) ?_
                rintro _ ρ4 ⟨rfl, hM4, hG4⟩ -
                refine AW_goto (tgt := 10) dX12_readProduct_98 (by decide) ?_
                have hui := unit_0 hy3.2.1 h02
                first
                | (exfalso; omega; done)
                | (have c42 : tK B n s.2.1 = 42 := by omega
                   rw [if_pos c42] at hM4 hT
                   exact ih (g - 1) (putS (-10) (unitS (tK B n) (tV B n) (stepS s))) _ ρ4 (by show N - (unitS _ _ _).2.1 < nn; omega) hy3.2.1 hM4 (hI3.put _) (by show N + 1 ≤ g - 1 + (unitS _ _ _).2.1; omega) hT (((hF.tr (hG2.mo (by decide) (by decide))).tr (hG3.mo (by decide) (by decide))).tr (hG4.mo (by decide) (by decide))))
                | (have c47 : tK B n s.2.1 = 47 := by omega
                   have ed : divS (tK B n) (tV B n) (stepS s) = unitS (tK B n) (tV B n) (stepS s) := by
                     have hkk : kd (tK B n) (stepS s) = 2 := by omega
                     have hvv : ¬ tV B n (stepS s).2.1 = 0 := by omega
                     unfold divS unitS
                     rw [if_pos hkk, if_pos hkk, if_neg hvv]
                   rw [if_neg (by omega)] at hM4
                   rw [if_neg (by omega), if_pos c47, ed] at hT
                   exact ih (g - 1) (putS (-11) (unitS (tK B n) (tV B n) (stepS s))) _ ρ4 (by show N - (unitS _ _ _).2.1 < nn; omega) hy3.2.1 hM4 (hI3.put _) (by show N + 1 ≤ g - 1 + (unitS _ _ _).2.1; omega) hT (((hF.tr (hG2.mo (by decide) (by decide))).tr (hG3.mo (by decide) (by decide))).tr (hG4.mo (by decide) (by decide))))
            · skip
              have hy3 := hz3.elim (fun q => absurd (q.1.symm.trans c_79) (by decide)) id
              refine AW_iconst dX12_readProduct_82 ?_
              refine AW_iret dX12_readProduct_83 rfl ?_
              have hW := (hF.tr (hG2.mo (by decide) (by decide))).tr (hG3.mo (by decide) (by decide))
              first
              | (exfalso; omega; done)
              | (have c42 : tK B n s.2.1 = 42 := by omega
                 rw [if_pos c42, prodL_f (show (putS (-10) (unitS (tK B n) (tV B n) (stepS s))).1 ≠ 0 from hy3.2.1)] at hT
                 rw [← hT]
                 exact ⟨Or.inr ⟨hy3.2.1, rfl, hy3.2.2.1, hy3.2.2.2⟩, hW⟩)
              | (have c47 : tK B n s.2.1 = 47 := by omega
                 have ed : divS (tK B n) (tV B n) (stepS s) = unitS (tK B n) (tV B n) (stepS s) := by
                   have hkk : kd (tK B n) (stepS s) = 2 := by omega
                   have hvv : ¬ tV B n (stepS s).2.1 = 0 := by omega
                   unfold divS unitS
                   rw [if_pos hkk, if_pos hkk, if_neg hvv]
                 rw [if_neg (by omega), if_pos c47, ed, prodL_f (show (putS (-11) (unitS (tK B n) (tV B n) (stepS s))).1 ≠ 0 from hy3.2.1)] at hT
                 rw [← hT]
                 exact ⟨Or.inr ⟨hy3.2.1, rfl, hy3.2.2.1, hy3.2.2.2⟩, hW⟩)
          · skip
            replace c_58 := bz0 c_58
            refine AW_aload_n dX12_readProduct_61 rfl ?_
            refine AW_getI dX12_readProduct_62 gfX12_231 (hS2.cel rfl) ?_
            refine AW_if_ne (tgt := 74) dX12_readProduct_65 (by decide) (fun c_65 => ?_) (fun c_65 => ?_)
            · skip
              refine AW_aload_n dX12_readProduct_74 rfl ?_
              refine AW_callV0 (d' := d - 1) dX12_readProduct_75 (Or.inl lkX12_265) mfX12_readUnit (hS2.cel rfl) ⟨_, rfl, rfl⟩ (n_unit (by omega) hS2 hby hN hNn hM2 h0 (hI2.mono (by omega))) (by omega) (Nat.le_of_ble_eq_true rfl) ?_
              rintro _ ρ3 ⟨hret3, hG3⟩ -
              obtain ⟨z3, rfl, hz3⟩ := hret3.z
              have hS3 := hG3.sta hS2
              have hI3 := hI2.unit (tV B n) hN
              refine AW_iconst dX12_readProduct_78 ?_
              refine AW_icmp_ne (tgt := 84) dX12_readProduct_79 (by decide) (fun c_79 => ?_) (fun c_79 => ?_)
              · skip
                have hy3 := hz3.elim id (fun q => absurd q.1 c_79)
                refine AW_aload_n dX12_readProduct_84 rfl ?_
                refine AW_iload_n dX12_readProduct_85 rfl ?_
                refine AW_if_eq (tgt := 93) dX12_readProduct_86 (by decide) (fun c_86 => ?_) (fun c_86 => ?_)
                · skip
                  replace c_86 := bz0 c_86
                  refine AW_iconst dX12_readProduct_93 ?_
                  refine AW_iconst dX12_readProduct_94 ?_
                  refine AW_callV2 (d' := d - 1) dX12_readProduct_95 (Or.inl lkX12_258) mfX12_emits (hS3.cel rfl) ⟨_, rfl, rfl⟩ (n_emits hS3 hy3.2.2 (if tK B n s.2.1 = 42 then -10 else -11) _ _ (hI3.lt hNn hy3.2.1) (by first | (rw [if_pos (by omega)]; decide) | (rw [if_neg (by omega)]; decide)) (by first | (rw [if_pos (by omega)]; decide) | (rw [if_neg (by omega)]; decide))) (by omega) (Nat.le_of_ble_eq_true rfl) ?_
                  rintro _ ρ4 ⟨rfl, hM4, hG4⟩ -
                  refine AW_goto (tgt := 10) dX12_readProduct_98 (by decide) ?_
                  have hui := unit_0 hy3.2.1 h02
                  first
                  | (exfalso; omega; done)
                  | (have c42 : tK B n s.2.1 = 42 := by omega
                     rw [if_pos c42] at hM4 hT
                     exact ih (g - 1) (putS (-10) (unitS (tK B n) (tV B n) (stepS s))) _ ρ4 (by show N - (unitS _ _ _).2.1 < nn; omega) hy3.2.1 hM4 (hI3.put _) (by show N + 1 ≤ g - 1 + (unitS _ _ _).2.1; omega) hT (((hF.tr (hG2.mo (by decide) (by decide))).tr (hG3.mo (by decide) (by decide))).tr (hG4.mo (by decide) (by decide))))
                  | (have c47 : tK B n s.2.1 = 47 := by omega
                     have ed : divS (tK B n) (tV B n) (stepS s) = unitS (tK B n) (tV B n) (stepS s) := by
                       have hkk : kd (tK B n) (stepS s) = 2 := by omega
                       have hvv : ¬ tV B n (stepS s).2.1 = 0 := by omega
                       unfold divS unitS
                       rw [if_pos hkk, if_pos hkk, if_neg hvv]
                     rw [if_neg (by omega)] at hM4
                     rw [if_neg (by omega), if_pos c47, ed] at hT
                     exact ih (g - 1) (putS (-11) (unitS (tK B n) (tV B n) (stepS s))) _ ρ4 (by show N - (unitS _ _ _).2.1 < nn; omega) hy3.2.1 hM4 (hI3.put _) (by show N + 1 ≤ g - 1 + (unitS _ _ _).2.1; omega) hT (((hF.tr (hG2.mo (by decide) (by decide))).tr (hG3.mo (by decide) (by decide))).tr (hG4.mo (by decide) (by decide))))
                · skip
                  replace c_86 := bz1 c_86
                  refine AW_iconst dX12_readProduct_89 ?_
                  refine AW_goto (tgt := 94) dX12_readProduct_90 (by decide) ?_
                  refine AW_iconst dX12_readProduct_94 ?_
                  refine AW_callV2 (d' := d - 1) dX12_readProduct_95 (Or.inl lkX12_258) mfX12_emits (hS3.cel rfl) ⟨_, rfl, rfl⟩ (n_emits hS3 hy3.2.2 (if tK B n s.2.1 = 42 then -10 else -11) _ _ (hI3.lt hNn hy3.2.1) (by first | (rw [if_pos (by omega)]; decide) | (rw [if_neg (by omega)]; decide)) (by first | (rw [if_pos (by omega)]; decide) | (rw [if_neg (by omega)]; decide))) (by omega) (Nat.le_of_ble_eq_true rfl) ?_
                  rintro _ ρ4 ⟨rfl, hM4, hG4⟩ -
                  refine AW_goto (tgt := 10) dX12_readProduct_98 (by decide) ?_
                  have hui := unit_0 hy3.2.1 h02
                  first
                  | (exfalso; omega; done)
                  | (have c42 : tK B n s.2.1 = 42 := by omega
                     rw [if_pos c42] at hM4 hT
                     exact ih (g - 1) (putS (-10) (unitS (tK B n) (tV B n) (stepS s))) _ ρ4 (by show N - (unitS _ _ _).2.1 < nn; omega) hy3.2.1 hM4 (hI3.put _) (by show N + 1 ≤ g - 1 + (unitS _ _ _).2.1; omega) hT (((hF.tr (hG2.mo (by decide) (by decide))).tr (hG3.mo (by decide) (by decide))).tr (hG4.mo (by decide) (by decide))))
                  | (have c47 : tK B n s.2.1 = 47 := by omega
                     have ed : divS (tK B n) (tV B n) (stepS s) = unitS (tK B n) (tV B n) (stepS s) := by
                       have hkk : kd (tK B n) (stepS s) = 2 := by omega
                       have hvv : ¬ tV B n (stepS s).2.1 = 0 := by omega
                       unfold divS unitS
                       rw [if_pos hkk, if_pos hkk, if_neg hvv]
                     rw [if_neg (by omega)] at hM4
                     rw [if_neg (by omega), if_pos c47, ed] at hT
                     exact ih (g - 1) (putS (-11) (unitS (tK B n) (tV B n) (stepS s))) _ ρ4 (by show N - (unitS _ _ _).2.1 < nn; omega) hy3.2.1 hM4 (hI3.put _) (by show N + 1 ≤ g - 1 + (unitS _ _ _).2.1; omega) hT (((hF.tr (hG2.mo (by decide) (by decide))).tr (hG3.mo (by decide) (by decide))).tr (hG4.mo (by decide) (by decide))))
              · skip
                have hy3 := hz3.elim (fun q => absurd (q.1.symm.trans c_79) (by decide)) id
                refine AW_iconst dX12_readProduct_82 ?_
                refine AW_iret dX12_readProduct_83 rfl ?_
                have hW := (hF.tr (hG2.mo (by decide) (by decide))).tr (hG3.mo (by decide) (by decide))
                first
                | (exfalso; omega; done)
                | (have c42 : tK B n s.2.1 = 42 := by omega
                   rw [if_pos c42, prodL_f (show (putS (-10) (unitS (tK B n) (tV B n) (stepS s))).1 ≠ 0 from hy3.2.1)] at hT
                   rw [← hT]
                   exact ⟨Or.inr ⟨hy3.2.1, rfl, hy3.2.2.1, hy3.2.2.2⟩, hW⟩)
                | (have c47 : tK B n s.2.1 = 47 := by omega
                   have ed : divS (tK B n) (tV B n) (stepS s) = unitS (tK B n) (tV B n) (stepS s) := by
                     have hkk : kd (tK B n) (stepS s) = 2 := by omega
                     have hvv : ¬ tV B n (stepS s).2.1 = 0 := by omega
                     unfold divS unitS
                     rw [if_pos hkk, if_pos hkk, if_neg hvv]
                   rw [if_neg (by omega), if_pos c47, ed, prodL_f (show (putS (-11) (unitS (tK B n) (tV B n) (stepS s))).1 ≠ 0 from hy3.2.1)] at hT
                   rw [← hT]
                   exact ⟨Or.inr ⟨hy3.2.1, rfl, hy3.2.2.1, hy3.2.2.2⟩, hW⟩)
            · skip
              refine AW_aload_n dX12_readProduct_68 rfl ?_
              refine AW_iconst dX12_readProduct_69 ?_
              refine AW_callV1 (d' := d - 1) dX12_readProduct_70 (Or.inl lkX12_255) mfX12_fails (hS2.cel rfl) ⟨_, rfl, rfl⟩ (n_fails hS2 2) (by omega) (Nat.le_of_ble_eq_true rfl) ?_
              rintro _ ρ3 ⟨rfl, q1, q2, q3⟩ -
              refine AW_iret dX12_readProduct_73 rfl ?_
              first
              | (exfalso; omega; done)
              | (have ed : divS (tK B n) (tV B n) (stepS s) = (2, (stepS s).2) := by
                   unfold divS blameS
                   rw [if_pos (by omega), if_pos (by omega), if_pos h02]
                 rw [if_neg (by omega), if_pos (by omega), ed, prodL_f (show (putS (-11) (2, (stepS s).2)).1 ≠ 0 from (by decide : (2 : Int) ≠ 0))] at hT
                 rw [← hT]
                 exact ⟨Or.inr ⟨(by decide : (2 : Int) ≠ 0), rfl, q1, by rw [q2, hM2.2.2.1]; rfl⟩, (hF.tr (hG2.mo (by decide) (by decide))).tr (q3.mo (by decide) (by decide))⟩)
        · skip
          refine AW_aload_n dX12_readProduct_51 rfl ?_
          refine AW_iconst dX12_readProduct_52 ?_
          refine AW_callV1 (d' := d - 1) dX12_readProduct_53 (Or.inl lkX12_255) mfX12_fails (hS2.cel rfl) ⟨_, rfl, rfl⟩ (n_fails hS2 1) (by omega) (Nat.le_of_ble_eq_true rfl) ?_
          rintro _ ρ3 ⟨rfl, q1, q2, q3⟩ -
          refine AW_iret dX12_readProduct_56 rfl ?_
          first
          | (exfalso; omega; done)
          | (have ed : divS (tK B n) (tV B n) (stepS s) = (1, (stepS s).2) := by
               unfold divS blameS
               rw [if_neg (by omega), if_pos h02]
             rw [if_neg (by omega), if_pos (by omega), ed, prodL_f (show (putS (-11) (1, (stepS s).2)).1 ≠ 0 from (by decide : (1 : Int) ≠ 0))] at hT
             rw [← hT]
             exact ⟨Or.inr ⟨(by decide : (1 : Int) ≠ 0), rfl, q1, by rw [q2, hM2.2.2.1]; rfl⟩, (hF.tr (hG2.mo (by decide) (by decide))).tr (q3.mo (by decide) (by decide))⟩)
    · skip
      replace c_16 := bz0 c_16
      refine AW_aload_n dX12_readProduct_19 rfl ?_
      refine AW_bipush dX12_readProduct_20 ?_
      refine AW_callV1 (d' := d - 1) dX12_readProduct_22 (Or.inl lkX12_269) mfX12_isSign (hS.cel rfl) ⟨_, rfl, rfl⟩ (n_isSign hS hM 47 (by decide)) (by omega) (Nat.le_of_ble_eq_true rfl) ?_
      rintro _ _ ⟨e_, rfl⟩ -
      rw [e_]
      clear e_
      refine AW_if_eq (tgt := 101) dX12_readProduct_25 (by decide) (fun c_25 => ?_) (fun c_25 => ?_)
      · skip
        replace c_25 := bz0 c_25
        refine AW_iconst dX12_readProduct_101 ?_
        refine AW_iret dX12_readProduct_102 rfl ?_
        rw [if_neg (by omega), if_neg (by omega)] at hT
        rw [← hT]
        exact ⟨Or.inl ⟨h0, rfl, hM⟩, hF⟩
      · skip
        replace c_25 := bz1 c_25
        refine AW_aload_n dX12_readProduct_28 rfl ?_
        refine AW_bipush dX12_readProduct_29 ?_
        refine AW_callV1 (d' := d - 1) dX12_readProduct_31 (Or.inl lkX12_269) mfX12_isSign (hS.cel rfl) ⟨_, rfl, rfl⟩ (n_isSign hS hM 42 (by decide)) (by omega) (Nat.le_of_ble_eq_true rfl) ?_
        rintro _ _ ⟨e_, rfl⟩ -
        rw [e_]
        clear e_
        refine AW_istore1 dX12_readProduct_34 ?_
        refine AW_aload_n dX12_readProduct_35 rfl ?_
        refine AW_callV0 (d' := d - 1) dX12_readProduct_36 (Or.inl lkX12_262) mfX12_reads (hS.cel rfl) ⟨_, rfl, rfl⟩ (n_mreads (by omega) hS hby hM (by omega)) (by omega) (Nat.le_of_ble_eq_true rfl) ?_
        rintro _ ρ2 ⟨rfl, hM2, hG2⟩ -
        have hS2 := hG2.sta hS
        have hI2 := hI.step hN (by omega) (by omega)
        have hc2 := hM2.2.2.2.1.cs
        have h02 : (stepS s).1 = 0 := h0
        have hk2 := kd0 (K := tK B n) h02
        have hi2 : (stepS s).2.1 = s.2.1 + 1 := rfl
        have hin2 := hI2.1
        refine AW_iload_n dX12_readProduct_39 rfl ?_
        refine AW_if_ne (tgt := 57) dX12_readProduct_40 (by decide) (fun c_40 => ?_) (fun c_40 => ?_)
        · skip
          replace c_40 := bz1 c_40
          refine AW_iload_n dX12_readProduct_57 rfl ?_
          refine AW_if_ne (tgt := 74) dX12_readProduct_58 (by decide) (fun c_58 => ?_) (fun c_58 => ?_)
          · skip
            replace c_58 := bz1 c_58
            refine AW_aload_n dX12_readProduct_74 rfl ?_
            refine AW_callV0 (d' := d - 1) dX12_readProduct_75 (Or.inl lkX12_265) mfX12_readUnit (hS2.cel rfl) ⟨_, rfl, rfl⟩ (n_unit (by omega) hS2 hby hN hNn hM2 h0 (hI2.mono (by omega))) (by omega) (Nat.le_of_ble_eq_true rfl) ?_
            rintro _ ρ3 ⟨hret3, hG3⟩ -
            obtain ⟨z3, rfl, hz3⟩ := hret3.z
            have hS3 := hG3.sta hS2
            have hI3 := hI2.unit (tV B n) hN
            refine AW_iconst dX12_readProduct_78 ?_
            refine AW_icmp_ne (tgt := 84) dX12_readProduct_79 (by decide) (fun c_79 => ?_) (fun c_79 => ?_)
            · skip
              have hy3 := hz3.elim id (fun q => absurd q.1 c_79)
              refine AW_aload_n dX12_readProduct_84 rfl ?_
              refine AW_iload_n dX12_readProduct_85 rfl ?_
              refine AW_if_eq (tgt := 93) dX12_readProduct_86 (by decide) (fun c_86 => ?_) (fun c_86 => ?_)
              · skip
                replace c_86 := bz0 c_86
                refine AW_iconst dX12_readProduct_93 ?_
                refine AW_iconst dX12_readProduct_94 ?_
                refine AW_callV2 (d' := d - 1) dX12_readProduct_95 (Or.inl lkX12_258) mfX12_emits (hS3.cel rfl) ⟨_, rfl, rfl⟩ (n_emits hS3 hy3.2.2 (if tK B n s.2.1 = 42 then -10 else -11) _ _ (hI3.lt hNn hy3.2.1) (by first | (rw [if_pos (by omega)]; decide) | (rw [if_neg (by omega)]; decide)) (by first | (rw [if_pos (by omega)]; decide) | (rw [if_neg (by omega)]; decide))) (by omega) (Nat.le_of_ble_eq_true rfl) ?_
                rintro _ ρ4 ⟨rfl, hM4, hG4⟩ -
                refine AW_goto (tgt := 10) dX12_readProduct_98 (by decide) ?_
                have hui := unit_0 hy3.2.1 h02
                first
                | (exfalso; omega; done)
                | (have c42 : tK B n s.2.1 = 42 := by omega
                   rw [if_pos c42] at hM4 hT
                   exact ih (g - 1) (putS (-10) (unitS (tK B n) (tV B n) (stepS s))) _ ρ4 (by show N - (unitS _ _ _).2.1 < nn; omega) hy3.2.1 hM4 (hI3.put _) (by show N + 1 ≤ g - 1 + (unitS _ _ _).2.1; omega) hT (((hF.tr (hG2.mo (by decide) (by decide))).tr (hG3.mo (by decide) (by decide))).tr (hG4.mo (by decide) (by decide))))
                | (have c47 : tK B n s.2.1 = 47 := by omega
                   have ed : divS (tK B n) (tV B n) (stepS s) = unitS (tK B n) (tV B n) (stepS s) := by
                     have hkk : kd (tK B n) (stepS s) = 2 := by omega
                     have hvv : ¬ tV B n (stepS s).2.1 = 0 := by omega
                     unfold divS unitS
                     rw [if_pos hkk, if_pos hkk, if_neg hvv]
                   rw [if_neg (by omega)] at hM4
                   rw [if_neg (by omega), if_pos c47, ed] at hT
                   exact ih (g - 1) (putS (-11) (unitS (tK B n) (tV B n) (stepS s))) _ ρ4 (by show N - (unitS _ _ _).2.1 < nn; omega) hy3.2.1 hM4 (hI3.put _) (by show N + 1 ≤ g - 1 + (unitS _ _ _).2.1; omega) hT (((hF.tr (hG2.mo (by decide) (by decide))).tr (hG3.mo (by decide) (by decide))).tr (hG4.mo (by decide) (by decide))))
              · skip
                replace c_86 := bz1 c_86
                refine AW_iconst dX12_readProduct_89 ?_
                refine AW_goto (tgt := 94) dX12_readProduct_90 (by decide) ?_
                refine AW_iconst dX12_readProduct_94 ?_
                refine AW_callV2 (d' := d - 1) dX12_readProduct_95 (Or.inl lkX12_258) mfX12_emits (hS3.cel rfl) ⟨_, rfl, rfl⟩ (n_emits hS3 hy3.2.2 (if tK B n s.2.1 = 42 then -10 else -11) _ _ (hI3.lt hNn hy3.2.1) (by first | (rw [if_pos (by omega)]; decide) | (rw [if_neg (by omega)]; decide)) (by first | (rw [if_pos (by omega)]; decide) | (rw [if_neg (by omega)]; decide))) (by omega) (Nat.le_of_ble_eq_true rfl) ?_
                rintro _ ρ4 ⟨rfl, hM4, hG4⟩ -
                refine AW_goto (tgt := 10) dX12_readProduct_98 (by decide) ?_
                have hui := unit_0 hy3.2.1 h02
                first
                | (exfalso; omega; done)
                | (have c42 : tK B n s.2.1 = 42 := by omega
                   rw [if_pos c42] at hM4 hT
                   exact ih (g - 1) (putS (-10) (unitS (tK B n) (tV B n) (stepS s))) _ ρ4 (by show N - (unitS _ _ _).2.1 < nn; omega) hy3.2.1 hM4 (hI3.put _) (by show N + 1 ≤ g - 1 + (unitS _ _ _).2.1; omega) hT (((hF.tr (hG2.mo (by decide) (by decide))).tr (hG3.mo (by decide) (by decide))).tr (hG4.mo (by decide) (by decide))))
                | (have c47 : tK B n s.2.1 = 47 := by omega
                   have ed : divS (tK B n) (tV B n) (stepS s) = unitS (tK B n) (tV B n) (stepS s) := by
                     have hkk : kd (tK B n) (stepS s) = 2 := by omega
                     have hvv : ¬ tV B n (stepS s).2.1 = 0 := by omega
                     unfold divS unitS
                     rw [if_pos hkk, if_pos hkk, if_neg hvv]
                   rw [if_neg (by omega)] at hM4
                   rw [if_neg (by omega), if_pos c47, ed] at hT
                   exact ih (g - 1) (putS (-11) (unitS (tK B n) (tV B n) (stepS s))) _ ρ4 (by show N - (unitS _ _ _).2.1 < nn; omega) hy3.2.1 hM4 (hI3.put _) (by show N + 1 ≤ g - 1 + (unitS _ _ _).2.1; omega) hT (((hF.tr (hG2.mo (by decide) (by decide))).tr (hG3.mo (by decide) (by decide))).tr (hG4.mo (by decide) (by decide))))
            · skip
              have hy3 := hz3.elim (fun q => absurd (q.1.symm.trans c_79) (by decide)) id
              refine AW_iconst dX12_readProduct_82 ?_
              refine AW_iret dX12_readProduct_83 rfl ?_
              have hW := (hF.tr (hG2.mo (by decide) (by decide))).tr (hG3.mo (by decide) (by decide))
              first
              | (exfalso; omega; done)
              | (have c42 : tK B n s.2.1 = 42 := by omega
                 rw [if_pos c42, prodL_f (show (putS (-10) (unitS (tK B n) (tV B n) (stepS s))).1 ≠ 0 from hy3.2.1)] at hT
                 rw [← hT]
                 exact ⟨Or.inr ⟨hy3.2.1, rfl, hy3.2.2.1, hy3.2.2.2⟩, hW⟩)
              | (have c47 : tK B n s.2.1 = 47 := by omega
                 have ed : divS (tK B n) (tV B n) (stepS s) = unitS (tK B n) (tV B n) (stepS s) := by
                   have hkk : kd (tK B n) (stepS s) = 2 := by omega
                   have hvv : ¬ tV B n (stepS s).2.1 = 0 := by omega
                   unfold divS unitS
                   rw [if_pos hkk, if_pos hkk, if_neg hvv]
                 rw [if_neg (by omega), if_pos c47, ed, prodL_f (show (putS (-11) (unitS (tK B n) (tV B n) (stepS s))).1 ≠ 0 from hy3.2.1)] at hT
                 rw [← hT]
                 exact ⟨Or.inr ⟨hy3.2.1, rfl, hy3.2.2.1, hy3.2.2.2⟩, hW⟩)
          · skip
            replace c_58 := bz0 c_58
            refine AW_aload_n dX12_readProduct_61 rfl ?_
            refine AW_getI dX12_readProduct_62 gfX12_231 (hS2.cel rfl) ?_
            refine AW_if_ne (tgt := 74) dX12_readProduct_65 (by decide) (fun c_65 => ?_) (fun c_65 => ?_)
            · skip
              refine AW_aload_n dX12_readProduct_74 rfl ?_
              refine AW_callV0 (d' := d - 1) dX12_readProduct_75 (Or.inl lkX12_265) mfX12_readUnit (hS2.cel rfl) ⟨_, rfl, rfl⟩ (n_unit (by omega) hS2 hby hN hNn hM2 h0 (hI2.mono (by omega))) (by omega) (Nat.le_of_ble_eq_true rfl) ?_
              rintro _ ρ3 ⟨hret3, hG3⟩ -
              obtain ⟨z3, rfl, hz3⟩ := hret3.z
              have hS3 := hG3.sta hS2
              have hI3 := hI2.unit (tV B n) hN
              refine AW_iconst dX12_readProduct_78 ?_
              refine AW_icmp_ne (tgt := 84) dX12_readProduct_79 (by decide) (fun c_79 => ?_) (fun c_79 => ?_)
              · skip
                have hy3 := hz3.elim id (fun q => absurd q.1 c_79)
                refine AW_aload_n dX12_readProduct_84 rfl ?_
                refine AW_iload_n dX12_readProduct_85 rfl ?_
                refine AW_if_eq (tgt := 93) dX12_readProduct_86 (by decide) (fun c_86 => ?_) (fun c_86 => ?_)
                · skip
                  replace c_86 := bz0 c_86
                  refine AW_iconst dX12_readProduct_93 ?_
                  refine AW_iconst dX12_readProduct_94 ?_
                  refine AW_callV2 (d' := d - 1) dX12_readProduct_95 (Or.inl lkX12_258) mfX12_emits (hS3.cel rfl) ⟨_, rfl, rfl⟩ (n_emits hS3 hy3.2.2 (if tK B n s.2.1 = 42 then -10 else -11) _ _ (hI3.lt hNn hy3.2.1) (by first | (rw [if_pos (by omega)]; decide) | (rw [if_neg (by omega)]; decide)) (by first | (rw [if_pos (by omega)]; decide) | (rw [if_neg (by omega)]; decide))) (by omega) (Nat.le_of_ble_eq_true rfl) ?_
                  rintro _ ρ4 ⟨rfl, hM4, hG4⟩ -
                  refine AW_goto (tgt := 10) dX12_readProduct_98 (by decide) ?_
                  have hui := unit_0 hy3.2.1 h02
                  first
                  | (exfalso; omega; done)
                  | (have c42 : tK B n s.2.1 = 42 := by omega
                     rw [if_pos c42] at hM4 hT
                     exact ih (g - 1) (putS (-10) (unitS (tK B n) (tV B n) (stepS s))) _ ρ4 (by show N - (unitS _ _ _).2.1 < nn; omega) hy3.2.1 hM4 (hI3.put _) (by show N + 1 ≤ g - 1 + (unitS _ _ _).2.1; omega) hT (((hF.tr (hG2.mo (by decide) (by decide))).tr (hG3.mo (by decide) (by decide))).tr (hG4.mo (by decide) (by decide))))
                  | (have c47 : tK B n s.2.1 = 47 := by omega
                     have ed : divS (tK B n) (tV B n) (stepS s) = unitS (tK B n) (tV B n) (stepS s) := by
                       have hkk : kd (tK B n) (stepS s) = 2 := by omega
                       have hvv : ¬ tV B n (stepS s).2.1 = 0 := by omega
                       unfold divS unitS
                       rw [if_pos hkk, if_pos hkk, if_neg hvv]
                     rw [if_neg (by omega)] at hM4
                     rw [if_neg (by omega), if_pos c47, ed] at hT
                     exact ih (g - 1) (putS (-11) (unitS (tK B n) (tV B n) (stepS s))) _ ρ4 (by show N - (unitS _ _ _).2.1 < nn; omega) hy3.2.1 hM4 (hI3.put _) (by show N + 1 ≤ g - 1 + (unitS _ _ _).2.1; omega) hT (((hF.tr (hG2.mo (by decide) (by decide))).tr (hG3.mo (by decide) (by decide))).tr (hG4.mo (by decide) (by decide))))
                · skip
                  replace c_86 := bz1 c_86
                  refine AW_iconst dX12_readProduct_89 ?_
                  refine AW_goto (tgt := 94) dX12_readProduct_90 (by decide) ?_
                  refine AW_iconst dX12_readProduct_94 ?_
                  refine AW_callV2 (d' := d - 1) dX12_readProduct_95 (Or.inl lkX12_258) mfX12_emits (hS3.cel rfl) ⟨_, rfl, rfl⟩ (n_emits hS3 hy3.2.2 (if tK B n s.2.1 = 42 then -10 else -11) _ _ (hI3.lt hNn hy3.2.1) (by first | (rw [if_pos (by omega)]; decide) | (rw [if_neg (by omega)]; decide)) (by first | (rw [if_pos (by omega)]; decide) | (rw [if_neg (by omega)]; decide))) (by omega) (Nat.le_of_ble_eq_true rfl) ?_
                  rintro _ ρ4 ⟨rfl, hM4, hG4⟩ -
                  refine AW_goto (tgt := 10) dX12_readProduct_98 (by decide) ?_
                  have hui := unit_0 hy3.2.1 h02
                  first
                  | (exfalso; omega; done)
                  | (have c42 : tK B n s.2.1 = 42 := by omega
                     rw [if_pos c42] at hM4 hT
                     exact ih (g - 1) (putS (-10) (unitS (tK B n) (tV B n) (stepS s))) _ ρ4 (by show N - (unitS _ _ _).2.1 < nn; omega) hy3.2.1 hM4 (hI3.put _) (by show N + 1 ≤ g - 1 + (unitS _ _ _).2.1; omega) hT (((hF.tr (hG2.mo (by decide) (by decide))).tr (hG3.mo (by decide) (by decide))).tr (hG4.mo (by decide) (by decide))))
                  | (have c47 : tK B n s.2.1 = 47 := by omega
                     have ed : divS (tK B n) (tV B n) (stepS s) = unitS (tK B n) (tV B n) (stepS s) := by
                       have hkk : kd (tK B n) (stepS s) = 2 := by omega
                       have hvv : ¬ tV B n (stepS s).2.1 = 0 := by omega
                       unfold divS unitS
                       rw [if_pos hkk, if_pos hkk, if_neg hvv]
                     rw [if_neg (by omega)] at hM4
                     rw [if_neg (by omega), if_pos c47, ed] at hT
                     exact ih (g - 1) (putS (-11) (unitS (tK B n) (tV B n) (stepS s))) _ ρ4 (by show N - (unitS _ _ _).2.1 < nn; omega) hy3.2.1 hM4 (hI3.put _) (by show N + 1 ≤ g - 1 + (unitS _ _ _).2.1; omega) hT (((hF.tr (hG2.mo (by decide) (by decide))).tr (hG3.mo (by decide) (by decide))).tr (hG4.mo (by decide) (by decide))))
              · skip
                have hy3 := hz3.elim (fun q => absurd (q.1.symm.trans c_79) (by decide)) id
                refine AW_iconst dX12_readProduct_82 ?_
                refine AW_iret dX12_readProduct_83 rfl ?_
                have hW := (hF.tr (hG2.mo (by decide) (by decide))).tr (hG3.mo (by decide) (by decide))
                first
                | (exfalso; omega; done)
                | (have c42 : tK B n s.2.1 = 42 := by omega
                   rw [if_pos c42, prodL_f (show (putS (-10) (unitS (tK B n) (tV B n) (stepS s))).1 ≠ 0 from hy3.2.1)] at hT
                   rw [← hT]
                   exact ⟨Or.inr ⟨hy3.2.1, rfl, hy3.2.2.1, hy3.2.2.2⟩, hW⟩)
                | (have c47 : tK B n s.2.1 = 47 := by omega
                   have ed : divS (tK B n) (tV B n) (stepS s) = unitS (tK B n) (tV B n) (stepS s) := by
                     have hkk : kd (tK B n) (stepS s) = 2 := by omega
                     have hvv : ¬ tV B n (stepS s).2.1 = 0 := by omega
                     unfold divS unitS
                     rw [if_pos hkk, if_pos hkk, if_neg hvv]
                   rw [if_neg (by omega), if_pos c47, ed, prodL_f (show (putS (-11) (unitS (tK B n) (tV B n) (stepS s))).1 ≠ 0 from hy3.2.1)] at hT
                   rw [← hT]
                   exact ⟨Or.inr ⟨hy3.2.1, rfl, hy3.2.2.1, hy3.2.2.2⟩, hW⟩)
            · skip
              refine AW_aload_n dX12_readProduct_68 rfl ?_
              refine AW_iconst dX12_readProduct_69 ?_
              refine AW_callV1 (d' := d - 1) dX12_readProduct_70 (Or.inl lkX12_255) mfX12_fails (hS2.cel rfl) ⟨_, rfl, rfl⟩ (n_fails hS2 2) (by omega) (Nat.le_of_ble_eq_true rfl) ?_
              rintro _ ρ3 ⟨rfl, q1, q2, q3⟩ -
              refine AW_iret dX12_readProduct_73 rfl ?_
              first
              | (exfalso; omega; done)
              | (have ed : divS (tK B n) (tV B n) (stepS s) = (2, (stepS s).2) := by
                   unfold divS blameS
                   rw [if_pos (by omega), if_pos (by omega), if_pos h02]
                 rw [if_neg (by omega), if_pos (by omega), ed, prodL_f (show (putS (-11) (2, (stepS s).2)).1 ≠ 0 from (by decide : (2 : Int) ≠ 0))] at hT
                 rw [← hT]
                 exact ⟨Or.inr ⟨(by decide : (2 : Int) ≠ 0), rfl, q1, by rw [q2, hM2.2.2.1]; rfl⟩, (hF.tr (hG2.mo (by decide) (by decide))).tr (q3.mo (by decide) (by decide))⟩)
        · skip
          replace c_40 := bz0 c_40
          refine AW_aload_n dX12_readProduct_43 rfl ?_
          refine AW_getI dX12_readProduct_44 gfX12_228 (hS2.cel rfl) ?_
          refine AW_iconst dX12_readProduct_47 ?_
          refine AW_icmp_eq (tgt := 57) dX12_readProduct_48 (by decide) (fun c_48 => ?_) (fun c_48 => ?_)
          · skip
            refine AW_iload_n dX12_readProduct_57 rfl ?_
            refine AW_if_ne (tgt := 74) dX12_readProduct_58 (by decide) (fun c_58 => ?_) (fun c_58 => ?_)
            · skip
              replace c_58 := bz1 c_58
              refine AW_aload_n dX12_readProduct_74 rfl ?_
              refine AW_callV0 (d' := d - 1) dX12_readProduct_75 (Or.inl lkX12_265) mfX12_readUnit (hS2.cel rfl) ⟨_, rfl, rfl⟩ (n_unit (by omega) hS2 hby hN hNn hM2 h0 (hI2.mono (by omega))) (by omega) (Nat.le_of_ble_eq_true rfl) ?_
              rintro _ ρ3 ⟨hret3, hG3⟩ -
              obtain ⟨z3, rfl, hz3⟩ := hret3.z
              have hS3 := hG3.sta hS2
              have hI3 := hI2.unit (tV B n) hN
              refine AW_iconst dX12_readProduct_78 ?_
              refine AW_icmp_ne (tgt := 84) dX12_readProduct_79 (by decide) (fun c_79 => ?_) (fun c_79 => ?_)
              · skip
                have hy3 := hz3.elim id (fun q => absurd q.1 c_79)
                refine AW_aload_n dX12_readProduct_84 rfl ?_
                refine AW_iload_n dX12_readProduct_85 rfl ?_
                refine AW_if_eq (tgt := 93) dX12_readProduct_86 (by decide) (fun c_86 => ?_) (fun c_86 => ?_)
                · skip
                  replace c_86 := bz0 c_86
                  refine AW_iconst dX12_readProduct_93 ?_
                  refine AW_iconst dX12_readProduct_94 ?_
                  refine AW_callV2 (d' := d - 1) dX12_readProduct_95 (Or.inl lkX12_258) mfX12_emits (hS3.cel rfl) ⟨_, rfl, rfl⟩ (n_emits hS3 hy3.2.2 (if tK B n s.2.1 = 42 then -10 else -11) _ _ (hI3.lt hNn hy3.2.1) (by first | (rw [if_pos (by omega)]; decide) | (rw [if_neg (by omega)]; decide)) (by first | (rw [if_pos (by omega)]; decide) | (rw [if_neg (by omega)]; decide))) (by omega) (Nat.le_of_ble_eq_true rfl) ?_
                  rintro _ ρ4 ⟨rfl, hM4, hG4⟩ -
                  refine AW_goto (tgt := 10) dX12_readProduct_98 (by decide) ?_
                  have hui := unit_0 hy3.2.1 h02
                  first
                  | (exfalso; omega; done)
                  | (have c42 : tK B n s.2.1 = 42 := by omega
                     rw [if_pos c42] at hM4 hT
                     exact ih (g - 1) (putS (-10) (unitS (tK B n) (tV B n) (stepS s))) _ ρ4 (by show N - (unitS _ _ _).2.1 < nn; omega) hy3.2.1 hM4 (hI3.put _) (by show N + 1 ≤ g - 1 + (unitS _ _ _).2.1; omega) hT (((hF.tr (hG2.mo (by decide) (by decide))).tr (hG3.mo (by decide) (by decide))).tr (hG4.mo (by decide) (by decide))))
                  | (have c47 : tK B n s.2.1 = 47 := by omega
                     have ed : divS (tK B n) (tV B n) (stepS s) = unitS (tK B n) (tV B n) (stepS s) := by
                       have hkk : kd (tK B n) (stepS s) = 2 := by omega
                       have hvv : ¬ tV B n (stepS s).2.1 = 0 := by omega
                       unfold divS unitS
                       rw [if_pos hkk, if_pos hkk, if_neg hvv]
                     rw [if_neg (by omega)] at hM4
                     rw [if_neg (by omega), if_pos c47, ed] at hT
                     exact ih (g - 1) (putS (-11) (unitS (tK B n) (tV B n) (stepS s))) _ ρ4 (by show N - (unitS _ _ _).2.1 < nn; omega) hy3.2.1 hM4 (hI3.put _) (by show N + 1 ≤ g - 1 + (unitS _ _ _).2.1; omega) hT (((hF.tr (hG2.mo (by decide) (by decide))).tr (hG3.mo (by decide) (by decide))).tr (hG4.mo (by decide) (by decide))))
                · skip
                  replace c_86 := bz1 c_86
                  refine AW_iconst dX12_readProduct_89 ?_
                  refine AW_goto (tgt := 94) dX12_readProduct_90 (by decide) ?_
                  refine AW_iconst dX12_readProduct_94 ?_
                  refine AW_callV2 (d' := d - 1) dX12_readProduct_95 (Or.inl lkX12_258) mfX12_emits (hS3.cel rfl) ⟨_, rfl, rfl⟩ (n_emits hS3 hy3.2.2 (if tK B n s.2.1 = 42 then -10 else -11) _ _ (hI3.lt hNn hy3.2.1) (by first | (rw [if_pos (by omega)]; decide) | (rw [if_neg (by omega)]; decide)) (by first | (rw [if_pos (by omega)]; decide) | (rw [if_neg (by omega)]; decide))) (by omega) (Nat.le_of_ble_eq_true rfl) ?_
                  rintro _ ρ4 ⟨rfl, hM4, hG4⟩ -
                  refine AW_goto (tgt := 10) dX12_readProduct_98 (by decide) ?_
                  have hui := unit_0 hy3.2.1 h02
                  first
                  | (exfalso; omega; done)
                  | (have c42 : tK B n s.2.1 = 42 := by omega
                     rw [if_pos c42] at hM4 hT
                     exact ih (g - 1) (putS (-10) (unitS (tK B n) (tV B n) (stepS s))) _ ρ4 (by show N - (unitS _ _ _).2.1 < nn; omega) hy3.2.1 hM4 (hI3.put _) (by show N + 1 ≤ g - 1 + (unitS _ _ _).2.1; omega) hT (((hF.tr (hG2.mo (by decide) (by decide))).tr (hG3.mo (by decide) (by decide))).tr (hG4.mo (by decide) (by decide))))
                  | (have c47 : tK B n s.2.1 = 47 := by omega
                     have ed : divS (tK B n) (tV B n) (stepS s) = unitS (tK B n) (tV B n) (stepS s) := by
                       have hkk : kd (tK B n) (stepS s) = 2 := by omega
                       have hvv : ¬ tV B n (stepS s).2.1 = 0 := by omega
                       unfold divS unitS
                       rw [if_pos hkk, if_pos hkk, if_neg hvv]
                     rw [if_neg (by omega)] at hM4
                     rw [if_neg (by omega), if_pos c47, ed] at hT
                     exact ih (g - 1) (putS (-11) (unitS (tK B n) (tV B n) (stepS s))) _ ρ4 (by show N - (unitS _ _ _).2.1 < nn; omega) hy3.2.1 hM4 (hI3.put _) (by show N + 1 ≤ g - 1 + (unitS _ _ _).2.1; omega) hT (((hF.tr (hG2.mo (by decide) (by decide))).tr (hG3.mo (by decide) (by decide))).tr (hG4.mo (by decide) (by decide))))
              · skip
                have hy3 := hz3.elim (fun q => absurd (q.1.symm.trans c_79) (by decide)) id
                refine AW_iconst dX12_readProduct_82 ?_
                refine AW_iret dX12_readProduct_83 rfl ?_
                have hW := (hF.tr (hG2.mo (by decide) (by decide))).tr (hG3.mo (by decide) (by decide))
                first
                | (exfalso; omega; done)
                | (have c42 : tK B n s.2.1 = 42 := by omega
                   rw [if_pos c42, prodL_f (show (putS (-10) (unitS (tK B n) (tV B n) (stepS s))).1 ≠ 0 from hy3.2.1)] at hT
                   rw [← hT]
                   exact ⟨Or.inr ⟨hy3.2.1, rfl, hy3.2.2.1, hy3.2.2.2⟩, hW⟩)
                | (have c47 : tK B n s.2.1 = 47 := by omega
                   have ed : divS (tK B n) (tV B n) (stepS s) = unitS (tK B n) (tV B n) (stepS s) := by
                     have hkk : kd (tK B n) (stepS s) = 2 := by omega
                     have hvv : ¬ tV B n (stepS s).2.1 = 0 := by omega
                     unfold divS unitS
                     rw [if_pos hkk, if_pos hkk, if_neg hvv]
                   rw [if_neg (by omega), if_pos c47, ed, prodL_f (show (putS (-11) (unitS (tK B n) (tV B n) (stepS s))).1 ≠ 0 from hy3.2.1)] at hT
                   rw [← hT]
                   exact ⟨Or.inr ⟨hy3.2.1, rfl, hy3.2.2.1, hy3.2.2.2⟩, hW⟩)
            · skip
              replace c_58 := bz0 c_58
              refine AW_aload_n dX12_readProduct_61 rfl ?_
              refine AW_getI dX12_readProduct_62 gfX12_231 (hS2.cel rfl) ?_
              refine AW_if_ne (tgt := 74) dX12_readProduct_65 (by decide) (fun c_65 => ?_) (fun c_65 => ?_)
              · skip
                refine AW_aload_n dX12_readProduct_74 rfl ?_
                refine AW_callV0 (d' := d - 1) dX12_readProduct_75 (Or.inl lkX12_265) mfX12_readUnit (hS2.cel rfl) ⟨_, rfl, rfl⟩ (n_unit (by omega) hS2 hby hN hNn hM2 h0 (hI2.mono (by omega))) (by omega) (Nat.le_of_ble_eq_true rfl) ?_
                rintro _ ρ3 ⟨hret3, hG3⟩ -
                obtain ⟨z3, rfl, hz3⟩ := hret3.z
                have hS3 := hG3.sta hS2
                have hI3 := hI2.unit (tV B n) hN
                refine AW_iconst dX12_readProduct_78 ?_
                refine AW_icmp_ne (tgt := 84) dX12_readProduct_79 (by decide) (fun c_79 => ?_) (fun c_79 => ?_)
                · skip
                  have hy3 := hz3.elim id (fun q => absurd q.1 c_79)
                  refine AW_aload_n dX12_readProduct_84 rfl ?_
                  refine AW_iload_n dX12_readProduct_85 rfl ?_
                  refine AW_if_eq (tgt := 93) dX12_readProduct_86 (by decide) (fun c_86 => ?_) (fun c_86 => ?_)
                  · skip
                    replace c_86 := bz0 c_86
                    refine AW_iconst dX12_readProduct_93 ?_
                    refine AW_iconst dX12_readProduct_94 ?_
                    refine AW_callV2 (d' := d - 1) dX12_readProduct_95 (Or.inl lkX12_258) mfX12_emits (hS3.cel rfl) ⟨_, rfl, rfl⟩ (n_emits hS3 hy3.2.2 (if tK B n s.2.1 = 42 then -10 else -11) _ _ (hI3.lt hNn hy3.2.1) (by first | (rw [if_pos (by omega)]; decide) | (rw [if_neg (by omega)]; decide)) (by first | (rw [if_pos (by omega)]; decide) | (rw [if_neg (by omega)]; decide))) (by omega) (Nat.le_of_ble_eq_true rfl) ?_
                    rintro _ ρ4 ⟨rfl, hM4, hG4⟩ -
                    refine AW_goto (tgt := 10) dX12_readProduct_98 (by decide) ?_
                    have hui := unit_0 hy3.2.1 h02
                    first
                    | (exfalso; omega; done)
                    | (have c42 : tK B n s.2.1 = 42 := by omega
                       rw [if_pos c42] at hM4 hT
                       exact ih (g - 1) (putS (-10) (unitS (tK B n) (tV B n) (stepS s))) _ ρ4 (by show N - (unitS _ _ _).2.1 < nn; omega) hy3.2.1 hM4 (hI3.put _) (by show N + 1 ≤ g - 1 + (unitS _ _ _).2.1; omega) hT (((hF.tr (hG2.mo (by decide) (by decide))).tr (hG3.mo (by decide) (by decide))).tr (hG4.mo (by decide) (by decide))))
                    | (have c47 : tK B n s.2.1 = 47 := by omega
                       have ed : divS (tK B n) (tV B n) (stepS s) = unitS (tK B n) (tV B n) (stepS s) := by
                         have hkk : kd (tK B n) (stepS s) = 2 := by omega
                         have hvv : ¬ tV B n (stepS s).2.1 = 0 := by omega
                         unfold divS unitS
                         rw [if_pos hkk, if_pos hkk, if_neg hvv]
                       rw [if_neg (by omega)] at hM4
                       rw [if_neg (by omega), if_pos c47, ed] at hT
                       exact ih (g - 1) (putS (-11) (unitS (tK B n) (tV B n) (stepS s))) _ ρ4 (by show N - (unitS _ _ _).2.1 < nn; omega) hy3.2.1 hM4 (hI3.put _) (by show N + 1 ≤ g - 1 + (unitS _ _ _).2.1; omega) hT (((hF.tr (hG2.mo (by decide) (by decide))).tr (hG3.mo (by decide) (by decide))).tr (hG4.mo (by decide) (by decide))))
                  · skip
                    replace c_86 := bz1 c_86
                    refine AW_iconst dX12_readProduct_89 ?_
                    refine AW_goto (tgt := 94) dX12_readProduct_90 (by decide) ?_
                    refine AW_iconst dX12_readProduct_94 ?_
                    refine AW_callV2 (d' := d - 1) dX12_readProduct_95 (Or.inl lkX12_258) mfX12_emits (hS3.cel rfl) ⟨_, rfl, rfl⟩ (n_emits hS3 hy3.2.2 (if tK B n s.2.1 = 42 then -10 else -11) _ _ (hI3.lt hNn hy3.2.1) (by first | (rw [if_pos (by omega)]; decide) | (rw [if_neg (by omega)]; decide)) (by first | (rw [if_pos (by omega)]; decide) | (rw [if_neg (by omega)]; decide))) (by omega) (Nat.le_of_ble_eq_true rfl) ?_
                    rintro _ ρ4 ⟨rfl, hM4, hG4⟩ -
                    refine AW_goto (tgt := 10) dX12_readProduct_98 (by decide) ?_
                    have hui := unit_0 hy3.2.1 h02
                    first
                    | (exfalso; omega; done)
                    | (have c42 : tK B n s.2.1 = 42 := by omega
                       rw [if_pos c42] at hM4 hT
                       exact ih (g - 1) (putS (-10) (unitS (tK B n) (tV B n) (stepS s))) _ ρ4 (by show N - (unitS _ _ _).2.1 < nn; omega) hy3.2.1 hM4 (hI3.put _) (by show N + 1 ≤ g - 1 + (unitS _ _ _).2.1; omega) hT (((hF.tr (hG2.mo (by decide) (by decide))).tr (hG3.mo (by decide) (by decide))).tr (hG4.mo (by decide) (by decide))))
                    | (have c47 : tK B n s.2.1 = 47 := by omega
                       have ed : divS (tK B n) (tV B n) (stepS s) = unitS (tK B n) (tV B n) (stepS s) := by
                         have hkk : kd (tK B n) (stepS s) = 2 := by omega
                         have hvv : ¬ tV B n (stepS s).2.1 = 0 := by omega
                         unfold divS unitS
                         rw [if_pos hkk, if_pos hkk, if_neg hvv]
                       rw [if_neg (by omega)] at hM4
                       rw [if_neg (by omega), if_pos c47, ed] at hT
                       exact ih (g - 1) (putS (-11) (unitS (tK B n) (tV B n) (stepS s))) _ ρ4 (by show N - (unitS _ _ _).2.1 < nn; omega) hy3.2.1 hM4 (hI3.put _) (by show N + 1 ≤ g - 1 + (unitS _ _ _).2.1; omega) hT (((hF.tr (hG2.mo (by decide) (by decide))).tr (hG3.mo (by decide) (by decide))).tr (hG4.mo (by decide) (by decide))))
                · skip
                  have hy3 := hz3.elim (fun q => absurd (q.1.symm.trans c_79) (by decide)) id
                  refine AW_iconst dX12_readProduct_82 ?_
                  refine AW_iret dX12_readProduct_83 rfl ?_
                  have hW := (hF.tr (hG2.mo (by decide) (by decide))).tr (hG3.mo (by decide) (by decide))
                  first
                  | (exfalso; omega; done)
                  | (have c42 : tK B n s.2.1 = 42 := by omega
                     rw [if_pos c42, prodL_f (show (putS (-10) (unitS (tK B n) (tV B n) (stepS s))).1 ≠ 0 from hy3.2.1)] at hT
                     rw [← hT]
                     exact ⟨Or.inr ⟨hy3.2.1, rfl, hy3.2.2.1, hy3.2.2.2⟩, hW⟩)
                  | (have c47 : tK B n s.2.1 = 47 := by omega
                     have ed : divS (tK B n) (tV B n) (stepS s) = unitS (tK B n) (tV B n) (stepS s) := by
                       have hkk : kd (tK B n) (stepS s) = 2 := by omega
                       have hvv : ¬ tV B n (stepS s).2.1 = 0 := by omega
                       unfold divS unitS
                       rw [if_pos hkk, if_pos hkk, if_neg hvv]
                     rw [if_neg (by omega), if_pos c47, ed, prodL_f (show (putS (-11) (unitS (tK B n) (tV B n) (stepS s))).1 ≠ 0 from hy3.2.1)] at hT
                     rw [← hT]
                     exact ⟨Or.inr ⟨hy3.2.1, rfl, hy3.2.2.1, hy3.2.2.2⟩, hW⟩)
              · skip
                refine AW_aload_n dX12_readProduct_68 rfl ?_
                refine AW_iconst dX12_readProduct_69 ?_
                refine AW_callV1 (d' := d - 1) dX12_readProduct_70 (Or.inl lkX12_255) mfX12_fails (hS2.cel rfl) ⟨_, rfl, rfl⟩ (n_fails hS2 2) (by omega) (Nat.le_of_ble_eq_true rfl) ?_
                rintro _ ρ3 ⟨rfl, q1, q2, q3⟩ -
                refine AW_iret dX12_readProduct_73 rfl ?_
                first
                | (exfalso; omega; done)
                | (have ed : divS (tK B n) (tV B n) (stepS s) = (2, (stepS s).2) := by
                     unfold divS blameS
                     rw [if_pos (by omega), if_pos (by omega), if_pos h02]
                   rw [if_neg (by omega), if_pos (by omega), ed, prodL_f (show (putS (-11) (2, (stepS s).2)).1 ≠ 0 from (by decide : (2 : Int) ≠ 0))] at hT
                   rw [← hT]
                   exact ⟨Or.inr ⟨(by decide : (2 : Int) ≠ 0), rfl, q1, by rw [q2, hM2.2.2.1]; rfl⟩, (hF.tr (hG2.mo (by decide) (by decide))).tr (q3.mo (by decide) (by decide))⟩)
          · skip
            refine AW_aload_n dX12_readProduct_51 rfl ?_
            refine AW_iconst dX12_readProduct_52 ?_
            refine AW_callV1 (d' := d - 1) dX12_readProduct_53 (Or.inl lkX12_255) mfX12_fails (hS2.cel rfl) ⟨_, rfl, rfl⟩ (n_fails hS2 1) (by omega) (Nat.le_of_ble_eq_true rfl) ?_
            rintro _ ρ3 ⟨rfl, q1, q2, q3⟩ -
            refine AW_iret dX12_readProduct_56 rfl ?_
            first
            | (exfalso; omega; done)
            | (have ed : divS (tK B n) (tV B n) (stepS s) = (1, (stepS s).2) := by
                 unfold divS blameS
                 rw [if_neg (by omega), if_pos h02]
               rw [if_neg (by omega), if_pos (by omega), ed, prodL_f (show (putS (-11) (1, (stepS s).2)).1 ≠ 0 from (by decide : (1 : Int) ≠ 0))] at hT
               rw [← hT]
               exact ⟨Or.inr ⟨(by decide : (1 : Int) ≠ 0), rfl, q1, by rw [q2, hM2.2.2.1]; rfl⟩, (hF.tr (hG2.mo (by decide) (by decide))).tr (q3.mo (by decide) (by decide))⟩)
theorem n_prod {G : Gt} {d : Nat} {σ : St} (hd : 4 ≤ d) {B : Nat → Int} {n N : Nat} {s : PS} (hS : Sta σ) (hby : byB B n) (hN : Fn (tK B n) N) (hNn : N ≤ 400) (hM : Md B n σ s) (h0 : s.1 = 0) (hI : Inv N 0 s) {g : Nat} (hg : N ≤ g + s.2.1)  : AM mX12_readProduct G d 0 0 [vR 94] σ (fun ro ρ => Ret B n (prodL (tK B n) (tV B n) g (unitS (tK B n) (tV B n) s)) ro ρ ∧ Fe [22, 23, 24, 25, 34, 38, 39] [110, 111] σ ρ) := by
  refine AM.intro (by decide +kernel) (by simp [nLg]) (Nat.le_of_ble_eq_true rfl) (fun hO => ?_)
  show AW _ _ _ _ _ _ 0 [some (vR 94), none] [] σ
  refine AW_aload_n dX12_readProduct_0 rfl ?_
  refine AW_callV0 (d' := d - 1) dX12_readProduct_1 (Or.inl lkX12_265) mfX12_readUnit (hS.cel rfl) ⟨_, rfl, rfl⟩ (n_unit (by omega) hS hby hN hNn hM h0 hI) (by omega) (Nat.le_of_ble_eq_true rfl) ?_
  rintro _ ρ1 ⟨hret1, hG1⟩ -
  obtain ⟨z1, rfl, hz1⟩ := hret1.z
  have hS1 := hG1.sta hS
  refine AW_iconst dX12_readProduct_4 ?_
  refine AW_icmp_ne (tgt := 10) dX12_readProduct_5 (by decide) (fun c_5 => ?_) (fun c_5 => ?_)
  · skip
    have hy1 := hz1.elim id (fun q => absurd q.1 c_5)
    have hui := unit_0 hy1.2.1 h0
    exact ln_prod hd hS hby hN hNn (N + 1) g _ none ρ1 (by omega) hy1.2.1 hy1.2.2 (hI.unit (tV B n) hN) (by omega) rfl hG1
  · skip
    have hy1 := hz1.elim (fun q => absurd (q.1.symm.trans c_5) (by decide)) id
    refine AW_iconst dX12_readProduct_8 ?_
    refine AW_iret dX12_readProduct_9 rfl ?_
    rw [prodL_f hy1.2.1]
    exact ⟨Or.inr ⟨hy1.2.1, rfl, hy1.2.2.1, hy1.2.2.2⟩, hG1⟩
