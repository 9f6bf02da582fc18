-- the start
def E0 : St := ((fun _ => (0, 0)), (fun _ _ => 0), (fun _ _ => 0), 16)
def T1 : St := fNotYet (nwC E0 (11, 8))
def T0 : St := fModel (nwC T1 (12, 74))
def D0 : Mk := fun a k => match a with
  | 0 => if k < 2 then 3 else 0
  | 3 => -1
  | 4 => [1, 100, 10, 0, 3, 0, 0].getD k 0
  | _ => 0
def W0 : Wy := (0, fun _ _ => 0, 0, fun _ => 0)
def P0 : Tw := (fun _ _ => 0, fun _ => 0, 0)
theorem t0_n : T0.2.2.2 = 132 := by decide +kernel
theorem t0_k : ∀ i, i < 116 → T0.1 (16 + i) = SHL.getD i (0, 0) := by decide +kernel
theorem t0_l : ∀ i, i < 116 → (RFL.getD i []).length ≤ 74 := by decide +kernel
theorem t0_L : RFL.length = 116 := by decide +kernel
theorem t0_r : ∀ i, i < 116 → ∀ j, j < (RFL.getD i []).length → (RFL.getD i []).getD j 0 ≠ 0 → T0.2.2.1 (16 + i) j = (RFL.getD i []).getD j 0 := by decide +kernel
theorem t0_sta : Sta T0 := by
  refine ⟨by rw [t0_n]; exact Nat.le_refl _, fun r k h => ?_, fun r j a h16 h => ?_⟩
  · unfold shc at h
    split at h
    · have h1 := (List.getElem?_eq_some_iff.mp h).1
      have h2 : SHL.length = 116 := rfl
      have h3 := t0_k (r - 16) (by omega)
      rw [show 16 + (r - 16) = r by omega] at h3
      rw [h3, List.getD_eq_getElem?_getD, h]
      rfl
    · cases h
  · have hv : ∀ x : Nat, (match x with | 0 => none | a + 1 => some (a + 1) : Option Nat) = some a → x = a ∧ x ≠ 0 := fun x q => by
      cases x with
      | zero => cases q
      | succ x => injection q with q; exact ⟨q, Nat.succ_ne_zero x⟩
    obtain ⟨e1, e2⟩ := hv _ h
    have hi : r - 16 < 116 := by
      rcases Nat.lt_or_ge (r - 16) 116 with q | q
      · exact q
      · exfalso
        apply e2
        have : RFL.getD (r - 16) [] = [] := by
          rw [List.getD_eq_getElem?_getD, List.getElem?_eq_none (by rw [t0_L]; exact q)]
          rfl
        rw [this]
        rfl
    have hj : j < (RFL.getD (r - 16) []).length := by
      rcases Nat.lt_or_ge j (RFL.getD (r - 16) []).length with q | q
      · exact q
      · exfalso
        apply e2
        rw [List.getD_eq_getElem?_getD, List.getElem?_eq_none q]
        rfl
    have h3 := t0_r (r - 16) hi j hj e2
    rw [show 16 + (r - 16) = r by omega] at h3
    rw [h3, e1]
theorem z1 : (-1 : Int) ≤ 999 := by decide
theorem z9 : (0 : Int) ≤ 99 := by decide
theorem z10 : (0 : Int) ≤ 999 := by decide
theorem t0_k90 : T0.1 90 = (20, 8) := by decide +kernel
theorem t0_wf : WFm D0 := by
  refine ⟨by decide +kernel, by decide +kernel, by decide +kernel, fun k _ => ⟨Int.le_refl _, z1⟩, by decide +kernel, by decide +kernel, by decide +kernel, by decide +kernel, by decide +kernel, by decide +kernel, by decide +kernel, fun s i _ _ _ => rfl, fun s _ => ?_⟩
  show (0 : Int) + 0 + 0 + 0 + 0 + 0 ≤ 1000
  decide
theorem t0_ig : Ig 0 T0 := ⟨t0_sta, ⟨by decide +kernel, by decide +kernel⟩, by decide +kernel, by decide +kernel⟩
theorem t0_ip : IP D0 (fun _ => W0) 0 P0 := ⟨t0_wf, fun _ _ l hl => absurd hl (Nat.not_lt_zero l), ⟨Nat.zero_le _, fun p hp => absurd hp (Nat.not_lt_zero p), fun _ _ _ _ => rfl⟩, Int.le_refl _, by decide⟩
theorem t0_repC : RepC D0 T0 := ⟨by decide +kernel, by decide +kernel, by decide +kernel, by decide +kernel, by decide +kernel⟩
theorem t0_repM : RepM D0 T0 := ⟨by decide +kernel, by decide +kernel, by decide +kernel, by decide +kernel, by decide +kernel⟩
theorem t0_wy : ∀ k, k < 6 → T0.2.1 (wcl k) 6 = 0 ∧ T0.2.1 (wcl k) 5 = 0 ∧ T0.2.1 105 k = 0 := by decide +kernel
theorem t0_p : ∀ f, f < 10 → ∀ p, p < 40 → T0.2.1 (113 + f) p = 0 := by decide +kernel
theorem t0_lk : (∀ i, i < 98 → T0.2.1 86 i = 0) ∧ (∀ i, i < 98 → T0.2.1 125 i = 0) ∧ (∀ i, i < 7 → T0.2.1 92 i = 0) ∧ (∀ i, i < 7 → T0.2.1 126 i = 0) := by decide +kernel
theorem t0_wd : wdM T0 := by
  unfold wdM
  decide +kernel
theorem z99 : Lok (fun _ => 0) := fun _ => ⟨Int.le_refl _, z9⟩
theorem t0_fe : FeC 90 8 3 (fun _ => 0) T0 := ⟨⟨by decide +kernel, by decide, t0_lk.1, z99⟩, ⟨by decide +kernel, ⟨by decide, by rw [t0_n]; decide, t0_k90⟩, Or.inl rfl, by decide, by decide⟩, ⟨by decide +kernel, by decide +kernel⟩, Or.inl (by decide +kernel)⟩
theorem t0_ic : IC D0 0 (fun _ => 0) (fun _ => W0) 0 (fun _ => 0) P0 90 8 3 (fun _ => 0) (fun _ => 0) T0 :=
  ⟨t0_repC, ⟨by decide +kernel, fun h => absurd h (by decide +kernel)⟩, ⟨by decide +kernel, fun h => absurd h (by decide +kernel)⟩, ⟨by decide +kernel, Nat.zero_le _, fun k hk => absurd hk (Nat.not_lt_zero k)⟩, by decide +kernel, fun k hk => ⟨(t0_wy k hk).1, Nat.zero_le _, (t0_wy k hk).2.1, Nat.zero_le _, fun l hl => absurd hl (Nat.not_lt_zero l), fun l hl => absurd hl (Nat.not_lt_zero l)⟩, ⟨⟨⟨by decide +kernel, Nat.zero_le _, Or.inl ⟨rfl, by decide +kernel⟩⟩, fun i j hi => absurd hi (Nat.not_lt_zero i), fun i hi => absurd hi (Nat.not_lt_zero i)⟩, by decide +kernel, by decide +kernel⟩, t0_fe, ⟨t0_lk.2.2.1, fun _ => ⟨Int.le_refl _, z10⟩⟩⟩
theorem t0_im : IM D0 0 (fun _ => 0) (fun _ => W0) 0 P0 3 (fun _ => 0) (fun _ => 0) T0 :=
  ⟨t0_repM, Or.inl (by decide +kernel), ⟨by decide +kernel, Nat.zero_le _, fun k hk => absurd hk (Nat.not_lt_zero k)⟩, t0_wd, fun k hk => ⟨(t0_wy k hk).2.2, Nat.zero_le _, Nat.zero_le _, fun l hl => absurd hl (Nat.not_lt_zero l), fun l hl => absurd hl (Nat.not_lt_zero l)⟩, ⟨fun f p hf hp => t0_p f hf p hp, by decide +kernel, by decide +kernel, by decide +kernel⟩, ⟨⟨by decide +kernel, by decide, t0_lk.2.1, z99⟩, Or.inl (by decide +kernel)⟩, ⟨t0_lk.2.2.2, fun _ => ⟨Int.le_refl _, z10⟩⟩⟩
theorem t0_inv : Ivl 0 8 T0 := ⟨t0_ig, D0, 0, _, _, 0, _, P0, 90, 3, _, _, t0_ip, t0_ic, t0_im⟩
