theorem fuk.cs {N i : Nat} {q : Nat × Bool × Bool} {k : List Fk} (h1 : N + 1 ≤ q.1 + i) (h : fuk N i k) : fuk N i (some q :: k) := by
  intro q2 hq
  rcases List.mem_cons.mp hq with e | e
  · cases e; exact h1
  · exact h q2 e
theorem fuk.cn {N i : Nat} {k : List Fk} (h : fuk N i k) : fuk N i (none :: k) := by
  intro q2 hq
  rcases List.mem_cons.mp hq with e | e
  · cases e
  · exact h q2 e
theorem ln_any {G : Gt} {d : Nat} {σ : St} {B : Nat → Int} {n N F : Nat} {T : PS} (hd : 7 ≤ d) (hS0 : Sta σ) (hby : byB B n) (hN : Fn (tK B n) N) (hNn : N ≤ 400) (hFF : F = 400) : ∀ (nn : Nat) (k : List Fk) (br z : Int) (s : PS) (x3 : Option AV) (τ : St), (N - s.2.1) < nn → s.1 = 0 → Md B n τ s → Inv N (cntL (pendL k)) s → gdk k → k.length ≤ 9 → fuk N s.2.1 k → Pn τ (pendL k) → τ.2.1 94 37 = (pendL k).length → τ.2.1 94 35 = (k.length : Int) - 1 → br = (brk k : Int) → ((z = 1 ∧ resu F (tK B n) (tV B n) k (claimS F (tK B n) (tV B n) (9 - k.length) s) = T) ∨ (z = 0 ∧ resu F (tK B n) (tV B n) k s = T ∧ stripN k = k)) → Fe [22, 23, 24, 25, 34, 35, 37, 38, 39] [110, 111, 112] σ τ → AW mX12_readAny G d 0 0 (mq G (fun ro ρ => Ret B n T ro ρ ∧ (T.1 = 0 → ρ.2.1 94 35 = 0) ∧ Fe [22, 23, 24, 25, 34, 35, 37, 38, 39] [110, 111, 112] σ ρ)) 9 [some (vR 94), some (vI br), some (vI z), x3] [] τ := by
  intro nn
  induction nn with
  | zero => intros; omega
  | succ nn ih =>
    intro k br z s x3 τ hn h0 hM hI hgd hkl hfu hP h37 h35 hbr hz hF
    have hS := hF.sta hS0
    have hk0 := kd0 (K := tK B n) h0
    have hin := hI.1
    have hcs := hM.2.2.2.1.cs
    have hpl := pend_len k
    have hlen0 : 0 < k.length := by
      cases k with
      | nil => exact hgd.elim
      | cons x k => exact Nat.succ_pos _
    have hnest : ∀ kk : List Fk, brk kk ≤ kk.length := by
      intro kk
      induction kk with
      | nil => exact Nat.le_refl _
      | cons x kk ihk =>
        cases x with
        | none => show brk kk ≤ kk.length + 1; omega
        | some q =>
          show (if kk.isEmpty = true then 0 else 1) + brk kk ≤ kk.length + 1
          split <;> omega
    have hbk := hnest k
    rcases hz with ⟨rfl, hT⟩ | ⟨rfl, hT, hstr⟩
    · show AW _ _ _ _ _ _ 9 [some (vR 94), some (vI br), some (vI 1), x3] [] τ
      refine AW_iload_n dX12_readAny_9 rfl ?_
      refine AW_if_eq (tgt := 108) dX12_readAny_10 (by decide) (fun c_10 => absurd c_10 (by decide)) (fun _ => ?_)
      refine AW_aload_n dX12_readAny_13 rfl ?_
      refine AW_iconst dX12_readAny_14 ?_
      refine AW_callV1 (d' := d - 1) dX12_readAny_15 (Or.inl lkX12_284) mfX12_isWord (hS.cel rfl) ⟨_, rfl, rfl⟩ (n_isWord hS hM 5 (by decide)) (by omega) (Nat.le_of_ble_eq_true rfl) ?_
      rintro _ _ ⟨e_, rfl⟩ -
      rw [e_]
      clear e_
      refine AW_istore3 dX12_readAny_18 ?_
      refine AW_iload_n dX12_readAny_19 rfl ?_
      refine AW_if_ne (tgt := 32) dX12_readAny_20 (by decide) (fun c_20 => ?_) (fun c_20 => ?_)
      · skip
        replace c_20 := bz1 c_20
        refine AW_aload_n dX12_readAny_32 rfl ?_
        refine AW_getI dX12_readAny_33 gfX12_281 (hS.cel rfl) ?_
        refine AW_bipush dX12_readAny_36 ?_
        refine AW_icmp_ne (tgt := 47) dX12_readAny_38 (by decide) (fun c_38 => ?_) (fun c_38 => ?_)
        · skip
          rw [h35] at c_38
          refine AW_aload_n dX12_readAny_47 rfl ?_
          refine AW_aload_n dX12_readAny_48 rfl ?_
          refine AW_getI dX12_readAny_49 gfX12_281 (hS.cel rfl) ?_
          refine AW_iconst dX12_readAny_52 ?_
          refine AW_iaddE dX12_readAny_53 (by rw [h35]; omega) (by rw [h35]; omega) ?_
          refine AW_putI dX12_readAny_54 (Or.inl pfX12_281) (hS.cel rfl) ?_
          rw [h35]
          have hF1 : Fe [35] [] τ (upI τ 94 35 ((k.length : Int) - 1 + 1)) := Fe.rf.uf (by decide) _
          have hM1 := hM.fm hF1
          have hS1 := hF1.sta hS
          have hP1 := Pn.fm hF1 (by decide) _ hP
          have h371 := (hF1.f 37).trans h37
          have h351 : (upI τ 94 35 ((k.length : Int) - 1 + 1)).2.1 94 35 = (k.length : Int) - 1 + 1 := up_at _ _ _ _
          have hW1 : Fe [22, 23, 24, 25, 34, 35, 37, 38, 39] [110, 111, 112] σ (upI τ 94 35 ((k.length : Int) - 1 + 1)) := hF.tr (hF1.mo (by decide) (by decide))
          generalize upI τ 94 35 ((k.length : Int) - 1 + 1) = τ1 at hF1 hM1 hS1 hP1 h371 h351 hW1 ⊢
          refine AW_iload_n dX12_readAny_57 rfl ?_
          refine AW_if_ne (tgt := 65) dX12_readAny_58 (by decide) (fun c_58 => ?_) (fun c_58 => ?_)
          · skip
            replace c_58 := bz1 c_58
            refine AW_aload_n dX12_readAny_65 rfl ?_
            refine AW_iload_n dX12_readAny_66 rfl ?_
            refine AW_if_eq (tgt := 75) dX12_readAny_67 (by decide) (fun c_67 => ?_) (fun c_67 => ?_)
            · skip
              replace c_67 := bz0 c_67
              refine AW_bipush dX12_readAny_75 ?_
              refine AW_callV1 (d' := d - 1) dX12_readAny_77 (Or.inl lkX12_287) mfX12_waitsFor (hS1.cel rfl) ⟨_, rfl, rfl⟩ (n_waitsFor hS1 hP1 h371 (by omega) _) (by omega) (Nat.le_of_ble_eq_true rfl) ?_
              rintro _ ρ2 ⟨rfl, hP2, h372, hG2⟩ -
              have hS2 := hG2.sta hS1
              have hM2 := hM1.fm hG2
              refine AW_aload_n dX12_readAny_80 rfl ?_
              refine AW_callV0 (d' := d - 1) dX12_readAny_81 (Or.inl lkX12_262) mfX12_reads (hS2.cel rfl) ⟨_, rfl, rfl⟩ (n_mreads (by omega) hS2 hby hM2 (by omega)) (by omega) (Nat.le_of_ble_eq_true rfl) ?_
              rintro _ ρ3 ⟨rfl, hM3, hG3⟩ -
              have hW3 := (hW1.tr (hG2.mo (by decide) (by decide))).tr (hG3.mo (by decide) (by decide))
              have hP3 := Pn.fm hG3 (by decide) _ hP2
              have h373 := (hG3.f 37).trans h372
              have h353 := ((hG3.f 35).trans (hG2.f 35)).trans h351
              have hI3 := hI.step hN (by omega) (by omega)
              have hi3 : (stepS s).2.1 = s.2.1 + 1 := rfl
              have hin3 := hI3.1
              refine AW_goto (tgt := 9) dX12_readAny_84 (by decide) ?_
              first
              | (exfalso; omega; done)
              | (have e9 : 9 - k.length = (9 - (none :: k : List Fk).length) + 1 := by show 9 - k.length = 9 - (k.length + 1) + 1; omega
                 have hT3 : resu F (tK B n) (tV B n) (none :: k) (claimS F (tK B n) (tV B n) (9 - (none :: k : List Fk).length) (stepS s)) = T := by
                   rw [← hT, e9, claimS_s, hk0, if_pos (by omega), resu_n]
                 exact ih (none :: k) _ 1 (stepS s) _ ρ3 (by omega) h0 hM3 (by show Inv N (1 + cntL (pendL k)) _; rw [Nat.add_comm]; exact hI3) hgd (by show k.length + 1 ≤ 9; omega) (fuk.cn (hfu.mo (by omega))) hP3 h373 (by rw [h353]; show _ = ((k.length + 1 : Nat) : Int) - 1; omega) hbr (Or.inl ⟨rfl, hT3⟩) hW3)
              | (have e9 : 9 - k.length = (9 - (some (F, false, false) :: k : List Fk).length) + 1 := by show 9 - k.length = 9 - (k.length + 1) + 1; omega
                 have hne : k.isEmpty = false := by
                   cases k with
                   | nil => exact hgd.elim
                   | cons x k => rfl
                 have hpe : pendL (some (F, false, false) :: k) = 12 :: pendL k := by
                   show [] ++ ([] ++ (if k.isEmpty = true then [] else 12 :: pendL k)) = _
                   rw [hne]
                   rfl
                 have e8 : 9 - (some (F, false, false) :: k : List Fk).length = 8 - k.length := by show 9 - (k.length + 1) = _; omega
                 have hT3 : resu F (tK B n) (tV B n) (some (F, false, false) :: k) (claimS F (tK B n) (tV B n) (9 - (some (F, false, false) :: k : List Fk).length) (stepS s)) = T := by
                   rw [← hT, e9, claimS_s, hk0, if_neg (by omega), if_pos (by omega), resu_s, hne, if_neg (by decide), e8]
                   rfl
                 have hbk2 : brk (some (F, false, false) :: k) = 1 + brk k := by
                   show (if k.isEmpty = true then 0 else 1) + brk k = _
                   rw [hne]
                   rfl
                 exact ih (some (F, false, false) :: k) _ 1 (stepS s) _ ρ3 (by omega) h0 hM3 (by rw [hpe]; show Inv N (0 + cntL (pendL k)) _; exact hI3.mono (by omega)) (Or.inr hgd) (by show k.length + 1 ≤ 9; omega) (fuk.cs (by show N + 1 ≤ F + _; omega) (hfu.mo (by omega))) (by rw [hpe]; exact hP3) (by rw [hpe]; exact h373) (by rw [h353]; show _ = ((k.length + 1 : Nat) : Int) - 1; omega) (by rw [hbk2]; omega) (Or.inl ⟨rfl, hT3⟩) hW3)
              | (have hci := com_i (F := F) (V := tV B n) hN h0 hy1.2.1
                 have hcl : claimS F (tK B n) (tV B n) (9 - k.length) s = comS F (tK B n) (tV B n) s := by
                   cases 9 - k.length with
                   | zero => rw [claimS_0, hk0, if_neg (by omega)]
                   | succ e => rw [claimS_s, hk0, if_neg (by omega), if_neg (by omega)]
                 have hpf := putC_f 9 (-17) (pendL k) (comS F (tK B n) (tV B n) s)
                 have hIc := putC_inv 9 (-17) (by decide) _ _ hI1
                 rw [hp9] at hIc hP4 h374
                 refine ih (stripN k) br 0 (putC 9 (-17) (pendL k) (comS F (tK B n) (tV B n) s)) _ ρ4 (by rw [hpf.2]; have := hI1.1; omega) (by rw [hpf.1]; exact hy1.2.1) hM4 hIc ?_ (by omega) ?_ hP4 h374 h354 (by rw [hbr, hb5, ← hk5]) (Or.inr ⟨rfl, ?_, ?_⟩) ((hF.tr (hG1.mo (by decide) (by decide))).tr (hG4.mo (by decide) (by decide)))
                 · rw [hk5]; exact hg5
                 · rw [hpf.2]; exact (strip_fu k hfu).mo (by omega)
                 · rw [← pend_9s, ← hcl]; exact hT
                 · rw [hk5]; rfl)
            · skip
              replace c_67 := bz1 c_67
              refine AW_bipush dX12_readAny_70 ?_
              refine AW_goto (tgt := 77) dX12_readAny_72 (by decide) ?_
              refine AW_callV1 (d' := d - 1) dX12_readAny_77 (Or.inl lkX12_287) mfX12_waitsFor (hS1.cel rfl) ⟨_, rfl, rfl⟩ (n_waitsFor hS1 hP1 h371 (by omega) _) (by omega) (Nat.le_of_ble_eq_true rfl) ?_
              rintro _ ρ2 ⟨rfl, hP2, h372, hG2⟩ -
              have hS2 := hG2.sta hS1
              have hM2 := hM1.fm hG2
              refine AW_aload_n dX12_readAny_80 rfl ?_
              refine AW_callV0 (d' := d - 1) dX12_readAny_81 (Or.inl lkX12_262) mfX12_reads (hS2.cel rfl) ⟨_, rfl, rfl⟩ (n_mreads (by omega) hS2 hby hM2 (by omega)) (by omega) (Nat.le_of_ble_eq_true rfl) ?_
              rintro _ ρ3 ⟨rfl, hM3, hG3⟩ -
              have hW3 := (hW1.tr (hG2.mo (by decide) (by decide))).tr (hG3.mo (by decide) (by decide))
              have hP3 := Pn.fm hG3 (by decide) _ hP2
              have h373 := (hG3.f 37).trans h372
              have h353 := ((hG3.f 35).trans (hG2.f 35)).trans h351
              have hI3 := hI.step hN (by omega) (by omega)
              have hi3 : (stepS s).2.1 = s.2.1 + 1 := rfl
              have hin3 := hI3.1
              refine AW_goto (tgt := 9) dX12_readAny_84 (by decide) ?_
              first
              | (exfalso; omega; done)
              | (have e9 : 9 - k.length = (9 - (none :: k : List Fk).length) + 1 := by show 9 - k.length = 9 - (k.length + 1) + 1; omega
                 have hT3 : resu F (tK B n) (tV B n) (none :: k) (claimS F (tK B n) (tV B n) (9 - (none :: k : List Fk).length) (stepS s)) = T := by
                   rw [← hT, e9, claimS_s, hk0, if_pos (by omega), resu_n]
                 exact ih (none :: k) _ 1 (stepS s) _ ρ3 (by omega) h0 hM3 (by show Inv N (1 + cntL (pendL k)) _; rw [Nat.add_comm]; exact hI3) hgd (by show k.length + 1 ≤ 9; omega) (fuk.cn (hfu.mo (by omega))) hP3 h373 (by rw [h353]; show _ = ((k.length + 1 : Nat) : Int) - 1; omega) hbr (Or.inl ⟨rfl, hT3⟩) hW3)
              | (have e9 : 9 - k.length = (9 - (some (F, false, false) :: k : List Fk).length) + 1 := by show 9 - k.length = 9 - (k.length + 1) + 1; omega
                 have hne : k.isEmpty = false := by
                   cases k with
                   | nil => exact hgd.elim
                   | cons x k => rfl
                 have hpe : pendL (some (F, false, false) :: k) = 12 :: pendL k := by
                   show [] ++ ([] ++ (if k.isEmpty = true then [] else 12 :: pendL k)) = _
                   rw [hne]
                   rfl
                 have e8 : 9 - (some (F, false, false) :: k : List Fk).length = 8 - k.length := by show 9 - (k.length + 1) = _; omega
                 have hT3 : resu F (tK B n) (tV B n) (some (F, false, false) :: k) (claimS F (tK B n) (tV B n) (9 - (some (F, false, false) :: k : List Fk).length) (stepS s)) = T := by
                   rw [← hT, e9, claimS_s, hk0, if_neg (by omega), if_pos (by omega), resu_s, hne, if_neg (by decide), e8]
                   rfl
                 have hbk2 : brk (some (F, false, false) :: k) = 1 + brk k := by
                   show (if k.isEmpty = true then 0 else 1) + brk k = _
                   rw [hne]
                   rfl
                 exact ih (some (F, false, false) :: k) _ 1 (stepS s) _ ρ3 (by omega) h0 hM3 (by rw [hpe]; show Inv N (0 + cntL (pendL k)) _; exact hI3.mono (by omega)) (Or.inr hgd) (by show k.length + 1 ≤ 9; omega) (fuk.cs (by show N + 1 ≤ F + _; omega) (hfu.mo (by omega))) (by rw [hpe]; exact hP3) (by rw [hpe]; exact h373) (by rw [h353]; show _ = ((k.length + 1 : Nat) : Int) - 1; omega) (by rw [hbk2]; omega) (Or.inl ⟨rfl, hT3⟩) hW3)
              | (have hci := com_i (F := F) (V := tV B n) hN h0 hy1.2.1
                 have hcl : claimS F (tK B n) (tV B n) (9 - k.length) s = comS F (tK B n) (tV B n) s := by
                   cases 9 - k.length with
                   | zero => rw [claimS_0, hk0, if_neg (by omega)]
                   | succ e => rw [claimS_s, hk0, if_neg (by omega), if_neg (by omega)]
                 have hpf := putC_f 9 (-17) (pendL k) (comS F (tK B n) (tV B n) s)
                 have hIc := putC_inv 9 (-17) (by decide) _ _ hI1
                 rw [hp9] at hIc hP4 h374
                 refine ih (stripN k) br 0 (putC 9 (-17) (pendL k) (comS F (tK B n) (tV B n) s)) _ ρ4 (by rw [hpf.2]; have := hI1.1; omega) (by rw [hpf.1]; exact hy1.2.1) hM4 hIc ?_ (by omega) ?_ hP4 h374 h354 (by rw [hbr, hb5, ← hk5]) (Or.inr ⟨rfl, ?_, ?_⟩) ((hF.tr (hG1.mo (by decide) (by decide))).tr (hG4.mo (by decide) (by decide)))
                 · rw [hk5]; exact hg5
                 · rw [hpf.2]; exact (strip_fu k hfu).mo (by omega)
                 · rw [← pend_9s, ← hcl]; exact hT
                 · rw [hk5]; rfl)
          · skip
            replace c_58 := bz0 c_58
            refine AW_iload_n dX12_readAny_61 rfl ?_
            refine AW_iconst dX12_readAny_62 ?_
            refine AW_iaddE dX12_readAny_63 (by omega) (by omega) ?_
            refine AW_istore1 dX12_readAny_64 ?_
            refine AW_aload_n dX12_readAny_65 rfl ?_
            refine AW_iload_n dX12_readAny_66 rfl ?_
            refine AW_if_eq (tgt := 75) dX12_readAny_67 (by decide) (fun c_67 => ?_) (fun c_67 => ?_)
            · skip
              replace c_67 := bz0 c_67
              refine AW_bipush dX12_readAny_75 ?_
              refine AW_callV1 (d' := d - 1) dX12_readAny_77 (Or.inl lkX12_287) mfX12_waitsFor (hS1.cel rfl) ⟨_, rfl, rfl⟩ (n_waitsFor hS1 hP1 h371 (by omega) _) (by omega) (Nat.le_of_ble_eq_true rfl) ?_
              rintro _ ρ2 ⟨rfl, hP2, h372, hG2⟩ -
              have hS2 := hG2.sta hS1
              have hM2 := hM1.fm hG2
              refine AW_aload_n dX12_readAny_80 rfl ?_
              refine AW_callV0 (d' := d - 1) dX12_readAny_81 (Or.inl lkX12_262) mfX12_reads (hS2.cel rfl) ⟨_, rfl, rfl⟩ (n_mreads (by omega) hS2 hby hM2 (by omega)) (by omega) (Nat.le_of_ble_eq_true rfl) ?_
              rintro _ ρ3 ⟨rfl, hM3, hG3⟩ -
              have hW3 := (hW1.tr (hG2.mo (by decide) (by decide))).tr (hG3.mo (by decide) (by decide))
              have hP3 := Pn.fm hG3 (by decide) _ hP2
              have h373 := (hG3.f 37).trans h372
              have h353 := ((hG3.f 35).trans (hG2.f 35)).trans h351
              have hI3 := hI.step hN (by omega) (by omega)
              have hi3 : (stepS s).2.1 = s.2.1 + 1 := rfl
              have hin3 := hI3.1
              refine AW_goto (tgt := 9) dX12_readAny_84 (by decide) ?_
              first
              | (exfalso; omega; done)
              | (have e9 : 9 - k.length = (9 - (none :: k : List Fk).length) + 1 := by show 9 - k.length = 9 - (k.length + 1) + 1; omega
                 have hT3 : resu F (tK B n) (tV B n) (none :: k) (claimS F (tK B n) (tV B n) (9 - (none :: k : List Fk).length) (stepS s)) = T := by
                   rw [← hT, e9, claimS_s, hk0, if_pos (by omega), resu_n]
                 exact ih (none :: k) _ 1 (stepS s) _ ρ3 (by omega) h0 hM3 (by show Inv N (1 + cntL (pendL k)) _; rw [Nat.add_comm]; exact hI3) hgd (by show k.length + 1 ≤ 9; omega) (fuk.cn (hfu.mo (by omega))) hP3 h373 (by rw [h353]; show _ = ((k.length + 1 : Nat) : Int) - 1; omega) hbr (Or.inl ⟨rfl, hT3⟩) hW3)
              | (have e9 : 9 - k.length = (9 - (some (F, false, false) :: k : List Fk).length) + 1 := by show 9 - k.length = 9 - (k.length + 1) + 1; omega
                 have hne : k.isEmpty = false := by
                   cases k with
                   | nil => exact hgd.elim
                   | cons x k => rfl
                 have hpe : pendL (some (F, false, false) :: k) = 12 :: pendL k := by
                   show [] ++ ([] ++ (if k.isEmpty = true then [] else 12 :: pendL k)) = _
                   rw [hne]
                   rfl
                 have e8 : 9 - (some (F, false, false) :: k : List Fk).length = 8 - k.length := by show 9 - (k.length + 1) = _; omega
                 have hT3 : resu F (tK B n) (tV B n) (some (F, false, false) :: k) (claimS F (tK B n) (tV B n) (9 - (some (F, false, false) :: k : List Fk).length) (stepS s)) = T := by
                   rw [← hT, e9, claimS_s, hk0, if_neg (by omega), if_pos (by omega), resu_s, hne, if_neg (by decide), e8]
                   rfl
                 have hbk2 : brk (some (F, false, false) :: k) = 1 + brk k := by
                   show (if k.isEmpty = true then 0 else 1) + brk k = _
                   rw [hne]
                   rfl
                 exact ih (some (F, false, false) :: k) _ 1 (stepS s) _ ρ3 (by omega) h0 hM3 (by rw [hpe]; show Inv N (0 + cntL (pendL k)) _; exact hI3.mono (by omega)) (Or.inr hgd) (by show k.length + 1 ≤ 9; omega) (fuk.cs (by show N + 1 ≤ F + _; omega) (hfu.mo (by omega))) (by rw [hpe]; exact hP3) (by rw [hpe]; exact h373) (by rw [h353]; show _ = ((k.length + 1 : Nat) : Int) - 1; omega) (by rw [hbk2]; omega) (Or.inl ⟨rfl, hT3⟩) hW3)
              | (have hci := com_i (F := F) (V := tV B n) hN h0 hy1.2.1
                 have hcl : claimS F (tK B n) (tV B n) (9 - k.length) s = comS F (tK B n) (tV B n) s := by
                   cases 9 - k.length with
                   | zero => rw [claimS_0, hk0, if_neg (by omega)]
                   | succ e => rw [claimS_s, hk0, if_neg (by omega), if_neg (by omega)]
                 have hpf := putC_f 9 (-17) (pendL k) (comS F (tK B n) (tV B n) s)
                 have hIc := putC_inv 9 (-17) (by decide) _ _ hI1
                 rw [hp9] at hIc hP4 h374
                 refine ih (stripN k) br 0 (putC 9 (-17) (pendL k) (comS F (tK B n) (tV B n) s)) _ ρ4 (by rw [hpf.2]; have := hI1.1; omega) (by rw [hpf.1]; exact hy1.2.1) hM4 hIc ?_ (by omega) ?_ hP4 h374 h354 (by rw [hbr, hb5, ← hk5]) (Or.inr ⟨rfl, ?_, ?_⟩) ((hF.tr (hG1.mo (by decide) (by decide))).tr (hG4.mo (by decide) (by decide)))
                 · rw [hk5]; exact hg5
                 · rw [hpf.2]; exact (strip_fu k hfu).mo (by omega)
                 · rw [← pend_9s, ← hcl]; exact hT
                 · rw [hk5]; rfl)
            · skip
              replace c_67 := bz1 c_67
              refine AW_bipush dX12_readAny_70 ?_
              refine AW_goto (tgt := 77) dX12_readAny_72 (by decide) ?_
              refine AW_callV1 (d' := d - 1) dX12_readAny_77 (Or.inl lkX12_287) mfX12_waitsFor (hS1.cel rfl) ⟨_, rfl, rfl⟩ (n_waitsFor hS1 hP1 h371 (by omega) _) (by omega) (Nat.le_of_ble_eq_true rfl) ?_
              rintro _ ρ2 ⟨rfl, hP2, h372, hG2⟩ -
              have hS2 := hG2.sta hS1
              have hM2 := hM1.fm hG2
              refine AW_aload_n dX12_readAny_80 rfl ?_
              refine AW_callV0 (d' := d - 1) dX12_readAny_81 (Or.inl lkX12_262) mfX12_reads (hS2.cel rfl) ⟨_, rfl, rfl⟩ (n_mreads (by omega) hS2 hby hM2 (by omega)) (by omega) (Nat.le_of_ble_eq_true rfl) ?_
              rintro _ ρ3 ⟨rfl, hM3, hG3⟩ -
              have hW3 := (hW1.tr (hG2.mo (by decide) (by decide))).tr (hG3.mo (by decide) (by decide))
              have hP3 := Pn.fm hG3 (by decide) _ hP2
              have h373 := (hG3.f 37).trans h372
              have h353 := ((hG3.f 35).trans (hG2.f 35)).trans h351
              have hI3 := hI.step hN (by omega) (by omega)
              have hi3 : (stepS s).2.1 = s.2.1 + 1 := rfl
              have hin3 := hI3.1
              refine AW_goto (tgt := 9) dX12_readAny_84 (by decide) ?_
              first
              | (exfalso; omega; done)
              | (have e9 : 9 - k.length = (9 - (none :: k : List Fk).length) + 1 := by show 9 - k.length = 9 - (k.length + 1) + 1; omega
                 have hT3 : resu F (tK B n) (tV B n) (none :: k) (claimS F (tK B n) (tV B n) (9 - (none :: k : List Fk).length) (stepS s)) = T := by
                   rw [← hT, e9, claimS_s, hk0, if_pos (by omega), resu_n]
                 exact ih (none :: k) _ 1 (stepS s) _ ρ3 (by omega) h0 hM3 (by show Inv N (1 + cntL (pendL k)) _; rw [Nat.add_comm]; exact hI3) hgd (by show k.length + 1 ≤ 9; omega) (fuk.cn (hfu.mo (by omega))) hP3 h373 (by rw [h353]; show _ = ((k.length + 1 : Nat) : Int) - 1; omega) hbr (Or.inl ⟨rfl, hT3⟩) hW3)
              | (have e9 : 9 - k.length = (9 - (some (F, false, false) :: k : List Fk).length) + 1 := by show 9 - k.length = 9 - (k.length + 1) + 1; omega
                 have hne : k.isEmpty = false := by
                   cases k with
                   | nil => exact hgd.elim
                   | cons x k => rfl
                 have hpe : pendL (some (F, false, false) :: k) = 12 :: pendL k := by
                   show [] ++ ([] ++ (if k.isEmpty = true then [] else 12 :: pendL k)) = _
                   rw [hne]
                   rfl
                 have e8 : 9 - (some (F, false, false) :: k : List Fk).length = 8 - k.length := by show 9 - (k.length + 1) = _; omega
                 have hT3 : resu F (tK B n) (tV B n) (some (F, false, false) :: k) (claimS F (tK B n) (tV B n) (9 - (some (F, false, false) :: k : List Fk).length) (stepS s)) = T := by
                   rw [← hT, e9, claimS_s, hk0, if_neg (by omega), if_pos (by omega), resu_s, hne, if_neg (by decide), e8]
                   rfl
                 have hbk2 : brk (some (F, false, false) :: k) = 1 + brk k := by
                   show (if k.isEmpty = true then 0 else 1) + brk k = _
                   rw [hne]
                   rfl
                 exact ih (some (F, false, false) :: k) _ 1 (stepS s) _ ρ3 (by omega) h0 hM3 (by rw [hpe]; show Inv N (0 + cntL (pendL k)) _; exact hI3.mono (by omega)) (Or.inr hgd) (by show k.length + 1 ≤ 9; omega) (fuk.cs (by show N + 1 ≤ F + _; omega) (hfu.mo (by omega))) (by rw [hpe]; exact hP3) (by rw [hpe]; exact h373) (by rw [h353]; show _ = ((k.length + 1 : Nat) : Int) - 1; omega) (by rw [hbk2]; omega) (Or.inl ⟨rfl, hT3⟩) hW3)
              | (have hci := com_i (F := F) (V := tV B n) hN h0 hy1.2.1
                 have hcl : claimS F (tK B n) (tV B n) (9 - k.length) s = comS F (tK B n) (tV B n) s := by
                   cases 9 - k.length with
                   | zero => rw [claimS_0, hk0, if_neg (by omega)]
                   | succ e => rw [claimS_s, hk0, if_neg (by omega), if_neg (by omega)]
                 have hpf := putC_f 9 (-17) (pendL k) (comS F (tK B n) (tV B n) s)
                 have hIc := putC_inv 9 (-17) (by decide) _ _ hI1
                 rw [hp9] at hIc hP4 h374
                 refine ih (stripN k) br 0 (putC 9 (-17) (pendL k) (comS F (tK B n) (tV B n) s)) _ ρ4 (by rw [hpf.2]; have := hI1.1; omega) (by rw [hpf.1]; exact hy1.2.1) hM4 hIc ?_ (by omega) ?_ hP4 h374 h354 (by rw [hbr, hb5, ← hk5]) (Or.inr ⟨rfl, ?_, ?_⟩) ((hF.tr (hG1.mo (by decide) (by decide))).tr (hG4.mo (by decide) (by decide)))
                 · rw [hk5]; exact hg5
                 · rw [hpf.2]; exact (strip_fu k hfu).mo (by omega)
                 · rw [← pend_9s, ← hcl]; exact hT
                 · rw [hk5]; rfl)
        · skip
          rw [h35] at c_38
          refine AW_aload_n dX12_readAny_41 rfl ?_
          refine AW_iconst dX12_readAny_42 ?_
          refine AW_callV1 (d' := d - 1) dX12_readAny_43 (Or.inl lkX12_255) mfX12_fails (hS.cel rfl) ⟨_, rfl, rfl⟩ (n_fails hS 3) (by omega) (Nat.le_of_ble_eq_true rfl) ?_
          rintro _ ρ1 ⟨rfl, q1, q2, q3⟩ -
          refine AW_iret dX12_readAny_46 rfl ?_
          have e9 : 9 - k.length = 0 := by omega
          have hc3 : claimS F (tK B n) (tV B n) (9 - k.length) s = (3, s.2) := by
            rw [e9, claimS_0, hk0, if_pos (by omega)]
            unfold blameS
            rw [if_pos h0]
          have hrf := resu_f (F := F) (K := tK B n) (V := tV B n) k (3, s.2) (by decide : (3 : Int) ≠ 0)
          rw [← hc3, hT, hc3] at hrf
          exact ⟨Or.inr ⟨by rw [hrf.1]; exact (by decide : (3 : Int) ≠ 0), rfl, by rw [hrf.1]; exact q1, by rw [hrf.2, q2, hM.2.2.1]⟩, fun h => absurd h (by rw [hrf.1]; exact (by decide : (3 : Int) ≠ 0)), hF.tr (q3.mo (by decide) (by decide))⟩
      · skip
        replace c_20 := bz0 c_20
        refine AW_aload_n dX12_readAny_23 rfl ?_
        refine AW_bipush dX12_readAny_24 ?_
        refine AW_callV1 (d' := d - 1) dX12_readAny_26 (Or.inl lkX12_269) mfX12_isSign (hS.cel rfl) ⟨_, rfl, rfl⟩ (n_isSign hS hM 40 (by decide)) (by omega) (Nat.le_of_ble_eq_true rfl) ?_
        rintro _ _ ⟨e_, rfl⟩ -
        rw [e_]
        clear e_
        refine AW_if_eq (tgt := 87) dX12_readAny_29 (by decide) (fun c_29 => ?_) (fun c_29 => ?_)
        · skip
          replace c_29 := bz0 c_29
          refine AW_aload_n dX12_readAny_87 rfl ?_
          refine AW_callV0 (d' := d - 1) dX12_readAny_88 (Or.inl lkX12_290) mfX12_readCompared (hS.cel rfl) ⟨_, rfl, rfl⟩ (n_cmp (by omega) hS hby hN hNn hM h0 (hI.mono (Nat.zero_le _)) hFF) (by omega) (Nat.le_of_ble_eq_true rfl) ?_
          rintro _ ρ1 ⟨hret1, hG1⟩ -
          obtain ⟨z1, rfl, hz1⟩ := hret1.z
          have hS1 := hG1.sta hS
          have hI1 := hI.com (F := F) (tV B n) hN
          have hP1 := Pn.fm hG1 (by decide) _ hP
          have h371 := (hG1.f 37).trans h37
          have h351 := (hG1.f 35).trans h35
          refine AW_iconst dX12_readAny_91 ?_
          refine AW_icmp_ne (tgt := 97) dX12_readAny_92 (by decide) (fun c_92 => ?_) (fun c_92 => ?_)
          · skip
            have hy1 := hz1.elim id (fun q => absurd q.1 c_92)
            obtain ⟨q5, k5, hk5, hg5, hb5, hl5⟩ := strip_gd k hgd
            have hp9 := pend_9 k
            have hp9l := pend_9l k
            have hdl := dropC_len 9 (pendL k)
            rw [hp9] at hdl
            have hk5l : (stripN k).length = k5.length + 1 := by rw [hk5]; rfl
            have hoo : 0 ≤ ((stripN k).length : Int) - 1 ∧ ((stripN k).length : Int) - 1 ≤ 100 := by omega
            have hopn : ρ1.2.1 94 35 = ((stripN k).length : Int) - 1 + (if (9 : Int) = 9 then ((pendL k).length : Int) - (dropC 9 (pendL k)).length else 0) := by
              rw [if_pos rfl, hp9, h351]
              omega
            refine AW_aload_n dX12_readAny_97 rfl ?_
            refine AW_bipush dX12_readAny_98 ?_
            refine AW_callV1 (d' := d - 1) dX12_readAny_100 (Or.inl lkX12_293) mfX12_settles (hS1.cel rfl) ⟨_, rfl, rfl⟩ (n_settles (oo := ((stripN k).length : Int) - 1) (x := -17) (by omega) hS1 hNn (by decide) (by decide) (by decide) hoo (by omega) hy1.2.1 hy1.2.2 hI1 hP1 h371 hopn) (by omega) (Nat.le_of_ble_eq_true rfl) ?_
            rintro _ ρ4 ⟨rfl, hM4, hP4, h374, h354, hG4⟩ -
            refine AW_iconst dX12_readAny_103 ?_
            refine AW_istore2 dX12_readAny_104 ?_
            refine AW_goto (tgt := 9) dX12_readAny_105 (by decide) ?_
            first
            | (exfalso; omega; done)
            | (have e9 : 9 - k.length = (9 - (none :: k : List Fk).length) + 1 := by show 9 - k.length = 9 - (k.length + 1) + 1; omega
               have hT3 : resu F (tK B n) (tV B n) (none :: k) (claimS F (tK B n) (tV B n) (9 - (none :: k : List Fk).length) (stepS s)) = T := by
                 rw [← hT, e9, claimS_s, hk0, if_pos (by omega), resu_n]
               exact ih (none :: k) _ 1 (stepS s) _ ρ3 (by omega) h0 hM3 (by show Inv N (1 + cntL (pendL k)) _; rw [Nat.add_comm]; exact hI3) hgd (by show k.length + 1 ≤ 9; omega) (fuk.cn (hfu.mo (by omega))) hP3 h373 (by rw [h353]; show _ = ((k.length + 1 : Nat) : Int) - 1; omega) hbr (Or.inl ⟨rfl, hT3⟩) hW3)
            | (have e9 : 9 - k.length = (9 - (some (F, false, false) :: k : List Fk).length) + 1 := by show 9 - k.length = 9 - (k.length + 1) + 1; omega
               have hne : k.isEmpty = false := by
                 cases k with
                 | nil => exact hgd.elim
                 | cons x k => rfl
               have hpe : pendL (some (F, false, false) :: k) = 12 :: pendL k := by
                 show [] ++ ([] ++ (if k.isEmpty = true then [] else 12 :: pendL k)) = _
                 rw [hne]
                 rfl
               have e8 : 9 - (some (F, false, false) :: k : List Fk).length = 8 - k.length := by show 9 - (k.length + 1) = _; omega
               have hT3 : resu F (tK B n) (tV B n) (some (F, false, false) :: k) (claimS F (tK B n) (tV B n) (9 - (some (F, false, false) :: k : List Fk).length) (stepS s)) = T := by
                 rw [← hT, e9, claimS_s, hk0, if_neg (by omega), if_pos (by omega), resu_s, hne, if_neg (by decide), e8]
                 rfl
               have hbk2 : brk (some (F, false, false) :: k) = 1 + brk k := by
                 show (if k.isEmpty = true then 0 else 1) + brk k = _
                 rw [hne]
                 rfl
               exact ih (some (F, false, false) :: k) _ 1 (stepS s) _ ρ3 (by omega) h0 hM3 (by rw [hpe]; show Inv N (0 + cntL (pendL k)) _; exact hI3.mono (by omega)) (Or.inr hgd) (by show k.length + 1 ≤ 9; omega) (fuk.cs (by show N + 1 ≤ F + _; omega) (hfu.mo (by omega))) (by rw [hpe]; exact hP3) (by rw [hpe]; exact h373) (by rw [h353]; show _ = ((k.length + 1 : Nat) : Int) - 1; omega) (by rw [hbk2]; omega) (Or.inl ⟨rfl, hT3⟩) hW3)
            | (have hci := com_i (F := F) (V := tV B n) hN h0 hy1.2.1
               have hcl : claimS F (tK B n) (tV B n) (9 - k.length) s = comS F (tK B n) (tV B n) s := by
                 cases 9 - k.length with
                 | zero => rw [claimS_0, hk0, if_neg (by omega)]
                 | succ e => rw [claimS_s, hk0, if_neg (by omega), if_neg (by omega)]
               have hpf := putC_f 9 (-17) (pendL k) (comS F (tK B n) (tV B n) s)
               have hIc := putC_inv 9 (-17) (by decide) _ _ hI1
               rw [hp9] at hIc hP4 h374
               refine ih (stripN k) br 0 (putC 9 (-17) (pendL k) (comS F (tK B n) (tV B n) s)) _ ρ4 (by rw [hpf.2]; have := hI1.1; omega) (by rw [hpf.1]; exact hy1.2.1) hM4 hIc ?_ (by omega) ?_ hP4 h374 h354 (by rw [hbr, hb5, ← hk5]) (Or.inr ⟨rfl, ?_, ?_⟩) ((hF.tr (hG1.mo (by decide) (by decide))).tr (hG4.mo (by decide) (by decide)))
               · rw [hk5]; exact hg5
               · rw [hpf.2]; exact (strip_fu k hfu).mo (by omega)
               · rw [← pend_9s, ← hcl]; exact hT
               · rw [hk5]; rfl)
          · skip
            have hy1 := hz1.elim (fun q => absurd (q.1.symm.trans c_92) (by decide)) id
            refine AW_iconst dX12_readAny_95 ?_
            refine AW_iret dX12_readAny_96 rfl ?_
            have hcl : claimS F (tK B n) (tV B n) (9 - k.length) s = comS F (tK B n) (tV B n) s := by
              cases 9 - k.length with
              | zero => rw [claimS_0, hk0, if_neg (by omega)]
              | succ e => rw [claimS_s, hk0, if_neg (by omega), if_neg (by omega)]
            have hrf := resu_f (F := F) (K := tK B n) (V := tV B n) k (comS F (tK B n) (tV B n) s) hy1.2.1
            rw [← hcl, hT, hcl] at hrf
            exact ⟨Or.inr ⟨by rw [hrf.1]; exact hy1.2.1, rfl, by rw [hrf.1]; exact hy1.2.2.1, by rw [hrf.2]; exact hy1.2.2.2⟩, fun h => absurd h (by rw [hrf.1]; exact hy1.2.1), hF.tr (hG1.mo (by decide) (by decide))⟩
        · skip
          replace c_29 := bz1 c_29
          refine AW_aload_n dX12_readAny_32 rfl ?_
          refine AW_getI dX12_readAny_33 gfX12_281 (hS.cel rfl) ?_
          refine AW_bipush dX12_readAny_36 ?_
          refine AW_icmp_ne (tgt := 47) dX12_readAny_38 (by decide) (fun c_38 => ?_) (fun c_38 => ?_)
          · skip
            rw [h35] at c_38
            refine AW_aload_n dX12_readAny_47 rfl ?_
            refine AW_aload_n dX12_readAny_48 rfl ?_
            refine AW_getI dX12_readAny_49 gfX12_281 (hS.cel rfl) ?_
            refine AW_iconst dX12_readAny_52 ?_
            refine AW_iaddE dX12_readAny_53 (by rw [h35]; omega) (by rw [h35]; omega) ?_
            refine AW_putI dX12_readAny_54 (Or.inl pfX12_281) (hS.cel rfl) ?_
            rw [h35]
            have hF1 : Fe [35] [] τ (upI τ 94 35 ((k.length : Int) - 1 + 1)) := Fe.rf.uf (by decide) _
            have hM1 := hM.fm hF1
            have hS1 := hF1.sta hS
            have hP1 := Pn.fm hF1 (by decide) _ hP
            have h371 := (hF1.f 37).trans h37
            have h351 : (upI τ 94 35 ((k.length : Int) - 1 + 1)).2.1 94 35 = (k.length : Int) - 1 + 1 := up_at _ _ _ _
            have hW1 : Fe [22, 23, 24, 25, 34, 35, 37, 38, 39] [110, 111, 112] σ (upI τ 94 35 ((k.length : Int) - 1 + 1)) := hF.tr (hF1.mo (by decide) (by decide))
            generalize upI τ 94 35 ((k.length : Int) - 1 + 1) = τ1 at hF1 hM1 hS1 hP1 h371 h351 hW1 ⊢
            refine AW_iload_n dX12_readAny_57 rfl ?_
            refine AW_if_ne (tgt := 65) dX12_readAny_58 (by decide) (fun c_58 => ?_) (fun c_58 => ?_)
            · skip
              replace c_58 := bz1 c_58
              refine AW_aload_n dX12_readAny_65 rfl ?_
              refine AW_iload_n dX12_readAny_66 rfl ?_
              refine AW_if_eq (tgt := 75) dX12_readAny_67 (by decide) (fun c_67 => ?_) (fun c_67 => ?_)
              · skip
                replace c_67 := bz0 c_67
                refine AW_bipush dX12_readAny_75 ?_
                refine AW_callV1 (d' := d - 1) dX12_readAny_77 (Or.inl lkX12_287) mfX12_waitsFor (hS1.cel rfl) ⟨_, rfl, rfl⟩ (n_waitsFor hS1 hP1 h371 (by omega) _) (by omega) (Nat.le_of_ble_eq_true rfl) ?_
                rintro _ ρ2 ⟨rfl, hP2, h372, hG2⟩ -
                have hS2 := hG2.sta hS1
                have hM2 := hM1.fm hG2
                refine AW_aload_n dX12_readAny_80 rfl ?_
                refine AW_callV0 (d' := d - 1) dX12_readAny_81 (Or.inl lkX12_262) mfX12_reads (hS2.cel rfl) ⟨_, rfl, rfl⟩ (n_mreads (by omega) hS2 hby hM2 (by omega)) (by omega) (Nat.le_of_ble_eq_true rfl) ?_
                rintro _ ρ3 ⟨rfl, hM3, hG3⟩ -
                have hW3 := (hW1.tr (hG2.mo (by decide) (by decide))).tr (hG3.mo (by decide) (by decide))
                have hP3 := Pn.fm hG3 (by decide) _ hP2
                have h373 := (hG3.f 37).trans h372
                have h353 := ((hG3.f 35).trans (hG2.f 35)).trans h351
                have hI3 := hI.step hN (by omega) (by omega)
                have hi3 : (stepS s).2.1 = s.2.1 + 1 := rfl
                have hin3 := hI3.1
                refine AW_goto (tgt := 9) dX12_readAny_84 (by decide) ?_
                first
                | (exfalso; omega; done)
                | (have e9 : 9 - k.length = (9 - (none :: k : List Fk).length) + 1 := by show 9 - k.length = 9 - (k.length + 1) + 1; omega
                   have hT3 : resu F (tK B n) (tV B n) (none :: k) (claimS F (tK B n) (tV B n) (9 - (none :: k : List Fk).length) (stepS s)) = T := by
                     rw [← hT, e9, claimS_s, hk0, if_pos (by omega), resu_n]
                   exact ih (none :: k) _ 1 (stepS s) _ ρ3 (by omega) h0 hM3 (by show Inv N (1 + cntL (pendL k)) _; rw [Nat.add_comm]; exact hI3) hgd (by show k.length + 1 ≤ 9; omega) (fuk.cn (hfu.mo (by omega))) hP3 h373 (by rw [h353]; show _ = ((k.length + 1 : Nat) : Int) - 1; omega) hbr (Or.inl ⟨rfl, hT3⟩) hW3)
                | (have e9 : 9 - k.length = (9 - (some (F, false, false) :: k : List Fk).length) + 1 := by show 9 - k.length = 9 - (k.length + 1) + 1; omega
                   have hne : k.isEmpty = false := by
                     cases k with
                     | nil => exact hgd.elim
                     | cons x k => rfl
                   have hpe : pendL (some (F, false, false) :: k) = 12 :: pendL k := by
                     show [] ++ ([] ++ (if k.isEmpty = true then [] else 12 :: pendL k)) = _
                     rw [hne]
                     rfl
                   have e8 : 9 - (some (F, false, false) :: k : List Fk).length = 8 - k.length := by show 9 - (k.length + 1) = _; omega
                   have hT3 : resu F (tK B n) (tV B n) (some (F, false, false) :: k) (claimS F (tK B n) (tV B n) (9 - (some (F, false, false) :: k : List Fk).length) (stepS s)) = T := by
                     rw [← hT, e9, claimS_s, hk0, if_neg (by omega), if_pos (by omega), resu_s, hne, if_neg (by decide), e8]
                     rfl
                   have hbk2 : brk (some (F, false, false) :: k) = 1 + brk k := by
                     show (if k.isEmpty = true then 0 else 1) + brk k = _
                     rw [hne]
                     rfl
                   exact ih (some (F, false, false) :: k) _ 1 (stepS s) _ ρ3 (by omega) h0 hM3 (by rw [hpe]; show Inv N (0 + cntL (pendL k)) _; exact hI3.mono (by omega)) (Or.inr hgd) (by show k.length + 1 ≤ 9; omega) (fuk.cs (by show N + 1 ≤ F + _; omega) (hfu.mo (by omega))) (by rw [hpe]; exact hP3) (by rw [hpe]; exact h373) (by rw [h353]; show _ = ((k.length + 1 : Nat) : Int) - 1; omega) (by rw [hbk2]; omega) (Or.inl ⟨rfl, hT3⟩) hW3)
                | (have hci := com_i (F := F) (V := tV B n) hN h0 hy1.2.1
                   have hcl : claimS F (tK B n) (tV B n) (9 - k.length) s = comS F (tK B n) (tV B n) s := by
                     cases 9 - k.length with
                     | zero => rw [claimS_0, hk0, if_neg (by omega)]
                     | succ e => rw [claimS_s, hk0, if_neg (by omega), if_neg (by omega)]
                   have hpf := putC_f 9 (-17) (pendL k) (comS F (tK B n) (tV B n) s)
                   have hIc := putC_inv 9 (-17) (by decide) _ _ hI1
                   rw [hp9] at hIc hP4 h374
                   refine ih (stripN k) br 0 (putC 9 (-17) (pendL k) (comS F (tK B n) (tV B n) s)) _ ρ4 (by rw [hpf.2]; have := hI1.1; omega) (by rw [hpf.1]; exact hy1.2.1) hM4 hIc ?_ (by omega) ?_ hP4 h374 h354 (by rw [hbr, hb5, ← hk5]) (Or.inr ⟨rfl, ?_, ?_⟩) ((hF.tr (hG1.mo (by decide) (by decide))).tr (hG4.mo (by decide) (by decide)))
                   · rw [hk5]; exact hg5
                   · rw [hpf.2]; exact (strip_fu k hfu).mo (by omega)
                   · rw [← pend_9s, ← hcl]; exact hT
                   · rw [hk5]; rfl)
              · skip
                replace c_67 := bz1 c_67
                refine AW_bipush dX12_readAny_70 ?_
                refine AW_goto (tgt := 77) dX12_readAny_72 (by decide) ?_
                refine AW_callV1 (d' := d - 1) dX12_readAny_77 (Or.inl lkX12_287) mfX12_waitsFor (hS1.cel rfl) ⟨_, rfl, rfl⟩ (n_waitsFor hS1 hP1 h371 (by omega) _) (by omega) (Nat.le_of_ble_eq_true rfl) ?_
                rintro _ ρ2 ⟨rfl, hP2, h372, hG2⟩ -
                have hS2 := hG2.sta hS1
                have hM2 := hM1.fm hG2
                refine AW_aload_n dX12_readAny_80 rfl ?_
                refine AW_callV0 (d' := d - 1) dX12_readAny_81 (Or.inl lkX12_262) mfX12_reads (hS2.cel rfl) ⟨_, rfl, rfl⟩ (n_mreads (by omega) hS2 hby hM2 (by omega)) (by omega) (Nat.le_of_ble_eq_true rfl) ?_
                rintro _ ρ3 ⟨rfl, hM3, hG3⟩ -
                have hW3 := (hW1.tr (hG2.mo (by decide) (by decide))).tr (hG3.mo (by decide) (by decide))
                have hP3 := Pn.fm hG3 (by decide) _ hP2
                have h373 := (hG3.f 37).trans h372
                have h353 := ((hG3.f 35).trans (hG2.f 35)).trans h351
                have hI3 := hI.step hN (by omega) (by omega)
                have hi3 : (stepS s).2.1 = s.2.1 + 1 := rfl
                have hin3 := hI3.1
                refine AW_goto (tgt := 9) dX12_readAny_84 (by decide) ?_
                first
                | (exfalso; omega; done)
                | (have e9 : 9 - k.length = (9 - (none :: k : List Fk).length) + 1 := by show 9 - k.length = 9 - (k.length + 1) + 1; omega
                   have hT3 : resu F (tK B n) (tV B n) (none :: k) (claimS F (tK B n) (tV B n) (9 - (none :: k : List Fk).length) (stepS s)) = T := by
                     rw [← hT, e9, claimS_s, hk0, if_pos (by omega), resu_n]
                   exact ih (none :: k) _ 1 (stepS s) _ ρ3 (by omega) h0 hM3 (by show Inv N (1 + cntL (pendL k)) _; rw [Nat.add_comm]; exact hI3) hgd (by show k.length + 1 ≤ 9; omega) (fuk.cn (hfu.mo (by omega))) hP3 h373 (by rw [h353]; show _ = ((k.length + 1 : Nat) : Int) - 1; omega) hbr (Or.inl ⟨rfl, hT3⟩) hW3)
                | (have e9 : 9 - k.length = (9 - (some (F, false, false) :: k : List Fk).length) + 1 := by show 9 - k.length = 9 - (k.length + 1) + 1; omega
                   have hne : k.isEmpty = false := by
                     cases k with
                     | nil => exact hgd.elim
                     | cons x k => rfl
                   have hpe : pendL (some (F, false, false) :: k) = 12 :: pendL k := by
                     show [] ++ ([] ++ (if k.isEmpty = true then [] else 12 :: pendL k)) = _
                     rw [hne]
                     rfl
                   have e8 : 9 - (some (F, false, false) :: k : List Fk).length = 8 - k.length := by show 9 - (k.length + 1) = _; omega
                   have hT3 : resu F (tK B n) (tV B n) (some (F, false, false) :: k) (claimS F (tK B n) (tV B n) (9 - (some (F, false, false) :: k : List Fk).length) (stepS s)) = T := by
                     rw [← hT, e9, claimS_s, hk0, if_neg (by omega), if_pos (by omega), resu_s, hne, if_neg (by decide), e8]
                     rfl
                   have hbk2 : brk (some (F, false, false) :: k) = 1 + brk k := by
                     show (if k.isEmpty = true then 0 else 1) + brk k = _
                     rw [hne]
                     rfl
                   exact ih (some (F, false, false) :: k) _ 1 (stepS s) _ ρ3 (by omega) h0 hM3 (by rw [hpe]; show Inv N (0 + cntL (pendL k)) _; exact hI3.mono (by omega)) (Or.inr hgd) (by show k.length + 1 ≤ 9; omega) (fuk.cs (by show N + 1 ≤ F + _; omega) (hfu.mo (by omega))) (by rw [hpe]; exact hP3) (by rw [hpe]; exact h373) (by rw [h353]; show _ = ((k.length + 1 : Nat) : Int) - 1; omega) (by rw [hbk2]; omega) (Or.inl ⟨rfl, hT3⟩) hW3)
                | (have hci := com_i (F := F) (V := tV B n) hN h0 hy1.2.1
                   have hcl : claimS F (tK B n) (tV B n) (9 - k.length) s = comS F (tK B n) (tV B n) s := by
                     cases 9 - k.length with
                     | zero => rw [claimS_0, hk0, if_neg (by omega)]
                     | succ e => rw [claimS_s, hk0, if_neg (by omega), if_neg (by omega)]
                   have hpf := putC_f 9 (-17) (pendL k) (comS F (tK B n) (tV B n) s)
                   have hIc := putC_inv 9 (-17) (by decide) _ _ hI1
                   rw [hp9] at hIc hP4 h374
                   refine ih (stripN k) br 0 (putC 9 (-17) (pendL k) (comS F (tK B n) (tV B n) s)) _ ρ4 (by rw [hpf.2]; have := hI1.1; omega) (by rw [hpf.1]; exact hy1.2.1) hM4 hIc ?_ (by omega) ?_ hP4 h374 h354 (by rw [hbr, hb5, ← hk5]) (Or.inr ⟨rfl, ?_, ?_⟩) ((hF.tr (hG1.mo (by decide) (by decide))).tr (hG4.mo (by decide) (by decide)))
                   · rw [hk5]; exact hg5
                   · rw [hpf.2]; exact (strip_fu k hfu).mo (by omega)
                   · rw [← pend_9s, ← hcl]; exact hT
                   · rw [hk5]; rfl)
            · skip
              replace c_58 := bz0 c_58
              refine AW_iload_n dX12_readAny_61 rfl ?_
              refine AW_iconst dX12_readAny_62 ?_
              refine AW_iaddE dX12_readAny_63 (by omega) (by omega) ?_
              refine AW_istore1 dX12_readAny_64 ?_
              refine AW_aload_n dX12_readAny_65 rfl ?_
              refine AW_iload_n dX12_readAny_66 rfl ?_
              refine AW_if_eq (tgt := 75) dX12_readAny_67 (by decide) (fun c_67 => ?_) (fun c_67 => ?_)
              · skip
                replace c_67 := bz0 c_67
                refine AW_bipush dX12_readAny_75 ?_
                refine AW_callV1 (d' := d - 1) dX12_readAny_77 (Or.inl lkX12_287) mfX12_waitsFor (hS1.cel rfl) ⟨_, rfl, rfl⟩ (n_waitsFor hS1 hP1 h371 (by omega) _) (by omega) (Nat.le_of_ble_eq_true rfl) ?_
                rintro _ ρ2 ⟨rfl, hP2, h372, hG2⟩ -
                have hS2 := hG2.sta hS1
                have hM2 := hM1.fm hG2
                refine AW_aload_n dX12_readAny_80 rfl ?_
                refine AW_callV0 (d' := d - 1) dX12_readAny_81 (Or.inl lkX12_262) mfX12_reads (hS2.cel rfl) ⟨_, rfl, rfl⟩ (n_mreads (by omega) hS2 hby hM2 (by omega)) (by omega) (Nat.le_of_ble_eq_true rfl) ?_
                rintro _ ρ3 ⟨rfl, hM3, hG3⟩ -
                have hW3 := (hW1.tr (hG2.mo (by decide) (by decide))).tr (hG3.mo (by decide) (by decide))
                have hP3 := Pn.fm hG3 (by decide) _ hP2
                have h373 := (hG3.f 37).trans h372
                have h353 := ((hG3.f 35).trans (hG2.f 35)).trans h351
                have hI3 := hI.step hN (by omega) (by omega)
                have hi3 : (stepS s).2.1 = s.2.1 + 1 := rfl
                have hin3 := hI3.1
                refine AW_goto (tgt := 9) dX12_readAny_84 (by decide) ?_
                first
                | (exfalso; omega; done)
                | (have e9 : 9 - k.length = (9 - (none :: k : List Fk).length) + 1 := by show 9 - k.length = 9 - (k.length + 1) + 1; omega
                   have hT3 : resu F (tK B n) (tV B n) (none :: k) (claimS F (tK B n) (tV B n) (9 - (none :: k : List Fk).length) (stepS s)) = T := by
                     rw [← hT, e9, claimS_s, hk0, if_pos (by omega), resu_n]
                   exact ih (none :: k) _ 1 (stepS s) _ ρ3 (by omega) h0 hM3 (by show Inv N (1 + cntL (pendL k)) _; rw [Nat.add_comm]; exact hI3) hgd (by show k.length + 1 ≤ 9; omega) (fuk.cn (hfu.mo (by omega))) hP3 h373 (by rw [h353]; show _ = ((k.length + 1 : Nat) : Int) - 1; omega) hbr (Or.inl ⟨rfl, hT3⟩) hW3)
                | (have e9 : 9 - k.length = (9 - (some (F, false, false) :: k : List Fk).length) + 1 := by show 9 - k.length = 9 - (k.length + 1) + 1; omega
                   have hne : k.isEmpty = false := by
                     cases k with
                     | nil => exact hgd.elim
                     | cons x k => rfl
                   have hpe : pendL (some (F, false, false) :: k) = 12 :: pendL k := by
                     show [] ++ ([] ++ (if k.isEmpty = true then [] else 12 :: pendL k)) = _
                     rw [hne]
                     rfl
                   have e8 : 9 - (some (F, false, false) :: k : List Fk).length = 8 - k.length := by show 9 - (k.length + 1) = _; omega
                   have hT3 : resu F (tK B n) (tV B n) (some (F, false, false) :: k) (claimS F (tK B n) (tV B n) (9 - (some (F, false, false) :: k : List Fk).length) (stepS s)) = T := by
                     rw [← hT, e9, claimS_s, hk0, if_neg (by omega), if_pos (by omega), resu_s, hne, if_neg (by decide), e8]
                     rfl
                   have hbk2 : brk (some (F, false, false) :: k) = 1 + brk k := by
                     show (if k.isEmpty = true then 0 else 1) + brk k = _
                     rw [hne]
                     rfl
                   exact ih (some (F, false, false) :: k) _ 1 (stepS s) _ ρ3 (by omega) h0 hM3 (by rw [hpe]; show Inv N (0 + cntL (pendL k)) _; exact hI3.mono (by omega)) (Or.inr hgd) (by show k.length + 1 ≤ 9; omega) (fuk.cs (by show N + 1 ≤ F + _; omega) (hfu.mo (by omega))) (by rw [hpe]; exact hP3) (by rw [hpe]; exact h373) (by rw [h353]; show _ = ((k.length + 1 : Nat) : Int) - 1; omega) (by rw [hbk2]; omega) (Or.inl ⟨rfl, hT3⟩) hW3)
                | (have hci := com_i (F := F) (V := tV B n) hN h0 hy1.2.1
                   have hcl : claimS F (tK B n) (tV B n) (9 - k.length) s = comS F (tK B n) (tV B n) s := by
                     cases 9 - k.length with
                     | zero => rw [claimS_0, hk0, if_neg (by omega)]
                     | succ e => rw [claimS_s, hk0, if_neg (by omega), if_neg (by omega)]
                   have hpf := putC_f 9 (-17) (pendL k) (comS F (tK B n) (tV B n) s)
                   have hIc := putC_inv 9 (-17) (by decide) _ _ hI1
                   rw [hp9] at hIc hP4 h374
                   refine ih (stripN k) br 0 (putC 9 (-17) (pendL k) (comS F (tK B n) (tV B n) s)) _ ρ4 (by rw [hpf.2]; have := hI1.1; omega) (by rw [hpf.1]; exact hy1.2.1) hM4 hIc ?_ (by omega) ?_ hP4 h374 h354 (by rw [hbr, hb5, ← hk5]) (Or.inr ⟨rfl, ?_, ?_⟩) ((hF.tr (hG1.mo (by decide) (by decide))).tr (hG4.mo (by decide) (by decide)))
                   · rw [hk5]; exact hg5
                   · rw [hpf.2]; exact (strip_fu k hfu).mo (by omega)
                   · rw [← pend_9s, ← hcl]; exact hT
                   · rw [hk5]; rfl)
              · skip
                replace c_67 := bz1 c_67
                refine AW_bipush dX12_readAny_70 ?_
                refine AW_goto (tgt := 77) dX12_readAny_72 (by decide) ?_
                refine AW_callV1 (d' := d - 1) dX12_readAny_77 (Or.inl lkX12_287) mfX12_waitsFor (hS1.cel rfl) ⟨_, rfl, rfl⟩ (n_waitsFor hS1 hP1 h371 (by omega) _) (by omega) (Nat.le_of_ble_eq_true rfl) ?_
                rintro _ ρ2 ⟨rfl, hP2, h372, hG2⟩ -
                have hS2 := hG2.sta hS1
                have hM2 := hM1.fm hG2
                refine AW_aload_n dX12_readAny_80 rfl ?_
                refine AW_callV0 (d' := d - 1) dX12_readAny_81 (Or.inl lkX12_262) mfX12_reads (hS2.cel rfl) ⟨_, rfl, rfl⟩ (n_mreads (by omega) hS2 hby hM2 (by omega)) (by omega) (Nat.le_of_ble_eq_true rfl) ?_
                rintro _ ρ3 ⟨rfl, hM3, hG3⟩ -
                have hW3 := (hW1.tr (hG2.mo (by decide) (by decide))).tr (hG3.mo (by decide) (by decide))
                have hP3 := Pn.fm hG3 (by decide) _ hP2
                have h373 := (hG3.f 37).trans h372
                have h353 := ((hG3.f 35).trans (hG2.f 35)).trans h351
                have hI3 := hI.step hN (by omega) (by omega)
                have hi3 : (stepS s).2.1 = s.2.1 + 1 := rfl
                have hin3 := hI3.1
                refine AW_goto (tgt := 9) dX12_readAny_84 (by decide) ?_
                first
                | (exfalso; omega; done)
                | (have e9 : 9 - k.length = (9 - (none :: k : List Fk).length) + 1 := by show 9 - k.length = 9 - (k.length + 1) + 1; omega
                   have hT3 : resu F (tK B n) (tV B n) (none :: k) (claimS F (tK B n) (tV B n) (9 - (none :: k : List Fk).length) (stepS s)) = T := by
                     rw [← hT, e9, claimS_s, hk0, if_pos (by omega), resu_n]
                   exact ih (none :: k) _ 1 (stepS s) _ ρ3 (by omega) h0 hM3 (by show Inv N (1 + cntL (pendL k)) _; rw [Nat.add_comm]; exact hI3) hgd (by show k.length + 1 ≤ 9; omega) (fuk.cn (hfu.mo (by omega))) hP3 h373 (by rw [h353]; show _ = ((k.length + 1 : Nat) : Int) - 1; omega) hbr (Or.inl ⟨rfl, hT3⟩) hW3)
                | (have e9 : 9 - k.length = (9 - (some (F, false, false) :: k : List Fk).length) + 1 := by show 9 - k.length = 9 - (k.length + 1) + 1; omega
                   have hne : k.isEmpty = false := by
                     cases k with
                     | nil => exact hgd.elim
                     | cons x k => rfl
                   have hpe : pendL (some (F, false, false) :: k) = 12 :: pendL k := by
                     show [] ++ ([] ++ (if k.isEmpty = true then [] else 12 :: pendL k)) = _
                     rw [hne]
                     rfl
                   have e8 : 9 - (some (F, false, false) :: k : List Fk).length = 8 - k.length := by show 9 - (k.length + 1) = _; omega
                   have hT3 : resu F (tK B n) (tV B n) (some (F, false, false) :: k) (claimS F (tK B n) (tV B n) (9 - (some (F, false, false) :: k : List Fk).length) (stepS s)) = T := by
                     rw [← hT, e9, claimS_s, hk0, if_neg (by omega), if_pos (by omega), resu_s, hne, if_neg (by decide), e8]
                     rfl
                   have hbk2 : brk (some (F, false, false) :: k) = 1 + brk k := by
                     show (if k.isEmpty = true then 0 else 1) + brk k = _
                     rw [hne]
                     rfl
                   exact ih (some (F, false, false) :: k) _ 1 (stepS s) _ ρ3 (by omega) h0 hM3 (by rw [hpe]; show Inv N (0 + cntL (pendL k)) _; exact hI3.mono (by omega)) (Or.inr hgd) (by show k.length + 1 ≤ 9; omega) (fuk.cs (by show N + 1 ≤ F + _; omega) (hfu.mo (by omega))) (by rw [hpe]; exact hP3) (by rw [hpe]; exact h373) (by rw [h353]; show _ = ((k.length + 1 : Nat) : Int) - 1; omega) (by rw [hbk2]; omega) (Or.inl ⟨rfl, hT3⟩) hW3)
                | (have hci := com_i (F := F) (V := tV B n) hN h0 hy1.2.1
                   have hcl : claimS F (tK B n) (tV B n) (9 - k.length) s = comS F (tK B n) (tV B n) s := by
                     cases 9 - k.length with
                     | zero => rw [claimS_0, hk0, if_neg (by omega)]
                     | succ e => rw [claimS_s, hk0, if_neg (by omega), if_neg (by omega)]
                   have hpf := putC_f 9 (-17) (pendL k) (comS F (tK B n) (tV B n) s)
                   have hIc := putC_inv 9 (-17) (by decide) _ _ hI1
                   rw [hp9] at hIc hP4 h374
                   refine ih (stripN k) br 0 (putC 9 (-17) (pendL k) (comS F (tK B n) (tV B n) s)) _ ρ4 (by rw [hpf.2]; have := hI1.1; omega) (by rw [hpf.1]; exact hy1.2.1) hM4 hIc ?_ (by omega) ?_ hP4 h374 h354 (by rw [hbr, hb5, ← hk5]) (Or.inr ⟨rfl, ?_, ?_⟩) ((hF.tr (hG1.mo (by decide) (by decide))).tr (hG4.mo (by decide) (by decide)))
                   · rw [hk5]; exact hg5
                   · rw [hpf.2]; exact (strip_fu k hfu).mo (by omega)
                   · rw [← pend_9s, ← hcl]; exact hT
                   · rw [hk5]; rfl)
          · skip
            rw [h35] at c_38
            refine AW_aload_n dX12_readAny_41 rfl ?_
            refine AW_iconst dX12_readAny_42 ?_
            refine AW_callV1 (d' := d - 1) dX12_readAny_43 (Or.inl lkX12_255) mfX12_fails (hS.cel rfl) ⟨_, rfl, rfl⟩ (n_fails hS 3) (by omega) (Nat.le_of_ble_eq_true rfl) ?_
            rintro _ ρ1 ⟨rfl, q1, q2, q3⟩ -
            refine AW_iret dX12_readAny_46 rfl ?_
            have e9 : 9 - k.length = 0 := by omega
            have hc3 : claimS F (tK B n) (tV B n) (9 - k.length) s = (3, s.2) := by
              rw [e9, claimS_0, hk0, if_pos (by omega)]
              unfold blameS
              rw [if_pos h0]
            have hrf := resu_f (F := F) (K := tK B n) (V := tV B n) k (3, s.2) (by decide : (3 : Int) ≠ 0)
            rw [← hc3, hT, hc3] at hrf
            exact ⟨Or.inr ⟨by rw [hrf.1]; exact (by decide : (3 : Int) ≠ 0), rfl, by rw [hrf.1]; exact q1, by rw [hrf.2, q2, hM.2.2.1]⟩, fun h => absurd h (by rw [hrf.1]; exact (by decide : (3 : Int) ≠ 0)), hF.tr (q3.mo (by decide) (by decide))⟩
    · obtain ⟨q5, k5, hk5, hg5, hb5, hl5⟩ := strip_gd k hgd
      rw [hstr] at hk5
      subst hk5
      obtain ⟨f, w, a⟩ := q5
      clear hstr hb5
      have hkl2 : k5.length + 1 ≤ 9 := hkl
      have hf := hfu (f, w, a) (List.mem_cons_self ..)
      have hf1 : N + 1 ≤ f + s.2.1 := hf
      obtain ⟨f1, rfl⟩ : ∃ f1, f = f1 + 1 := ⟨f - 1, by omega⟩
      have hfu5 : fuk N s.2.1 k5 := fun q hq => hfu q (List.mem_cons_of_mem _ hq)
      have hpl2 : (pendL (some (f1 + 1, w, a) :: k5)).length ≤ 3 * (k5.length + 1) := hpl
      have h35a : τ.2.1 94 35 = (k5.length : Int) := by rw [h35]; show ((k5.length + 1 : Nat) : Int) - 1 = _; omega
      have e10 := pd_10 (f1 + 1) w a k5
      have p10 := pp_10 (f1 + 1) w a k5 s
      have e11 := pd_11 w k5
      have hld := dropC_len 10 (pendL (some (f1 + 1, w, a) :: k5))
      rw [e10] at hld
      have hI1 := putC_inv 10 (-15) (by decide) _ _ hI
      rw [e10] at hI1
      have hpf := putC_f 10 (-15) (pendL (some (f1 + 1, w, a) :: k5)) s
      have hcn : k5.isEmpty = true ∨ k5.isEmpty = false := by cases k5 <;> simp
      rw [resu_s] at hT
      show AW _ _ _ _ _ _ 9 [some (vR 94), some (vI br), some (vI 0), x3] [] τ
      refine AW_iload_n dX12_readAny_9 rfl ?_
      refine AW_if_eq (tgt := 108) dX12_readAny_10 (by decide) (fun _ => ?_) (fun c_10 => absurd c_10 (by decide))
      refine AW_aload_n dX12_readAny_108 rfl ?_
      refine AW_iconst dX12_readAny_109 ?_
      refine AW_callV1 (d' := d - 1) dX12_readAny_110 (Or.inl lkX12_284) mfX12_isWord (hS.cel rfl) ⟨_, rfl, rfl⟩ (n_isWord hS hM 4 (by decide)) (by omega) (Nat.le_of_ble_eq_true rfl) ?_
      rintro _ _ ⟨e_, rfl⟩ -
      rw [e_]
      clear e_
      refine AW_if_eq (tgt := 137) dX12_readAny_113 (by decide) (fun c_113 => ?_) (fun c_113 => ?_)
      · skip
        replace c_113 := bz0 c_113
        refine AW_aload_n dX12_readAny_137 rfl ?_
        refine AW_iconst dX12_readAny_138 ?_
        refine AW_callV1 (d' := d - 1) dX12_readAny_139 (Or.inl lkX12_284) mfX12_isWord (hS.cel rfl) ⟨_, rfl, rfl⟩ (n_isWord hS hM 3 (by decide)) (by omega) (Nat.le_of_ble_eq_true rfl) ?_
        rintro _ _ ⟨e_, rfl⟩ -
        rw [e_]
        clear e_
        refine AW_if_eq (tgt := 172) dX12_readAny_142 (by decide) (fun c_142 => ?_) (fun c_142 => ?_)
        · skip
          replace c_142 := bz0 c_142
          refine AW_aload_n dX12_readAny_172 rfl ?_
          refine AW_bipush dX12_readAny_173 ?_
          refine AW_callV1 (d' := d - 1) dX12_readAny_175 (Or.inl lkX12_293) mfX12_settles (hS.cel rfl) ⟨_, rfl, rfl⟩ (n_settles (oo := (k5.length : Int)) (x := -15) (by omega) hS hNn (by decide) (by decide) (by decide) (by omega) (by omega) h0 hM hI hP h37 (by rw [if_neg (by decide), h35a]; omega)) (by omega) (Nat.le_of_ble_eq_true rfl) ?_
          rintro _ ρ1 ⟨rfl, hM1, hP1, h371, h351, hG1⟩ -
          have hS1 := hG1.sta hS
          rw [e10] at hP1 h371
          have h01 : (putC 10 (-15) (pendL (some (f1 + 1, w, a) :: k5)) s).1 = 0 := by rw [hpf.1]; exact h0
          rw [p10] at hM1 h01 hI1 hpf
          generalize hs1 : (if a = true then putS (-15) s else s) = s1 at hM1 h01 hI1 hT hpf
          have hpf2 : s1.2.1 = s.2.1 := hpf.2
          have hpg := putC_f 11 (-16) (orL w k5) s1
          have p11 := pp_11 w k5 s1
          have hI2 := putC_inv 11 (-16) (by decide) _ _ hI1
          rw [e11] at hI2
          have hk1 : kd (tK B n) s1 = tK B n s.2.1 := by rw [kd0 h01, hpf2]
          have hkp : ∀ b : Bool, kd (tK B n) (if b = true then putS (-16) s1 else s1) = tK B n s.2.1 := by
            intro b
            cases b
            · exact hk1
            · exact hk1
          refine AW_aload_n dX12_readAny_178 rfl ?_
          refine AW_bipush dX12_readAny_179 ?_
          refine AW_callV1 (d' := d - 1) dX12_readAny_181 (Or.inl lkX12_293) mfX12_settles (hS1.cel rfl) ⟨_, rfl, rfl⟩ (n_settles (oo := (k5.length : Int)) (x := -16) (by omega) hS1 hNn (by decide) (by decide) (by decide) (by omega) (by omega) h01 hM1 hI1 hP1 h371 (by rw [if_neg (by decide), h351]; omega)) (by omega) (Nat.le_of_ble_eq_true rfl) ?_
          rintro _ ρ2 ⟨rfl, hM2, hP2, h372, h352, hG2⟩ -
          have hS2 := hG2.sta hS1
          rw [e11] at hP2 h372
          have h02 : (putC 11 (-16) (orL w k5) s1).1 = 0 := by rw [hpg.1]; exact h01
          rw [p11] at hM2 h02 hI2 hpg
          have hpg2 : (if w = true then putS (-16) s1 else s1).2.1 = s.2.1 := hpg.2.trans hpf2
          refine AW_iload_n dX12_readAny_184 rfl ?_
          refine AW_if_ne (tgt := 190) dX12_readAny_185 (by decide) (fun c_185 => ?_) (fun c_185 => ?_)
          · skip
            have hbr0 : br ≠ 0 := c_185
            have hne : k5.isEmpty = false := by
              rcases hcn with e | e
              · exfalso
                apply hbr0
                rw [hbr]
                show (((if k5.isEmpty = true then 0 else 1) + brk k5 : Nat) : Int) = 0
                have e5 : k5 = [] := by cases k5 with | nil => rfl | cons x k => cases e
                subst e5
                rfl
              · exact e
            have hbk5 : br = 1 + (brk k5 : Int) := by
              rw [hbr]
              show (((if k5.isEmpty = true then 0 else 1) + brk k5 : Nat) : Int) = _
              rw [hne, if_neg (by decide)]
              omega
            have hrst : rstL k5 = 12 :: pendL k5 := by
              unfold rstL
              rw [hne]
              rfl
            rw [hrst] at hP2 h372 hI2
            have hg6 : gdk k5 := by
              rcases hg5 with e | e
              · subst e; cases hne
              · exact e
            rw [hne, if_neg (by decide), eitherL_s, hk1, if_neg (by omega), if_neg (by omega)] at hT
            have hplk := pend_len k5
            refine AW_aload_n dX12_readAny_190 rfl ?_
            refine AW_bipush dX12_readAny_191 ?_
            refine AW_callV1 (d' := d - 1) dX12_readAny_193 (Or.inl lkX12_269) mfX12_isSign (hS2.cel rfl) ⟨_, rfl, rfl⟩ (n_isSign hS2 hM2 41 (by decide)) (by omega) (Nat.le_of_ble_eq_true rfl) ?_
            rintro _ _ ⟨e_, rfl⟩ -
            rw [e_]
            clear e_
            rw [hpg2]
            refine AW_if_ne (tgt := 205) dX12_readAny_196 (by decide) (fun c_196 => ?_) (fun c_196 => ?_)
            · skip
              replace c_196 := bz1 c_196
              
              refine AW_aload_n dX12_readAny_205 rfl ?_
              refine AW_aload_n dX12_readAny_206 rfl ?_
              refine AW_getI dX12_readAny_207 gfX12_278 (hS2.cel rfl) ?_
              refine AW_iconst dX12_readAny_210 ?_
              refine AW_isubE dX12_readAny_211 (by rw [h372]; simp only [List.length_cons]; omega) (by rw [h372]; simp only [List.length_cons]; omega) ?_
              refine AW_putI dX12_readAny_212 (Or.inl pfX12_278) (hS2.cel rfl) ?_
              rw [h372, show (((12 :: pendL k5).length : Nat) : Int) - 1 = ((pendL k5).length : Int) by simp]
              have hF5a : Fe [37] [] ρ2 (upI ρ2 94 37 ((pendL k5).length : Int)) := Fe.rf.uf (by decide) _
              have hMa := hM2.fm hF5a
              have hSa := hF5a.sta hS2
              have hPa := Pn.fm hF5a (by decide) _ hP2.2
              have h37a : (upI ρ2 94 37 ((pendL k5).length : Int)).2.1 94 37 = ((pendL k5).length : Int) := up_at _ _ _ _
              have h35b := (hF5a.f 35).trans h352
              generalize upI ρ2 94 37 ((pendL k5).length : Int) = ρa at hF5a hMa hSa hPa h37a h35b ⊢
              refine AW_iload_n dX12_readAny_215 rfl ?_
              refine AW_iconst dX12_readAny_216 ?_
              refine AW_isubE dX12_readAny_217 (by omega) (by omega) ?_
              refine AW_istore1 dX12_readAny_218 ?_
              refine AW_aload_n dX12_readAny_219 rfl ?_
              refine AW_aload_n dX12_readAny_220 rfl ?_
              refine AW_getI dX12_readAny_221 gfX12_281 (hSa.cel rfl) ?_
              refine AW_iconst dX12_readAny_224 ?_
              refine AW_isubE dX12_readAny_225 (by rw [h35b]; omega) (by rw [h35b]; omega) ?_
              refine AW_putI dX12_readAny_226 (Or.inl pfX12_281) (hSa.cel rfl) ?_
              rw [h35b]
              have hF5 : Fe [35] [] ρa (upI ρa 94 35 ((k5.length : Int) - 1)) := Fe.rf.uf (by decide) _
              have hM5 := hMa.fm hF5
              have hS5 := hF5.sta hSa
              have hP5 := Pn.fm hF5 (by decide) _ hPa
              have h375 := (hF5.f 37).trans h37a
              have h355 : (upI ρa 94 35 ((k5.length : Int) - 1)).2.1 94 35 = (k5.length : Int) - 1 := up_at _ _ _ _
              generalize upI ρa 94 35 ((k5.length : Int) - 1) = ρ5 at hF5 hM5 hS5 hP5 h375 h355 ⊢
              have hp9 := pend_9 k5
              have hp9l := pend_9l k5
              have hdl := dropC_len 9 (pendL k5)
              rw [hp9] at hdl
              obtain ⟨q7, k7, hk7, hg7, hb7, hl7⟩ := strip_gd k5 hg6
              have hk7l : (stripN k5).length = k7.length + 1 := by rw [hk7]; rfl
              have hoo : 0 ≤ ((stripN k5).length : Int) - 1 ∧ ((stripN k5).length : Int) - 1 ≤ 100 := by omega
              have hI5 : Inv N (cntL (pendL k5)) (if w = true then putS (-16) s1 else s1) := hI2.mono (by show _ ≤ 0 + cntL (pendL k5); omega)
              have hopn : ρ5.2.1 94 35 = ((stripN k5).length : Int) - 1 + (if (9 : Int) = 9 then ((pendL k5).length : Int) - (dropC 9 (pendL k5)).length else 0) := by
                rw [if_pos rfl, hp9, h355]
                omega
              refine AW_aload_n dX12_readAny_229 rfl ?_
              refine AW_bipush dX12_readAny_230 ?_
              refine AW_callV1 (d' := d - 1) dX12_readAny_232 (Or.inl lkX12_293) mfX12_settles (hS5.cel rfl) ⟨_, rfl, rfl⟩ (n_settles (oo := ((stripN k5).length : Int) - 1) (x := -17) (by omega) hS5 hNn (by decide) (by decide) (by decide) hoo (by omega) h02 hM5 hI5 hP5 h375 hopn) (by omega) (Nat.le_of_ble_eq_true rfl) ?_
              rintro _ ρ6 ⟨rfl, hM6, hP6, h376, h356, hG6⟩ -
              have hS6 := hG6.sta hS5
              have hpf6 := putC_f 9 (-17) (pendL k5) (if w = true then putS (-16) s1 else s1)
              refine AW_aload_n dX12_readAny_235 rfl ?_
              refine AW_callV0 (d' := d - 1) dX12_readAny_236 (Or.inl lkX12_262) mfX12_reads (hS6.cel rfl) ⟨_, rfl, rfl⟩ (n_mreads (by omega) hS6 hby hM6 (by rw [hpf6.2, hpg2]; omega)) (by omega) (Nat.le_of_ble_eq_true rfl) ?_
              rintro _ ρ7 ⟨rfl, hM7, hG7⟩ -
              refine AW_goto (tgt := 9) dX12_readAny_239 (by decide) ?_
              first
              | (have hkk : kd (tK B n) s1 = 260 := by rw [hk1]; omega
                 have hTn : resu F (tK B n) (tV B n) (some (f1, w, true) :: k5) (claimS F (tK B n) (tV B n) (9 - (some (f1, w, true) :: k5 : List Fk).length) (stepS s1)) = T := by
                   rw [← hT, resu_s, show 9 - (some (f1, w, true) :: k5 : List Fk).length = 8 - k5.length by show 9 - (k5.length + 1) = _; omega, eitherL_s, if_pos hkk]
                   rfl
                 exact ih (some (f1, w, true) :: k5) br 1 (stepS s1) _ ρ4 (by omega) h01 hM4 (by show Inv N (1 + cntL (orL w k5)) _; rw [Nat.add_comm]; exact hI4) hgd hkl (fuk.cs (by show N + 1 ≤ f1 + _; omega) (hfu5.mo (by omega))) hP4 h374 (by rw [h354]; show _ = ((k5.length + 1 : Nat) : Int) - 1; omega) hbr (Or.inl ⟨rfl, hTn⟩) hW4)
              | (have hkk : kd (tK B n) s1 = 259 := by rw [hk1]; omega
                 have hTn : resu F (tK B n) (tV B n) (some (f1, true, false) :: k5) (claimS F (tK B n) (tV B n) (9 - (some (f1, true, false) :: k5 : List Fk).length) (stepS (if w = true then putS (-16) s1 else s1))) = T := by
                   rw [← hT, resu_s, show 9 - (some (f1, true, false) :: k5 : List Fk).length = 8 - k5.length by show 9 - (k5.length + 1) = _; omega, eitherL_s, if_neg (show ¬ kd (tK B n) s1 = 260 by omega), if_pos hkk]
                   rfl
                 exact ih (some (f1, true, false) :: k5) br 1 (stepS (if w = true then putS (-16) s1 else s1)) _ ρ4 (by omega) h02 hM4 (by show Inv N (1 + cntL (rstL k5)) _; rw [Nat.add_comm]; exact hI4) hgd hkl (fuk.cs (by show N + 1 ≤ f1 + _; omega) (hfu5.mo (by omega))) hP4 h374 (by rw [h354]; show _ = ((k5.length + 1 : Nat) : Int) - 1; omega) hbr (Or.inl ⟨rfl, hTn⟩) hW4)
              | (have hcS : closeS (tK B n) (if w = true then putS (-16) s1 else s1) = stepS (if w = true then putS (-16) s1 else s1) := by
                   unfold closeS
                   rw [hkp, if_pos (by omega)]
                 have hIc := putC_inv 9 (-17) (by decide) _ _ hI5
                 have hi6 : (putC 9 (-17) (pendL k5) (if w = true then putS (-16) s1 else s1)).2.1 = s.2.1 := hpf6.2.trans hpg2
                 have hi7 : (stepS (putC 9 (-17) (pendL k5) (if w = true then putS (-16) s1 else s1))).2.1 = s.2.1 + 1 := by rw [← hi6]; rfl
                 have hk6 : kd (tK B n) (putC 9 (-17) (pendL k5) (if w = true then putS (-16) s1 else s1)) = tK B n s.2.1 := by rw [putC_kd, hkp]
                 have hI7 := hIc.step hN (by rw [hk6]; omega) (by rw [hk6]; omega)
                 have hin7 := hI7.1
                 rw [hp9] at hI7 hP6 h376
                 refine ih (stripN k5) _ 0 (stepS (putC 9 (-17) (pendL k5) (if w = true then putS (-16) s1 else s1))) _ ρ7 (by omega) (by show (putC _ _ _ _).1 = 0; rw [hpf6.1]; exact h02) hM7 (hI7.mono (by omega)) ?_ (by omega) ?_ (Pn.fm hG7 (by decide) _ hP6) ((hG7.f 37).trans h376) ((hG7.f 35).trans h356) (by rw [hk7, ← hb7]; omega) (Or.inr ⟨rfl, ?_, ?_⟩) ((((((hF.tr (hG1.mo (by decide) (by decide))).tr (hG2.mo (by decide) (by decide))).tr (hF5a.mo (by decide) (by decide))).tr (hF5.mo (by decide) (by decide))).tr (hG6.mo (by decide) (by decide))).tr (hG7.mo (by decide) (by decide)))
                 · rw [hk7]; exact hg7
                 · rw [hi7]; exact (strip_fu k5 hfu5).mo (by omega)
                 · rw [putC_step, ← pend_9s, ← hcS]; exact hT
                 · rw [hk7]; rfl)
            · skip
              replace c_196 := bz0 c_196
              refine AW_aload_n dX12_readAny_199 rfl ?_
              refine AW_iconst dX12_readAny_200 ?_
              refine AW_callV1 (d' := d - 1) dX12_readAny_201 (Or.inl lkX12_255) mfX12_fails (hS2.cel rfl) ⟨_, rfl, rfl⟩ (n_fails hS2 1) (by omega) (Nat.le_of_ble_eq_true rfl) ?_
              rintro _ ρ3 ⟨rfl, q1, q2, q3⟩ -
              refine AW_iret dX12_readAny_204 rfl ?_
              have hcS : closeS (tK B n) (if w = true then putS (-16) s1 else s1) = (1, (if w = true then putS (-16) s1 else s1).2) := by
                unfold closeS blameS
                rw [hkp, if_neg (by assumption), if_pos h02]
              rw [hcS] at hT
              have hrf := resu_f (F := F) (K := tK B n) (V := tV B n) k5 (1, (if w = true then putS (-16) s1 else s1).2) (by decide : (1 : Int) ≠ 0)
              rw [hT] at hrf
              exact ⟨Or.inr ⟨by rw [hrf.1]; exact (by decide : (1 : Int) ≠ 0), rfl, by rw [hrf.1]; exact q1, by rw [hrf.2, q2, hM2.2.2.1]⟩, fun h => absurd h (by rw [hrf.1]; exact (by decide : (1 : Int) ≠ 0)), ((hF.tr (hG1.mo (by decide) (by decide))).tr (hG2.mo (by decide) (by decide))).tr (q3.mo (by decide) (by decide))⟩
          · skip
            have hbr0 : br = 0 := by omega
            have hne : k5.isEmpty = true := by
              rcases hcn with e | e
              · exact e
              · exfalso
                have : br = (((if k5.isEmpty = true then 0 else 1) + brk k5 : Nat) : Int) := hbr
                rw [e, if_neg (by decide)] at this
                omega
            have e5 : k5 = [] := by cases k5 with | nil => rfl | cons x k => cases hne
            subst e5
            rw [hne, if_pos rfl, eitherL_s, hk1, if_neg (by omega), if_neg (by omega)] at hT
            refine AW_iconst dX12_readAny_188 ?_
            refine AW_iret dX12_readAny_189 rfl ?_
            rw [← hT]
            exact ⟨Or.inl ⟨h02, rfl, hM2⟩, fun _ => h352, (hF.tr (hG1.mo (by decide) (by decide))).tr (hG2.mo (by decide) (by decide))⟩
        · skip
          replace c_142 := bz1 c_142
          refine AW_aload_n dX12_readAny_145 rfl ?_
          refine AW_bipush dX12_readAny_146 ?_
          refine AW_callV1 (d' := d - 1) dX12_readAny_148 (Or.inl lkX12_293) mfX12_settles (hS.cel rfl) ⟨_, rfl, rfl⟩ (n_settles (oo := (k5.length : Int)) (x := -15) (by omega) hS hNn (by decide) (by decide) (by decide) (by omega) (by omega) h0 hM hI hP h37 (by rw [if_neg (by decide), h35a]; omega)) (by omega) (Nat.le_of_ble_eq_true rfl) ?_
          rintro _ ρ1 ⟨rfl, hM1, hP1, h371, h351, hG1⟩ -
          have hS1 := hG1.sta hS
          rw [e10] at hP1 h371
          have h01 : (putC 10 (-15) (pendL (some (f1 + 1, w, a) :: k5)) s).1 = 0 := by rw [hpf.1]; exact h0
          rw [p10] at hM1 h01 hI1 hpf
          generalize hs1 : (if a = true then putS (-15) s else s) = s1 at hM1 h01 hI1 hT hpf
          have hpf2 : s1.2.1 = s.2.1 := hpf.2
          have hpg := putC_f 11 (-16) (orL w k5) s1
          have p11 := pp_11 w k5 s1
          have hI2 := putC_inv 11 (-16) (by decide) _ _ hI1
          rw [e11] at hI2
          have hk1 : kd (tK B n) s1 = tK B n s.2.1 := by rw [kd0 h01, hpf2]
          have hkp : ∀ b : Bool, kd (tK B n) (if b = true then putS (-16) s1 else s1) = tK B n s.2.1 := by
            intro b
            cases b
            · exact hk1
            · exact hk1
          refine AW_aload_n dX12_readAny_151 rfl ?_
          refine AW_bipush dX12_readAny_152 ?_
          refine AW_callV1 (d' := d - 1) dX12_readAny_154 (Or.inl lkX12_293) mfX12_settles (hS1.cel rfl) ⟨_, rfl, rfl⟩ (n_settles (oo := (k5.length : Int)) (x := -16) (by omega) hS1 hNn (by decide) (by decide) (by decide) (by omega) (by omega) h01 hM1 hI1 hP1 h371 (by rw [if_neg (by decide), h351]; omega)) (by omega) (Nat.le_of_ble_eq_true rfl) ?_
          rintro _ ρ2 ⟨rfl, hM2, hP2, h372, h352, hG2⟩ -
          have hS2 := hG2.sta hS1
          rw [e11] at hP2 h372
          have h02 : (putC 11 (-16) (orL w k5) s1).1 = 0 := by rw [hpg.1]; exact h01
          rw [p11] at hM2 h02 hI2 hpg
          have hpg2 : (if w = true then putS (-16) s1 else s1).2.1 = s.2.1 := hpg.2.trans hpf2
          refine AW_aload_n dX12_readAny_157 rfl ?_
          refine AW_bipush dX12_readAny_158 ?_
          refine AW_callV1 (d' := d - 1) dX12_readAny_160 (Or.inl lkX12_287) mfX12_waitsFor (hS2.cel rfl) ⟨_, rfl, rfl⟩ (n_waitsFor hS2 hP2 h372 (by rw [show rstL k5 = dropC 11 (orL w k5) from e11.symm]; have := dropC_len 11 (orL w k5); omega) _) (by omega) (Nat.le_of_ble_eq_true rfl) ?_
          rintro _ ρ3 ⟨rfl, hP3, h373, hG3⟩ -
          have hS3 := hG3.sta hS2
          have hM3 := hM2.fm hG3
          refine AW_aload_n dX12_readAny_163 rfl ?_
          refine AW_callV0 (d' := d - 1) dX12_readAny_164 (Or.inl lkX12_262) mfX12_reads (hS3.cel rfl) ⟨_, rfl, rfl⟩ (n_mreads (by omega) hS3 hby hM3 (by rw [hpg2]; omega)) (by omega) (Nat.le_of_ble_eq_true rfl) ?_
          rintro _ ρ4 ⟨rfl, hM4, hG4⟩ -
          have hW4 := (((hF.tr (hG1.mo (by decide) (by decide))).tr (hG2.mo (by decide) (by decide))).tr (hG3.mo (by decide) (by decide))).tr (hG4.mo (by decide) (by decide))
          have hP4 := Pn.fm hG4 (by decide) _ hP3
          have h374 := (hG4.f 37).trans h373
          have h354 := ((hG4.f 35).trans (hG3.f 35)).trans h352
          have hI4 := hI2.step hN (by rw [hkp]; omega) (by rw [hkp]; omega)
          have hi4 : (stepS (if w = true then putS (-16) s1 else s1)).2.1 = s.2.1 + 1 := by rw [← hpg2]; rfl
          have hin4 := hI4.1
          refine AW_iconst dX12_readAny_167 ?_
          refine AW_istore2 dX12_readAny_168 ?_
          refine AW_goto (tgt := 9) dX12_readAny_169 (by decide) ?_
          first
          | (have hkk : kd (tK B n) s1 = 260 := by rw [hk1]; omega
             have hTn : resu F (tK B n) (tV B n) (some (f1, w, true) :: k5) (claimS F (tK B n) (tV B n) (9 - (some (f1, w, true) :: k5 : List Fk).length) (stepS s1)) = T := by
               rw [← hT, resu_s, show 9 - (some (f1, w, true) :: k5 : List Fk).length = 8 - k5.length by show 9 - (k5.length + 1) = _; omega, eitherL_s, if_pos hkk]
               rfl
             exact ih (some (f1, w, true) :: k5) br 1 (stepS s1) _ ρ4 (by omega) h01 hM4 (by show Inv N (1 + cntL (orL w k5)) _; rw [Nat.add_comm]; exact hI4) hgd hkl (fuk.cs (by show N + 1 ≤ f1 + _; omega) (hfu5.mo (by omega))) hP4 h374 (by rw [h354]; show _ = ((k5.length + 1 : Nat) : Int) - 1; omega) hbr (Or.inl ⟨rfl, hTn⟩) hW4)
          | (have hkk : kd (tK B n) s1 = 259 := by rw [hk1]; omega
             have hTn : resu F (tK B n) (tV B n) (some (f1, true, false) :: k5) (claimS F (tK B n) (tV B n) (9 - (some (f1, true, false) :: k5 : List Fk).length) (stepS (if w = true then putS (-16) s1 else s1))) = T := by
               rw [← hT, resu_s, show 9 - (some (f1, true, false) :: k5 : List Fk).length = 8 - k5.length by show 9 - (k5.length + 1) = _; omega, eitherL_s, if_neg (show ¬ kd (tK B n) s1 = 260 by omega), if_pos hkk]
               rfl
             exact ih (some (f1, true, false) :: k5) br 1 (stepS (if w = true then putS (-16) s1 else s1)) _ ρ4 (by omega) h02 hM4 (by show Inv N (1 + cntL (rstL k5)) _; rw [Nat.add_comm]; exact hI4) hgd hkl (fuk.cs (by show N + 1 ≤ f1 + _; omega) (hfu5.mo (by omega))) hP4 h374 (by rw [h354]; show _ = ((k5.length + 1 : Nat) : Int) - 1; omega) hbr (Or.inl ⟨rfl, hTn⟩) hW4)
          | (have hcS : closeS (tK B n) (if w = true then putS (-16) s1 else s1) = stepS (if w = true then putS (-16) s1 else s1) := by
               unfold closeS
               rw [hkp, if_pos (by omega)]
             have hIc := putC_inv 9 (-17) (by decide) _ _ hI5
             have hi6 : (putC 9 (-17) (pendL k5) (if w = true then putS (-16) s1 else s1)).2.1 = s.2.1 := hpf6.2.trans hpg2
             have hi7 : (stepS (putC 9 (-17) (pendL k5) (if w = true then putS (-16) s1 else s1))).2.1 = s.2.1 + 1 := by rw [← hi6]; rfl
             have hk6 : kd (tK B n) (putC 9 (-17) (pendL k5) (if w = true then putS (-16) s1 else s1)) = tK B n s.2.1 := by rw [putC_kd, hkp]
             have hI7 := hIc.step hN (by rw [hk6]; omega) (by rw [hk6]; omega)
             have hin7 := hI7.1
             rw [hp9] at hI7 hP6 h376
             refine ih (stripN k5) _ 0 (stepS (putC 9 (-17) (pendL k5) (if w = true then putS (-16) s1 else s1))) _ ρ7 (by omega) (by show (putC _ _ _ _).1 = 0; rw [hpf6.1]; exact h02) hM7 (hI7.mono (by omega)) ?_ (by omega) ?_ (Pn.fm hG7 (by decide) _ hP6) ((hG7.f 37).trans h376) ((hG7.f 35).trans h356) (by rw [hk7, ← hb7]; omega) (Or.inr ⟨rfl, ?_, ?_⟩) ((((((hF.tr (hG1.mo (by decide) (by decide))).tr (hG2.mo (by decide) (by decide))).tr (hF5a.mo (by decide) (by decide))).tr (hF5.mo (by decide) (by decide))).tr (hG6.mo (by decide) (by decide))).tr (hG7.mo (by decide) (by decide)))
             · rw [hk7]; exact hg7
             · rw [hi7]; exact (strip_fu k5 hfu5).mo (by omega)
             · rw [putC_step, ← pend_9s, ← hcS]; exact hT
             · rw [hk7]; rfl)
      · skip
        replace c_113 := bz1 c_113
        refine AW_aload_n dX12_readAny_116 rfl ?_
        refine AW_bipush dX12_readAny_117 ?_
        refine AW_callV1 (d' := d - 1) dX12_readAny_119 (Or.inl lkX12_293) mfX12_settles (hS.cel rfl) ⟨_, rfl, rfl⟩ (n_settles (oo := (k5.length : Int)) (x := -15) (by omega) hS hNn (by decide) (by decide) (by decide) (by omega) (by omega) h0 hM hI hP h37 (by rw [if_neg (by decide), h35a]; omega)) (by omega) (Nat.le_of_ble_eq_true rfl) ?_
        rintro _ ρ1 ⟨rfl, hM1, hP1, h371, h351, hG1⟩ -
        have hS1 := hG1.sta hS
        rw [e10] at hP1 h371
        have h01 : (putC 10 (-15) (pendL (some (f1 + 1, w, a) :: k5)) s).1 = 0 := by rw [hpf.1]; exact h0
        rw [p10] at hM1 h01 hI1 hpf
        generalize hs1 : (if a = true then putS (-15) s else s) = s1 at hM1 h01 hI1 hT hpf
        have hpf2 : s1.2.1 = s.2.1 := hpf.2
        have hpg := putC_f 11 (-16) (orL w k5) s1
        have p11 := pp_11 w k5 s1
        have hI2 := putC_inv 11 (-16) (by decide) _ _ hI1
        rw [e11] at hI2
        have hk1 : kd (tK B n) s1 = tK B n s.2.1 := by rw [kd0 h01, hpf2]
        have hkp : ∀ b : Bool, kd (tK B n) (if b = true then putS (-16) s1 else s1) = tK B n s.2.1 := by
          intro b
          cases b
          · exact hk1
          · exact hk1
        refine AW_aload_n dX12_readAny_122 rfl ?_
        refine AW_bipush dX12_readAny_123 ?_
        refine AW_callV1 (d' := d - 1) dX12_readAny_125 (Or.inl lkX12_287) mfX12_waitsFor (hS1.cel rfl) ⟨_, rfl, rfl⟩ (n_waitsFor hS1 hP1 h371 (by omega) _) (by omega) (Nat.le_of_ble_eq_true rfl) ?_
        rintro _ ρ3 ⟨rfl, hP3, h373, hG3⟩ -
        have hS3 := hG3.sta hS1
        have hM3 := hM1.fm hG3
        refine AW_aload_n dX12_readAny_128 rfl ?_
        refine AW_callV0 (d' := d - 1) dX12_readAny_129 (Or.inl lkX12_262) mfX12_reads (hS3.cel rfl) ⟨_, rfl, rfl⟩ (n_mreads (by omega) hS3 hby hM3 (by rw [hpf2]; omega)) (by omega) (Nat.le_of_ble_eq_true rfl) ?_
        rintro _ ρ4 ⟨rfl, hM4, hG4⟩ -
        have hW4 := ((hF.tr (hG1.mo (by decide) (by decide))).tr (hG3.mo (by decide) (by decide))).tr (hG4.mo (by decide) (by decide))
        have hP4 := Pn.fm hG4 (by decide) _ hP3
        have h374 := (hG4.f 37).trans h373
        have h354 := ((hG4.f 35).trans (hG3.f 35)).trans h351
        have hI4 := hI1.step hN (by rw [hk1]; omega) (by rw [hk1]; omega)
        have hi4 : (stepS s1).2.1 = s.2.1 + 1 := by rw [← hpf2]; rfl
        have hin4 := hI4.1
        refine AW_iconst dX12_readAny_132 ?_
        refine AW_istore2 dX12_readAny_133 ?_
        refine AW_goto (tgt := 9) dX12_readAny_134 (by decide) ?_
        first
        | (have hkk : kd (tK B n) s1 = 260 := by rw [hk1]; omega
           have hTn : resu F (tK B n) (tV B n) (some (f1, w, true) :: k5) (claimS F (tK B n) (tV B n) (9 - (some (f1, w, true) :: k5 : List Fk).length) (stepS s1)) = T := by
             rw [← hT, resu_s, show 9 - (some (f1, w, true) :: k5 : List Fk).length = 8 - k5.length by show 9 - (k5.length + 1) = _; omega, eitherL_s, if_pos hkk]
             rfl
           exact ih (some (f1, w, true) :: k5) br 1 (stepS s1) _ ρ4 (by omega) h01 hM4 (by show Inv N (1 + cntL (orL w k5)) _; rw [Nat.add_comm]; exact hI4) hgd hkl (fuk.cs (by show N + 1 ≤ f1 + _; omega) (hfu5.mo (by omega))) hP4 h374 (by rw [h354]; show _ = ((k5.length + 1 : Nat) : Int) - 1; omega) hbr (Or.inl ⟨rfl, hTn⟩) hW4)
        | (have hkk : kd (tK B n) s1 = 259 := by rw [hk1]; omega
           have hTn : resu F (tK B n) (tV B n) (some (f1, true, false) :: k5) (claimS F (tK B n) (tV B n) (9 - (some (f1, true, false) :: k5 : List Fk).length) (stepS (if w = true then putS (-16) s1 else s1))) = T := by
             rw [← hT, resu_s, show 9 - (some (f1, true, false) :: k5 : List Fk).length = 8 - k5.length by show 9 - (k5.length + 1) = _; omega, eitherL_s, if_neg (show ¬ kd (tK B n) s1 = 260 by omega), if_pos hkk]
             rfl
           exact ih (some (f1, true, false) :: k5) br 1 (stepS (if w = true then putS (-16) s1 else s1)) _ ρ4 (by omega) h02 hM4 (by show Inv N (1 + cntL (rstL k5)) _; rw [Nat.add_comm]; exact hI4) hgd hkl (fuk.cs (by show N + 1 ≤ f1 + _; omega) (hfu5.mo (by omega))) hP4 h374 (by rw [h354]; show _ = ((k5.length + 1 : Nat) : Int) - 1; omega) hbr (Or.inl ⟨rfl, hTn⟩) hW4)
        | (have hcS : closeS (tK B n) (if w = true then putS (-16) s1 else s1) = stepS (if w = true then putS (-16) s1 else s1) := by
             unfold closeS
             rw [hkp, if_pos (by omega)]
           have hIc := putC_inv 9 (-17) (by decide) _ _ hI5
           have hi6 : (putC 9 (-17) (pendL k5) (if w = true then putS (-16) s1 else s1)).2.1 = s.2.1 := hpf6.2.trans hpg2
           have hi7 : (stepS (putC 9 (-17) (pendL k5) (if w = true then putS (-16) s1 else s1))).2.1 = s.2.1 + 1 := by rw [← hi6]; rfl
           have hk6 : kd (tK B n) (putC 9 (-17) (pendL k5) (if w = true then putS (-16) s1 else s1)) = tK B n s.2.1 := by rw [putC_kd, hkp]
           have hI7 := hIc.step hN (by rw [hk6]; omega) (by rw [hk6]; omega)
           have hin7 := hI7.1
           rw [hp9] at hI7 hP6 h376
           refine ih (stripN k5) _ 0 (stepS (putC 9 (-17) (pendL k5) (if w = true then putS (-16) s1 else s1))) _ ρ7 (by omega) (by show (putC _ _ _ _).1 = 0; rw [hpf6.1]; exact h02) hM7 (hI7.mono (by omega)) ?_ (by omega) ?_ (Pn.fm hG7 (by decide) _ hP6) ((hG7.f 37).trans h376) ((hG7.f 35).trans h356) (by rw [hk7, ← hb7]; omega) (Or.inr ⟨rfl, ?_, ?_⟩) ((((((hF.tr (hG1.mo (by decide) (by decide))).tr (hG2.mo (by decide) (by decide))).tr (hF5a.mo (by decide) (by decide))).tr (hF5.mo (by decide) (by decide))).tr (hG6.mo (by decide) (by decide))).tr (hG7.mo (by decide) (by decide)))
           · rw [hk7]; exact hg7
           · rw [hi7]; exact (strip_fu k5 hfu5).mo (by omega)
           · rw [putC_step, ← pend_9s, ← hcS]; exact hT
           · rw [hk7]; rfl)
theorem n_any {G : Gt} {d : Nat} {σ : St} {B : Nat → Int} {n N F : Nat} (hd : 7 ≤ d) (hS : Sta σ) (hby : byB B n) (hN : Fn (tK B n) N) (hNn : N ≤ 400) (hFF : F = 400) {s : PS} (hM : Md B n σ s) (h0 : s.1 = 0) (hI : Inv N 0 s) (h35 : σ.2.1 94 35 = 0) (hi1 : 1 ≤ s.2.1) : AM mX12_readAny G d 0 0 [vR 94] σ (fun ro ρ => Ret B n (eitherS F (tK B n) (claimS F (tK B n) (tV B n) 8) s) ro ρ ∧ ((eitherS F (tK B n) (claimS F (tK B n) (tV B n) 8) s).1 = 0 → ρ.2.1 94 35 = 0) ∧ Fe [22, 23, 24, 25, 34, 35, 37, 38, 39] [110, 111, 112] σ ρ) := by
  refine AM.intro (by decide +kernel) (by simp [nLg]) (Nat.le_of_ble_eq_true rfl) (fun hO => ?_)
  show AW _ _ _ _ _ _ 0 [some (vR 94), none, none, none] [] σ
  refine AW_iconst dX12_readAny_0 ?_
  refine AW_istore1 dX12_readAny_1 ?_
  refine AW_aload_n dX12_readAny_2 rfl ?_
  refine AW_iconst dX12_readAny_3 ?_
  refine AW_putI dX12_readAny_4 (Or.inl pfX12_278) (hS.cel rfl) ?_
  refine AW_iconst dX12_readAny_7 ?_
  refine AW_istore2 dX12_readAny_8 ?_
  have hF1 : Fe [37] [] σ (upI σ 94 37 0) := Fe.rf.uf (by decide) _
  exact ln_any hd hS hby hN hNn hFF (N + 1) [some (F, false, false)] 0 1 s none _ (by omega) h0 (hM.fm hF1) hI (Or.inl rfl) (by show 1 ≤ 9; decide) (fuk.cs (by show N + 1 ≤ F + _; omega) (fun q hq => by cases hq)) trivial (up_at _ _ _ _) ((hF1.f 35).trans h35) rfl (Or.inl ⟨rfl, rfl⟩) (hF1.mo (by decide) (by decide))
