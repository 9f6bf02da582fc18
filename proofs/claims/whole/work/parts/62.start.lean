set_option maxHeartbeats 8000000 in
set_option maxRecDepth 100000 in
theorem str0 {args : Array Value} {s : State} (hs : ∀ w ∈ flatC (Jvm.Cond.and given_1 narrow_1), w.before args s = true) (j : Nat) (hj : j < 64) : (Cond.eq (.elem (.field (Term.string "NotYet$Tape" 68) "java/lang/String" "value" "[B") (.int (Int32.ofNat j))) (.int ((bWORDS).getD j 0))).before args s = true := by
  match j, hj with
  | 0, _ => exact hs (Cond.eq (.elem (.field (Term.string "NotYet$Tape" 68) "java/lang/String" "value" "[B") (.int 0)) (.int 116)) (by decide +kernel)
  | 1, _ => exact hs (Cond.eq (.elem (.field (Term.string "NotYet$Tape" 68) "java/lang/String" "value" "[B") (.int 1)) (.int 97)) (by decide +kernel)
  | 2, _ => exact hs (Cond.eq (.elem (.field (Term.string "NotYet$Tape" 68) "java/lang/String" "value" "[B") (.int 2)) (.int 107)) (by decide +kernel)
  | 3, _ => exact hs (Cond.eq (.elem (.field (Term.string "NotYet$Tape" 68) "java/lang/String" "value" "[B") (.int 3)) (.int 101)) (by decide +kernel)
  | 4, _ => exact hs (Cond.eq (.elem (.field (Term.string "NotYet$Tape" 68) "java/lang/String" "value" "[B") (.int 4)) (.int 32)) (by decide +kernel)
  | 5, _ => exact hs (Cond.eq (.elem (.field (Term.string "NotYet$Tape" 68) "java/lang/String" "value" "[B") (.int 5)) (.int 108)) (by decide +kernel)
  | 6, _ => exact hs (Cond.eq (.elem (.field (Term.string "NotYet$Tape" 68) "java/lang/String" "value" "[B") (.int 6)) (.int 101)) (by decide +kernel)
  | 7, _ => exact hs (Cond.eq (.elem (.field (Term.string "NotYet$Tape" 68) "java/lang/String" "value" "[B") (.int 7)) (.int 97)) (by decide +kernel)
  | 8, _ => exact hs (Cond.eq (.elem (.field (Term.string "NotYet$Tape" 68) "java/lang/String" "value" "[B") (.int 8)) (.int 118)) (by decide +kernel)
  | 9, _ => exact hs (Cond.eq (.elem (.field (Term.string "NotYet$Tape" 68) "java/lang/String" "value" "[B") (.int 9)) (.int 101)) (by decide +kernel)
  | 10, _ => exact hs (Cond.eq (.elem (.field (Term.string "NotYet$Tape" 68) "java/lang/String" "value" "[B") (.int 10)) (.int 32)) (by decide +kernel)
  | 11, _ => exact hs (Cond.eq (.elem (.field (Term.string "NotYet$Tape" 68) "java/lang/String" "value" "[B") (.int 11)) (.int 119)) (by decide +kernel)
  | 12, _ => exact hs (Cond.eq (.elem (.field (Term.string "NotYet$Tape" 68) "java/lang/String" "value" "[B") (.int 12)) (.int 104)) (by decide +kernel)
  | 13, _ => exact hs (Cond.eq (.elem (.field (Term.string "NotYet$Tape" 68) "java/lang/String" "value" "[B") (.int 13)) (.int 101)) (by decide +kernel)
  | 14, _ => exact hs (Cond.eq (.elem (.field (Term.string "NotYet$Tape" 68) "java/lang/String" "value" "[B") (.int 14)) (.int 110)) (by decide +kernel)
  | 15, _ => exact hs (Cond.eq (.elem (.field (Term.string "NotYet$Tape" 68) "java/lang/String" "value" "[B") (.int 15)) (.int 32)) (by decide +kernel)
  | 16, _ => exact hs (Cond.eq (.elem (.field (Term.string "NotYet$Tape" 68) "java/lang/String" "value" "[B") (.int 16)) (.int 111)) (by decide +kernel)
  | 17, _ => exact hs (Cond.eq (.elem (.field (Term.string "NotYet$Tape" 68) "java/lang/String" "value" "[B") (.int 17)) (.int 114)) (by decide +kernel)
  | 18, _ => exact hs (Cond.eq (.elem (.field (Term.string "NotYet$Tape" 68) "java/lang/String" "value" "[B") (.int 18)) (.int 32)) (by decide +kernel)
  | 19, _ => exact hs (Cond.eq (.elem (.field (Term.string "NotYet$Tape" 68) "java/lang/String" "value" "[B") (.int 19)) (.int 97)) (by decide +kernel)
  | 20, _ => exact hs (Cond.eq (.elem (.field (Term.string "NotYet$Tape" 68) "java/lang/String" "value" "[B") (.int 20)) (.int 110)) (by decide +kernel)
  | 21, _ => exact hs (Cond.eq (.elem (.field (Term.string "NotYet$Tape" 68) "java/lang/String" "value" "[B") (.int 21)) (.int 100)) (by decide +kernel)
  | 22, _ => exact hs (Cond.eq (.elem (.field (Term.string "NotYet$Tape" 68) "java/lang/String" "value" "[B") (.int 22)) (.int 32)) (by decide +kernel)
  | 23, _ => exact hs (Cond.eq (.elem (.field (Term.string "NotYet$Tape" 68) "java/lang/String" "value" "[B") (.int 23)) (.int 110)) (by decide +kernel)
  | 24, _ => exact hs (Cond.eq (.elem (.field (Term.string "NotYet$Tape" 68) "java/lang/String" "value" "[B") (.int 24)) (.int 111)) (by decide +kernel)
  | 25, _ => exact hs (Cond.eq (.elem (.field (Term.string "NotYet$Tape" 68) "java/lang/String" "value" "[B") (.int 25)) (.int 116)) (by decide +kernel)
  | 26, _ => exact hs (Cond.eq (.elem (.field (Term.string "NotYet$Tape" 68) "java/lang/String" "value" "[B") (.int 26)) (.int 32)) (by decide +kernel)
  | 27, _ => exact hs (Cond.eq (.elem (.field (Term.string "NotYet$Tape" 68) "java/lang/String" "value" "[B") (.int 27)) (.int 119)) (by decide +kernel)
  | 28, _ => exact hs (Cond.eq (.elem (.field (Term.string "NotYet$Tape" 68) "java/lang/String" "value" "[B") (.int 28)) (.int 101)) (by decide +kernel)
  | 29, _ => exact hs (Cond.eq (.elem (.field (Term.string "NotYet$Tape" 68) "java/lang/String" "value" "[B") (.int 29)) (.int 101)) (by decide +kernel)
  | 30, _ => exact hs (Cond.eq (.elem (.field (Term.string "NotYet$Tape" 68) "java/lang/String" "value" "[B") (.int 30)) (.int 107)) (by decide +kernel)
  | 31, _ => exact hs (Cond.eq (.elem (.field (Term.string "NotYet$Tape" 68) "java/lang/String" "value" "[B") (.int 31)) (.int 32)) (by decide +kernel)
  | 32, _ => exact hs (Cond.eq (.elem (.field (Term.string "NotYet$Tape" 68) "java/lang/String" "value" "[B") (.int 32)) (.int 119)) (by decide +kernel)
  | 33, _ => exact hs (Cond.eq (.elem (.field (Term.string "NotYet$Tape" 68) "java/lang/String" "value" "[B") (.int 33)) (.int 97)) (by decide +kernel)
  | 34, _ => exact hs (Cond.eq (.elem (.field (Term.string "NotYet$Tape" 68) "java/lang/String" "value" "[B") (.int 34)) (.int 105)) (by decide +kernel)
  | 35, _ => exact hs (Cond.eq (.elem (.field (Term.string "NotYet$Tape" 68) "java/lang/String" "value" "[B") (.int 35)) (.int 116)) (by decide +kernel)
  | 36, _ => exact hs (Cond.eq (.elem (.field (Term.string "NotYet$Tape" 68) "java/lang/String" "value" "[B") (.int 36)) (.int 101)) (by decide +kernel)
  | 37, _ => exact hs (Cond.eq (.elem (.field (Term.string "NotYet$Tape" 68) "java/lang/String" "value" "[B") (.int 37)) (.int 100)) (by decide +kernel)
  | 38, _ => exact hs (Cond.eq (.elem (.field (Term.string "NotYet$Tape" 68) "java/lang/String" "value" "[B") (.int 38)) (.int 32)) (by decide +kernel)
  | 39, _ => exact hs (Cond.eq (.elem (.field (Term.string "NotYet$Tape" 68) "java/lang/String" "value" "[B") (.int 39)) (.int 115)) (by decide +kernel)
  | 40, _ => exact hs (Cond.eq (.elem (.field (Term.string "NotYet$Tape" 68) "java/lang/String" "value" "[B") (.int 40)) (.int 111)) (by decide +kernel)
  | 41, _ => exact hs (Cond.eq (.elem (.field (Term.string "NotYet$Tape" 68) "java/lang/String" "value" "[B") (.int 41)) (.int 114)) (by decide +kernel)
  | 42, _ => exact hs (Cond.eq (.elem (.field (Term.string "NotYet$Tape" 68) "java/lang/String" "value" "[B") (.int 42)) (.int 116)) (by decide +kernel)
  | 43, _ => exact hs (Cond.eq (.elem (.field (Term.string "NotYet$Tape" 68) "java/lang/String" "value" "[B") (.int 43)) (.int 32)) (by decide +kernel)
  | 44, _ => exact hs (Cond.eq (.elem (.field (Term.string "NotYet$Tape" 68) "java/lang/String" "value" "[B") (.int 44)) (.int 109)) (by decide +kernel)
  | 45, _ => exact hs (Cond.eq (.elem (.field (Term.string "NotYet$Tape" 68) "java/lang/String" "value" "[B") (.int 45)) (.int 105)) (by decide +kernel)
  | 46, _ => exact hs (Cond.eq (.elem (.field (Term.string "NotYet$Tape" 68) "java/lang/String" "value" "[B") (.int 46)) (.int 110)) (by decide +kernel)
  | 47, _ => exact hs (Cond.eq (.elem (.field (Term.string "NotYet$Tape" 68) "java/lang/String" "value" "[B") (.int 47)) (.int 101)) (by decide +kernel)
  | 48, _ => exact hs (Cond.eq (.elem (.field (Term.string "NotYet$Tape" 68) "java/lang/String" "value" "[B") (.int 48)) (.int 32)) (by decide +kernel)
  | 49, _ => exact hs (Cond.eq (.elem (.field (Term.string "NotYet$Tape" 68) "java/lang/String" "value" "[B") (.int 49)) (.int 98)) (by decide +kernel)
  | 50, _ => exact hs (Cond.eq (.elem (.field (Term.string "NotYet$Tape" 68) "java/lang/String" "value" "[B") (.int 50)) (.int 101)) (by decide +kernel)
  | 51, _ => exact hs (Cond.eq (.elem (.field (Term.string "NotYet$Tape" 68) "java/lang/String" "value" "[B") (.int 51)) (.int 115)) (by decide +kernel)
  | 52, _ => exact hs (Cond.eq (.elem (.field (Term.string "NotYet$Tape" 68) "java/lang/String" "value" "[B") (.int 52)) (.int 116)) (by decide +kernel)
  | 53, _ => exact hs (Cond.eq (.elem (.field (Term.string "NotYet$Tape" 68) "java/lang/String" "value" "[B") (.int 53)) (.int 32)) (by decide +kernel)
  | 54, _ => exact hs (Cond.eq (.elem (.field (Term.string "NotYet$Tape" 68) "java/lang/String" "value" "[B") (.int 54)) (.int 116)) (by decide +kernel)
  | 55, _ => exact hs (Cond.eq (.elem (.field (Term.string "NotYet$Tape" 68) "java/lang/String" "value" "[B") (.int 55)) (.int 111)) (by decide +kernel)
  | 56, _ => exact hs (Cond.eq (.elem (.field (Term.string "NotYet$Tape" 68) "java/lang/String" "value" "[B") (.int 56)) (.int 108)) (by decide +kernel)
  | 57, _ => exact hs (Cond.eq (.elem (.field (Term.string "NotYet$Tape" 68) "java/lang/String" "value" "[B") (.int 57)) (.int 100)) (by decide +kernel)
  | 58, _ => exact hs (Cond.eq (.elem (.field (Term.string "NotYet$Tape" 68) "java/lang/String" "value" "[B") (.int 58)) (.int 32)) (by decide +kernel)
  | 59, _ => exact hs (Cond.eq (.elem (.field (Term.string "NotYet$Tape" 68) "java/lang/String" "value" "[B") (.int 59)) (.int 119)) (by decide +kernel)
  | 60, _ => exact hs (Cond.eq (.elem (.field (Term.string "NotYet$Tape" 68) "java/lang/String" "value" "[B") (.int 60)) (.int 97)) (by decide +kernel)
  | 61, _ => exact hs (Cond.eq (.elem (.field (Term.string "NotYet$Tape" 68) "java/lang/String" "value" "[B") (.int 61)) (.int 105)) (by decide +kernel)
  | 62, _ => exact hs (Cond.eq (.elem (.field (Term.string "NotYet$Tape" 68) "java/lang/String" "value" "[B") (.int 62)) (.int 116)) (by decide +kernel)
  | 63, _ => exact hs (Cond.eq (.elem (.field (Term.string "NotYet$Tape" 68) "java/lang/String" "value" "[B") (.int 63)) (.int 32)) (by decide +kernel)
  | n + 64, h => exact absurd h (by omega)
set_option maxHeartbeats 8000000 in
set_option maxRecDepth 100000 in
theorem str1 {args : Array Value} {s : State} (hs : ∀ w ∈ flatC (Jvm.Cond.and given_1 narrow_1), w.before args s = true) (j : Nat) (hj : j < 10) : (Cond.eq (.elem (.field (Term.string "NotYet$Tape" 58) "java/lang/String" "value" "[B") (.int (Int32.ofNat j))) (.int ((bSIGNS).getD j 0))).before args s = true := by
  match j, hj with
  | 0, _ => exact hs (Cond.eq (.elem (.field (Term.string "NotYet$Tape" 58) "java/lang/String" "value" "[B") (.int 0)) (.int 59)) (by decide +kernel)
  | 1, _ => exact hs (Cond.eq (.elem (.field (Term.string "NotYet$Tape" 58) "java/lang/String" "value" "[B") (.int 1)) (.int 43)) (by decide +kernel)
  | 2, _ => exact hs (Cond.eq (.elem (.field (Term.string "NotYet$Tape" 58) "java/lang/String" "value" "[B") (.int 2)) (.int 45)) (by decide +kernel)
  | 3, _ => exact hs (Cond.eq (.elem (.field (Term.string "NotYet$Tape" 58) "java/lang/String" "value" "[B") (.int 3)) (.int 42)) (by decide +kernel)
  | 4, _ => exact hs (Cond.eq (.elem (.field (Term.string "NotYet$Tape" 58) "java/lang/String" "value" "[B") (.int 4)) (.int 47)) (by decide +kernel)
  | 5, _ => exact hs (Cond.eq (.elem (.field (Term.string "NotYet$Tape" 58) "java/lang/String" "value" "[B") (.int 5)) (.int 40)) (by decide +kernel)
  | 6, _ => exact hs (Cond.eq (.elem (.field (Term.string "NotYet$Tape" 58) "java/lang/String" "value" "[B") (.int 6)) (.int 41)) (by decide +kernel)
  | 7, _ => exact hs (Cond.eq (.elem (.field (Term.string "NotYet$Tape" 58) "java/lang/String" "value" "[B") (.int 7)) (.int 60)) (by decide +kernel)
  | 8, _ => exact hs (Cond.eq (.elem (.field (Term.string "NotYet$Tape" 58) "java/lang/String" "value" "[B") (.int 8)) (.int 61)) (by decide +kernel)
  | 9, _ => exact hs (Cond.eq (.elem (.field (Term.string "NotYet$Tape" 58) "java/lang/String" "value" "[B") (.int 9)) (.int 62)) (by decide +kernel)
  | n + 10, h => exact absurd h (by omega)
theorem g_tbl {w : Cond} (h : w ∈ lw_g) : w ∈ lw_tbl := (List.mem_filter.mp h).1
set_option maxHeartbeats 8000000 in
set_option maxRecDepth 100000 in
theorem kn_start {args : Array Value} {s : State} {b L : Nat} {xs : Nat → Int32} (hts : ∀ w ∈ lw_tbl, w.before args s = true) (hgv : (Jvm.Cond.and given_1 narrow_1).before args s = true) (hX : va_X b L xs s s.heap) (hbl : b < s.heap.size) (hL : L ≤ 3072) : ∃ G : Gt, G.2.2.1 = s.heap.size ∧ G.2.2.2.1 10 = b ∧ G.2.2.2.2 = (L, xs) ∧ Kn G s := by
  have hs := flat_of_before _ hgv
  have hA : ∀ a : Nat, a < s.heap.size → ¬ (fun q : Nat => s.heap.size ≤ q) a := fun a h => Nat.not_le.mpr h
  obtain ⟨c0, iS0, hKn0⟩ := u_known (C := RX0) (T := TX0) (N := 11) (n := 11) hts (fun w hw => g_tbl (layX0 w hw)) (hts _ (List.mem_of_getElem? (i := 437) (by decide +kernel)))
  obtain ⟨c1, iS1, hKn1⟩ := u_known (C := RX1) (T := TX1) (N := 7) (n := 7) hts (fun w hw => g_tbl (layX1 w hw)) (hts _ (List.mem_of_getElem? (i := 307) (by decide +kernel)))
  obtain ⟨c2, iS2, hKn2⟩ := u_known (C := RX2) (T := TX2) (N := 2) (n := 2) hts (fun w hw => g_tbl (layX2 w hw)) (hts _ (List.mem_of_getElem? (i := 313) (by decide +kernel)))
  obtain ⟨c3, iS3, hKn3⟩ := u_known (C := RX3) (T := TX3) (N := 6) (n := 6) hts (fun w hw => g_tbl (layX3 w hw)) (hts _ (List.mem_of_getElem? (i := 142) (by decide +kernel)))
  obtain ⟨c4, iS4, hKn4⟩ := u_known (C := RX4) (T := TX4) (N := 11) (n := 11) hts (fun w hw => g_tbl (layX4 w hw)) (hts _ (List.mem_of_getElem? (i := 970) (by decide +kernel)))
  obtain ⟨c5, iS5, hKn5⟩ := u_known (C := RX5) (T := TX5) (N := 3) (n := 3) hts (fun w hw => g_tbl (layX5 w hw)) (hts _ (List.mem_of_getElem? (i := 477) (by decide +kernel)))
  obtain ⟨c6, iS6, hKn6⟩ := u_known (C := RX6) (T := TX6) (N := 9) (n := 9) hts (fun w hw => g_tbl (layX6 w hw)) (hts _ (List.mem_of_getElem? (i := 171) (by decide +kernel)))
  obtain ⟨c7, iS7, hKn7⟩ := u_known (C := RX7) (T := TX7) (N := 6) (n := 6) hts (fun w hw => g_tbl (layX7 w hw)) (hts _ (List.mem_of_getElem? (i := 254) (by decide +kernel)))
  obtain ⟨c8, iS8, hKn8⟩ := u_known (C := RX8) (T := TX8) (N := 6) (n := 6) hts (fun w hw => g_tbl (layX8 w hw)) (hts _ (List.mem_of_getElem? (i := 224) (by decide +kernel)))
  obtain ⟨c9, iS9, hKn9⟩ := u_known (C := RX9) (T := TX9) (N := 4) (n := 4) hts (fun w hw => g_tbl (layX9 w hw)) (hts _ (List.mem_of_getElem? (i := 205) (by decide +kernel)))
  obtain ⟨c10, iS10, hKn10⟩ := u_known (C := RX10) (T := TX10) (N := 7) (n := 7) hts (fun w hw => g_tbl (layX10 w hw)) (hts _ (List.mem_of_getElem? (i := 260) (by decide +kernel)))
  obtain ⟨c11, iS11, hKn11⟩ := u_known (C := RX11) (T := TX11) (N := 8) (n := 8) hts (fun w hw => g_tbl (layX11 w hw)) (hts _ (List.mem_of_getElem? (i := 134) (by decide +kernel)))
  obtain ⟨c12, iS12, hKn12⟩ := u_known (C := RX12) (T := TX12) (N := 74) (n := 74) hts (fun w hw => g_tbl (layX12 w hw)) (hts _ (List.mem_of_getElem? (i := 1344) (by decide +kernel)))
  obtain ⟨c13, iS13, hKn13⟩ := u_known (C := RJx4a65c) (T := TJx4a65c) (N := 3) (n := 3) hts (fun w hw => g_tbl (layJx4a65c w hw)) (hts _ (List.mem_of_getElem? (i := 326) (by decide +kernel)))
  obtain ⟨aI, kI, pI, hI1, hI2, hI3⟩ := Cond.arrayClass_spec (show (Cond.arrayClass .int).holds args s none s [] = true from (hts _ (List.mem_of_getElem? (i := 169) (by decide +kernel))))
  obtain ⟨aB, kB, pB, hB1, hB2, hB3⟩ := Cond.arrayClass_spec (show (Cond.arrayClass .byte).holds args s none s [] = true from (hts _ (List.mem_of_getElem? (i := 252) (by decide +kernel))))
  obtain ⟨aZ, kZ, pZ, hZ1', hZ2', hZ3'⟩ := Cond.arrayClass_spec (show (Cond.arrayClass .boolean).holds args s none s [] = true from (hts _ (List.mem_of_getElem? (i := 1573) (by decide +kernel))))
  obtain ⟨pO, aO, kO, hO1, hO5, hO2, hO3, hO4⟩ := Cond.arrayOver_spec (n := "java/lang/Object") (show (Cond.arrayOver (.object "java/lang/Object")).holds args s none s [] = true from (hts _ (List.mem_of_getElem? (i := 404) (by decide +kernel))))
  obtain ⟨t1, ht1, hT1⟩ := va_Tof (tm := (Term.static "NotYet$Market" "LEAST" "[I")) (ty := .int) (N := 7) (f := fLEAST) (A := fun q : Nat => s.heap.size ≤ q) (by decide) (hs (Cond.arrayOf (Term.static "NotYet$Market" "LEAST" "[I") .int) (by decide +kernel)) (va_eqv (hs (Cond.eq (.length (Term.static "NotYet$Market" "LEAST" "[I")) (.int 7)) (by decide +kernel)) rfl) (fun j hj => by
    rcases (show j = 0 ∨ j = 1 ∨ j = 2 ∨ j = 3 ∨ j = 4 ∨ j = 5 ∨ j = 6 by omega) with rfl | rfl | rfl | rfl | rfl | rfl | rfl
    · exact va_eqv (hs (Cond.eq (.elem (Term.static "NotYet$Market" "LEAST" "[I") (.int 0)) (.int 0)) (by decide +kernel)) rfl
    · exact va_eqv (hs (Cond.eq (.elem (Term.static "NotYet$Market" "LEAST" "[I") (.int 1)) (.int 1)) (by decide +kernel)) rfl
    · exact va_eqv (hs (Cond.eq (.elem (Term.static "NotYet$Market" "LEAST" "[I") (.int 2)) (.int 1)) (by decide +kernel)) rfl
    · exact va_eqv (hs (Cond.eq (.elem (Term.static "NotYet$Market" "LEAST" "[I") (.int 3)) (.int 0)) (by decide +kernel)) rfl
    · exact va_eqv (hs (Cond.eq (.elem (Term.static "NotYet$Market" "LEAST" "[I") (.int 4)) (.int 1)) (by decide +kernel)) rfl
    · exact va_eqv (hs (Cond.eq (.elem (Term.static "NotYet$Market" "LEAST" "[I") (.int 5)) (.int 0)) (by decide +kernel)) rfl
    · exact va_eqv (hs (Cond.eq (.elem (Term.static "NotYet$Market" "LEAST" "[I") (.int 6)) (.int 0)) (by decide +kernel)) rfl) hA
  have hZ1 := va_Zof (A := fun q : Nat => s.heap.size ≤ q) (hts _ (List.mem_of_getElem? (i := 568) (by decide +kernel))) (hts _ (List.mem_of_getElem? (i := 107) (by decide +kernel))) ht1 hA
  obtain ⟨t2, ht2, hT2⟩ := va_Tof (tm := (Term.static "NotYet$Market" "MOST" "[I")) (ty := .int) (N := 7) (f := fMOST) (A := fun q : Nat => s.heap.size ≤ q) (by decide) (hs (Cond.arrayOf (Term.static "NotYet$Market" "MOST" "[I") .int) (by decide +kernel)) (va_eqv (hs (Cond.eq (.length (Term.static "NotYet$Market" "MOST" "[I")) (.int 7)) (by decide +kernel)) rfl) (fun j hj => by
    rcases (show j = 0 ∨ j = 1 ∨ j = 2 ∨ j = 3 ∨ j = 4 ∨ j = 5 ∨ j = 6 by omega) with rfl | rfl | rfl | rfl | rfl | rfl | rfl
    · exact va_eqv (hs (Cond.eq (.elem (Term.static "NotYet$Market" "MOST" "[I") (.int 0)) (.int 99)) (by decide +kernel)) rfl
    · exact va_eqv (hs (Cond.eq (.elem (Term.static "NotYet$Market" "MOST" "[I") (.int 1)) (.int 999)) (by decide +kernel)) rfl
    · exact va_eqv (hs (Cond.eq (.elem (Term.static "NotYet$Market" "MOST" "[I") (.int 2)) (.int 60)) (by decide +kernel)) rfl
    · exact va_eqv (hs (Cond.eq (.elem (Term.static "NotYet$Market" "MOST" "[I") (.int 3)) (.int 99)) (by decide +kernel)) rfl
    · exact va_eqv (hs (Cond.eq (.elem (Term.static "NotYet$Market" "MOST" "[I") (.int 4)) (.int 99)) (by decide +kernel)) rfl
    · exact va_eqv (hs (Cond.eq (.elem (Term.static "NotYet$Market" "MOST" "[I") (.int 5)) (.int 1)) (by decide +kernel)) rfl
    · exact va_eqv (hs (Cond.eq (.elem (Term.static "NotYet$Market" "MOST" "[I") (.int 6)) (.int 1)) (by decide +kernel)) rfl) hA
  have hZ2 := va_Zof (A := fun q : Nat => s.heap.size ≤ q) (hts _ (List.mem_of_getElem? (i := 570) (by decide +kernel))) (hts _ (List.mem_of_getElem? (i := 107) (by decide +kernel))) ht2 hA
  obtain ⟨t3, ht3, hT3⟩ := va_Tof (tm := (Term.static "java/util/ArrayList" "DEFAULTCAPACITY_EMPTY_ELEMENTDATA" "[Ljava/lang/Object;")) (ty := .object "java/lang/Object") (N := 0) (f := fun _ => .null) (A := fun q : Nat => s.heap.size ≤ q) (by decide) (hs (Cond.arrayOf (Term.static "java/util/ArrayList" "DEFAULTCAPACITY_EMPTY_ELEMENTDATA" "[Ljava/lang/Object;") (.object "java/lang/Object")) (by decide +kernel)) (va_eqv (hs (Cond.eq (.length (Term.static "java/util/ArrayList" "DEFAULTCAPACITY_EMPTY_ELEMENTDATA" "[Ljava/lang/Object;")) (.int 0)) (by decide +kernel)) rfl) (fun j hj => absurd hj (Nat.not_lt_zero _)) hA
  have hZ3 := va_Zof (A := fun q : Nat => s.heap.size ≤ q) (hts _ (List.mem_of_getElem? (i := 338) (by decide +kernel))) (hts _ (List.mem_of_getElem? (i := 118) (by decide +kernel))) ht3 hA
  have hZ4 := va_Zof (A := fun q : Nat => s.heap.size ≤ q) (hts _ (List.mem_of_getElem? (i := 747) (by decide +kernel))) (hts _ (List.mem_of_getElem? (i := 125) (by decide +kernel))) (va_eqv (hs (Cond.eq (.static "java/lang/String" "COMPACT_STRINGS" "Z") (.int 1)) (by decide +kernel)) rfl) hA
  obtain ⟨v8, hv8, hr8⟩ := Cond.isRef_spec (show (Cond.isRef (.static "jdk/internal/util/Preconditions" "SIOOBE_FORMATTER" "Ljava/util/function/BiFunction;")).holds args s none s [] = true from hs _ (by decide +kernel))
  have hZ8 := va_Zof (A := fun q : Nat => s.heap.size ≤ q) (hts _ (List.mem_of_getElem? (i := 763) (by decide +kernel))) (hts _ (List.mem_of_getElem? (i := 127) (by decide +kernel))) hv8 hA
  obtain ⟨t8, hZ9⟩ : ∃ t8 : Nat, va_Z "jdk/internal/util/Preconditions" "SIOOBE_FORMATTER" "Ljava/util/function/BiFunction;" .null (fun q : Nat => s.heap.size ≤ q) s s.heap ∨ va_Z "jdk/internal/util/Preconditions" "SIOOBE_FORMATTER" "Ljava/util/function/BiFunction;" (.ref t8) (fun q : Nat => s.heap.size ≤ q) s s.heap := by
    cases v8 with
    | null => exact ⟨0, Or.inl hZ8⟩
    | ref a => exact ⟨a, Or.inr hZ8⟩
    | _ => cases hr8
  obtain ⟨t9, hM9⟩ := va_Mi.of (hs (Cond.isRef (.mirror "[Ljava/lang/Object;")) (by decide +kernel))
  have hDc := va_Dc.of (hts _ (List.mem_of_getElem? (i := 1934) (by decide +kernel)))
  have hAO : va_AO "java/lang/Object" s := va_AO.of (hts _ (List.mem_of_getElem? (i := 404) (by decide +kernel)))
  obtain ⟨adK, adV, hvS, hvR⟩ := vk_Sof (N := 2) (tm := fun i => if i = 0 then (Term.string "NotYet$Tape" 68) else (Term.string "NotYet$Tape" 58)) (len := [64, 10]) (byt := [bWORDS, bSIGNS]) (A := fun q : Nat => s.heap.size ≤ q) (fun i hi => by
    rcases (show i = 0 ∨ i = 1 by omega) with rfl | rfl
    · exact by decide
    · exact by decide) (fun i hi => by
    rcases (show i = 0 ∨ i = 1 by omega) with rfl | rfl
    · exact hs (Cond.exactly (Term.string "NotYet$Tape" 68) "java/lang/String") (by decide +kernel)
    · exact hs (Cond.exactly (Term.string "NotYet$Tape" 58) "java/lang/String") (by decide +kernel)) (fun i hi => by
    rcases (show i = 0 ∨ i = 1 by omega) with rfl | rfl
    · exact hs (Cond.eq (.field (Term.string "NotYet$Tape" 68) "java/lang/String" "coder" "B") (.int 0)) (by decide +kernel)
    · exact hs (Cond.eq (.field (Term.string "NotYet$Tape" 58) "java/lang/String" "coder" "B") (.int 0)) (by decide +kernel)) (fun i hi => by
    rcases (show i = 0 ∨ i = 1 by omega) with rfl | rfl
    · exact hs (Cond.arrayOf (.field (Term.string "NotYet$Tape" 68) "java/lang/String" "value" "[B") .byte) (by decide +kernel)
    · exact hs (Cond.arrayOf (.field (Term.string "NotYet$Tape" 58) "java/lang/String" "value" "[B") .byte) (by decide +kernel)) (fun i hi => by
    rcases (show i = 0 ∨ i = 1 by omega) with rfl | rfl
    · exact hs (Cond.eq (.length (.field (Term.string "NotYet$Tape" 68) "java/lang/String" "value" "[B")) (.int 64)) (by decide +kernel)
    · exact hs (Cond.eq (.length (.field (Term.string "NotYet$Tape" 58) "java/lang/String" "value" "[B")) (.int 10)) (by decide +kernel)) (
    fun i hi j hj => by
    rcases (show i = 0 ∨ i = 1 by omega) with rfl | rfl
    · exact str0 hs j hj
    · exact str1 hs j hj) (
    fun i j hi hj hne => by
    rcases (show (i = 0 ∧ j = 1) ∨ (i = 1 ∧ j = 0) by omega) with ⟨rfl, rfl⟩ | ⟨rfl, rfl⟩
    · exact Or.inl (hs (Cond.not (.eq (Term.string "NotYet$Tape" 68) (Term.string "NotYet$Tape" 58))) (by decide +kernel))
    · exact Or.inr (hs (Cond.not (.eq (Term.string "NotYet$Tape" 68) (Term.string "NotYet$Tape" 58))) (by decide +kernel))) hA
  obtain ⟨scr, hx1, hx2, hx3, hx4, hx5⟩ := hX
  have hTs : va_T .int b L (fun j => .int (xs j)) (fun q : Nat => s.heap.size ≤ q) s s.heap := ⟨scr, hx1, hx2, hx3, by omega, by rw [hx4], fun j hj => hx5 j hj, hA b hbl⟩
  refine ⟨((fun k => match k with | 0 => c0 | 1 => c1 | 2 => c2 | 3 => c3 | 4 => c4 | 5 => c5 | 6 => c6 | 7 => c7 | 8 => c8 | 9 => c9 | 10 => c10 | 11 => c11 | 12 => c12 | _ => c13, fun k => match k with | 0 => iS0 | 1 => iS1 | 2 => iS2 | 3 => iS3 | 4 => iS4 | 5 => iS5 | 6 => iS6 | 7 => iS7 | 8 => iS8 | 9 => iS9 | 10 => iS10 | 11 => iS11 | 12 => iS12 | _ => iS13), (fun k => match k with | 20 => aI | 21 => aB | 22 => aZ | _ => aO), s.heap.size, (fun k => match k with | 1 => t1 | 2 => t2 | 3 => t3 | 4 => adK 0 | 5 => adK 1 | 6 => adV 0 | 7 => adV 1 | 8 => t8 | 9 => t9 | _ => b), L, xs), rfl, rfl, rfl, ?_⟩
  refine ⟨⟨fun k q hq => ?_, fun k q hq => ?_⟩, fun w hw => ?_, Nat.le_refl _, hAO, hDc, hM9, vk_R.of (hts _ (List.mem_of_getElem? (i := 737) (by decide +kernel))) (hvR 0 (by decide)), vk_R.of (hts _ (List.mem_of_getElem? (i := 801) (by decide +kernel))) (hvR 1 (by decide)), hZ3, hT3, hZ1, hT1, hZ2, hT2, hZ4, hZ9, hTs, ?_⟩
  · have h20 : k < 14 := (List.getElem?_eq_some_iff.mp hq).1
    match k, h20, hq with
    | 0, _, hq => cases hq; exact hKn0
    | 1, _, hq => cases hq; exact hKn1
    | 2, _, hq => cases hq; exact hKn2
    | 3, _, hq => cases hq; exact hKn3
    | 4, _, hq => cases hq; exact hKn4
    | 5, _, hq => cases hq; exact hKn5
    | 6, _, hq => cases hq; exact hKn6
    | 7, _, hq => cases hq; exact hKn7
    | 8, _, hq => cases hq; exact hKn8
    | 9, _, hq => cases hq; exact hKn9
    | 10, _, hq => cases hq; exact hKn10
    | 11, _, hq => cases hq; exact hKn11
    | 12, _, hq => cases hq; exact hKn12
    | 13, _, hq => cases hq; exact hKn13
    | n + 14, h20, _ => exact absurd h20 (by omega)
  · have h20 : k < 4 := (List.getElem?_eq_some_iff.mp hq).1
    match k, h20, hq with
    | 0, _, hq => cases hq; exact ⟨fun n z => ⟨fun k h => (by cases h), kI, hI2, pI, hI3⟩, hI1⟩
    | 1, _, hq => cases hq; exact ⟨fun n z => ⟨fun k h => (by cases h), kB, hB2, pB, hB3⟩, hB1⟩
    | 2, _, hq => cases hq; exact ⟨fun n z => ⟨fun k h => (by cases h), kZ, hZ2', pZ, hZ3'⟩, hZ1'⟩
    | 3, _, hq => cases hq; exact ⟨fun n z => ⟨fun k h => (by cases h), kO, hO2, pO, hO3⟩, kO, pO, hO2, hO3, hO1, hO4⟩
    | n + 4, h20, _ => exact absurd h20 (by omega)
  · obtain ⟨h1, h2⟩ := List.mem_filter.mp hw
    cases w <;> first | exact va_Nw.of rfl (hts _ h1) | (exfalso; cases h2)
  · refine ⟨fun i hi => ?_, fun i j hi hj h => ?_⟩
    · rcases (show i = 0 ∨ i = 1 by omega) with rfl | rfl
      · exact hvS.1 0 (by decide)
      · exact hvS.1 1 (by decide)
    · refine hvS.2 i j hi hj ?_
      rcases (show i = 0 ∨ i = 1 by omega) with rfl | rfl <;> rcases (show j = 0 ∨ j = 1 by omega) with rfl | rfl <;> exact h
