def txB (i k : Nat) : Int := (([bWORDS, bSIGNS].getD i []).getD k 0).toInt
theorem kn_str {G : Gt} {s : State} (h : Kn G s) : vk_S 2 [64, 10] [bWORDS, bSIGNS] (fun i => G.2.2.2.1 (4 + i)) (fun i => G.2.2.2.1 (6 + i)) (AG G) s s.heap := h.2.2.2.2.2.2.2.2.2.2.2.2.2.2.2.2.2
theorem fl_val : Cond.fieldLink RJ0 9 "java/lang/String" "value" "[B" ∈ lw_g := mem_g 1939 (by decide +kernel) rfl
theorem fl_cod : Cond.fieldLink RJ0 15 "java/lang/String" "coder" "B" ∈ lw_g := mem_g 1940 (by decide +kernel) rfl
theorem fl_cs : Cond.fieldLink RJ0 38 "java/lang/String" "COMPACT_STRINGS" "Z" ∈ lw_g := mem_g 746 (by decide +kernel) rfl
theorem fl_fm : Cond.fieldLink RJ0 1053 "jdk/internal/util/Preconditions" "SIOOBE_FORMATTER" "Ljava/util/function/BiFunction;" ∈ lw_g := mem_g 762 (by decide +kernel) rfl
theorem kn_val {G : Gt} (i : Nat) (hi : i < 2) (s : State) (h : Kn G s) : va_OF "java/lang/String" "value" "[B" (cv G (vR (6 + i))) (G.2.2.2.1 (4 + i)) (AG G) s s.heap := by
  rw [ext_val (by omega) (by omega)]
  exact ((kn_str h).1 i hi).2.2.1
theorem kn_cod {G : Gt} (i : Nat) (hi : i < 2) (s : State) (h : Kn G s) : va_OF "java/lang/String" "coder" "B" (cv G (vI 0)) (G.2.2.2.1 (4 + i)) (AG G) s s.heap := ((kn_str h).1 i hi).2.1
theorem kn_byt {G : Gt} (i : Nat) (hi : i < 2) (s : State) (h : Kn G s) : va_T .byte (G.2.2.2.1 (6 + i)) ([64, 10].getD i 0) (fun j => .int (([bWORDS, bSIGNS].getD i []).getD j 0)) (AG G) s s.heap := ((kn_str h).1 i hi).2.2.2
theorem kn_cs {G : Gt} (s : State) (h : Kn G s) : va_Z "java/lang/String" "COMPACT_STRINGS" "Z" (.int (Int32.ofInt 1)) (AG G) s s.heap := h.2.2.2.2.2.2.2.2.2.2.2.2.2.2.1
theorem kn_fm {G : Gt} (s : State) (h : Kn G s) : va_Z "jdk/internal/util/Preconditions" "SIOOBE_FORMATTER" "Ljava/util/function/BiFunction;" .null (AG G) s s.heap ∨ va_Z "jdk/internal/util/Preconditions" "SIOOBE_FORMATTER" "Ljava/util/function/BiFunction;" (.ref (G.2.2.2.1 8)) (AG G) s s.heap := h.2.2.2.2.2.2.2.2.2.2.2.2.2.2.2.1
theorem AW_callVx0 {M : MT} {G : Gt} {d bc bs : Nat} {Qz : QZ} {pc : Nat} {ls : List (Option AV)} {st : List AV} {σ : St} {M' : MT} {idx : Nat} (i : Nat) {Qf : Option AV → St → Prop} (hd : decode M.2.1 pc = .ok (.invokevirtual idx, 3)) (hl : LK M.1.cls idx M') (hf : MFv M' 0) (hi : i < 2) (hc : M'.1.cls = "java/lang/String") (hM : AM M' G (d - 1) 0 0 [vR (4 + i)] σ Qf) (hd' : 1 ≤ d) (hr : (st.map catA).sum ≤ 8)
    (kk : ∀ (r : Option AV) (τ : St), Qf r τ → (∀ v, r = some v → OKv v) → AW M G d bc bs Qz (pc + 3) ls (r.toList ++ st) τ) : AW M G d bc bs Qz pc ls (vR (4 + i) :: st) σ := AW_callVx (As := []) (bc' := 0) (bs' := 0) hd hl hf hi hc hM (by omega) rfl hr kk
theorem AW_callVx1 {M : MT} {G : Gt} {d bc bs : Nat} {Qz : QZ} {pc : Nat} {ls : List (Option AV)} {st : List AV} {σ : St} {M' : MT} {idx : Nat} {a1 : AV} (i : Nat) {Qf : Option AV → St → Prop} (hd : decode M.2.1 pc = .ok (.invokevirtual idx, 3)) (hl : LK M.1.cls idx M') (hf : MFv M' 1) (hi : i < 2) (hc : M'.1.cls = "java/lang/String") (hM : AM M' G (d - 1) 0 0 [vR (4 + i), a1] σ Qf) (hd' : 1 ≤ d) (hr : (st.map catA).sum ≤ 8)
    (kk : ∀ (r : Option AV) (τ : St), Qf r τ → (∀ v, r = some v → OKv v) → AW M G d bc bs Qz (pc + 3) ls (r.toList ++ st) τ) : AW M G d bc bs Qz pc ls (a1 :: vR (4 + i) :: st) σ := AW_callVx (As := [a1]) (bc' := 0) (bs' := 0) hd hl hf hi hc hM (by omega) rfl hr kk
theorem AW_callVx2 {M : MT} {G : Gt} {d bc bs : Nat} {Qz : QZ} {pc : Nat} {ls : List (Option AV)} {st : List AV} {σ : St} {M' : MT} {idx : Nat} {a1 a2 : AV} (i : Nat) {Qf : Option AV → St → Prop} (hd : decode M.2.1 pc = .ok (.invokevirtual idx, 3)) (hl : LK M.1.cls idx M') (hf : MFv M' 2) (hi : i < 2) (hc : M'.1.cls = "java/lang/String") (hM : AM M' G (d - 1) 0 0 [vR (4 + i), a1, a2] σ Qf) (hd' : 1 ≤ d) (hr : (st.map catA).sum ≤ 8)
    (kk : ∀ (r : Option AV) (τ : St), Qf r τ → (∀ v, r = some v → OKv v) → AW M G d bc bs Qz (pc + 3) ls (r.toList ++ st) τ) : AW M G d bc bs Qz pc ls (a2 :: a1 :: vR (4 + i) :: st) σ := AW_callVx (As := [a1, a2]) (bc' := 0) (bs' := 0) hd hl hf hi hc hM (by omega) rfl hr kk
theorem k_coder0 {G : Gt} {d : Nat} {σ : St}    : AM mJ0_coder_7d493 G d 0 0 [vR 4] σ (fun r τ => τ = σ ∧ r = some (vI 0)) := by
  refine AM.intro (by decide +kernel) (by simp [nLg]) (Nat.le_of_ble_eq_true rfl) (fun hO => ?_)
  show AW _ _ _ _ _ _ 0 [some (vR 4)] [] σ
  refine AW_gstI (x := 1) dJ0_coder_7d493_0 fl_cs kn_cs ⟨by decide, by decide⟩ ?_
  refine AW_if_eq (tgt := 13) dJ0_coder_7d493_3 (by decide) (fun c_3 => absurd c_3 (by decide)) (fun _ => ?_)
  refine AW_aload_n dJ0_coder_7d493_6 rfl ?_
  refine AW_xget (vI 0) dJ0_coder_7d493_7 fl_cod (kn_cod 0 (by decide)) (by decide) (by decide) in0 ?_
  refine AW_goto (tgt := 14) dJ0_coder_7d493_10 (by decide) ?_
  refine AW_nret dJ0_coder_7d493_14 rfl (by decide +kernel) ?_
  exact ⟨rfl, rfl⟩
theorem k_lat0 {G : Gt} {d : Nat} {σ : St}    : AM mJ0_isLatin1_aae02 G d 0 0 [vR 4] σ (fun r τ => τ = σ ∧ r = some (vI 1)) := by
  refine AM.intro (by decide +kernel) (by simp [nLg]) (Nat.le_of_ble_eq_true rfl) (fun hO => ?_)
  show AW _ _ _ _ _ _ 0 [some (vR 4)] [] σ
  refine AW_gstI (x := 1) dJ0_isLatin1_aae02_0 fl_cs kn_cs ⟨by decide, by decide⟩ ?_
  refine AW_if_eq (tgt := 17) dJ0_isLatin1_aae02_3 (by decide) (fun c_3 => absurd c_3 (by decide)) (fun _ => ?_)
  refine AW_aload_n dJ0_isLatin1_aae02_6 rfl ?_
  refine AW_xget (vI 0) dJ0_isLatin1_aae02_7 fl_cod (kn_cod 0 (by decide)) (by decide) (by decide) in0 ?_
  refine AW_if_ne (tgt := 17) dJ0_isLatin1_aae02_10 (by decide) (fun c_10 => absurd c_10 (by decide)) (fun _ => ?_)
  refine AW_iconst dJ0_isLatin1_aae02_13 ?_
  refine AW_goto (tgt := 18) dJ0_isLatin1_aae02_14 (by decide) ?_
  refine AW_zret dJ0_isLatin1_aae02_18 rfl (by decide) ?_
  exact ⟨rfl, rfl⟩
theorem k_len0 {G : Gt} {d : Nat} {σ : St} (hd : 1 ≤ d)   : AM mJ0_length_8abf5 G d 0 0 [vR 4] σ (fun r τ => τ = σ ∧ r = some (vI 64)) := by
  refine AM.intro (by decide +kernel) (by simp [nLg]) (Nat.le_of_ble_eq_true rfl) (fun hO => ?_)
  show AW _ _ _ _ _ _ 0 [some (vR 4)] [] σ
  refine AW_aload_n dJ0_length_8abf5_0 rfl ?_
  refine AW_xget (vR 6) dJ0_length_8abf5_1 fl_val (kn_val 0 (by decide)) (by decide) (by decide) trivial ?_
  refine AW_xalen (N := 64) dJ0_length_8abf5_4 (kn_byt 0 (by decide)) (by decide) (by decide) (by decide) ?_
  refine AW_aload_n dJ0_length_8abf5_5 rfl ?_
  refine AW_callVx0 0 dJ0_length_8abf5_6 lkJ0_335 mfJ0_coder_7d493 (by decide) rfl k_coder0 (by omega) (Nat.le_of_ble_eq_true rfl) ?_
  rintro _ _ ⟨e_, rfl⟩ -
  rw [e_]
  clear e_
  refine AW_ishr dJ0_length_8abf5_9 ?_
  refine AW_iret dJ0_length_8abf5_10 rfl ?_
  exact ⟨rfl, congrArg (fun z => some (vI z)) (by decide +kernel)⟩
theorem k_coder1 {G : Gt} {d : Nat} {σ : St}    : AM mJ0_coder_7d493 G d 0 0 [vR 5] σ (fun r τ => τ = σ ∧ r = some (vI 0)) := by
  refine AM.intro (by decide +kernel) (by simp [nLg]) (Nat.le_of_ble_eq_true rfl) (fun hO => ?_)
  show AW _ _ _ _ _ _ 0 [some (vR 5)] [] σ
  refine AW_gstI (x := 1) dJ0_coder_7d493_0 fl_cs kn_cs ⟨by decide, by decide⟩ ?_
  refine AW_if_eq (tgt := 13) dJ0_coder_7d493_3 (by decide) (fun c_3 => absurd c_3 (by decide)) (fun _ => ?_)
  refine AW_aload_n dJ0_coder_7d493_6 rfl ?_
  refine AW_xget (vI 0) dJ0_coder_7d493_7 fl_cod (kn_cod 1 (by decide)) (by decide) (by decide) in0 ?_
  refine AW_goto (tgt := 14) dJ0_coder_7d493_10 (by decide) ?_
  refine AW_nret dJ0_coder_7d493_14 rfl (by decide +kernel) ?_
  exact ⟨rfl, rfl⟩
theorem k_lat1 {G : Gt} {d : Nat} {σ : St}    : AM mJ0_isLatin1_aae02 G d 0 0 [vR 5] σ (fun r τ => τ = σ ∧ r = some (vI 1)) := by
  refine AM.intro (by decide +kernel) (by simp [nLg]) (Nat.le_of_ble_eq_true rfl) (fun hO => ?_)
  show AW _ _ _ _ _ _ 0 [some (vR 5)] [] σ
  refine AW_gstI (x := 1) dJ0_isLatin1_aae02_0 fl_cs kn_cs ⟨by decide, by decide⟩ ?_
  refine AW_if_eq (tgt := 17) dJ0_isLatin1_aae02_3 (by decide) (fun c_3 => absurd c_3 (by decide)) (fun _ => ?_)
  refine AW_aload_n dJ0_isLatin1_aae02_6 rfl ?_
  refine AW_xget (vI 0) dJ0_isLatin1_aae02_7 fl_cod (kn_cod 1 (by decide)) (by decide) (by decide) in0 ?_
  refine AW_if_ne (tgt := 17) dJ0_isLatin1_aae02_10 (by decide) (fun c_10 => absurd c_10 (by decide)) (fun _ => ?_)
  refine AW_iconst dJ0_isLatin1_aae02_13 ?_
  refine AW_goto (tgt := 18) dJ0_isLatin1_aae02_14 (by decide) ?_
  refine AW_zret dJ0_isLatin1_aae02_18 rfl (by decide) ?_
  exact ⟨rfl, rfl⟩
theorem k_len1 {G : Gt} {d : Nat} {σ : St} (hd : 1 ≤ d)   : AM mJ0_length_8abf5 G d 0 0 [vR 5] σ (fun r τ => τ = σ ∧ r = some (vI 10)) := by
  refine AM.intro (by decide +kernel) (by simp [nLg]) (Nat.le_of_ble_eq_true rfl) (fun hO => ?_)
  show AW _ _ _ _ _ _ 0 [some (vR 5)] [] σ
  refine AW_aload_n dJ0_length_8abf5_0 rfl ?_
  refine AW_xget (vR 7) dJ0_length_8abf5_1 fl_val (kn_val 1 (by decide)) (by decide) (by decide) trivial ?_
  refine AW_xalen (N := 10) dJ0_length_8abf5_4 (kn_byt 1 (by decide)) (by decide) (by decide) (by decide) ?_
  refine AW_aload_n dJ0_length_8abf5_5 rfl ?_
  refine AW_callVx0 1 dJ0_length_8abf5_6 lkJ0_335 mfJ0_coder_7d493 (by decide) rfl k_coder1 (by omega) (Nat.le_of_ble_eq_true rfl) ?_
  rintro _ _ ⟨e_, rfl⟩ -
  rw [e_]
  clear e_
  refine AW_ishr dJ0_length_8abf5_9 ?_
  refine AW_iret dJ0_length_8abf5_10 rfl ?_
  exact ⟨rfl, congrArg (fun z => some (vI z)) (by decide +kernel)⟩
theorem txB_in : ∀ i, i < 2 → ∀ k, k < [64, 10].getD i 0 → InR (txB i k) ∧ aI2c (aAnd (txB i k) 255) = txB i k ∧ 0 < txB i k ∧ txB i k < 128 := by
  unfold InR
  decide +kernel
theorem txB_v (i k : Nat) : Value.int (([bWORDS, bSIGNS].getD i []).getD k 0) = .int (Int32.ofInt (txB i k)) := by
  rw [txB, ofI]
theorem k_chk {G : Gt} {d : Nat} {σ : St} (i n : Int) (x : Nat) (h0 : 0 ≤ i) (h1 : i < n) : AM mJ3_checkIndex_8e157 G d 0 0 [vI i, vI n, vR x] σ (fun r τ => τ = σ ∧ r = some (vI i)) := by
  refine AM.intro (by decide +kernel) (by simp [nLg]) (Nat.le_of_ble_eq_true rfl) (fun hO => ?_)
  show AW _ _ _ _ _ _ 0 [some (vI i), some (vI n), some (vR x)] [] σ
  refine AW_iload_n dJ3_checkIndex_8e157_0 rfl ?_
  refine AW_if_lt (tgt := 9) dJ3_checkIndex_8e157_1 (by decide) (fun c_1 => ?_) (fun c_1 => ?_)
  · skip
    exact absurd c_1 (by omega)
  · skip
    refine AW_iload_n dJ3_checkIndex_8e157_4 rfl ?_
    refine AW_iload_n dJ3_checkIndex_8e157_5 rfl ?_
    refine AW_icmp_lt (tgt := 16) dJ3_checkIndex_8e157_6 (by decide) (fun c_6 => ?_) (fun c_6 => ?_)
    · skip
      refine AW_iload_n dJ3_checkIndex_8e157_16 rfl ?_
      refine AW_iret dJ3_checkIndex_8e157_17 rfl ?_
      exact ⟨rfl, rfl⟩
    · skip
      exact absurd h1 c_6
theorem k_schk {G : Gt} {d : Nat} {σ : St} (hd : 1 ≤ d)  (i n : Int) (h0 : 0 ≤ i) (h1 : i < n) : AM mJ0_checkIndex_df160 G d 0 0 [vI i, vI n] σ (fun r τ => τ = σ ∧ r = none) := by
  refine AM.intro (by decide +kernel) (by simp [nLg]) (Nat.le_of_ble_eq_true rfl) (fun hO => ?_)
  have i_i : -2147483648 ≤ i ∧ i < 2147483648 := hO (vI i) (by simp)
  have i_n : -2147483648 ≤ n ∧ n < 2147483648 := hO (vI n) (by simp)
  show AW _ _ _ _ _ _ 0 [some (vI i), some (vI n)] [] σ
  refine AW_iload_n dJ0_checkIndex_df160_0 rfl ?_
  refine AW_iload_n dJ0_checkIndex_df160_1 rfl ?_
  refine AW_gst0 dJ0_checkIndex_df160_2 fl_fm (e := 8) (by decide) (by decide) kn_fm (fun x => ?_)
  refine AW_callS3 (d' := d - 1) dJ0_checkIndex_df160_5 lkJ0_1059 mfJ3_checkIndex_8e157 (k_chk i n x h0 h1) (by omega) (Nat.le_of_ble_eq_true rfl) ?_
  rintro _ _ ⟨e_, rfl⟩ -
  rw [e_]
  clear e_
  refine AW_pop dJ0_checkIndex_df160_8 ?_
  refine AW_vret dJ0_checkIndex_df160_9 rfl ?_
  exact ⟨rfl, rfl⟩
theorem k_lchar {G : Gt} {d : Nat} {σ : St} (hd : 2 ≤ d)  (i : Int) (h0 : 0 ≤ i) (h1 : i < 64) : AM mJ1_charAt_3b067 G d 0 0 [vR 6, vI i] σ (fun r τ => τ = σ ∧ r = some (vI (txB 0 i.toNat))) := by
  refine AM.intro (by decide +kernel) (by simp [nLg]) (Nat.le_of_ble_eq_true rfl) (fun hO => ?_)
  have i_i : -2147483648 ≤ i ∧ i < 2147483648 := hO (vI i) (by simp)
  show AW _ _ _ _ _ _ 0 [some (vR 6), some (vI i)] [] σ
  refine AW_iload_n dJ1_charAt_3b067_0 rfl ?_
  refine AW_aload_n dJ1_charAt_3b067_1 rfl ?_
  refine AW_xalen (N := 64) dJ1_charAt_3b067_2 (kn_byt 0 (by decide)) (by decide) (by decide) (by decide) ?_
  refine AW_callS2 (d' := d - 1) dJ1_charAt_3b067_3 lkJ1_9 mfJ0_checkIndex_df160 (k_schk (by omega) i 64 h0 h1) (by omega) (Nat.le_of_ble_eq_true rfl) ?_
  rintro _ _ ⟨e_, rfl⟩ -
  rw [e_]
  clear e_
  refine AW_aload_n dJ1_charAt_3b067_6 rfl ?_
  refine AW_iload_n dJ1_charAt_3b067_7 rfl ?_
  refine AW_xbald (v := txB 0 i.toNat) (N := 64) dJ1_charAt_3b067_8 (kn_byt 0 (by decide)) (by decide) (by decide) h0 h1 (txB_v 0 _) (txB_in 0 (by decide) i.toNat (show i.toNat < 64 by omega)).1 ?_
  refine AW_sipush dJ1_charAt_3b067_9 ?_
  refine AW_iand dJ1_charAt_3b067_12 ?_
  refine AW_i2c dJ1_charAt_3b067_13 ?_
  refine AW_nret dJ1_charAt_3b067_14 rfl ?_ ?_
  · rw [(txB_in 0 (by decide) i.toNat (show i.toNat < 64 by omega)).2.1]
    exact (by decide +kernel : ∀ k, k < 64 → narrow .char (.int (Int32.ofInt (txB 0 k))) = .int (Int32.ofInt (txB 0 k))) i.toNat (by omega)
  exact ⟨rfl, by rw [(txB_in 0 (by decide) i.toNat (show i.toNat < 64 by omega)).2.1]⟩
theorem k_charAt {G : Gt} {d : Nat} {σ : St} (hd : 3 ≤ d)  (i : Int) (h0 : 0 ≤ i) (h1 : i < 64) : AM mJ0_charAt_5068e G d 0 0 [vR 4, vI i] σ (fun r τ => τ = σ ∧ r = some (vI (txB 0 i.toNat))) := by
  refine AM.intro (by decide +kernel) (by simp [nLg]) (Nat.le_of_ble_eq_true rfl) (fun hO => ?_)
  have i_i : -2147483648 ≤ i ∧ i < 2147483648 := hO (vI i) (by simp)
  show AW _ _ _ _ _ _ 0 [some (vR 4), some (vI i)] [] σ
  refine AW_aload_n dJ0_charAt_5068e_0 rfl ?_
  refine AW_callVx0 0 dJ0_charAt_5068e_1 lkJ0_492 mfJ0_isLatin1_aae02 (by decide) rfl k_lat0 (by omega) (Nat.le_of_ble_eq_true rfl) ?_
  rintro _ _ ⟨e_, rfl⟩ -
  rw [e_]
  clear e_
  refine AW_if_eq (tgt := 16) dJ0_charAt_5068e_4 (by decide) (fun c_4 => absurd c_4 (by decide)) (fun _ => ?_)
  refine AW_aload_n dJ0_charAt_5068e_7 rfl ?_
  refine AW_xget (vR 6) dJ0_charAt_5068e_8 fl_val (kn_val 0 (by decide)) (by decide) (by decide) trivial ?_
  refine AW_iload_n dJ0_charAt_5068e_11 rfl ?_
  refine AW_callS2 (d' := d - 1) dJ0_charAt_5068e_12 lkJ0_495 mfJ1_charAt_3b067 (k_lchar (by omega) i h0 h1) (by omega) (Nat.le_of_ble_eq_true rfl) ?_
  rintro _ _ ⟨e_, rfl⟩ -
  rw [e_]
  clear e_
  refine AW_nret dJ0_charAt_5068e_15 rfl ?_ ?_
  · exact (by decide +kernel : ∀ k, k < 64 → narrow .char (.int (Int32.ofInt (txB 0 k))) = .int (Int32.ofInt (txB 0 k))) i.toNat (by omega)
  exact ⟨rfl, rfl⟩
abbrev isSig (c : Int) : Prop := c = 59 ∨ c = 43 ∨ c = 45 ∨ c = 42 ∨ c = 47 ∨ c = 40 ∨ c = 41 ∨ c = 60 ∨ c = 61 ∨ c = 62
theorem sig_of {c : Int} {k : Nat} (hk : k < 10) (h : txB 1 k = c) : isSig c := by
  subst h
  exact (by decide +kernel : ∀ k, k < 10 → isSig (txB 1 k)) k hk
theorem sig_at {c : Int} (h : isSig c) : ∃ k, k < 10 ∧ txB 1 k = c := by
  rcases h with rfl | rfl | rfl | rfl | rfl | rfl | rfl | rfl | rfl | rfl
  · exact ⟨0, by decide, by decide +kernel⟩
  · exact ⟨1, by decide, by decide +kernel⟩
  · exact ⟨2, by decide, by decide +kernel⟩
  · exact ⟨3, by decide, by decide +kernel⟩
  · exact ⟨4, by decide, by decide +kernel⟩
  · exact ⟨5, by decide, by decide +kernel⟩
  · exact ⟨6, by decide, by decide +kernel⟩
  · exact ⟨7, by decide, by decide +kernel⟩
  · exact ⟨8, by decide, by decide +kernel⟩
  · exact ⟨9, by decide, by decide +kernel⟩
theorem i2b_id : ∀ c : Int, 0 ≤ c → c < 256 → aI2b c = if c < 128 then c else c - 256 := by
  intro c h0 h1
  have := (by decide +kernel : ∀ k : Fin 256, aI2b (k.val : Int) = if (k.val : Int) < 128 then (k.val : Int) else (k.val : Int) - 256) ⟨c.toNat, by omega⟩
  simp only at this
  rwa [show ((c.toNat : Nat) : Int) = c by omega] at this
theorem l_ioc {G : Gt} {d : Nat} {σ : St} {c : Int} (hc : 0 ≤ c ∧ c < 256) : ∀ (nn : Nat) (q : Nat), (10 - q) < nn → q ≤ 10 → (∀ k, k < q → txB 1 k ≠ c) →  AW mJ1_indexOfChar_4cfef G d 0 0 (mq G (fun ro ρ => ρ = σ ∧ ∃ z : Int, ro = some (vI z) ∧ (0 ≤ z ↔ isSig c))) 7 [some (vR 7), some (vI c), some (vI 0), some (vI 10), some (vI (aI2b c)), some (vI (q : Int))] [] σ := by
  intro nn
  induction nn with
  | zero => intros; omega
  | succ nn ih =>
    intro q hn hq hp
    have hib := i2b_id c hc.1 hc.2
    refine AW_iload dJ1_indexOfChar_4cfef_7 rfl ?_
    refine AW_iload_n dJ1_indexOfChar_4cfef_9 rfl ?_
    refine AW_icmp_ge (tgt := 31) dJ1_indexOfChar_4cfef_10 (by decide) (fun c_10 => ?_) (fun c_10 => ?_)
    · skip
      refine AW_iconst dJ1_indexOfChar_4cfef_31 ?_
      refine AW_iret dJ1_indexOfChar_4cfef_32 rfl ?_
      refine ⟨rfl, _, rfl, fun h => by omega, fun h => ?_⟩
      obtain ⟨k, hk, he⟩ := sig_at h
      exact absurd he (hp k (by omega))
    · skip
      refine AW_aload_n dJ1_indexOfChar_4cfef_13 rfl ?_
      refine AW_iload dJ1_indexOfChar_4cfef_14 rfl ?_
      refine AW_xbald (v := txB 1 q) (N := 10) dJ1_indexOfChar_4cfef_16 (kn_byt 1 (by decide)) (by decide) (by decide) (by omega) (by omega) (by rw [Int.toNat_natCast]; exact txB_v 1 _) (txB_in 1 (by decide) q (show q < 10 by omega)).1 ?_
      refine AW_iload dJ1_indexOfChar_4cfef_17 rfl ?_
      have ht := txB_in 1 (by decide) q (show q < 10 by omega)
      refine AW_icmp_ne (tgt := 25) dJ1_indexOfChar_4cfef_19 (by decide) (fun c_19 => ?_) (fun c_19 => ?_)
      · skip
        refine AW_iincE5 dJ1_indexOfChar_4cfef_25 (by omega) (by omega) ?_
        refine AW_goto (tgt := 7) dJ1_indexOfChar_4cfef_28 (by decide) ?_
        rw [show (q : Int) + 1 = ((q + 1 : Nat) : Int) by omega]
        refine ih (q + 1) (by omega) (by omega) (fun k hk => ?_)
        by_cases hkq : k = q
        · subst hkq
          intro he
          apply c_19
          rw [hib, if_pos (by omega)]
          exact he
        · exact hp k (by omega)
      · skip
        refine AW_iload dJ1_indexOfChar_4cfef_22 rfl ?_
        refine AW_iret dJ1_indexOfChar_4cfef_24 rfl ?_
        refine ⟨rfl, _, rfl, fun _ => sig_of (k := q) (by omega) ?_, fun _ => by omega⟩
        have hc2 := c_19
        rw [hib] at hc2
        split at hc2
        · exact hc2
        · omega
theorem k_ioc {G : Gt} {d : Nat} {σ : St} (c : Int) (hc : 0 ≤ c ∧ c < 256) : AM mJ1_indexOfChar_4cfef G d 0 0 [vR 7, vI c, vI 0, vI 10] σ (fun r τ => τ = σ ∧ ∃ z : Int, r = some (vI z) ∧ (0 ≤ z ↔ isSig c)) := by
  refine AM.intro (by decide +kernel) (by simp [nLg]) (Nat.le_of_ble_eq_true rfl) (fun hO => ?_)
  show AW _ _ _ _ _ _ 0 [some (vR 7), some (vI c), some (vI 0), some (vI 10), none, none] [] σ
  refine AW_iload_n dJ1_indexOfChar_4cfef_0 rfl ?_
  refine AW_i2b dJ1_indexOfChar_4cfef_1 ?_
  refine AW_istore4 dJ1_indexOfChar_4cfef_2 ?_
  refine AW_iload_n dJ1_indexOfChar_4cfef_4 rfl ?_
  refine AW_istore5 dJ1_indexOfChar_4cfef_5 ?_
  exact l_ioc hc 11 0 (by omega) (by omega) (fun k hk => by omega)
theorem k_canE {G : Gt} {d : Nat} {σ : St}   (c : Int) (hc : 0 ≤ c ∧ c < 256) : AM mJ1_canEncode_9a6ad G d 0 0 [vI c] σ (fun r τ => τ = σ ∧ r = some (vI 1)) := by
  refine AM.intro (by decide +kernel) (by simp [nLg]) (Nat.le_of_ble_eq_true rfl) (fun hO => ?_)
  have i_c : -2147483648 ≤ c ∧ c < 2147483648 := hO (vI c) (by simp)
  show AW _ _ _ _ _ _ 0 [some (vI c)] [] σ
  refine AW_iload_n dJ1_canEncode_9a6ad_0 rfl ?_
  refine AW_if_lt (tgt := 15) dJ1_canEncode_9a6ad_1 (by decide) (fun c_1 => ?_) (fun c_1 => ?_)
  · skip
    exact absurd c_1 (by omega)
  · skip
    refine AW_iload_n dJ1_canEncode_9a6ad_4 rfl ?_
    refine AW_sipush dJ1_canEncode_9a6ad_5 ?_
    refine AW_icmp_gt (tgt := 15) dJ1_canEncode_9a6ad_8 (by decide) (fun c_8 => ?_) (fun c_8 => ?_)
    · skip
      exact absurd c_8 (by omega)
    · skip
      refine AW_iconst dJ1_canEncode_9a6ad_11 ?_
      refine AW_goto (tgt := 16) dJ1_canEncode_9a6ad_12 (by decide) ?_
      refine AW_zret dJ1_canEncode_9a6ad_16 rfl (by decide) ?_
      exact ⟨rfl, rfl⟩
theorem k_lio {G : Gt} {d : Nat} {σ : St} (hd : 1 ≤ d) (c : Int) (hc : 0 ≤ c ∧ c < 256) : AM mJ1_indexOf_4cfef G d 0 0 [vR 7, vI c, vI 0, vI 10] σ (fun r τ => τ = σ ∧ ∃ z : Int, r = some (vI z) ∧ (0 ≤ z ↔ isSig c)) := by
  refine AM.intro (by decide +kernel) (by simp [nLg]) (Nat.le_of_ble_eq_true rfl) (fun hO => ?_)
  show AW _ _ _ _ _ _ 0 [some (vR 7), some (vI c), some (vI 0), some (vI 10)] [] σ
  refine AW_iload_n dJ1_indexOf_4cfef_0 rfl ?_
  refine AW_callS1 (d' := d - 1) dJ1_indexOf_4cfef_1 lkJ1_88 mfJ1_canEncode_9a6ad (k_canE c hc) (by omega) (Nat.le_of_ble_eq_true rfl) ?_
  rintro _ _ ⟨e_, rfl⟩ -
  rw [e_]
  clear e_
  refine AW_if_ne (tgt := 9) dJ1_indexOf_4cfef_4 (by decide) (fun _ => ?_) (fun c_4 => absurd c_4 (by decide))
  refine AW_iload_n dJ1_indexOf_4cfef_9 rfl ?_
  refine AW_iconst dJ1_indexOf_4cfef_10 ?_
  refine AW_mmax dJ1_indexOf_4cfef_11 lkJ1_92 (by omega) (Nat.le_of_ble_eq_true rfl) ?_
  rw [show (if (0 : Int) < 0 then (0 : Int) else 0) = 0 from rfl]
  refine AW_istore2 dJ1_indexOf_4cfef_14 ?_
  refine AW_iload_n dJ1_indexOf_4cfef_15 rfl ?_
  refine AW_aload_n dJ1_indexOf_4cfef_16 rfl ?_
  refine AW_xalen (N := 10) dJ1_indexOf_4cfef_17 (kn_byt 1 (by decide)) (by decide) (by decide) (by decide) ?_
  refine AW_mmin dJ1_indexOf_4cfef_18 lkJ1_38 (by omega) (Nat.le_of_ble_eq_true rfl) ?_
  rw [show (if ((10 : Nat) : Int) < 10 then ((10 : Nat) : Int) else 10) = 10 from rfl]
  refine AW_istore3 dJ1_indexOf_4cfef_21 ?_
  refine AW_iload_n dJ1_indexOf_4cfef_22 rfl ?_
  refine AW_iload_n dJ1_indexOf_4cfef_23 rfl ?_
  refine AW_icmp_lt (tgt := 29) dJ1_indexOf_4cfef_24 (by decide) (fun c_24 => ?_) (fun c_24 => ?_)
  · skip
    refine AW_aload_n dJ1_indexOf_4cfef_29 rfl ?_
    refine AW_iload_n dJ1_indexOf_4cfef_30 rfl ?_
    refine AW_iload_n dJ1_indexOf_4cfef_31 rfl ?_
    refine AW_iload_n dJ1_indexOf_4cfef_32 rfl ?_
    refine AW_callS4 (d' := d - 1) dJ1_indexOf_4cfef_33 lkJ1_95 mfJ1_indexOfChar_4cfef (k_ioc c hc) (by omega) (Nat.le_of_ble_eq_true rfl) ?_
    rintro _ _ ⟨e_, z, rfl, hz⟩ -
    rw [e_]
    clear e_
    refine AW_iret dJ1_indexOf_4cfef_36 rfl ?_
    exact ⟨rfl, z, rfl, hz⟩
  · skip
    exact absurd (by decide) c_24
theorem k_sio2 {G : Gt} {d : Nat} {σ : St} (hd : 2 ≤ d) (c : Int) (hc : 0 ≤ c ∧ c < 256) : AM mJ0_indexOf_7cf53 G d 0 0 [vR 5, vI c, vI 0] σ (fun r τ => τ = σ ∧ ∃ z : Int, r = some (vI z) ∧ (0 ≤ z ↔ isSig c)) := by
  refine AM.intro (by decide +kernel) (by simp [nLg]) (Nat.le_of_ble_eq_true rfl) (fun hO => ?_)
  show AW _ _ _ _ _ _ 0 [some (vR 5), some (vI c), some (vI 0)] [] σ
  refine AW_aload_n dJ0_indexOf_7cf53_0 rfl ?_
  refine AW_callVx0 1 dJ0_indexOf_7cf53_1 lkJ0_492 mfJ0_isLatin1_aae02 (by decide) rfl k_lat1 (by omega) (Nat.le_of_ble_eq_true rfl) ?_
  rintro _ _ ⟨e_, rfl⟩ -
  rw [e_]
  clear e_
  refine AW_if_eq (tgt := 23) dJ0_indexOf_7cf53_4 (by decide) (fun c_4 => absurd c_4 (by decide)) (fun _ => ?_)
  refine AW_aload_n dJ0_indexOf_7cf53_7 rfl ?_
  refine AW_xget (vR 7) dJ0_indexOf_7cf53_8 fl_val (kn_val 1 (by decide)) (by decide) (by decide) trivial ?_
  refine AW_iload_n dJ0_indexOf_7cf53_11 rfl ?_
  refine AW_iload_n dJ0_indexOf_7cf53_12 rfl ?_
  refine AW_aload_n dJ0_indexOf_7cf53_13 rfl ?_
  refine AW_callVx0 1 dJ0_indexOf_7cf53_14 lkJ0_505 mfJ0_length_8abf5 (by decide) rfl (k_len1 (by omega)) (by omega) (Nat.le_of_ble_eq_true rfl) ?_
  rintro _ _ ⟨e_, rfl⟩ -
  rw [e_]
  clear e_
  refine AW_callS4 (d' := d - 1) dJ0_indexOf_7cf53_17 lkJ0_637 mfJ1_indexOf_4cfef (k_lio (by omega) c hc) (by omega) (Nat.le_of_ble_eq_true rfl) ?_
  rintro _ _ ⟨e_, z, rfl, hz⟩ -
  rw [e_]
  clear e_
  refine AW_goto (tgt := 36) dJ0_indexOf_7cf53_20 (by decide) ?_
  refine AW_iret dJ0_indexOf_7cf53_36 rfl ?_
  exact ⟨rfl, z, rfl, hz⟩
theorem k_sio {G : Gt} {d : Nat} {σ : St} (hd : 3 ≤ d) (c : Int) (hc : 0 ≤ c ∧ c < 256) : AM mJ0_indexOf_0f7a4 G d 0 0 [vR 5, vI c] σ (fun r τ => τ = σ ∧ ∃ z : Int, r = some (vI z) ∧ (0 ≤ z ↔ isSig c)) := by
  refine AM.intro (by decide +kernel) (by simp [nLg]) (Nat.le_of_ble_eq_true rfl) (fun hO => ?_)
  show AW _ _ _ _ _ _ 0 [some (vR 5), some (vI c)] [] σ
  refine AW_aload_n dJ0_indexOf_0f7a4_0 rfl ?_
  refine AW_iload_n dJ0_indexOf_0f7a4_1 rfl ?_
  refine AW_iconst dJ0_indexOf_0f7a4_2 ?_
  refine AW_callVx2 1 dJ0_indexOf_0f7a4_3 lkJ0_633 mfJ0_indexOf_7cf53 (by decide) rfl (k_sio2 (by omega) c hc) (by omega) (Nat.le_of_ble_eq_true rfl) ?_
  rintro _ _ ⟨e_, z, rfl, hz⟩ -
  rw [e_]
  clear e_
  refine AW_iret dJ0_indexOf_0f7a4_6 rfl ?_
  exact ⟨rfl, z, rfl, hz⟩
