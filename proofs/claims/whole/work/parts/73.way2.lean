theorem k_ochk {G : Gt} {d : Nat} {σ : St} (hd : 1 ≤ d) (i n : Int) (h0 : 0 ≤ i) (h1 : i < n) : AM mJ15_checkIndex_7cf53 G d 0 0 [vI i, vI n] σ (fun r τ => τ = σ ∧ r = some (vI i)) := by
  refine AM.intro (by decide +kernel) (by simp [nLg]) (Nat.le_of_ble_eq_true rfl) (fun hO => ?_)
  show AW _ _ _ _ _ _ 0 [some (vI i), some (vI n)] [] σ
  refine AW_iload_n dJ15_checkIndex_7cf53_0 rfl ?_
  refine AW_iload_n dJ15_checkIndex_7cf53_1 rfl ?_
  refine AW_null dJ15_checkIndex_7cf53_2 ?_
  refine AW_callS3 (d' := d - 1) dJ15_checkIndex_7cf53_3 lkJ15_105 mfJ3_checkIndex_8e157 (k_chk i n 0 h0 h1) (by omega) (Nat.le_of_ble_eq_true rfl) ?_
  rintro _ _ ⟨e_, rfl⟩ -
  rw [e_]
  clear e_
  refine AW_iret dJ15_checkIndex_7cf53_6 rfl ?_
  exact ⟨rfl, rfl⟩
theorem k_ALed {G : Gt} {d : Nat} {σ : St} {lc ea N : Nat} (hl : Cel σ lc (13, 3)) (he : σ.2.2.1 lc 1 = ea) (ha : Cel σ ea (23, N)) (i : Int) (h0 : 0 ≤ i) (h1 : i < N) : AM mJx4a65c_elementData_915e3 G d 0 0 [vR lc, vI i] σ (fun r τ => τ = σ ∧ r = some (vR (σ.2.2.1 ea i.toNat))) := by
  refine AM.intro (by decide +kernel) (by simp [nLg]) (Nat.le_of_ble_eq_true rfl) (fun hO => ?_)
  show AW _ _ _ _ _ _ 0 [some (vR lc), some (vI i)] [] σ
  refine AW_aload_n dJx4a65c_elementData_915e3_0 rfl ?_
  refine AW_getR (a := ea) dJx4a65c_elementData_915e3_1 gfJx4a65c_9 hl he ?_
  refine AW_iload_n dJx4a65c_elementData_915e3_4 rfl ?_
  refine AW_aald (a := σ.2.2.1 ea i.toNat) dJx4a65c_elementData_915e3_5 ha h0 h1 rfl ?_
  refine AW_aret dJx4a65c_elementData_915e3_6 rfl ?_
  exact ⟨rfl, rfl⟩
theorem k_ALget {G : Gt} {d : Nat} {σ : St} (hd : 2 ≤ d) {lc ea N : Nat} (hl : Cel σ lc (13, 3)) (he : σ.2.2.1 lc 1 = ea) (ha : Cel σ ea (23, N)) (i : Int) (h0 : 0 ≤ i) (h1 : i < N) (h2 : i < σ.2.1 lc 2) : AM mJx4a65c_get_915e3 G d 0 0 [vR lc, vI i] σ (fun r τ => τ = σ ∧ r = some (vR (σ.2.2.1 ea i.toNat))) := by
  refine AM.intro (by decide +kernel) (by simp [nLg]) (Nat.le_of_ble_eq_true rfl) (fun hO => ?_)
  show AW _ _ _ _ _ _ 0 [some (vR lc), some (vI i)] [] σ
  refine AW_iload_n dJx4a65c_get_915e3_0 rfl ?_
  refine AW_aload_n dJx4a65c_get_915e3_1 rfl ?_
  refine AW_getI dJx4a65c_get_915e3_2 gfJx4a65c_48 hl ?_
  refine AW_callS2 (d' := d - 1) dJx4a65c_get_915e3_5 lkJx4a65c_118 mfJ15_checkIndex_7cf53 (k_ochk (by omega) i _ h0 h2) (by omega) (Nat.le_of_ble_eq_true rfl) ?_
  rintro _ _ ⟨e_, rfl⟩ -
  rw [e_]
  clear e_
  refine AW_pop dJx4a65c_get_915e3_8 ?_
  refine AW_aload_n dJx4a65c_get_915e3_9 rfl ?_
  refine AW_iload_n dJx4a65c_get_915e3_10 rfl ?_
  refine AW_callV1 (d' := d - 1) dJx4a65c_get_915e3_11 (Or.inl lkJx4a65c_123) mfJx4a65c_elementData_915e3 hl ⟨_, rfl, rfl⟩ (k_ALed hl he ha i h0 h1) (by omega) (Nat.le_of_ble_eq_true rfl) ?_
  rintro _ _ ⟨e_, rfl⟩ -
  rw [e_]
  clear e_
  refine AW_aret dJx4a65c_get_915e3_14 rfl ?_
  exact ⟨rfl, rfl⟩
/-- the k-th WAY's cell; its rows lie behind it -/
def wcl (k : Nat) : Nat := [48, 55, 61, 67, 73, 79].getD k 0
theorem wcl_k {k : Nat} (hk : k < 6) : k = 0 ∨ k = 1 ∨ k = 2 ∨ k = 3 ∨ k = 4 ∨ k = 5 := by omega
theorem wcl_b {k : Nat} (hk : k < 6) : 48 ≤ wcl k ∧ wcl k + 5 ≤ 84 ∧ (wcl k + 5 < 54 ∨ 54 < wcl k) := by
  rcases wcl_k hk with rfl | rfl | rfl | rfl | rfl | rfl <;> decide
theorem wcl_apart {k k' : Nat} (hk : k < 6) (hk' : k' < 6) (hne : k ≠ k') : wcl k + 5 < wcl k' ∨ wcl k' + 5 < wcl k := by
  rcases wcl_k hk with rfl | rfl | rfl | rfl | rfl | rfl <;> rcases wcl_k hk' with rfl | rfl | rfl | rfl | rfl | rfl <;> first | exact absurd rfl hne | decide
theorem Sta.wc {σ : St} (h : Sta σ) {k : Nat} (hk : k < 6) : Cel σ (wcl k) (10, 7) := by
  rcases wcl_k hk with rfl | rfl | rfl | rfl | rfl | rfl <;> exact h.cel rfl
theorem Sta.wa {σ : St} (h : Sta σ) {k : Nat} (hk : k < 6) : Cel σ (wcl k + 1) (20, 400) := by
  rcases wcl_k hk with rfl | rfl | rfl | rfl | rfl | rfl <;> exact h.cel rfl
theorem Sta.wl2 {σ : St} (h : Sta σ) {k : Nat} (hk : k < 6) : Cel σ (wcl k + 2) (20, 12) := by
  rcases wcl_k hk with rfl | rfl | rfl | rfl | rfl | rfl <;> exact h.cel rfl
theorem Sta.wl3 {σ : St} (h : Sta σ) {k : Nat} (hk : k < 6) : Cel σ (wcl k + 3) (20, 12) := by
  rcases wcl_k hk with rfl | rfl | rfl | rfl | rfl | rfl <;> exact h.cel rfl
theorem Sta.wl4 {σ : St} (h : Sta σ) {k : Nat} (hk : k < 6) : Cel σ (wcl k + 4) (20, 12) := by
  rcases wcl_k hk with rfl | rfl | rfl | rfl | rfl | rfl <;> exact h.cel rfl
theorem Sta.wl5 {σ : St} (h : Sta σ) {k : Nat} (hk : k < 6) : Cel σ (wcl k + 5) (20, 12) := by
  rcases wcl_k hk with rfl | rfl | rfl | rfl | rfl | rfl <;> exact h.cel rfl
theorem Sta.wr {σ : St} (h : Sta σ) {k : Nat} (hk : k < 6) (j : Nat) (hj : j < 5) : σ.2.2.1 (wcl k) j = wcl k + 1 + j := by
  have hj2 : j = 0 ∨ j = 1 ∨ j = 2 ∨ j = 3 ∨ j = 4 := by omega
  rcases wcl_k hk with rfl | rfl | rfl | rfl | rfl | rfl <;> rcases hj2 with rfl | rfl | rfl | rfl | rfl <;> exact h.rf rfl
theorem Sta.wn {σ : St} (h : Sta σ) {k : Nat} (hk : k < 6) : σ.2.2.1 54 k = wcl k := by
  rcases wcl_k hk with rfl | rfl | rfl | rfl | rfl | rfl <;> exact h.rf rfl
/-- a WAY: its lines, of each the four numbers, its code's length, its code -/
abbrev Wy : Type := Nat × (Nat → Nat → Int) × Nat × (Nat → Int)
def WyC (σ : St) (k : Nat) (W : Wy) : Prop := σ.2.1 (wcl k) 6 = W.1 ∧ W.1 ≤ 12 ∧ σ.2.1 (wcl k) 5 = W.2.2.1 ∧ W.2.2.1 ≤ 400 ∧ (∀ l, l < W.1 → σ.2.1 (wcl k + 2) l = W.2.1 0 l ∧ σ.2.1 (wcl k + 3) l = W.2.1 1 l ∧ σ.2.1 (wcl k + 4) l = W.2.1 2 l ∧ σ.2.1 (wcl k + 5) l = W.2.1 3 l) ∧ ∀ i, i < W.2.2.1 → σ.2.1 (wcl k + 1) i = W.2.2.2 i
def wyF (k : Nat) : List Nat := [wcl k, wcl k + 1, wcl k + 2, wcl k + 3, wcl k + 4, wcl k + 5]
theorem cp_if (σ : St) (r0 r1 sp dp n r j : Nat) : (cpI σ r0 r1 sp dp n).2.1 r j = if r = r1 ∧ dp ≤ j ∧ j < dp + n then σ.2.1 r0 (sp + (j - dp)) else σ.2.1 r j := rfl
theorem cp_miss (σ : St) {r r1 : Nat} (r0 sp dp n j : Nat) (h : r ≠ r1) : (cpI σ r0 r1 sp dp n).2.1 r j = σ.2.1 r j := by rw [cp_if, if_neg (fun q => h q.1)]
theorem cp_hit (σ : St) (r0 r1 sp dp n j : Nat) (h : dp ≤ j ∧ j < dp + n) : (cpI σ r0 r1 sp dp n).2.1 r1 j = σ.2.1 r0 (sp + (j - dp)) := by rw [cp_if, if_pos ⟨rfl, h⟩]
theorem Fr.cp {L : List Nat} {σ τ : St} (h : Fr L σ τ) {r1 : Nat} (hr : r1 ∈ L) (r0 sp dp n : Nat) : Fr L σ (cpI τ r0 r1 sp dp n) := by
  refine ⟨h.1, h.2.1, h.2.2.1, fun r hn j => ?_⟩
  rw [cp_if, if_neg (fun q => hn (by rw [q.1]; exact hr))]
  exact h.2.2.2 r hn j
theorem Sta.cp {σ : St} (h : Sta σ) (r0 r1 sp dp n : Nat) : Sta (cpI σ r0 r1 sp dp n) := h
theorem Cel.cp {σ : St} {r : Nat} {k : Nat × Nat} (h : Cel σ r k) (r0 r1 sp dp n : Nat) : Cel (cpI σ r0 r1 sp dp n) r k := h
theorem ac_X10 : Cond.methodLink RX10 34 arraycopyName ∈ lw_g := mem_g 947 (by decide +kernel) rfl
theorem k_wcopy {G : Gt} {d : Nat} {σ : St} (hd : 1 ≤ d) (hS : Sta σ) {k : Nat} (hk : k < 6) {m sz : Nat} {L : Nat → Nat → Int} {c : Nat → Int} (hL : LnC σ m L) (hsz : σ.2.1 35 5 = sz) (hs4 : sz ≤ 400) (hc : ∀ i, i < sz → σ.2.1 36 i = c i) : AM mX10_copy G d 0 0 [vR (wcl k), vR 35] σ (fun ro ρ => ro = none ∧ WyC ρ k (m, L, sz, c) ∧ Fr (wyF k) σ ρ) := by
  have hb := wcl_b hk
  refine AM.intro (by decide +kernel) (by simp [nLg]) (Nat.le_of_ble_eq_true rfl) (fun hO => ?_)
  show AW _ _ _ _ _ _ 0 [some (vR (wcl k)), some (vR 35)] [] σ
  refine AW_aload_n dX10_copy_0 rfl ?_
  refine AW_aload_n dX10_copy_1 rfl ?_
  refine AW_getI dX10_copy_2 gfX10_31 (hS.cel rfl) ?_
  refine AW_putI dX10_copy_5 (Or.inl pfX10_31) (hS.wc hk) ?_
  refine AW_aload_n dX10_copy_8 rfl ?_
  refine AW_aload_n dX10_copy_9 rfl ?_
  refine AW_getI dX10_copy_10 gfX10_27 (hS.cel rfl) ?_
  refine AW_putI dX10_copy_13 (Or.inl pfX10_27) (hS.wc hk) ?_
  refine AW_aload_n dX10_copy_16 rfl ?_
  refine AW_getR (a := 36) dX10_copy_17 gfX10_9 (hS.cel rfl) (hS.rf rfl) ?_
  refine AW_iconst dX10_copy_20 ?_
  refine AW_aload_n dX10_copy_21 rfl ?_
  refine AW_getR (a := wcl k + 1) dX10_copy_22 gfX10_9 (hS.wc hk) (hS.wr hk 0 (by decide)) ?_
  refine AW_iconst dX10_copy_25 ?_
  refine AW_aload_n dX10_copy_26 rfl ?_
  refine AW_getR (a := wcl k + 1) dX10_copy_27 gfX10_9 (hS.wc hk) (hS.wr hk 0 (by decide)) ?_
  refine AW_alen dX10_copy_30 (hS.wa hk) (by decide) (by decide) ?_
  refine AW_copyI (r0 := 36) (r1 := wcl k + 1) (n0 := 400) (n1 := 400) dX10_copy_31 ac_X10 (hS.cel rfl) (hS.wa hk) (by decide) (by decide) (by decide) (by decide) (by decide) (by omega) (Nat.le_of_ble_eq_true rfl) ?_
  refine AW_aload_n dX10_copy_34 rfl ?_
  refine AW_getR (a := 37) dX10_copy_35 gfX10_15 (hS.cel rfl) (hS.rf rfl) ?_
  refine AW_iconst dX10_copy_38 ?_
  refine AW_aload_n dX10_copy_39 rfl ?_
  refine AW_getR (a := wcl k + 2) dX10_copy_40 gfX10_15 (hS.wc hk) (hS.wr hk 1 (by decide)) ?_
  refine AW_iconst dX10_copy_43 ?_
  refine AW_bipush dX10_copy_44 ?_
  refine AW_copyI (r0 := 37) (r1 := wcl k + 2) (n0 := 12) (n1 := 12) dX10_copy_46 ac_X10 (hS.cel rfl) (hS.wl2 hk) (by decide) (by decide) (by decide) (by decide) (by decide) (by omega) (Nat.le_of_ble_eq_true rfl) ?_
  refine AW_aload_n dX10_copy_49 rfl ?_
  refine AW_getR (a := 38) dX10_copy_50 gfX10_18 (hS.cel rfl) (hS.rf rfl) ?_
  refine AW_iconst dX10_copy_53 ?_
  refine AW_aload_n dX10_copy_54 rfl ?_
  refine AW_getR (a := wcl k + 3) dX10_copy_55 gfX10_18 (hS.wc hk) (hS.wr hk 2 (by decide)) ?_
  refine AW_iconst dX10_copy_58 ?_
  refine AW_bipush dX10_copy_59 ?_
  refine AW_copyI (r0 := 38) (r1 := wcl k + 3) (n0 := 12) (n1 := 12) dX10_copy_61 ac_X10 (hS.cel rfl) (hS.wl3 hk) (by decide) (by decide) (by decide) (by decide) (by decide) (by omega) (Nat.le_of_ble_eq_true rfl) ?_
  refine AW_aload_n dX10_copy_64 rfl ?_
  refine AW_getR (a := 39) dX10_copy_65 gfX10_21 (hS.cel rfl) (hS.rf rfl) ?_
  refine AW_iconst dX10_copy_68 ?_
  refine AW_aload_n dX10_copy_69 rfl ?_
  refine AW_getR (a := wcl k + 4) dX10_copy_70 gfX10_21 (hS.wc hk) (hS.wr hk 3 (by decide)) ?_
  refine AW_iconst dX10_copy_73 ?_
  refine AW_bipush dX10_copy_74 ?_
  refine AW_copyI (r0 := 39) (r1 := wcl k + 4) (n0 := 12) (n1 := 12) dX10_copy_76 ac_X10 (hS.cel rfl) (hS.wl4 hk) (by decide) (by decide) (by decide) (by decide) (by decide) (by omega) (Nat.le_of_ble_eq_true rfl) ?_
  refine AW_aload_n dX10_copy_79 rfl ?_
  refine AW_getR (a := 40) dX10_copy_80 gfX10_24 (hS.cel rfl) (hS.rf rfl) ?_
  refine AW_iconst dX10_copy_83 ?_
  refine AW_aload_n dX10_copy_84 rfl ?_
  refine AW_getR (a := wcl k + 5) dX10_copy_85 gfX10_24 (hS.wc hk) (hS.wr hk 4 (by decide)) ?_
  refine AW_iconst dX10_copy_88 ?_
  refine AW_bipush dX10_copy_89 ?_
  refine AW_copyI (r0 := 40) (r1 := wcl k + 5) (n0 := 12) (n1 := 12) dX10_copy_91 ac_X10 (hS.cel rfl) (hS.wl5 hk) (by decide) (by decide) (by decide) (by decide) (by decide) (by omega) (Nat.le_of_ble_eq_true rfl) ?_
  refine AW_vret dX10_copy_94 rfl ?_
  refine ⟨rfl, ⟨?_, hL.2.1, ?_, hs4, fun l hl => ?_, fun i hi => ?_⟩, (((((((Fr.rf.up (L := wyF k) (by simp [wyF]) _ _).up (by simp [wyF]) _ _).cp (by simp [wyF]) _ _ _ _).cp (by simp [wyF]) _ _ _ _).cp (by simp [wyF]) _ _ _ _).cp (by simp [wyF]) _ _ _ _).cp (by simp [wyF]) _ _ _ _)⟩
  · rw [cp_miss _ _ _ _ _ _ (by omega), cp_miss _ _ _ _ _ _ (by omega), cp_miss _ _ _ _ _ _ (by omega), cp_miss _ _ _ _ _ _ (by omega), cp_miss _ _ _ _ _ _ (by omega), up_at, up_r _ _ _ _ (by omega)]
    exact hL.1
  · rw [cp_miss _ _ _ _ _ _ (by omega), cp_miss _ _ _ _ _ _ (by omega), cp_miss _ _ _ _ _ _ (by omega), cp_miss _ _ _ _ _ _ (by omega), cp_miss _ _ _ _ _ _ (by omega), up_j _ _ _ (by decide), up_at]
    exact hsz
  · have hl2 : l < m := hl
    have hm := hL.2.1
    have hl12 : l < 12 := by omega
    have h2 := hL.2.2 l hl2
    have z : 0 + (l - 0) = l := by omega
    refine ⟨?_, ?_, ?_, ?_⟩
    · rw [cp_miss _ _ _ _ _ _ (by omega), cp_miss _ _ _ _ _ _ (by omega), cp_miss _ _ _ _ _ _ (by omega), cp_hit _ _ _ _ _ _ _ (by omega)]
      show (cpI _ _ _ _ _ _).2.1 37 (0 + (l - 0)) = _
      rw [z, cp_miss _ _ _ _ _ _ (by omega), up_r _ _ _ _ (by omega), up_r _ _ _ _ (by omega)]
      exact h2.1
    · rw [cp_miss _ _ _ _ _ _ (by omega), cp_miss _ _ _ _ _ _ (by omega), cp_hit _ _ _ _ _ _ _ (by omega)]
      show (cpI _ _ _ _ _ _).2.1 38 (0 + (l - 0)) = _
      rw [z, cp_miss _ _ _ _ _ _ (by omega), cp_miss _ _ _ _ _ _ (by omega), up_r _ _ _ _ (by omega), up_r _ _ _ _ (by omega)]
      exact h2.2.1
    · rw [cp_miss _ _ _ _ _ _ (by omega), cp_hit _ _ _ _ _ _ _ (by omega)]
      show (cpI _ _ _ _ _ _).2.1 39 (0 + (l - 0)) = _
      rw [z, cp_miss _ _ _ _ _ _ (by omega), cp_miss _ _ _ _ _ _ (by omega), cp_miss _ _ _ _ _ _ (by omega), up_r _ _ _ _ (by omega), up_r _ _ _ _ (by omega)]
      exact h2.2.2.1
    · rw [cp_hit _ _ _ _ _ _ _ (by omega)]
      show (cpI _ _ _ _ _ _).2.1 40 (0 + (l - 0)) = _
      rw [z, cp_miss _ _ _ _ _ _ (by omega), cp_miss _ _ _ _ _ _ (by omega), cp_miss _ _ _ _ _ _ (by omega), cp_miss _ _ _ _ _ _ (by omega), up_r _ _ _ _ (by omega), up_r _ _ _ _ (by omega)]
      exact h2.2.2.2
  · have hi2 : i < sz := hi
    have z : 0 + (i - 0) = i := by omega
    rw [cp_miss _ _ _ _ _ _ (by omega), cp_miss _ _ _ _ _ _ (by omega), cp_miss _ _ _ _ _ _ (by omega), cp_miss _ _ _ _ _ _ (by omega), cp_hit _ _ _ _ _ _ _ (by omega)]
    show (upI _ _ _ _).2.1 36 (0 + (i - 0)) = _
    rw [z, up_r _ _ _ _ (by omega), up_r _ _ _ _ (by omega)]
    exact hc i hi2
