/-- a WAY as the model holds it -/
def WyM (σ : St) (k : Nat) (W : Wy) : Prop := σ.2.1 105 k = W.1 ∧ W.1 ≤ 12 ∧ W.2.2.1 ≤ 400 ∧ (∀ l, l < W.1 → σ.2.1 106 (12 * k + l) = W.2.1 0 l - 256 ∧ σ.2.1 107 (12 * k + l) = W.2.1 1 l ∧ σ.2.1 108 (12 * k + l) = W.2.1 2 l ∧ σ.2.1 109 (12 * k + l) = W.2.1 3 l) ∧ ∀ i, i < W.2.2.1 → σ.2.1 110 (400 * k + i) = mop (W.2.2.2 i) ∧ σ.2.1 111 (400 * k + i) = marg (W.2.2.2 i)
theorem WyM.go {σ ρ : St} {k : Nat} {W : Wy} (h : WyM σ k W) (h5 : ρ.2.1 105 k = σ.2.1 105 k) (h6 : ∀ r, 106 ≤ r → r ≤ 109 → ∀ j, 12 * k ≤ j → j < 12 * k + 12 → ρ.2.1 r j = σ.2.1 r j) (h7 : ∀ j, 400 * k ≤ j → j < 400 * k + 400 → ρ.2.1 110 j = σ.2.1 110 j ∧ ρ.2.1 111 j = σ.2.1 111 j) : WyM ρ k W := by
  obtain ⟨a1, a2, a3, a4, a5⟩ := h
  refine ⟨h5.trans a1, a2, a3, fun l hl => ?_, fun i hi => ?_⟩
  · rw [h6 106 (by decide) (by decide) _ (by omega) (by omega), h6 107 (by decide) (by decide) _ (by omega) (by omega), h6 108 (by decide) (by decide) _ (by omega) (by omega), h6 109 (by decide) (by decide) _ (by omega) (by omega)]
    exact a4 l hl
  · rw [(h7 _ (by omega) (by omega)).1, (h7 _ (by omega) (by omega)).2]
    exact a5 i hi
theorem WyM.fw {σ ρ : St} {k : Nat} {W : Wy} (h : WyM σ k W) (hk : k < 6) (hF : Fw σ ρ) : WyM ρ k W := h.go (hF.1.a 105 k) (fun r h1 h2 j h3 h4 => hF.2 r h1 h2 j (by omega)) (fun j h1 h2 => hF.1.2 j (by omega))
theorem WyM.fm {fs L : List Nat} {σ ρ : St} {k : Nat} {W : Wy} (h : WyM σ k W) (hF : Fm fs L σ ρ) (h2 : ∀ r, r ∈ 94 :: L → r < 105 ∨ 111 < r := by decide) : WyM ρ k W := h.go (hF.a 105 k (fun q => by have := h2 _ q; omega)) (fun r h3 h4 j _ _ => hF.a r j (fun q => by have := h2 _ q; omega)) (fun j _ _ => ⟨hF.a 110 j (fun q => by have := h2 _ q; omega), hF.a 111 j (fun q => by have := h2 _ q; omega)⟩)
/-- writes of the k-th WAY alone -/
def Fy (k : Nat) (σ τ : St) : Prop := Fm [] [106, 107, 108, 109, 110, 111] σ τ ∧ (∀ r, 106 ≤ r → r ≤ 109 → ∀ j, (j < 12 * k ∨ 12 * k + 12 ≤ j) → τ.2.1 r j = σ.2.1 r j) ∧ ∀ r, 110 ≤ r → r ≤ 111 → ∀ j, (j < 400 * k ∨ 400 * k + 400 ≤ j) → τ.2.1 r j = σ.2.1 r j
theorem Fy.rf {k : Nat} {σ : St} : Fy k σ σ := ⟨Fm.rf, fun _ _ _ _ _ => rfl, fun _ _ _ _ _ => rfl⟩
theorem Fy.l {k : Nat} {σ τ : St} (h : Fy k σ τ) (r l : Nat) (x : Int) (hr : 106 ≤ r ∧ r ≤ 109) (hl : l < 12) : Fy k σ (upI τ r (12 * k + l) x) := by
  refine ⟨h.1.ua (by simp; omega) (by omega) _ _, fun r' h1 h2 j hj => ?_, fun r' h1 h2 j hj => ?_⟩
  · rw [up_if, if_neg (by omega)]; exact h.2.1 r' h1 h2 j hj
  · rw [up_if, if_neg (by omega)]; exact h.2.2 r' h1 h2 j hj
theorem Fy.c {k : Nat} {σ τ : St} (h : Fy k σ τ) (r i : Nat) (x : Int) (hr : 110 ≤ r ∧ r ≤ 111) (hi : i < 400) : Fy k σ (upI τ r (400 * k + i) x) := by
  refine ⟨h.1.ua (by simp; omega) (by omega) _ _, fun r' h1 h2 j hj => ?_, fun r' h1 h2 j hj => ?_⟩
  · rw [up_if, if_neg (by omega)]; exact h.2.1 r' h1 h2 j hj
  · rw [up_if, if_neg (by omega)]; exact h.2.2 r' h1 h2 j hj
theorem way_inv {F : Nat} {K V : Nat → Int} {N : Nat} (hN : Fn K N) : ∀ (f : Nat) (w : WS), Inv N 0 w.1 → w.2.1 ≤ 12 → Inv N 0 (wayL F K V f w).1 ∧ (wayL F K V f w).2.1 ≤ 12 := by
  intro f
  induction f with
  | zero => intro w h1 h2; exact ⟨h1, h2⟩
  | succ f ih =>
    intro w h1 h2
    rw [wayL_s]
    split
    · exact ⟨h1, h2⟩
    · have h3 := line_inv (F := F) (V := V) hN h1 h2
      exact ih _ h3.1 h3.2
theorem wayOf_b {F : Nat} {B : Nat → Int} {n : Nat} (hn : n ≤ 400) : (wayOf F B n).2.1 ≤ 12 ∧ ((wayOf F B n).1.1 = 0 → (wayOf F B n).1.2.2.1 ≤ 400) := by
  obtain ⟨N, hNn, hN⟩ := fn_ex B n
  have h := way_inv (F := F) (V := tV B n) hN 13 ws0 ⟨Nat.zero_le _, fun _ => Nat.le_refl _⟩ (Nat.zero_le _)
  refine ⟨h.2, fun h0 => ?_⟩
  have h1 := h.1.1
  have h2 := h.1.2 h0
  show (wayL F (tK B n) (tV B n) 13 ws0).1.2.2.1 ≤ 400
  omega
theorem ln_wy2 {G : Gt} {d : Nat} {σ : St} {k m sz : Nat} {L : Nat → Nat → Int} {c : Nat → Int} (hS0 : Sta σ) (hk : k < 6) (hm : m ≤ 12) (hsz : sz ≤ 400) (h34 : σ.2.1 94 34 = sz) (hc : ∀ i, i < sz → σ.2.1 110 (2400 + i) = mop (c i) ∧ σ.2.1 111 (2400 + i) = marg (c i)) (hL : ∀ l, l < m → σ.2.1 106 (72 + l) = L 0 l - 256 ∧ σ.2.1 107 (72 + l) = L 1 l ∧ σ.2.1 108 (72 + l) = L 2 l ∧ σ.2.1 109 (72 + l) = L 3 l) {x2 : Option AV} : ∀ (nn : Nat) (l : Nat) (τ : St), (sz - l) < nn → l ≤ sz → (∀ l2, l2 < m → τ.2.1 106 (12 * k + l2) = L 0 l2 - 256 ∧ τ.2.1 107 (12 * k + l2) = L 1 l2 ∧ τ.2.1 108 (12 * k + l2) = L 2 l2 ∧ τ.2.1 109 (12 * k + l2) = L 3 l2) → (∀ i2, i2 < l → τ.2.1 110 (400 * k + i2) = mop (c i2) ∧ τ.2.1 111 (400 * k + i2) = marg (c i2)) → Fy k σ τ →  AW mX12_way G d 0 0 (mq G (fun ro ρ => ro = some (vI (m : Int)) ∧ WyM ρ k (m, L, sz, c) ∧ ∃ τ2, Fy k σ τ2 ∧ ρ = upI τ2 105 k (m : Int))) 179 [some (vR 94), some (vI (k : Int)), x2, some (vI (m : Int)), some (vI (l : Int))] [] τ := by
  intro nn
  induction nn with
  | zero => intros; omega
  | succ nn ih =>
    intro l τ hn hl hd1 hd2 hF
    have hS := hF.1.sta hS0
    have g34 : τ.2.1 94 34 = sz := (hF.1.f 34).trans h34
    have e4 : (400 * (k : Int) + (l : Int)).toNat = 400 * k + l := by omega
    have e2 : (2400 + (l : Int)).toNat = 2400 + l := by omega
    have sr := fun r h1 h2 => hF.2.2 r h1 h2 (2400 + l) (by omega)
    refine AW_iload dX12_way_179 rfl ?_
    refine AW_aload_n dX12_way_181 rfl ?_
    refine AW_getI dX12_way_182 gfX12_252 (hS.cel rfl) ?_
    refine AW_icmp_ge (tgt := 242) dX12_way_185 (by decide) (fun c_185 => ?_) (fun c_185 => ?_)
    · skip
      rw [g34] at c_185
      refine AW_aload_n dX12_way_242 rfl ?_
      refine AW_getR (a := 105) dX12_way_243 gfX12_53 (hS.cel rfl) (hS.rf rfl) ?_
      refine AW_iload_n dX12_way_246 rfl ?_
      refine AW_iload_n dX12_way_247 rfl ?_
      refine AW_iast dX12_way_248 (hS.cel rfl) (by omega) (by omega) ?_
      refine AW_iload_n dX12_way_249 rfl ?_
      refine AW_iret dX12_way_250 rfl ?_
      have hls : l = sz := by omega
      subst hls
      refine ⟨rfl, ⟨up_at _ _ _ _, hm, hsz, fun l2 h => ?_, fun i2 h => ?_⟩, τ, hF, rfl⟩
      · show (upI τ 105 k (m : Int)).2.1 106 (12 * k + l2) = _ ∧ (upI τ 105 k (m : Int)).2.1 107 (12 * k + l2) = _ ∧ (upI τ 105 k (m : Int)).2.1 108 (12 * k + l2) = _ ∧ (upI τ 105 k (m : Int)).2.1 109 (12 * k + l2) = _
        rw [up_r _ _ _ _ (by decide), up_r _ _ _ _ (by decide), up_r _ _ _ _ (by decide), up_r _ _ _ _ (by decide)]
        exact hd1 l2 h
      · show (upI τ 105 k (m : Int)).2.1 110 (400 * k + i2) = _ ∧ (upI τ 105 k (m : Int)).2.1 111 (400 * k + i2) = _
        rw [up_r _ _ _ _ (by decide), up_r _ _ _ _ (by decide)]
        exact hd2 i2 h
    · skip
      rw [g34] at c_185
      have hcl := hc l (by omega)
      refine AW_aload_n dX12_way_188 rfl ?_
      refine AW_getR (a := 110) dX12_way_189 gfX12_68 (hS.cel rfl) (hS.rf rfl) ?_
      refine AW_sipush dX12_way_192 ?_
      refine AW_iload_n dX12_way_195 rfl ?_
      refine AW_imulE dX12_way_196 (by omega) (by omega) ?_
      refine AW_iload dX12_way_197 rfl ?_
      refine AW_iaddE dX12_way_199 (by omega) (by omega) ?_
      refine AW_aload_n dX12_way_200 rfl ?_
      refine AW_getR (a := 110) dX12_way_201 gfX12_68 (hS.cel rfl) (hS.rf rfl) ?_
      refine AW_sipush dX12_way_204 ?_
      refine AW_iload dX12_way_207 rfl ?_
      refine AW_iaddE dX12_way_209 (by omega) (by omega) ?_
      refine AW_iald dX12_way_210 (hS.cel rfl) (by omega) (by omega) ?_
      rw [e2, sr 110 (by decide) (by decide), hcl.1]
      refine AW_iast dX12_way_211 (hS.cel rfl) (by omega) (by omega) ?_
      rw [e4]
      refine AW_aload_n dX12_way_212 rfl ?_
      refine AW_getR (a := 111) dX12_way_213 gfX12_71 (hS.cel rfl) (hS.rf rfl) ?_
      refine AW_sipush dX12_way_216 ?_
      refine AW_iload_n dX12_way_219 rfl ?_
      refine AW_imulE dX12_way_220 (by omega) (by omega) ?_
      refine AW_iload dX12_way_221 rfl ?_
      refine AW_iaddE dX12_way_223 (by omega) (by omega) ?_
      refine AW_aload_n dX12_way_224 rfl ?_
      refine AW_getR (a := 111) dX12_way_225 gfX12_71 (hS.cel rfl) (hS.rf rfl) ?_
      refine AW_sipush dX12_way_228 ?_
      refine AW_iload dX12_way_231 rfl ?_
      refine AW_iaddE dX12_way_233 (by omega) (by omega) ?_
      refine AW_iald dX12_way_234 (hS.cel rfl) (by omega) (by omega) ?_
      (repeat (first | rw [up_r _ _ _ _ (by decide)] | rw [up_j _ _ _ (by decide)] | rw [up_at]))
      rw [e2, sr 111 (by decide) (by decide), hcl.2]
      refine AW_iast dX12_way_235 (hS.cel rfl) (by omega) (by omega) ?_
      rw [e4]
      refine AW_iincE4 dX12_way_236 (by omega) (by omega) ?_
      refine AW_goto (tgt := 179) dX12_way_239 (by decide) ?_
      rw [show (l : Int) + 1 = ((l + 1 : Nat) : Int) by omega]
      refine ih (l + 1) _ (by omega) (by omega) (fun l2 h => ?_) (fun i2 h => ?_) ((hF.c 110 l _ (by decide) (by omega)).c 111 l _ (by decide) (by omega))
      · rw [up_r _ _ _ _ (by decide), up_r _ _ _ _ (by decide), up_r _ _ _ _ (by decide), up_r _ _ _ _ (by decide), up_r _ _ _ _ (by decide), up_r _ _ _ _ (by decide), up_r _ _ _ _ (by decide), up_r _ _ _ _ (by decide)]
        exact hd1 l2 h
      · rw [up_r _ _ _ _ (by decide), up_if, up_if]
        by_cases he : i2 = l
        · subst he
          rw [if_pos ⟨rfl, rfl⟩, if_pos ⟨rfl, rfl⟩]
          exact ⟨rfl, rfl⟩
        · rw [if_neg (by omega), if_neg (by omega), up_r _ _ _ _ (by decide)]
          exact hd2 i2 (by omega)
theorem ln_wy1 {G : Gt} {d : Nat} {σ : St} {k m sz : Nat} {L : Nat → Nat → Int} {c : Nat → Int} (hS0 : Sta σ) (hk : k < 6) (hm : m ≤ 12) (hsz : sz ≤ 400) (h34 : σ.2.1 94 34 = sz) (hc : ∀ i, i < sz → σ.2.1 110 (2400 + i) = mop (c i) ∧ σ.2.1 111 (2400 + i) = marg (c i)) (hL : ∀ l, l < m → σ.2.1 106 (72 + l) = L 0 l - 256 ∧ σ.2.1 107 (72 + l) = L 1 l ∧ σ.2.1 108 (72 + l) = L 2 l ∧ σ.2.1 109 (72 + l) = L 3 l) {x2 : Option AV} : ∀ (nn : Nat) (l : Nat) (τ : St), (m - l) < nn → l ≤ m → (∀ l2, l2 < l → τ.2.1 106 (12 * k + l2) = L 0 l2 - 256 ∧ τ.2.1 107 (12 * k + l2) = L 1 l2 ∧ τ.2.1 108 (12 * k + l2) = L 2 l2 ∧ τ.2.1 109 (12 * k + l2) = L 3 l2) → Fy k σ τ →  AW mX12_way G d 0 0 (mq G (fun ro ρ => ro = some (vI (m : Int)) ∧ WyM ρ k (m, L, sz, c) ∧ ∃ τ2, Fy k σ τ2 ∧ ρ = upI τ2 105 k (m : Int))) 76 [some (vR 94), some (vI (k : Int)), x2, some (vI (m : Int)), some (vI (l : Int))] [] τ := by
  intro nn
  induction nn with
  | zero => intros; omega
  | succ nn ih =>
    intro l τ hn hl hd1 hF
    have hS := hF.1.sta hS0
    have e4 : (12 * (k : Int) + (l : Int)).toNat = 12 * k + l := by omega
    have e2 : (72 + (l : Int)).toNat = 72 + l := by omega
    have sr := fun r h1 h2 => hF.2.1 r h1 h2 (72 + l) (by omega)
    refine AW_iload dX12_way_76 rfl ?_
    refine AW_iload_n dX12_way_78 rfl ?_
    refine AW_icmp_ge (tgt := 176) dX12_way_79 (by decide) (fun c_79 => ?_) (fun c_79 => ?_)
    · skip
      refine AW_iconst dX12_way_176 ?_
      refine AW_istore4 dX12_way_177 ?_
      exact ln_wy2 hS0 hk hm hsz h34 hc hL (sz + 1) 0 τ (by omega) (Nat.zero_le _) (fun l2 h => hd1 l2 (by omega)) (fun i2 h => absurd h (Nat.not_lt_zero i2)) hF
    · skip
      have hcl := hL l (by omega)
      refine AW_aload_n dX12_way_82 rfl ?_
      refine AW_getR (a := 106) dX12_way_83 gfX12_56 (hS.cel rfl) (hS.rf rfl) ?_
      refine AW_bipush dX12_way_86 ?_
      refine AW_iload_n dX12_way_88 rfl ?_
      refine AW_imulE dX12_way_89 (by omega) (by omega) ?_
      refine AW_iload dX12_way_90 rfl ?_
      refine AW_iaddE dX12_way_92 (by omega) (by omega) ?_
      refine AW_aload_n dX12_way_93 rfl ?_
      refine AW_getR (a := 106) dX12_way_94 gfX12_56 (hS.cel rfl) (hS.rf rfl) ?_
      refine AW_bipush dX12_way_97 ?_
      refine AW_iload dX12_way_99 rfl ?_
      refine AW_iaddE dX12_way_101 (by omega) (by omega) ?_
      refine AW_iald dX12_way_102 (hS.cel rfl) (by omega) (by omega) ?_
      rw [e2, sr 106 (by decide) (by decide), hcl.1]
      refine AW_iast dX12_way_103 (hS.cel rfl) (by omega) (by omega) ?_
      rw [e4]
      refine AW_aload_n dX12_way_104 rfl ?_
      refine AW_getR (a := 107) dX12_way_105 gfX12_59 (hS.cel rfl) (hS.rf rfl) ?_
      refine AW_bipush dX12_way_108 ?_
      refine AW_iload_n dX12_way_110 rfl ?_
      refine AW_imulE dX12_way_111 (by omega) (by omega) ?_
      refine AW_iload dX12_way_112 rfl ?_
      refine AW_iaddE dX12_way_114 (by omega) (by omega) ?_
      refine AW_aload_n dX12_way_115 rfl ?_
      refine AW_getR (a := 107) dX12_way_116 gfX12_59 (hS.cel rfl) (hS.rf rfl) ?_
      refine AW_bipush dX12_way_119 ?_
      refine AW_iload dX12_way_121 rfl ?_
      refine AW_iaddE dX12_way_123 (by omega) (by omega) ?_
      refine AW_iald dX12_way_124 (hS.cel rfl) (by omega) (by omega) ?_
      (repeat (first | rw [up_r _ _ _ _ (by decide)] | rw [up_j _ _ _ (by decide)] | rw [up_at]))
      rw [e2, sr 107 (by decide) (by decide), hcl.2.1]
      refine AW_iast dX12_way_125 (hS.cel rfl) (by omega) (by omega) ?_
      rw [e4]
      refine AW_aload_n dX12_way_126 rfl ?_
      refine AW_getR (a := 108) dX12_way_127 gfX12_62 (hS.cel rfl) (hS.rf rfl) ?_
      refine AW_bipush dX12_way_130 ?_
      refine AW_iload_n dX12_way_132 rfl ?_
      refine AW_imulE dX12_way_133 (by omega) (by omega) ?_
      refine AW_iload dX12_way_134 rfl ?_
      refine AW_iaddE dX12_way_136 (by omega) (by omega) ?_
      refine AW_aload_n dX12_way_137 rfl ?_
      refine AW_getR (a := 108) dX12_way_138 gfX12_62 (hS.cel rfl) (hS.rf rfl) ?_
      refine AW_bipush dX12_way_141 ?_
      refine AW_iload dX12_way_143 rfl ?_
      refine AW_iaddE dX12_way_145 (by omega) (by omega) ?_
      refine AW_iald dX12_way_146 (hS.cel rfl) (by omega) (by omega) ?_
      (repeat (first | rw [up_r _ _ _ _ (by decide)] | rw [up_j _ _ _ (by decide)] | rw [up_at]))
      rw [e2, sr 108 (by decide) (by decide), hcl.2.2.1]
      refine AW_iast dX12_way_147 (hS.cel rfl) (by omega) (by omega) ?_
      rw [e4]
      refine AW_aload_n dX12_way_148 rfl ?_
      refine AW_getR (a := 109) dX12_way_149 gfX12_65 (hS.cel rfl) (hS.rf rfl) ?_
      refine AW_bipush dX12_way_152 ?_
      refine AW_iload_n dX12_way_154 rfl ?_
      refine AW_imulE dX12_way_155 (by omega) (by omega) ?_
      refine AW_iload dX12_way_156 rfl ?_
      refine AW_iaddE dX12_way_158 (by omega) (by omega) ?_
      refine AW_aload_n dX12_way_159 rfl ?_
      refine AW_getR (a := 109) dX12_way_160 gfX12_65 (hS.cel rfl) (hS.rf rfl) ?_
      refine AW_bipush dX12_way_163 ?_
      refine AW_iload dX12_way_165 rfl ?_
      refine AW_iaddE dX12_way_167 (by omega) (by omega) ?_
      refine AW_iald dX12_way_168 (hS.cel rfl) (by omega) (by omega) ?_
      (repeat (first | rw [up_r _ _ _ _ (by decide)] | rw [up_j _ _ _ (by decide)] | rw [up_at]))
      rw [e2, sr 109 (by decide) (by decide), hcl.2.2.2]
      refine AW_iast dX12_way_169 (hS.cel rfl) (by omega) (by omega) ?_
      rw [e4]
      refine AW_iincE4 dX12_way_170 (by omega) (by omega) ?_
      refine AW_goto (tgt := 76) dX12_way_173 (by decide) ?_
      rw [show (l : Int) + 1 = ((l + 1 : Nat) : Int) by omega]
      refine ih (l + 1) _ (by omega) (by omega) (fun l2 h => ?_) ((((hF.l 106 l _ (by decide) (by omega)).l 107 l _ (by decide) (by omega)).l 108 l _ (by decide) (by omega)).l 109 l _ (by decide) (by omega))
      by_cases he : l2 = l
      · subst he
        refine ⟨?_, ?_, ?_, ?_⟩
        · rw [up_r _ _ _ _ (by decide), up_r _ _ _ _ (by decide), up_r _ _ _ _ (by decide), up_at]
        · rw [up_r _ _ _ _ (by decide), up_r _ _ _ _ (by decide), up_at]
        · rw [up_r _ _ _ _ (by decide), up_at]
        · rw [up_at]
      · have q := hd1 l2 (by omega)
        refine ⟨?_, ?_, ?_, ?_⟩
        · rw [up_r _ _ _ _ (by decide), up_r _ _ _ _ (by decide), up_r _ _ _ _ (by decide), up_j _ _ _ (by omega)]; exact q.1
        · rw [up_r _ _ _ _ (by decide), up_r _ _ _ _ (by decide), up_j _ _ _ (by omega), up_r _ _ _ _ (by decide)]; exact q.2.1
        · rw [up_r _ _ _ _ (by decide), up_j _ _ _ (by omega), up_r _ _ _ _ (by decide), up_r _ _ _ _ (by decide)]; exact q.2.2.1
        · rw [up_j _ _ _ (by omega), up_r _ _ _ _ (by decide), up_r _ _ _ _ (by decide), up_r _ _ _ _ (by decide)]; exact q.2.2.2
theorem m_way {G : Gt} {d : Nat} {σ : St} (hd : 10 ≤ d) {B : Nat → Int} {n F : Nat} (hS : Sta σ) (hby : byB B n) (hFF : F = 400) (hT : tpM n B σ) (hw : wdM σ) (k : Int)  : AM mX12_way G d 0 0 [vR 94, vI k] σ (fun ro ρ => ∃ z : Int, ro = some (vI z) ∧ tpM 0 B ρ ∧ Fm [0, 21, 22, 23, 24, 25, 34, 35, 37, 38, 39, 40, 41] [105, 106, 107, 108, 109, 110, 111, 112] σ ρ ∧ ((¬ (0 ≤ k ∧ k < 6) ∧ z = -1 ∧ ρ.2.1 94 40 = 0 ∧ ρ.2.1 94 41 = -1 ∧ (∀ k2 W2, k2 < 6 → WyM σ k2 W2 → WyM ρ k2 W2)) ∨ ((0 ≤ k ∧ k < 6) ∧ ρ.2.1 94 40 = (wayOf F B n).1.1 ∧ (((wayOf F B n).1.1 ≠ 0 ∧ z = -1 ∧ ρ.2.1 94 41 = tP B n (wayOf F B n).1.2.1 ∧ (∀ k2 W2, k2 < 6 → WyM σ k2 W2 → WyM ρ k2 W2)) ∨ ((wayOf F B n).1.1 = 0 ∧ z = (wayOf F B n).2.1 ∧ ρ.2.1 94 41 = -1 ∧ WyM ρ k.toNat ((wayOf F B n).2.1, (wayOf F B n).2.2, (wayOf F B n).1.2.2.1, (wayOf F B n).1.2.2.2) ∧ (∀ k2 W2, k2 < 6 → k2 ≠ k.toNat → WyM σ k2 W2 → WyM ρ k2 W2)))))) := by
  refine AM.intro (by decide +kernel) (by simp [nLg]) (Nat.le_of_ble_eq_true rfl) (fun hO => ?_)
  have i_k : -2147483648 ≤ k ∧ k < 2147483648 := hO (vI k) (by simp)
  show AW _ _ _ _ _ _ 0 [some (vR 94), some (vI k), none, none, none] [] σ
  refine AW_aload_n dX12_way_0 rfl ?_
  refine AW_iconst dX12_way_1 ?_
  refine AW_putI dX12_way_2 (Or.inl pfX12_142) (hS.cel rfl) ?_
  refine AW_aload_n dX12_way_5 rfl ?_
  refine AW_iconst dX12_way_6 ?_
  refine AW_putI dX12_way_7 (Or.inl pfX12_302) (hS.cel rfl) ?_
  refine AW_aload_n dX12_way_10 rfl ?_
  refine AW_iconst dX12_way_11 ?_
  refine AW_putI dX12_way_12 (Or.inl pfX12_77) (hS.cel rfl) ?_
  have hF1 : Fm [0, 40, 41] [] σ (upI (upI (upI σ 94 0 0) 94 40 0) 94 41 (-1)) := ((Fm.rf.uf (by decide) _).uf (by decide) _).uf (by decide) _
  have hS1 := hF1.sta hS
  have hT1 := hT.fm hF1
  have hw1 := hw.fm hF1
  have h40 : (upI (upI (upI σ 94 0 0) 94 40 0) 94 41 (-1)).2.1 94 40 = 0 := by rw [up_j _ _ _ (by decide), up_at]
  have h41 : (upI (upI (upI σ 94 0 0) 94 40 0) 94 41 (-1)).2.1 94 41 = -1 := up_at _ _ _ _
  generalize upI (upI (upI σ 94 0 0) 94 40 0) 94 41 (-1) = σ1 at hF1 hS1 hT1 hw1 h40 h41 ⊢
  refine AW_aload_n dX12_way_15 rfl ?_
  refine AW_iload_n dX12_way_16 rfl ?_
  refine AW_iconst dX12_way_17 ?_
  refine AW_iconst dX12_way_18 ?_
  refine AW_callV3 (d' := d - 1) dX12_way_19 (Or.inl lkX12_149) mfX12_isIn (hS1.cel rfl) ⟨_, rfl, rfl⟩ (n_isIn k 0 5) (by omega) (Nat.le_of_ble_eq_true rfl) ?_
  rintro _ _ ⟨e_, rfl⟩ -
  rw [e_]
  clear e_
  refine AW_istore2 dX12_way_22 ?_
  refine AW_iload_n dX12_way_23 rfl ?_
  refine AW_if_eq (tgt := 34) dX12_way_24 (by decide) (fun c_24 => ?_) (fun c_24 => ?_)
  · skip
    replace c_24 := bz0 c_24
    refine AW_iconst dX12_way_34 ?_
    refine AW_istore3 dX12_way_35 ?_
    refine AW_aload_n dX12_way_36 rfl ?_
    refine AW_iconst dX12_way_37 ?_
    refine AW_putI dX12_way_38 (Or.inl pfX12_211) (hS1.cel rfl) ?_
    refine AW_iload_n dX12_way_41 rfl ?_
    refine AW_if_eq (tgt := 66) dX12_way_42 (by decide) (fun c_42 => ?_) (fun c_42 => ?_)
    · skip
      replace c_42 := bz0 c_42
      refine AW_iload_n dX12_way_66 rfl ?_
      refine AW_iconst dX12_way_67 ?_
      refine AW_icmp_ne (tgt := 73) dX12_way_68 (by decide) (fun c_68 => ?_) (fun c_68 => ?_)
      · skip
        exact absurd rfl c_68
      · skip
        refine AW_iconst dX12_way_71 ?_
        refine AW_iret dX12_way_72 rfl ?_
        have hnk : ¬ (0 ≤ k ∧ k < 6) := by omega
        have hF3 : Fm [21] [] σ1 (upI σ1 94 21 0) := Fm.rf.uf (by decide) _
        exact ⟨-1, rfl, ⟨up_at _ _ _ _, Nat.zero_le _, fun k hk => absurd hk (Nat.not_lt_zero k)⟩, (hF1.mo (by decide) (by decide)).tr (hF3.mo (by decide) (by decide)), Or.inl ⟨hnk, rfl, by rw [hF3.f 40]; exact h40, by rw [hF3.f 41]; exact h41, fun k2 W2 h6 hh => (hh.fm hF1).fm hF3⟩⟩
    · skip
      replace c_42 := bz1 c_42
      exact absurd c_42 c_24
  · skip
    replace c_24 := bz1 c_24
    refine AW_aload_n dX12_way_27 rfl ?_
    refine AW_callV0 (d' := d - 1) dX12_way_28 (Or.inl lkX12_305) mfX12_readWay (hS1.cel rfl) ⟨_, rfl, rfl⟩ (n_way (F := F) (by omega) hS1 hby hFF hT1 hw1) (by omega) (Nat.le_of_ble_eq_true rfl) ?_
    rintro ro_ ρ2 ⟨hret, hG2⟩ -
    have hS2 := hG2.sta hS1
    have hwb := wayOf_b (F := F) (B := B) hT.2.1
    have g40 := (hG2.1.f 40).trans h40
    have g41 := (hG2.1.f 41).trans h41
    have hW2 : Fm [0, 21, 22, 23, 24, 25, 34, 35, 37, 38, 39, 40, 41] [105, 106, 107, 108, 109, 110, 111, 112] σ ρ2 := (hF1.mo (by decide) (by decide)).tr (hG2.1.1.mo (by decide) (by decide))
    obtain ⟨z2, rfl, hz2⟩ : ∃ z : Int, ro_ = some (vI z) ∧ ((z = ((wayOf F B n).2.1 : Int) ∧ (wayOf F B n).1.1 = 0 ∧ Md B n ρ2 (wayOf F B n).1 ∧ LnM ρ2 (wayOf F B n).2.1 (wayOf F B n).2.2) ∨ (z = -1 ∧ (wayOf F B n).1.1 ≠ 0 ∧ ρ2.2.1 94 38 = (wayOf F B n).1.1 ∧ ρ2.2.1 94 39 = tP B n (wayOf F B n).1.2.1)) := by
      rcases hret with ⟨a, b, c, e, _⟩ | ⟨a, b, c⟩
      · exact ⟨_, b, Or.inl ⟨rfl, a, c, e⟩⟩
      · exact ⟨-1, b, Or.inr ⟨rfl, a, c⟩⟩
    refine AW_goto (tgt := 35) dX12_way_31 (by decide) ?_
    refine AW_istore3 dX12_way_35 ?_
    refine AW_aload_n dX12_way_36 rfl ?_
    refine AW_iconst dX12_way_37 ?_
    refine AW_putI dX12_way_38 (Or.inl pfX12_211) (hS2.cel rfl) ?_
    refine AW_iload_n dX12_way_41 rfl ?_
    refine AW_if_eq (tgt := 66) dX12_way_42 (by decide) (fun c_42 => ?_) (fun c_42 => ?_)
    · skip
      replace c_42 := bz0 c_42
      exact absurd c_24 c_42
    · skip
      replace c_42 := bz1 c_42
      refine AW_iload_n dX12_way_45 rfl ?_
      refine AW_iconst dX12_way_46 ?_
      refine AW_icmp_ne (tgt := 66) dX12_way_47 (by decide) (fun c_47 => ?_) (fun c_47 => ?_)
      · skip
        have hy2 := hz2.elim id (fun q => absurd q.1 (by assumption))
        refine AW_iload_n dX12_way_66 rfl ?_
        refine AW_iconst dX12_way_67 ?_
        refine AW_icmp_ne (tgt := 73) dX12_way_68 (by decide) (fun c_68 => ?_) (fun c_68 => ?_)
        · skip
          refine AW_iconst dX12_way_73 ?_
          refine AW_istore4 dX12_way_74 ?_
          first
          | (exfalso; omega; done)
          | (obtain ⟨kn, rfl⟩ : ∃ kn : Nat, k = (kn : Int) := ⟨k.toNat, by omega⟩
             have hF3 : Fm [21] [] ρ2 (upI ρ2 94 21 0) := Fm.rf.uf (by decide) _
             have hS3 := hF3.sta hS2
             rw [hy2.1]
             refine AW_mq (fun r τ q => ?_) (ln_wy1 (sz := (wayOf F B n).1.2.2.1) (c := (wayOf F B n).1.2.2.2) (L := (wayOf F B n).2.2) (k := kn) hS3 (by omega) hwb.1 (hwb.2 hy2.2.1) ((hF3.f 34).trans hy2.2.2.1.2.2.2.2.2.1) (fun i hi => by rw [hF3.a 110 _, hF3.a 111 _]; exact hy2.2.2.1.2.2.2.2.2.2 i hi) (fun l hl => by rw [hF3.a 106 _, hF3.a 107 _, hF3.a 108 _, hF3.a 109 _]; exact hy2.2.2.2.2 l hl) ((wayOf F B n).2.1 + 1) 0 _ (by omega) (Nat.zero_le _) (fun l h => absurd h (Nat.not_lt_zero l)) Fy.rf)
             obtain ⟨q1, q2, τ2, q3, rfl⟩ := q
             have hF5 : Fm [] [105] τ2 (upI τ2 105 kn ((wayOf F B n).2.1 : Int)) := Fm.rf.ua (by decide) (by decide) _ _
             have hFa : Fm [0, 21, 22, 23, 24, 25, 34, 35, 37, 38, 39, 40, 41] [105, 106, 107, 108, 109, 110, 111, 112] ρ2 (upI τ2 105 kn ((wayOf F B n).2.1 : Int)) := ((hF3.mo (by decide) (by decide)).tr (q3.1.mo (by decide) (by decide))).tr (hF5.mo (by decide) (by decide))
             have z21 : (upI τ2 105 kn ((wayOf F B n).2.1 : Int)).2.1 94 21 = ((0 : Nat) : Int) := by
               rw [up_r _ _ _ _ (by decide), q3.1.f 21, up_at]
               rfl
             refine ⟨_, q1, ⟨z21, Nat.zero_le _, fun k hk => absurd hk (Nat.not_lt_zero k)⟩, hW2.tr hFa, Or.inr ⟨by omega, ?_, Or.inr ⟨hy2.2.1, rfl, ?_, ?_, fun k2 W2 h6 hne hh => ?_⟩⟩⟩
             · rw [hy2.2.1, up_r _ _ _ _ (by decide), q3.1.f 40, hF3.f 40]
               exact g40
             · rw [up_r _ _ _ _ (by decide), q3.1.f 41, hF3.f 41]
               exact g41
             · rw [Int.toNat_natCast]
               exact q2
             · have hne2 : k2 ≠ kn := by rw [Int.toNat_natCast] at hne; exact hne
               refine (((hh.fm hF1).fw h6 hG2).fm hF3).go ?_ (fun r h1 h2 j h3 h4 => ?_) (fun j h3 h4 => ⟨?_, ?_⟩)
               · rw [up_j _ _ _ hne2, q3.1.a 105 _]
               · rw [up_r _ _ _ _ (by omega), q3.2.1 r h1 h2 j (by omega)]
               · rw [up_r _ _ _ _ (by omega), q3.2.2 110 (by decide) (by decide) j (by omega)]
               · rw [up_r _ _ _ _ (by omega), q3.2.2 111 (by decide) (by decide) j (by omega)])
        · skip
          refine AW_iconst dX12_way_71 ?_
          refine AW_iret dX12_way_72 rfl ?_
          first
          | (exfalso; omega; done)
          | (have hF3 : Fm [21, 40, 41] [] ρ2 (upI (upI (upI ρ2 94 21 0) 94 40 ((upI ρ2 94 21 0).2.1 94 38)) 94 41 ((upI (upI ρ2 94 21 0) 94 40 ((upI ρ2 94 21 0).2.1 94 38)).2.1 94 39)) := ((Fm.rf.uf (by decide) _).uf (by decide) _).uf (by decide) _
             refine ⟨-1, rfl, ⟨?_, Nat.zero_le _, fun k hk => absurd hk (Nat.not_lt_zero k)⟩, hW2.tr (hF3.mo (by decide) (by decide)), Or.inr ⟨by omega, ?_, Or.inl ⟨hy2.2.1, rfl, ?_, fun k2 W2 h6 hh => ((hh.fm hF1).fw h6 hG2).fm hF3⟩⟩⟩
             · rw [up_j _ _ _ (by decide), up_j _ _ _ (by decide), up_at]; rfl
             · rw [up_j _ _ _ (by decide), up_at, up_j _ _ _ (by decide)]; exact hy2.2.2.1
             · rw [up_at, up_j _ _ _ (by decide), up_j _ _ _ (by decide)]; exact hy2.2.2.2)
      · skip
        have hy2 := hz2.elim (fun q => absurd (q.1.symm.trans (by omega : z2 = -1)) (by omega)) id
        refine AW_aload_n dX12_way_50 rfl ?_
        refine AW_aload_n dX12_way_51 rfl ?_
        refine AW_getI dX12_way_52 gfX12_246 (hS2.cel rfl) ?_
        refine AW_putI dX12_way_55 (Or.inl pfX12_302) (hS2.cel rfl) ?_
        refine AW_aload_n dX12_way_58 rfl ?_
        refine AW_aload_n dX12_way_59 rfl ?_
        refine AW_getI dX12_way_60 gfX12_249 (hS2.cel rfl) ?_
        refine AW_putI dX12_way_63 (Or.inl pfX12_77) (hS2.cel rfl) ?_
        refine AW_iload_n dX12_way_66 rfl ?_
        refine AW_iconst dX12_way_67 ?_
        refine AW_icmp_ne (tgt := 73) dX12_way_68 (by decide) (fun c_68 => ?_) (fun c_68 => ?_)
        · skip
          refine AW_iconst dX12_way_73 ?_
          refine AW_istore4 dX12_way_74 ?_
          first
          | (exfalso; omega; done)
          | (obtain ⟨kn, rfl⟩ : ∃ kn : Nat, k = (kn : Int) := ⟨k.toNat, by omega⟩
             have hF3 : Fm [21] [] ρ2 (upI ρ2 94 21 0) := Fm.rf.uf (by decide) _
             have hS3 := hF3.sta hS2
             rw [hy2.1]
             refine AW_mq (fun r τ q => ?_) (ln_wy1 (sz := (wayOf F B n).1.2.2.1) (c := (wayOf F B n).1.2.2.2) (L := (wayOf F B n).2.2) (k := kn) hS3 (by omega) hwb.1 (hwb.2 hy2.2.1) ((hF3.f 34).trans hy2.2.2.1.2.2.2.2.2.1) (fun i hi => by rw [hF3.a 110 _, hF3.a 111 _]; exact hy2.2.2.1.2.2.2.2.2.2 i hi) (fun l hl => by rw [hF3.a 106 _, hF3.a 107 _, hF3.a 108 _, hF3.a 109 _]; exact hy2.2.2.2.2 l hl) ((wayOf F B n).2.1 + 1) 0 _ (by omega) (Nat.zero_le _) (fun l h => absurd h (Nat.not_lt_zero l)) Fy.rf)
             obtain ⟨q1, q2, τ2, q3, rfl⟩ := q
             have hF5 : Fm [] [105] τ2 (upI τ2 105 kn ((wayOf F B n).2.1 : Int)) := Fm.rf.ua (by decide) (by decide) _ _
             have hFa : Fm [0, 21, 22, 23, 24, 25, 34, 35, 37, 38, 39, 40, 41] [105, 106, 107, 108, 109, 110, 111, 112] ρ2 (upI τ2 105 kn ((wayOf F B n).2.1 : Int)) := ((hF3.mo (by decide) (by decide)).tr (q3.1.mo (by decide) (by decide))).tr (hF5.mo (by decide) (by decide))
             have z21 : (upI τ2 105 kn ((wayOf F B n).2.1 : Int)).2.1 94 21 = ((0 : Nat) : Int) := by
               rw [up_r _ _ _ _ (by decide), q3.1.f 21, up_at]
               rfl
             refine ⟨_, q1, ⟨z21, Nat.zero_le _, fun k hk => absurd hk (Nat.not_lt_zero k)⟩, hW2.tr hFa, Or.inr ⟨by omega, ?_, Or.inr ⟨hy2.2.1, rfl, ?_, ?_, fun k2 W2 h6 hne hh => ?_⟩⟩⟩
             · rw [hy2.2.1, up_r _ _ _ _ (by decide), q3.1.f 40, hF3.f 40]
               exact g40
             · rw [up_r _ _ _ _ (by decide), q3.1.f 41, hF3.f 41]
               exact g41
             · rw [Int.toNat_natCast]
               exact q2
             · have hne2 : k2 ≠ kn := by rw [Int.toNat_natCast] at hne; exact hne
               refine (((hh.fm hF1).fw h6 hG2).fm hF3).go ?_ (fun r h1 h2 j h3 h4 => ?_) (fun j h3 h4 => ⟨?_, ?_⟩)
               · rw [up_j _ _ _ hne2, q3.1.a 105 _]
               · rw [up_r _ _ _ _ (by omega), q3.2.1 r h1 h2 j (by omega)]
               · rw [up_r _ _ _ _ (by omega), q3.2.2 110 (by decide) (by decide) j (by omega)]
               · rw [up_r _ _ _ _ (by omega), q3.2.2 111 (by decide) (by decide) j (by omega)])
        · skip
          refine AW_iconst dX12_way_71 ?_
          refine AW_iret dX12_way_72 rfl ?_
          first
          | (exfalso; omega; done)
          | (have hF3 : Fm [21, 40, 41] [] ρ2 (upI (upI (upI ρ2 94 21 0) 94 40 ((upI ρ2 94 21 0).2.1 94 38)) 94 41 ((upI (upI ρ2 94 21 0) 94 40 ((upI ρ2 94 21 0).2.1 94 38)).2.1 94 39)) := ((Fm.rf.uf (by decide) _).uf (by decide) _).uf (by decide) _
             refine ⟨-1, rfl, ⟨?_, Nat.zero_le _, fun k hk => absurd hk (Nat.not_lt_zero k)⟩, hW2.tr (hF3.mo (by decide) (by decide)), Or.inr ⟨by omega, ?_, Or.inl ⟨hy2.2.1, rfl, ?_, fun k2 W2 h6 hh => ((hh.fm hF1).fw h6 hG2).fm hF3⟩⟩⟩
             · rw [up_j _ _ _ (by decide), up_j _ _ _ (by decide), up_at]; rfl
             · rw [up_j _ _ _ (by decide), up_at, up_j _ _ _ (by decide)]; exact hy2.2.2.1
             · rw [up_at, up_j _ _ _ (by decide), up_j _ _ _ (by decide)]; exact hy2.2.2.2)
theorem m_fault {G : Gt} {d : Nat} {σ : St}  (hS : Sta σ) (what : Int)  : AM mX12_fault G d 0 0 [vR 94, vI what] σ (fun ro ρ => Fm [0] [] σ ρ ∧ ro = some (vI (if what = 0 then σ.2.1 94 40 else if what = 1 then σ.2.1 94 41 else -1))) := by
  refine AM.intro (by decide +kernel) (by simp [nLg]) (Nat.le_of_ble_eq_true rfl) (fun hO => ?_)
  have i_what : -2147483648 ≤ what ∧ what < 2147483648 := hO (vI what) (by simp)
  show AW _ _ _ _ _ _ 0 [some (vR 94), some (vI what)] [] σ
  refine AW_aload_n dX12_fault_0 rfl ?_
  refine AW_iconst dX12_fault_1 ?_
  refine AW_putI dX12_fault_2 (Or.inl pfX12_142) (hS.cel rfl) ?_
  refine AW_iload_n dX12_fault_5 rfl ?_
  refine AW_if_ne (tgt := 16) dX12_fault_6 (by decide) (fun c_6 => ?_) (fun c_6 => ?_)
  · skip
    refine AW_iload_n dX12_fault_16 rfl ?_
    refine AW_iconst dX12_fault_17 ?_
    refine AW_icmp_ne (tgt := 28) dX12_fault_18 (by decide) (fun c_18 => ?_) (fun c_18 => ?_)
    · skip
      refine AW_iconst dX12_fault_28 ?_
      refine AW_iret dX12_fault_29 rfl ?_
      refine ⟨Fm.rf.uf (by decide) _, ?_⟩
      first | (rw [if_pos (by omega)]; done) | (rw [if_neg (by omega), if_pos (by omega)]; done) | (rw [if_neg (by omega), if_neg (by omega)]; done)
    · skip
      refine AW_aload_n dX12_fault_21 rfl ?_
      refine AW_getI dX12_fault_22 gfX12_77 (hS.cel rfl) ?_
      (repeat (first | rw [up_r _ _ _ _ (by decide)] | rw [up_j _ _ _ (by decide)] | rw [up_at]))
      refine AW_goto (tgt := 29) dX12_fault_25 (by decide) ?_
      refine AW_iret dX12_fault_29 rfl ?_
      refine ⟨Fm.rf.uf (by decide) _, ?_⟩
      first | (rw [if_pos (by omega)]; done) | (rw [if_neg (by omega), if_pos (by omega)]; done) | (rw [if_neg (by omega), if_neg (by omega)]; done)
  · skip
    refine AW_aload_n dX12_fault_9 rfl ?_
    refine AW_getI dX12_fault_10 gfX12_302 (hS.cel rfl) ?_
    (repeat (first | rw [up_r _ _ _ _ (by decide)] | rw [up_j _ _ _ (by decide)] | rw [up_at]))
    refine AW_goto (tgt := 29) dX12_fault_13 (by decide) ?_
    refine AW_iret dX12_fault_29 rfl ?_
    refine ⟨Fm.rf.uf (by decide) _, ?_⟩
    first | (rw [if_pos (by omega)]; done) | (rw [if_neg (by omega), if_pos (by omega)]; done) | (rw [if_neg (by omega), if_neg (by omega)]; done)
