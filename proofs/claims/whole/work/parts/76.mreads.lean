/-- how the model holds a TOKEN of kind k and number v -/
def tokR (ρ : St) (k v : Int) : Prop := (k = 0 → ρ.2.1 94 24 = 0) ∧ (k = 1 → ρ.2.1 94 24 = 1) ∧ (k = 2 → ρ.2.1 94 24 = 3 ∧ ρ.2.1 94 25 = v) ∧ (256 ≤ k → ρ.2.1 94 24 = 2 ∧ ρ.2.1 94 25 = k - 256) ∧ (isSig k → ρ.2.1 94 24 = 4 ∧ ρ.2.1 94 25 = k)
def rdsM (B : Nat → Int) (n p : Nat) (σ ρ : St) : Prop := ρ.2.1 94 23 = p ∧ tokR ρ (tkK B n p) (tkV B n p) ∧ (p < n → ρ.2.1 94 22 = tkQ B n p) ∧ Fm [22, 23, 24, 25] [] σ ρ
theorem tpM.u94 {n : Nat} {B : Nat → Int} {σ : St} (h : tpM n B σ) (j : Nat) (x : Int) (hj : j ≠ 21) : tpM n B (upI σ 94 j x) := ⟨by rw [up_j _ _ _ (Ne.symm hj)]; exact h.1, h.2.1, fun k hk => by rw [up_r _ _ _ _ (by decide)]; exact h.2.2 k hk⟩
theorem sig_b {c : Int} (h : isSig c) : 40 ≤ c ∧ c ≤ 62 := by
  rcases h with q | q | q | q | q | q | q | q | q | q <;> omega
theorem ln_rd2 {G : Gt} {d : Nat} {σ : St} {n : Nat} {B : Nat → Int} {p : Nat} (hd : 2 ≤ d) (hS0 : Sta σ) (hT0 : tpM n B σ) (hw0 : wdM σ) (hby : byB B n) (hpn : p < n) (hl : isLet (B p)) : ∀ (nn : Nat) (q : Nat) (τ : St), (n - q) < nn → p < q → q ≤ n → endP letB B n (p + 1) = endP letB B n q → (∀ k, p ≤ k → k < q → isLet (B k)) → τ.2.1 94 22 = q → τ.2.1 94 23 = p → τ.2.1 94 24 = 1 → Fm [22, 23, 24, 25] [] σ τ →  AW mX12_reads G d 0 0 (mq G (fun ro ρ => ro = none ∧ rdsM B n p σ ρ)) 95 [some (vR 94), some (vI (B p))] [] τ := by
  intro nn
  induction nn with
  | zero => intros; omega
  | succ nn ih =>
    intro q τ hn hq hqn hE hal h22 h23 h24 hF
    have hS := hF.sta hS0
    have hT := hT0.fm hF
    have hw := hw0.fm hF
    have h5 := hT0.2.1
    refine AW_aload_n dX12_reads_95 rfl ?_
    refine AW_aload_n dX12_reads_96 rfl ?_
    refine AW_aload_n dX12_reads_97 rfl ?_
    refine AW_getI dX12_reads_98 gfX12_218 (hS.cel rfl) ?_
    refine AW_callV1 (d' := d - 1) dX12_reads_101 (Or.inl lkX12_221) mfX12_raw (hS.cel rfl) ⟨_, rfl, rfl⟩ (n_raw hS hT _ (by rw [h22]; omega)) (by omega) (Nat.le_of_ble_eq_true rfl) ?_
    rintro _ _ ⟨e_, rfl⟩ -
    rw [e_]
    clear e_
    rw [h22, Int.toNat_natCast]
    refine AW_callV1 (d' := d - 1) dX12_reads_104 (Or.inl lkX12_234) mfX12_isLetter (hS.cel rfl) ⟨_, rfl, rfl⟩ (n_isLet (by omega) hS _) (by omega) (Nat.le_of_ble_eq_true rfl) ?_
    rintro _ _ ⟨e_, rfl⟩ -
    rw [e_]
    clear e_
    refine AW_if_eq (tgt := 123) dX12_reads_107 (by decide) (fun c_107 => ?_) (fun c_107 => ?_)
    · skip
      replace c_107 := bz0 c_107
      have hE2 : endP letB B n (p + 1) = q := by
        rw [hE]
        refine endP_stop (fun h => c_107 ?_)
        rw [if_pos (show (q : Int) < n by omega)]
        exact (letB_iff _).mp h.2
      have ek : tkK B n p = (if kw B p (q - p) = -1 then 1 else 256 + kw B p (q - p)) := by
        unfold tkK
        rw [if_neg (by omega), if_pos hl, hE2]
      have eq : tkQ B n p = q := by
        unfold tkQ
        rw [if_neg (by omega), if_pos hl, hE2]
      have hkb := kw_b B p (q - p)
      refine AW_aload_n dX12_reads_123 rfl ?_
      refine AW_aload_n dX12_reads_124 rfl ?_
      refine AW_aload_n dX12_reads_125 rfl ?_
      refine AW_getI dX12_reads_126 gfX12_225 (hS.cel rfl) ?_
      refine AW_aload_n dX12_reads_129 rfl ?_
      refine AW_getI dX12_reads_130 gfX12_218 (hS.cel rfl) ?_
      refine AW_callV2 (d' := d - 1) dX12_reads_133 (Or.inl lkX12_237) mfX12_wordAt (hS.cel rfl) ⟨_, rfl, rfl⟩ (n_wordAt (p := p) (q := q) hS hT hw (by omega) (by omega) hal _ _ h23 h22) (by omega) (Nat.le_of_ble_eq_true rfl) ?_
      rintro _ _ ⟨e_, rfl⟩ -
      rw [e_]
      clear e_
      refine AW_putI dX12_reads_136 (Or.inl pfX12_231) (hS.cel rfl) ?_
      refine AW_aload_n dX12_reads_139 rfl ?_
      refine AW_getI dX12_reads_140 gfX12_231 (hS.cel rfl) ?_
      (repeat (first | rw [up_r _ _ _ _ (by decide)] | rw [up_j _ _ _ (by decide)] | rw [up_at]))
      refine AW_iconst dX12_reads_143 ?_
      refine AW_icmp_eq (tgt := 273) dX12_reads_144 (by decide) (fun c_144 => ?_) (fun c_144 => ?_)
      · skip
        refine AW_vret dX12_reads_273 rfl ?_
        first
        | (refine ⟨rfl, by rw [up_j _ _ _ (by decide)]; exact h23, ⟨fun h => ?_, fun h => ?_, fun h => ?_, fun h => ?_, fun h => ?_⟩, fun _ => by rw [up_j _ _ _ (by decide), h22, eq], hF.uf (by decide) _⟩
           · rw [ek, if_pos c_144] at h; omega
           · rw [up_j _ _ _ (by decide)]; exact h24
           · rw [ek, if_pos c_144] at h; omega
           · rw [ek, if_pos c_144] at h; omega
           · have := sig_b h; rw [ek, if_pos c_144] at this; omega)
        | (refine ⟨rfl, by rw [up_j _ _ _ (by decide), up_j _ _ _ (by decide)]; exact h23, ⟨fun h => ?_, fun h => ?_, fun h => ?_, fun h => ?_, fun h => ?_⟩, fun _ => by rw [up_j _ _ _ (by decide), up_j _ _ _ (by decide), h22, eq], (hF.uf (by decide) _).uf (by decide) _⟩
           · rw [ek, if_neg c_144] at h; omega
           · rw [ek, if_neg c_144] at h; omega
           · rw [ek, if_neg c_144] at h; omega
           · rw [up_at, up_j _ _ _ (by decide), up_at, ek, if_neg c_144]; exact ⟨rfl, by omega⟩
           · have := sig_b h; rw [ek, if_neg c_144] at this; omega)
      · skip
        refine AW_aload_n dX12_reads_147 rfl ?_
        refine AW_iconst dX12_reads_148 ?_
        refine AW_putI dX12_reads_149 (Or.inl pfX12_228) (hS.cel rfl) ?_
        refine AW_goto (tgt := 273) dX12_reads_152 (by decide) ?_
        refine AW_vret dX12_reads_273 rfl ?_
        first
        | (refine ⟨rfl, by rw [up_j _ _ _ (by decide)]; exact h23, ⟨fun h => ?_, fun h => ?_, fun h => ?_, fun h => ?_, fun h => ?_⟩, fun _ => by rw [up_j _ _ _ (by decide), h22, eq], hF.uf (by decide) _⟩
           · rw [ek, if_pos c_144] at h; omega
           · rw [up_j _ _ _ (by decide)]; exact h24
           · rw [ek, if_pos c_144] at h; omega
           · rw [ek, if_pos c_144] at h; omega
           · have := sig_b h; rw [ek, if_pos c_144] at this; omega)
        | (refine ⟨rfl, by rw [up_j _ _ _ (by decide), up_j _ _ _ (by decide)]; exact h23, ⟨fun h => ?_, fun h => ?_, fun h => ?_, fun h => ?_, fun h => ?_⟩, fun _ => by rw [up_j _ _ _ (by decide), up_j _ _ _ (by decide), h22, eq], (hF.uf (by decide) _).uf (by decide) _⟩
           · rw [ek, if_neg c_144] at h; omega
           · rw [ek, if_neg c_144] at h; omega
           · rw [ek, if_neg c_144] at h; omega
           · rw [up_at, up_j _ _ _ (by decide), up_at, ek, if_neg c_144]; exact ⟨rfl, by omega⟩
           · have := sig_b h; rw [ek, if_neg c_144] at this; omega)
    · skip
      replace c_107 := bz1 c_107
      have hqlt : q < n := by
        rcases Nat.lt_or_ge q n with h | h
        · exact h
        · rw [if_neg (show ¬ (q : Int) < n by omega)] at c_107
          omega
      rw [if_pos (show (q : Int) < n by omega)] at c_107
      refine AW_aload_n dX12_reads_110 rfl ?_
      refine AW_aload_n dX12_reads_111 rfl ?_
      refine AW_getI dX12_reads_112 gfX12_218 (hS.cel rfl) ?_
      refine AW_iconst dX12_reads_115 ?_
      refine AW_iaddE dX12_reads_116 (by rw [h22]; omega) (by rw [h22]; omega) ?_
      rw [h22]
      refine AW_putI dX12_reads_117 (Or.inl pfX12_218) (hS.cel rfl) ?_
      refine AW_goto (tgt := 95) dX12_reads_120 (by decide) ?_
      rw [show (q : Int) + 1 = ((q + 1 : Nat) : Int) by omega]
      refine ih (q + 1) _ (by omega) (by omega) (by omega) (hE.trans (endP_go hqlt ((letB_iff _).mpr c_107))) (fun k h1 h2 => ?_) (up_at _ _ _ _) (by rw [up_j _ _ _ (by decide)]; exact h23) (by rw [up_j _ _ _ (by decide)]; exact h24) (hF.uf (by decide) _)
      by_cases hc : k = q
      · subst hc; exact c_107
      · exact hal k h1 (by omega)
theorem ln_rd3 {G : Gt} {d : Nat} {σ : St} {n : Nat} {B : Nat → Int} {p : Nat} (hd : 2 ≤ d) (hS0 : Sta σ) (hT0 : tpM n B σ) (hw0 : wdM σ) (hby : byB B n) (hpn : p < n) (hl : ¬ isLet (B p)) (hdg : isDig (B p)) : ∀ (nn : Nat) (q : Nat) (v : Int) (τ : St), (n - q) < nn → p < q → q ≤ n → endP digB B n p = endP digB B n q → (∀ k, p ≤ k → k < q → isDig (B k)) → τ.2.1 94 22 = q → τ.2.1 94 23 = p → τ.2.1 94 24 = 1 → τ.2.1 94 25 = v → (0 ≤ v ∧ v ≤ 99999) → (q - p ≤ 4 → v = numV B (q - p) p) → Fm [22, 23, 24, 25] [] σ τ →  AW mX12_reads G d 0 0 (mq G (fun ro ρ => ro = none ∧ rdsM B n p σ ρ)) 171 [some (vR 94), some (vI (B p))] [] τ := by
  intro nn
  induction nn with
  | zero => intros; omega
  | succ nn ih =>
    intro q v τ hn hq hqn hE hal h22 h23 h24 h25 hvb hv hF
    have hS := hF.sta hS0
    have hT := hT0.fm hF
    have hw := hw0.fm hF
    have h5 := hT0.2.1
    refine AW_aload_n dX12_reads_171 rfl ?_
    refine AW_aload_n dX12_reads_172 rfl ?_
    refine AW_aload_n dX12_reads_173 rfl ?_
    refine AW_getI dX12_reads_174 gfX12_218 (hS.cel rfl) ?_
    refine AW_callV1 (d' := d - 1) dX12_reads_177 (Or.inl lkX12_221) mfX12_raw (hS.cel rfl) ⟨_, rfl, rfl⟩ (n_raw hS hT _ (by rw [h22]; omega)) (by omega) (Nat.le_of_ble_eq_true rfl) ?_
    rintro _ _ ⟨e_, rfl⟩ -
    rw [e_]
    clear e_
    rw [h22, Int.toNat_natCast]
    refine AW_callV1 (d' := d - 1) dX12_reads_180 (Or.inl lkX12_240) mfX12_isDigit (hS.cel rfl) ⟨_, rfl, rfl⟩ (n_isDig (by omega) hS _) (by omega) (Nat.le_of_ble_eq_true rfl) ?_
    rintro _ _ ⟨e_, rfl⟩ -
    rw [e_]
    clear e_
    refine AW_if_eq (tgt := 239) dX12_reads_183 (by decide) (fun c_183 => ?_) (fun c_183 => ?_)
    · skip
      replace c_183 := bz0 c_183
      have hE2 : endP digB B n p = q := by
        rw [hE]
        refine endP_stop (fun h => c_183 ?_)
        rw [if_pos (show (q : Int) < n by omega)]
        exact (digB_iff _).mp h.2
      have ek : tkK B n p = (if q - p ≤ 4 then 2 else 1) := by
        unfold tkK
        rw [if_neg (by omega), if_neg hl, if_pos hdg, hE2]
      have eq : tkQ B n p = q := by
        unfold tkQ
        rw [if_neg (by omega), if_neg hl, if_pos hdg, hE2]
      have ev : tkV B n p = numV B (q - p) p := by
        unfold tkV
        rw [hE2]
      refine AW_aload_n dX12_reads_239 rfl ?_
      refine AW_getI dX12_reads_240 gfX12_218 (hS.cel rfl) ?_
      refine AW_aload_n dX12_reads_243 rfl ?_
      refine AW_getI dX12_reads_244 gfX12_225 (hS.cel rfl) ?_
      
      refine AW_isubE dX12_reads_247 (by rw [h22, h23]; omega) (by rw [h22, h23]; omega) ?_
      refine AW_iconst dX12_reads_248 ?_
      refine AW_icmp_ge (tgt := 273) dX12_reads_249 (by decide) (fun c_249 => ?_) (fun c_249 => ?_)
      · skip
        rw [h22, h23] at c_249
        refine AW_vret dX12_reads_273 rfl ?_
        first
        | (refine ⟨rfl, h23, ⟨fun h => ?_, fun h => ?_, fun h => ?_, fun h => ?_, fun h => ?_⟩, fun _ => by rw [h22, eq], hF⟩
           · rw [ek, if_neg (by omega)] at h; omega
           · exact h24
           · rw [ek, if_neg (by omega)] at h; omega
           · rw [ek, if_neg (by omega)] at h; omega
           · have := sig_b h; rw [ek, if_neg (by omega)] at this; omega)
        | (refine ⟨rfl, by rw [up_j _ _ _ (by decide)]; exact h23, ⟨fun h => ?_, fun h => ?_, fun h => ?_, fun h => ?_, fun h => ?_⟩, fun _ => by rw [up_j _ _ _ (by decide), h22, eq], hF.uf (by decide) _⟩
           · rw [ek, if_pos (by omega)] at h; omega
           · rw [ek, if_pos (by omega)] at h; omega
           · rw [up_at, up_j _ _ _ (by decide), h25, ev, hv (by omega)]; exact ⟨rfl, rfl⟩
           · rw [ek, if_pos (by omega)] at h; omega
           · have := sig_b h; rw [ek, if_pos (by omega)] at this; omega)
      · skip
        rw [h22, h23] at c_249
        refine AW_aload_n dX12_reads_252 rfl ?_
        refine AW_iconst dX12_reads_253 ?_
        refine AW_putI dX12_reads_254 (Or.inl pfX12_228) (hS.cel rfl) ?_
        refine AW_goto (tgt := 273) dX12_reads_257 (by decide) ?_
        refine AW_vret dX12_reads_273 rfl ?_
        first
        | (refine ⟨rfl, h23, ⟨fun h => ?_, fun h => ?_, fun h => ?_, fun h => ?_, fun h => ?_⟩, fun _ => by rw [h22, eq], hF⟩
           · rw [ek, if_neg (by omega)] at h; omega
           · exact h24
           · rw [ek, if_neg (by omega)] at h; omega
           · rw [ek, if_neg (by omega)] at h; omega
           · have := sig_b h; rw [ek, if_neg (by omega)] at this; omega)
        | (refine ⟨rfl, by rw [up_j _ _ _ (by decide)]; exact h23, ⟨fun h => ?_, fun h => ?_, fun h => ?_, fun h => ?_, fun h => ?_⟩, fun _ => by rw [up_j _ _ _ (by decide), h22, eq], hF.uf (by decide) _⟩
           · rw [ek, if_pos (by omega)] at h; omega
           · rw [ek, if_pos (by omega)] at h; omega
           · rw [up_at, up_j _ _ _ (by decide), h25, ev, hv (by omega)]; exact ⟨rfl, rfl⟩
           · rw [ek, if_pos (by omega)] at h; omega
           · have := sig_b h; rw [ek, if_pos (by omega)] at this; omega)
    · skip
      replace c_183 := bz1 c_183
      have hqlt : q < n := by
        rcases Nat.lt_or_ge q n with h | h
        · exact h
        · rw [if_neg (show ¬ (q : Int) < n by omega)] at c_183
          omega
      rw [if_pos (show (q : Int) < n by omega)] at c_183
      refine AW_aload_n dX12_reads_186 rfl ?_
      refine AW_aload_n dX12_reads_187 rfl ?_
      refine AW_getI dX12_reads_188 gfX12_231 (hS.cel rfl) ?_
      refine AW_sipush dX12_reads_191 ?_
      refine AW_icmp_ge (tgt := 219) dX12_reads_194 (by decide) (fun c_194 => ?_) (fun c_194 => ?_)
      · skip
        rw [h25] at c_194
        refine AW_aload_n dX12_reads_219 rfl ?_
        refine AW_getI dX12_reads_220 gfX12_231 (hS.cel rfl) ?_
        
        refine AW_putI dX12_reads_223 (Or.inl pfX12_231) (hS.cel rfl) ?_
        refine AW_aload_n dX12_reads_226 rfl ?_
        refine AW_aload_n dX12_reads_227 rfl ?_
        refine AW_getI dX12_reads_228 gfX12_218 (hS.cel rfl) ?_
        (repeat (first | rw [up_r _ _ _ _ (by decide)] | rw [up_j _ _ _ (by decide)] | rw [up_at]))
        refine AW_iconst dX12_reads_231 ?_
        rw [h22]
        refine AW_iaddE dX12_reads_232 (by omega) (by omega) ?_
        refine AW_putI dX12_reads_233 (Or.inl pfX12_218) (hS.cel rfl) ?_
        refine AW_goto (tgt := 171) dX12_reads_236 (by decide) ?_
        rw [show (q : Int) + 1 = ((q + 1 : Nat) : Int) by omega]
        refine ih (q + 1) _ _ (by omega) (by omega) (by omega) (hE.trans (endP_go hqlt ((digB_iff _).mpr c_183))) (fun k h1 h2 => ?_) (up_at _ _ _ _) (by rw [up_j _ _ _ (by decide), up_j _ _ _ (by decide)]; exact h23) (by rw [up_j _ _ _ (by decide), up_j _ _ _ (by decide)]; exact h24) (by rw [up_j _ _ _ (by decide), up_at]) (by omega) (fun h4 => ?_) ((hF.uf (by decide) _).uf (by decide) _)
        · by_cases hc : k = q
          · subst hc; exact c_183
          · exact hal k h1 (by omega)
        · have hb := numV_4 (B := B) (p := p) (k := q - p) (by omega) (fun j hj => hal (p + j) (by omega) (by omega))
          have hv2 := hv (by omega)
          have hle : numV B (q - p) p < 1000 := by
            have := numV_b (B := B) (p := p) (q - p) (fun j hj => hal (p + j) (by omega) (by omega))
            refine Int.lt_of_lt_of_le this.2 ?_
            rcases (show q - p = 1 ∨ q - p = 2 ∨ q - p = 3 by omega) with e | e | e <;> rw [e] <;> decide
          rw [show q + 1 - p = (q - p) + 1 by omega]
          simp only [numV]
          rw [show p + (q - p) = q by omega, ← hv2]
          omega
      · skip
        rw [h25] at c_194
        refine AW_bipush dX12_reads_197 ?_
        refine AW_aload_n dX12_reads_199 rfl ?_
        refine AW_getI dX12_reads_200 gfX12_231 (hS.cel rfl) ?_
        rw [h25]
        refine AW_imulE dX12_reads_203 (by omega) (by omega) ?_
        refine AW_aload_n dX12_reads_204 rfl ?_
        refine AW_aload_n dX12_reads_205 rfl ?_
        refine AW_getI dX12_reads_206 gfX12_218 (hS.cel rfl) ?_
        refine AW_callV1 (d' := d - 1) dX12_reads_209 (Or.inl lkX12_221) mfX12_raw (hS.cel rfl) ⟨_, rfl, rfl⟩ (n_raw hS hT _ (by rw [h22]; omega)) (by omega) (Nat.le_of_ble_eq_true rfl) ?_
        rintro _ _ ⟨e_, rfl⟩ -
        rw [e_]
        clear e_
        rw [h22, Int.toNat_natCast]
        rw [if_pos (show (q : Int) < n by omega)]
        have hbq := hby q hqlt
        refine AW_iaddE dX12_reads_212 (by omega) (by omega) ?_
        refine AW_bipush dX12_reads_213 ?_
        refine AW_isubE dX12_reads_215 (by omega) (by omega) ?_
        refine AW_goto (tgt := 223) dX12_reads_216 (by decide) ?_
        
        refine AW_putI dX12_reads_223 (Or.inl pfX12_231) (hS.cel rfl) ?_
        refine AW_aload_n dX12_reads_226 rfl ?_
        refine AW_aload_n dX12_reads_227 rfl ?_
        refine AW_getI dX12_reads_228 gfX12_218 (hS.cel rfl) ?_
        (repeat (first | rw [up_r _ _ _ _ (by decide)] | rw [up_j _ _ _ (by decide)] | rw [up_at]))
        refine AW_iconst dX12_reads_231 ?_
        rw [h22]
        refine AW_iaddE dX12_reads_232 (by omega) (by omega) ?_
        refine AW_putI dX12_reads_233 (Or.inl pfX12_218) (hS.cel rfl) ?_
        refine AW_goto (tgt := 171) dX12_reads_236 (by decide) ?_
        rw [show (q : Int) + 1 = ((q + 1 : Nat) : Int) by omega]
        refine ih (q + 1) _ _ (by omega) (by omega) (by omega) (hE.trans (endP_go hqlt ((digB_iff _).mpr c_183))) (fun k h1 h2 => ?_) (up_at _ _ _ _) (by rw [up_j _ _ _ (by decide), up_j _ _ _ (by decide)]; exact h23) (by rw [up_j _ _ _ (by decide), up_j _ _ _ (by decide)]; exact h24) (by rw [up_j _ _ _ (by decide), up_at]) (by omega) (fun h4 => ?_) ((hF.uf (by decide) _).uf (by decide) _)
        · by_cases hc : k = q
          · subst hc; exact c_183
          · exact hal k h1 (by omega)
        · have hb := numV_4 (B := B) (p := p) (k := q - p) (by omega) (fun j hj => hal (p + j) (by omega) (by omega))
          have hv2 := hv (by omega)
          have hle : numV B (q - p) p < 1000 := by
            have := numV_b (B := B) (p := p) (q - p) (fun j hj => hal (p + j) (by omega) (by omega))
            refine Int.lt_of_lt_of_le this.2 ?_
            rcases (show q - p = 1 ∨ q - p = 2 ∨ q - p = 3 by omega) with e | e | e <;> rw [e] <;> decide
          rw [show q + 1 - p = (q - p) + 1 by omega]
          simp only [numV]
          rw [show p + (q - p) = q by omega, ← hv2]
          omega
theorem ln_rd1 {G : Gt} {d : Nat} {σ : St} {n : Nat} {B : Nat → Int} {p : Nat} (hd : 2 ≤ d) (hS0 : Sta σ) (hT0 : tpM n B σ) (hw0 : wdM σ) (hby : byB B n) : ∀ (nn : Nat) (q : Nat) (x1 : Option AV) (τ : St), (n - q) < nn → q ≤ n → endP wsB B n q = p → τ.2.1 94 22 = q → Fm [22, 23, 24, 25] [] σ τ →  AW mX12_reads G d 0 0 (mq G (fun ro ρ => ro = none ∧ rdsM B n p σ ρ)) 0 [some (vR 94), x1] [] τ := by
  intro nn
  induction nn with
  | zero => intros; omega
  | succ nn ih =>
    intro q x1 τ hn hqn hE h22 hF
    have hS := hF.sta hS0
    have hT := hT0.fm hF
    have hw := hw0.fm hF
    have h5 := hT0.2.1
    refine AW_aload_n dX12_reads_0 rfl ?_
    refine AW_aload_n dX12_reads_1 rfl ?_
    refine AW_getI dX12_reads_2 gfX12_218 (hS.cel rfl) ?_
    refine AW_callV1 (d' := d - 1) dX12_reads_5 (Or.inl lkX12_221) mfX12_raw (hS.cel rfl) ⟨_, rfl, rfl⟩ (n_raw hS hT _ (by rw [h22]; omega)) (by omega) (Nat.le_of_ble_eq_true rfl) ?_
    rintro _ _ ⟨e_, rfl⟩ -
    rw [e_]
    clear e_
    rw [h22, Int.toNat_natCast]
    refine AW_bipush dX12_reads_8 ?_
    refine AW_icmp_eq (tgt := 26) dX12_reads_10 (by decide) (fun c_10 => ?_) (fun c_10 => ?_)
    · skip
      have hqlt : q < n := by
        rcases Nat.lt_or_ge q n with h | h
        · exact h
        · rw [if_neg (show ¬ (q : Int) < n by omega)] at c_10
          omega
      rw [if_pos (show (q : Int) < n by omega)] at c_10
      have hws : isWs (B q) := Or.inl c_10
      refine AW_aload_n dX12_reads_26 rfl ?_
      refine AW_aload_n dX12_reads_27 rfl ?_
      refine AW_getI dX12_reads_28 gfX12_218 (hS.cel rfl) ?_
      refine AW_iconst dX12_reads_31 ?_
      refine AW_iaddE dX12_reads_32 (by rw [h22]; omega) (by rw [h22]; omega) ?_
      rw [h22]
      refine AW_putI dX12_reads_33 (Or.inl pfX12_218) (hS.cel rfl) ?_
      refine AW_goto (tgt := 0) dX12_reads_36 (by decide) ?_
      rw [show (q : Int) + 1 = ((q + 1 : Nat) : Int) by omega]
      exact ih (q + 1) _ _ (by omega) (by omega) (by rw [← hE, endP_go hqlt ((wsB_iff _).mpr hws)]) (up_at _ _ _ _) (hF.uf (by decide) _)
    · skip
      refine AW_aload_n dX12_reads_13 rfl ?_
      refine AW_aload_n dX12_reads_14 rfl ?_
      refine AW_getI dX12_reads_15 gfX12_218 (hS.cel rfl) ?_
      refine AW_callV1 (d' := d - 1) dX12_reads_18 (Or.inl lkX12_221) mfX12_raw (hS.cel rfl) ⟨_, rfl, rfl⟩ (n_raw hS hT _ (by rw [h22]; omega)) (by omega) (Nat.le_of_ble_eq_true rfl) ?_
      rintro _ _ ⟨e_, rfl⟩ -
      rw [e_]
      clear e_
      rw [h22, Int.toNat_natCast]
      refine AW_bipush dX12_reads_21 ?_
      refine AW_icmp_ne (tgt := 39) dX12_reads_23 (by decide) (fun c_23 => ?_) (fun c_23 => ?_)
      · skip
        have hnw : ¬ (q < n ∧ isWs (B q)) := by
          rintro ⟨h1, h2⟩
          rw [if_pos (show (q : Int) < n by omega)] at c_10 c_23
          rcases h2 with h2 | h2
          · exact c_10 h2
          · exact c_23 h2
        have hpq : p = q := by rw [← hE, endP_stop (fun h => hnw ⟨h.1, (wsB_iff _).mp h.2⟩)]
        subst hpq
        refine AW_aload_n dX12_reads_39 rfl ?_
        refine AW_aload_n dX12_reads_40 rfl ?_
        refine AW_getI dX12_reads_41 gfX12_218 (hS.cel rfl) ?_
        rw [h22]
        refine AW_putI dX12_reads_44 (Or.inl pfX12_225) (hS.cel rfl) ?_
        refine AW_aload_n dX12_reads_47 rfl ?_
        refine AW_iconst dX12_reads_48 ?_
        refine AW_putI dX12_reads_49 (Or.inl pfX12_228) (hS.cel rfl) ?_
        refine AW_aload_n dX12_reads_52 rfl ?_
        refine AW_aload_n dX12_reads_53 rfl ?_
        refine AW_getI dX12_reads_54 gfX12_218 (hS.cel rfl) ?_
        (repeat (first | rw [up_r _ _ _ _ (by decide)] | rw [up_j _ _ _ (by decide)] | rw [up_at]))
        refine AW_callV1 (d' := d - 1) dX12_reads_57 (Or.inl lkX12_221) mfX12_raw (hS.cel rfl) ⟨_, rfl, rfl⟩ (n_raw (σ := upI (upI τ 94 23 (p : Int)) 94 24 1) hS ((hT.u94 23 (p : Int) (by decide)).u94 24 1 (by decide)) (τ.2.1 94 22) (by rw [h22]; omega)) (by omega) (Nat.le_of_ble_eq_true rfl) ?_
        rintro _ _ ⟨e_, rfl⟩ -
        rw [e_]
        clear e_
        rw [h22, Int.toNat_natCast]
        refine AW_istore1 dX12_reads_60 ?_
        refine AW_iload_n dX12_reads_61 rfl ?_
        refine AW_iconst dX12_reads_62 ?_
        refine AW_icmp_ne (tgt := 72) dX12_reads_63 (by decide) (fun c_63 => ?_) (fun c_63 => ?_)
        · skip
          have hpn : p < n := by
            rcases Nat.lt_or_ge p n with h | h
            · exact h
            · rw [if_neg (show ¬ (p : Int) < n by omega)] at c_63
              exact absurd rfl c_63
          have hbp := hby p hpn
          rw [if_pos (show (p : Int) < n by omega)]
          refine AW_aload_n dX12_reads_72 rfl ?_
          refine AW_aload_n dX12_reads_73 rfl ?_
          refine AW_getI dX12_reads_74 gfX12_218 (hS.cel rfl) ?_
          (repeat (first | rw [up_r _ _ _ _ (by decide)] | rw [up_j _ _ _ (by decide)] | rw [up_at]))
          refine AW_iconst dX12_reads_77 ?_
          refine AW_iaddE dX12_reads_78 (by rw [h22]; omega) (by rw [h22]; omega) ?_
          rw [h22]
          refine AW_putI dX12_reads_79 (Or.inl pfX12_218) (hS.cel rfl) ?_
          refine AW_aload_n dX12_reads_82 rfl ?_
          refine AW_iload_n dX12_reads_83 rfl ?_
          refine AW_putI dX12_reads_84 (Or.inl pfX12_231) (hS.cel rfl) ?_
          refine AW_aload_n dX12_reads_87 rfl ?_
          refine AW_iload_n dX12_reads_88 rfl ?_
          refine AW_callV1 (d' := d - 1) dX12_reads_89 (Or.inl lkX12_234) mfX12_isLetter (hS.cel rfl) ⟨_, rfl, rfl⟩ (n_isLet (by omega) ((((hS.up _ _ _).up _ _ _).up _ _ _).up _ _ _) _) (by omega) (Nat.le_of_ble_eq_true rfl) ?_
          rintro _ _ ⟨e_, rfl⟩ -
          rw [e_]
          clear e_
          refine AW_if_eq (tgt := 155) dX12_reads_92 (by decide) (fun c_92 => ?_) (fun c_92 => ?_)
          · skip
            replace c_92 := bz0 c_92
            refine AW_aload_n dX12_reads_155 rfl ?_
            refine AW_iload_n dX12_reads_156 rfl ?_
            refine AW_callV1 (d' := d - 1) dX12_reads_157 (Or.inl lkX12_240) mfX12_isDigit (hS.cel rfl) ⟨_, rfl, rfl⟩ (n_isDig (by omega) ((((hS.up _ _ _).up _ _ _).up _ _ _).up _ _ _) _) (by omega) (Nat.le_of_ble_eq_true rfl) ?_
            rintro _ _ ⟨e_, rfl⟩ -
            rw [e_]
            clear e_
            refine AW_if_eq (tgt := 260) dX12_reads_160 (by decide) (fun c_160 => ?_) (fun c_160 => ?_)
            · skip
              replace c_160 := bz0 c_160
              refine AW_aload_n dX12_reads_260 rfl ?_
              refine AW_iload_n dX12_reads_261 rfl ?_
              refine AW_callV1 (d' := d - 1) dX12_reads_262 (Or.inl lkX12_243) mfX12_isMarkSign (hS.cel rfl) ⟨_, rfl, rfl⟩ (n_mark _) (by omega) (Nat.le_of_ble_eq_true rfl) ?_
              rintro _ _ ⟨e_, rfl⟩ -
              rw [e_]
              clear e_
              refine AW_if_eq (tgt := 273) dX12_reads_265 (by decide) (fun c_265 => ?_) (fun c_265 => ?_)
              · skip
                replace c_265 := bz0 c_265
                refine AW_vret dX12_reads_273 rfl ?_
                have ek : tkK B n p = (if isSig (B p) then B p else 1) := by
                  unfold tkK
                  rw [if_neg (by omega), if_neg c_92, if_neg c_160]
                have eq : tkQ B n p = p + 1 := by
                  unfold tkQ
                  rw [if_neg (by omega), if_neg c_92, if_neg c_160]
                first
                | (refine ⟨rfl, by rw [up_j _ _ _ (by decide), up_j _ _ _ (by decide), up_j _ _ _ (by decide), up_at], ⟨fun h => ?_, fun h => ?_, fun h => ?_, fun h => ?_, fun h => ?_⟩, fun _ => by rw [up_j _ _ _ (by decide), up_at, eq]; omega, (((hF.uf (by decide) _).uf (by decide) _).uf (by decide) _).uf (by decide) _⟩
                   · rw [ek, if_neg c_265] at h; omega
                   · rw [up_j _ _ _ (by decide), up_j _ _ _ (by decide), up_at]
                   · rw [ek, if_neg c_265] at h; omega
                   · rw [ek, if_neg c_265] at h; omega
                   · have := sig_b h; rw [ek, if_neg c_265] at this; omega)
                | (have hsb := sig_b c_265
                   refine ⟨rfl, by rw [up_j _ _ _ (by decide), up_j _ _ _ (by decide), up_j _ _ _ (by decide), up_j _ _ _ (by decide), up_at], ⟨fun h => ?_, fun h => ?_, fun h => ?_, fun h => ?_, fun h => ?_⟩, fun _ => by rw [up_j _ _ _ (by decide), up_j _ _ _ (by decide), up_at, eq]; omega, ((((hF.uf (by decide) _).uf (by decide) _).uf (by decide) _).uf (by decide) _).uf (by decide) _⟩
                   · rw [ek, if_pos c_265] at h; omega
                   · rw [ek, if_pos c_265] at h; omega
                   · rw [ek, if_pos c_265] at h; omega
                   · rw [ek, if_pos c_265] at h; omega
                   · rw [up_at, up_j _ _ _ (by decide), up_at, ek, if_pos c_265]; exact ⟨rfl, rfl⟩)
              · skip
                replace c_265 := bz1 c_265
                refine AW_aload_n dX12_reads_268 rfl ?_
                refine AW_iconst dX12_reads_269 ?_
                refine AW_putI dX12_reads_270 (Or.inl pfX12_228) (hS.cel rfl) ?_
                refine AW_vret dX12_reads_273 rfl ?_
                have ek : tkK B n p = (if isSig (B p) then B p else 1) := by
                  unfold tkK
                  rw [if_neg (by omega), if_neg c_92, if_neg c_160]
                have eq : tkQ B n p = p + 1 := by
                  unfold tkQ
                  rw [if_neg (by omega), if_neg c_92, if_neg c_160]
                first
                | (refine ⟨rfl, by rw [up_j _ _ _ (by decide), up_j _ _ _ (by decide), up_j _ _ _ (by decide), up_at], ⟨fun h => ?_, fun h => ?_, fun h => ?_, fun h => ?_, fun h => ?_⟩, fun _ => by rw [up_j _ _ _ (by decide), up_at, eq]; omega, (((hF.uf (by decide) _).uf (by decide) _).uf (by decide) _).uf (by decide) _⟩
                   · rw [ek, if_neg c_265] at h; omega
                   · rw [up_j _ _ _ (by decide), up_j _ _ _ (by decide), up_at]
                   · rw [ek, if_neg c_265] at h; omega
                   · rw [ek, if_neg c_265] at h; omega
                   · have := sig_b h; rw [ek, if_neg c_265] at this; omega)
                | (have hsb := sig_b c_265
                   refine ⟨rfl, by rw [up_j _ _ _ (by decide), up_j _ _ _ (by decide), up_j _ _ _ (by decide), up_j _ _ _ (by decide), up_at], ⟨fun h => ?_, fun h => ?_, fun h => ?_, fun h => ?_, fun h => ?_⟩, fun _ => by rw [up_j _ _ _ (by decide), up_j _ _ _ (by decide), up_at, eq]; omega, ((((hF.uf (by decide) _).uf (by decide) _).uf (by decide) _).uf (by decide) _).uf (by decide) _⟩
                   · rw [ek, if_pos c_265] at h; omega
                   · rw [ek, if_pos c_265] at h; omega
                   · rw [ek, if_pos c_265] at h; omega
                   · rw [ek, if_pos c_265] at h; omega
                   · rw [up_at, up_j _ _ _ (by decide), up_at, ek, if_pos c_265]; exact ⟨rfl, rfl⟩)
            · skip
              replace c_160 := bz1 c_160
              refine AW_aload_n dX12_reads_163 rfl ?_
              refine AW_iload_n dX12_reads_164 rfl ?_
              refine AW_bipush dX12_reads_165 ?_
              refine AW_isubE dX12_reads_167 (by omega) (by omega) ?_
              
              refine AW_putI dX12_reads_168 (Or.inl pfX12_231) (hS.cel rfl) ?_
              rw [show (p : Int) + 1 = ((p + 1 : Nat) : Int) by omega]
              refine ln_rd3 hd hS0 hT0 hw0 hby hpn c_92 c_160 (n + 1) (p + 1) (B p - 48) _ (by omega) (by omega) (by omega) (endP_go hpn ((digB_iff _).mpr c_160)) (fun k h1 h2 => by rw [show k = p by omega]; exact c_160) (by rw [up_j _ _ _ (by decide), up_j _ _ _ (by decide), up_at]) (by rw [up_j _ _ _ (by decide), up_j _ _ _ (by decide), up_j _ _ _ (by decide), up_j _ _ _ (by decide), up_at]) (by rw [up_j _ _ _ (by decide), up_j _ _ _ (by decide), up_j _ _ _ (by decide), up_at]) (by rw [up_at]) (by omega) (fun _ => ?_) (((((hF.uf (by decide) _).uf (by decide) _).uf (by decide) _).uf (by decide) _).uf (by decide) _)
              rw [show p + 1 - p = 1 by omega]
              simp only [numV, Nat.add_zero]
              omega
          · skip
            replace c_92 := bz1 c_92
            rw [show (p : Int) + 1 = ((p + 1 : Nat) : Int) by omega]
            exact ln_rd2 hd hS0 hT0 hw0 hby hpn c_92 (n + 1) (p + 1) _ (by omega) (by omega) (by omega) rfl (fun k h1 h2 => by rw [show k = p by omega]; exact c_92) (by rw [up_j _ _ _ (by decide), up_at]) (by rw [up_j _ _ _ (by decide), up_j _ _ _ (by decide), up_j _ _ _ (by decide), up_at]) (by rw [up_j _ _ _ (by decide), up_j _ _ _ (by decide), up_at]) ((((hF.uf (by decide) _).uf (by decide) _).uf (by decide) _).uf (by decide) _)
        · skip
          have hpn : n ≤ p := by
            rcases Nat.lt_or_ge p n with h | h
            · exfalso
              rw [if_pos (show (p : Int) < n by omega)] at c_63
              have := hby p h
              omega
            · exact h
          refine AW_aload_n dX12_reads_66 rfl ?_
          refine AW_iconst dX12_reads_67 ?_
          refine AW_putI dX12_reads_68 (Or.inl pfX12_228) (hS.cel rfl) ?_
          refine AW_vret dX12_reads_71 rfl ?_
          have ek : tkK B n p = 0 := by
            unfold tkK
            rw [if_pos hpn]
          refine ⟨rfl, by rw [up_j _ _ _ (by decide), up_j _ _ _ (by decide), up_at], ⟨fun h => up_at _ _ _ _, fun h => ?_, fun h => ?_, fun h => ?_, fun h => ?_⟩, fun h => absurd h (by omega), ((hF.uf (by decide) _).uf (by decide) _).uf (by decide) _⟩
          · rw [ek] at h; omega
          · rw [ek] at h; omega
          · rw [ek] at h; omega
          · rw [ek] at h; have := sig_b h; omega
      · skip
        have hqlt : q < n := by
          rcases Nat.lt_or_ge q n with h | h
          · exact h
          · rw [if_neg (show ¬ (q : Int) < n by omega)] at c_23
            omega
        rw [if_pos (show (q : Int) < n by omega)] at c_23
        have hws : isWs (B q) := Or.inr c_23
        refine AW_aload_n dX12_reads_26 rfl ?_
        refine AW_aload_n dX12_reads_27 rfl ?_
        refine AW_getI dX12_reads_28 gfX12_218 (hS.cel rfl) ?_
        refine AW_iconst dX12_reads_31 ?_
        refine AW_iaddE dX12_reads_32 (by rw [h22]; omega) (by rw [h22]; omega) ?_
        rw [h22]
        refine AW_putI dX12_reads_33 (Or.inl pfX12_218) (hS.cel rfl) ?_
        refine AW_goto (tgt := 0) dX12_reads_36 (by decide) ?_
        rw [show (q : Int) + 1 = ((q + 1 : Nat) : Int) by omega]
        exact ih (q + 1) _ _ (by omega) (by omega) (by rw [← hE, endP_go hqlt ((wsB_iff _).mpr hws)]) (up_at _ _ _ _) (hF.uf (by decide) _)
theorem n_reads {G : Gt} {d : Nat} {σ : St} {n : Nat} {B : Nat → Int} (hd : 2 ≤ d) (hS0 : Sta σ) (hT0 : tpM n B σ) (hw0 : wdM σ) (hby : byB B n) (q : Nat) (hq : q ≤ n) (h22 : σ.2.1 94 22 = q) : AM mX12_reads G d 0 0 [vR 94] σ (fun ro ρ => ro = none ∧ rdsM B n (endP wsB B n q) σ ρ) := by
  refine AM.intro (by decide +kernel) (by simp [nLg]) (Nat.le_of_ble_eq_true rfl) (fun hO => ?_)
  exact ln_rd1 hd hS0 hT0 hw0 hby (n + 1) q none σ (by omega) hq rfl h22 Fm.rf
