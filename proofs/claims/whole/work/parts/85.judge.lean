-- THE JUDGE: what a WAY's code comes to
def jop (x a b : Int) : Int := if x = -8 then wr (a + b) else if x = -9 then wr (a - b) else if x = -10 then wr (a * b) else if x = -11 then wr (a.tdiv b) else if x = -12 then (if a < b then 1 else 0) else if x = -13 then (if a = b then 1 else 0) else if x = -14 then (if b < a then 1 else 0) else if x = -15 then (if a = 0 ∨ b = 0 then 0 else 1) else (if a = 0 ∧ b = 0 then 0 else 1)
def jst (f : Nat → Int) (x : Int) (s : List Int) : List Int :=
  if 0 ≤ x then x :: s
  else if -7 ≤ x then f (-1 - x).toNat :: s
  else match s with
    | [] => []
    | b :: t => if x = -17 then (1 - b) :: t else match t with
      | [] => [b]
      | a :: u => jop x a b :: u
def jrun (f c : Nat → Int) : Nat → Nat → List Int → List Int
  | _, 0, s => s
  | a, k + 1, s => jrun f c (a + 1) k (jst f (c a) s)
theorem jrun_0 (f c : Nat → Int) (a : Nat) (s : List Int) : jrun f c a 0 s = s := rfl
theorem jrun_s (f c : Nat → Int) (a k : Nat) (s : List Int) : jrun f c a (k + 1) s = jrun f c (a + 1) k (jst f (c a) s) := rfl
def okT : List Int → List Nat → Prop
  | [], [] => True
  | v :: s, t :: ts => (t = 1 → v = 0 ∨ v = 1) ∧ (t = 2 → v ≠ 0) ∧ okT s ts
  | _, _ => False
theorem okT_len : ∀ (s : List Int) (ts : List Nat), okT s ts → s.length = ts.length := by
  intro s
  induction s with
  | nil => intro ts h; cases ts with
    | nil => rfl
    | cons t ts => exact h.elim
  | cons v s ih => intro ts h; cases ts with
    | nil => exact h.elim
    | cons t ts => simp [ih ts h.2.2]
theorem okT_cons {s : List Int} {t : Nat} {ts : List Nat} (h : okT s (t :: ts)) : ∃ v s1, s = v :: s1 := by
  cases s with
  | nil => exact h.elim
  | cons v s1 => exact ⟨v, s1, rfl⟩
theorem okT_cons2 {s : List Int} {t t2 : Nat} {ts : List Nat} (h : okT s (t :: t2 :: ts)) : ∃ v w s1, s = v :: w :: s1 := by
  obtain ⟨v, s1, rfl⟩ := okT_cons h
  obtain ⟨w, s2, rfl⟩ := okT_cons h.2.2
  exact ⟨v, w, s2, rfl⟩
theorem ts_push {x : Int} {ts ts' : List Nat} (h1 : -7 ≤ x) (h : tstep x ts = some ts') : ∃ t, t ≠ 1 ∧ (t = 2 → 0 < x) ∧ ts' = t :: ts := by
  by_cases h0 : 0 ≤ x
  · rw [ts_num h0] at h
    cases h
    by_cases hz : x = 0
    · rw [if_pos hz]; exact ⟨0, by decide, fun q => absurd q (by decide), rfl⟩
    · rw [if_neg hz]; exact ⟨2, by decide, fun _ => by omega, rfl⟩
  · rw [ts_fact h1 (by omega)] at h
    cases h
    exact ⟨0, by decide, fun q => absurd q (by decide), rfl⟩
theorem ts_17 {ts ts' : List Nat} (h : tstep (-17) ts = some ts') : ∃ u, ts = 1 :: u ∧ ts' = 1 :: u := by
  unfold tstep at h
  rw [if_neg (by decide), if_neg (by decide)] at h
  cases ts with
  | nil => cases h
  | cons b t =>
    simp only [] at h
    rw [if_pos trivial] at h
    by_cases hb : b = 1
    · rw [if_pos hb] at h
      cases h
      rw [hb]
      exact ⟨t, rfl, rfl⟩
    · rw [if_neg hb] at h
      cases h
theorem ts_bin {x : Int} {ts ts' : List Nat} (h1 : x < -7) (h2 : x ≠ -17) (h : tstep x ts = some ts') : -16 ≤ x ∧ ∃ b a u t, ts = b :: a :: u ∧ ts' = t :: u ∧ (x = -11 → b = 2) ∧ (x < -14 → b = 1 ∧ a = 1) ∧ t ≠ 2 ∧ (t = 1 → x < -11) := by
  unfold tstep at h
  rw [if_neg (by omega), if_neg (by omega)] at h
  cases ts with
  | nil => cases h
  | cons b t =>
    simp only [] at h
    rw [if_neg h2] at h
    cases t with
    | nil => cases h
    | cons a u =>
      simp only [] at h
      by_cases c1 : x = -11
      · rw [if_pos c1] at h
        by_cases c2 : b = 2 ∧ a ≠ 1
        · rw [if_pos c2] at h
          cases h
          exact ⟨by omega, b, a, u, 0, rfl, rfl, fun _ => c2.1, fun q => by omega, by decide, fun q => by omega⟩
        · rw [if_neg c2] at h
          cases h
      · rw [if_neg c1] at h
        by_cases c3 : -10 ≤ x
        · rw [if_pos c3] at h
          by_cases c2 : b ≠ 1 ∧ a ≠ 1
          · rw [if_pos c2] at h
            cases h
            exact ⟨by omega, b, a, u, 0, rfl, rfl, fun q => absurd q c1, fun q => by omega, by decide, fun q => by omega⟩
          · rw [if_neg c2] at h
            cases h
        · rw [if_neg c3] at h
          by_cases c4 : -14 ≤ x
          · rw [if_pos c4] at h
            by_cases c2 : b ≠ 1 ∧ a ≠ 1
            · rw [if_pos c2] at h
              cases h
              exact ⟨by omega, b, a, u, 1, rfl, rfl, fun q => absurd q c1, fun q => by omega, by decide, fun q => by omega⟩
            · rw [if_neg c2] at h
              cases h
          · rw [if_neg c4] at h
            by_cases c5 : -16 ≤ x
            · rw [if_pos c5] at h
              by_cases c2 : b = 1 ∧ a = 1
              · rw [if_pos c2] at h
                cases h
                exact ⟨c5, b, a, u, 1, rfl, rfl, fun q => absurd q c1, fun _ => c2, by decide, fun q => by omega⟩
              · rw [if_neg c2] at h
                cases h
            · rw [if_neg c5] at h
              cases h
theorem js_num (f : Nat → Int) {x : Int} (h : 0 ≤ x) (s : List Int) : jst f x s = x :: s := by unfold jst; rw [if_pos h]
theorem js_fact (f : Nat → Int) {x : Int} (h : -7 ≤ x) (h2 : x < 0) (s : List Int) : jst f x s = f (-1 - x).toNat :: s := by unfold jst; rw [if_neg (by omega), if_pos h]
theorem js_not (f : Nat → Int) (b : Int) (s : List Int) : jst f (-17) (b :: s) = (1 - b) :: s := by
  unfold jst
  rw [if_neg (by decide), if_neg (by decide)]
  simp only []
  rw [if_pos trivial]
theorem js_bin (f : Nat → Int) {x : Int} (h : x < -7) (h2 : x ≠ -17) (b a : Int) (s : List Int) : jst f x (b :: a :: s) = jop x a b :: s := by
  unfold jst
  rw [if_neg (by omega), if_neg (by omega)]
  simp only []
  rw [if_neg h2]
theorem jop_01 {x a b : Int} (h1 : x < -11) (h3 : x < -14 → (a = 0 ∨ a = 1) ∧ (b = 0 ∨ b = 1)) : jop x a b = 0 ∨ jop x a b = 1 := by
  unfold jop
  rw [if_neg (by omega), if_neg (by omega), if_neg (by omega), if_neg (by omega)]
  split
  · split <;> simp
  · split
    · split <;> simp
    · split
      · split <;> simp
      · split
        · split <;> simp
        · split <;> simp
theorem okT_step {f : Nat → Int} {x : Int} {s : List Int} {ts ts' : List Nat} (h : okT s ts) (ht : tstep x ts = some ts') : okT (jst f x s) ts' := by
  by_cases h7 : -7 ≤ x
  · obtain ⟨t, h1, h2, rfl⟩ := ts_push h7 ht
    by_cases h0 : 0 ≤ x
    · rw [js_num f h0]
      exact ⟨fun q => absurd q h1, fun q => by have := h2 q; omega, h⟩
    · rw [js_fact f h7 (by omega)]
      exact ⟨fun q => absurd q h1, fun q => by have := h2 q; omega, h⟩
  · by_cases h17 : x = -17
    · subst h17
      obtain ⟨u, rfl, rfl⟩ := ts_17 ht
      obtain ⟨v, s1, rfl⟩ := okT_cons h
      rw [js_not]
      refine ⟨fun _ => ?_, fun q => absurd q (by decide), h.2.2⟩
      rcases h.1 rfl with e | e <;> rw [e] <;> simp
    · obtain ⟨h16, b, a, u, t, rfl, rfl, q1, q2, q3, q4⟩ := ts_bin (by omega) h17 ht
      obtain ⟨vb, va, s2, rfl⟩ := okT_cons2 h
      rw [js_bin f (by omega) h17]
      refine ⟨fun q => jop_01 (q4 q) (fun q5 => ?_), fun q => absurd q q3, h.2.2.2.2⟩
      exact ⟨h.2.2.1 (q2 q5).2, h.1 (q2 q5).1⟩
theorem okT_run {f c : Nat → Int} : ∀ (k a : Nat) (s : List Int) (ts ts' : List Nat), okT s ts → trun c a k ts = some ts' → okT (jrun f c a k s) ts' := by
  intro k
  induction k with
  | zero => intro a s ts ts' h ht; rw [trun_0] at ht; cases ht; exact h
  | succ k ih =>
    intro a s ts ts' h ht
    obtain ⟨t2, e1, e2, e3⟩ := trun_inv ht
    exact ih (a + 1) _ t2 ts' (okT_step h e1) e3
def jval (f c : Nat → Int) (a b : Int) : Int := (jrun f c a.toNat (b - a).toNat []).headD 0
theorem jval_ok {f c : Nat → Int} {a k t : Nat} (h : trun c a k [] = some [t]) {b0 a0 : Int} (e1 : a0 = a) (e2 : b0 = ((a + k : Nat) : Int)) : jrun f c a k [] = [jval f c a0 b0] := by
  have h1 := okT_run (f := f) k a [] [] [t] trivial h
  unfold jval
  rw [e1, e2, Int.toNat_natCast, show (((a + k : Nat) : Int) - (a : Int)).toNat = k by omega]
  obtain ⟨v, s1, e⟩ := okT_cons h1
  rw [e] at h1 ⊢
  cases s1 with
  | nil => rfl
  | cons w s2 => exact h1.2.2.elim
/-- the values on the stack, the highest first, lie in a row from 0 on -/
def Sk (σ : St) (r : Nat) : List Int → Prop
  | [] => True
  | v :: t => σ.2.1 r t.length = v ∧ Sk σ r t
theorem Sk.up {σ : St} {r : Nat} (j : Nat) (x : Int) : ∀ l, l.length ≤ j → Sk σ r l → Sk (upI σ r j x) r l := by
  intro l
  induction l with
  | nil => intro _ _; trivial
  | cons v t ih =>
    intro hl h
    have h2 : t.length < j := by simp at hl; omega
    refine ⟨?_, ih (by omega) h.2⟩
    rw [up_j _ _ _ (by omega)]
    exact h.1
theorem WyC.fr {σ ρ : St} {k : Nat} {W : Wy} {L : List Nat} (h : WyC σ k W) (hF : Fr L σ ρ) (hL : ∀ r, wcl k ≤ r → r ≤ wcl k + 5 → r ∉ L) : WyC ρ k W := by
  obtain ⟨a1, a2, a3, a4, a5, a6⟩ := h
  refine ⟨(hF.iv _ _ (hL _ (by omega) (by omega))).trans a1, a2, (hF.iv _ _ (hL _ (by omega) (by omega))).trans a3, a4, fun l hl => ?_, fun i hi => (hF.iv _ _ (hL _ (by omega) (by omega))).trans (a6 i hi)⟩
  rw [hF.iv _ _ (hL (wcl k + 2) (by omega) (by omega)), hF.iv _ _ (hL (wcl k + 3) (by omega) (by omega)), hF.iv _ _ (hL (wcl k + 4) (by omega) (by omega)), hF.iv _ _ (hL (wcl k + 5) (by omega) (by omega))]
  exact a5 l hl
theorem jop_8 (a b : Int) : jop (-8) a b = wr (a + b) := by unfold jop; rw [if_pos rfl]
theorem jop_9 (a b : Int) : jop (-9) a b = wr (a - b) := by unfold jop; rw [if_neg (by decide), if_pos rfl]
theorem jop_10 (a b : Int) : jop (-10) a b = wr (a * b) := by unfold jop; rw [if_neg (by decide), if_neg (by decide), if_pos rfl]
theorem jop_11 (a b : Int) : jop (-11) a b = wr (a.tdiv b) := by unfold jop; rw [if_neg (by decide), if_neg (by decide), if_neg (by decide), if_pos rfl]
theorem jop_12 (a b : Int) : jop (-12) a b = if a < b then 1 else 0 := by unfold jop; rw [if_neg (by decide), if_neg (by decide), if_neg (by decide), if_neg (by decide), if_pos rfl]
theorem jop_13 (a b : Int) : jop (-13) a b = if a = b then 1 else 0 := by unfold jop; rw [if_neg (by decide), if_neg (by decide), if_neg (by decide), if_neg (by decide), if_neg (by decide), if_pos rfl]
theorem jop_14 (a b : Int) : jop (-14) a b = if b < a then 1 else 0 := by unfold jop; rw [if_neg (by decide), if_neg (by decide), if_neg (by decide), if_neg (by decide), if_neg (by decide), if_neg (by decide), if_pos rfl]
theorem jop_15 (a b : Int) : jop (-15) a b = if a = 0 ∨ b = 0 then 0 else 1 := by unfold jop; rw [if_neg (by decide), if_neg (by decide), if_neg (by decide), if_neg (by decide), if_neg (by decide), if_neg (by decide), if_neg (by decide), if_pos rfl]
theorem jop_16 {x : Int} (h : x < -15) (a b : Int) : jop x a b = if a = 0 ∧ b = 0 then 0 else 1 := by unfold jop; rw [if_neg (by omega), if_neg (by omega), if_neg (by omega), if_neg (by omega), if_neg (by omega), if_neg (by omega), if_neg (by omega), if_neg (by omega)]
theorem k_wystart {G : Gt} {d : Nat} {σ : St} {k : Nat} {W : Wy} (hS : Sta σ) (hk : k < 6) (hW : WyC σ k W) (i0 : Int) (i : Nat) (e : i0 = i) (hi : i < W.1) : AM mX10_start G d 0 0 [vR (wcl k), vI i0] σ (fun r τ => τ = σ ∧ r = some (vI (W.2.1 1 i))) := by
  have h12 := hW.2.1
  have h40 := hW.2.2.2.1
  refine AM.intro (by decide +kernel) (by simp [nLg]) (Nat.le_of_ble_eq_true rfl) (fun hO => ?_)
  show AW _ _ _ _ _ _ 0 [some (vR (wcl k)), some (vI i0)] [] σ
  refine AW_iload_n dX10_start_0 rfl ?_
  refine AW_if_lt (tgt := 21) dX10_start_1 (by decide) (fun c_1 => ?_) (fun c_1 => ?_)
  · skip
    exact absurd c_1 (by omega)
  · skip
    refine AW_iload_n dX10_start_4 rfl ?_
    refine AW_aload_n dX10_start_5 rfl ?_
    refine AW_getI dX10_start_6 gfX10_27 (hS.wc hk) ?_
    refine AW_icmp_ge (tgt := 21) dX10_start_9 (by decide) (fun c_9 => ?_) (fun c_9 => ?_)
    · skip
      rw [hW.1] at c_9
      exact absurd c_9 (by omega)
    · skip
      rw [hW.1] at c_9
      refine AW_aload_n dX10_start_12 rfl ?_
      refine AW_getR (a := wcl k + 3) dX10_start_13 gfX10_18 (hS.wc hk) (by rw [hS.wr hk 2 (by decide)]) ?_
      refine AW_iload_n dX10_start_16 rfl ?_
      refine AW_iald dX10_start_17 (hS.wl3 hk) (by omega) (by omega) ?_
      refine AW_goto (tgt := 22) dX10_start_18 (by decide) ?_
      refine AW_iret dX10_start_22 rfl ?_
      refine ⟨rfl, ?_⟩
      rw [show i0.toNat = i by omega]
      have q := hW.2.2.2.2.1 i hi
      first | rw [q.2.1] | rw [q.2.2.1] | rw [q.2.2.2]
theorem k_wymid {G : Gt} {d : Nat} {σ : St} {k : Nat} {W : Wy} (hS : Sta σ) (hk : k < 6) (hW : WyC σ k W) (i0 : Int) (i : Nat) (e : i0 = i) (hi : i < W.1) : AM mX10_middle G d 0 0 [vR (wcl k), vI i0] σ (fun r τ => τ = σ ∧ r = some (vI (W.2.1 2 i))) := by
  have h12 := hW.2.1
  have h40 := hW.2.2.2.1
  refine AM.intro (by decide +kernel) (by simp [nLg]) (Nat.le_of_ble_eq_true rfl) (fun hO => ?_)
  show AW _ _ _ _ _ _ 0 [some (vR (wcl k)), some (vI i0)] [] σ
  refine AW_iload_n dX10_middle_0 rfl ?_
  refine AW_if_lt (tgt := 21) dX10_middle_1 (by decide) (fun c_1 => ?_) (fun c_1 => ?_)
  · skip
    exact absurd c_1 (by omega)
  · skip
    refine AW_iload_n dX10_middle_4 rfl ?_
    refine AW_aload_n dX10_middle_5 rfl ?_
    refine AW_getI dX10_middle_6 gfX10_27 (hS.wc hk) ?_
    refine AW_icmp_ge (tgt := 21) dX10_middle_9 (by decide) (fun c_9 => ?_) (fun c_9 => ?_)
    · skip
      rw [hW.1] at c_9
      exact absurd c_9 (by omega)
    · skip
      rw [hW.1] at c_9
      refine AW_aload_n dX10_middle_12 rfl ?_
      refine AW_getR (a := wcl k + 4) dX10_middle_13 gfX10_21 (hS.wc hk) (by rw [hS.wr hk 3 (by decide)]) ?_
      refine AW_iload_n dX10_middle_16 rfl ?_
      refine AW_iald dX10_middle_17 (hS.wl4 hk) (by omega) (by omega) ?_
      refine AW_goto (tgt := 22) dX10_middle_18 (by decide) ?_
      refine AW_iret dX10_middle_22 rfl ?_
      refine ⟨rfl, ?_⟩
      rw [show i0.toNat = i by omega]
      have q := hW.2.2.2.2.1 i hi
      first | rw [q.2.1] | rw [q.2.2.1] | rw [q.2.2.2]
theorem k_wyfin {G : Gt} {d : Nat} {σ : St} {k : Nat} {W : Wy} (hS : Sta σ) (hk : k < 6) (hW : WyC σ k W) (i0 : Int) (i : Nat) (e : i0 = i) (hi : i < W.1) : AM mX10_finish G d 0 0 [vR (wcl k), vI i0] σ (fun r τ => τ = σ ∧ r = some (vI (W.2.1 3 i))) := by
  have h12 := hW.2.1
  have h40 := hW.2.2.2.1
  refine AM.intro (by decide +kernel) (by simp [nLg]) (Nat.le_of_ble_eq_true rfl) (fun hO => ?_)
  show AW _ _ _ _ _ _ 0 [some (vR (wcl k)), some (vI i0)] [] σ
  refine AW_iload_n dX10_finish_0 rfl ?_
  refine AW_if_lt (tgt := 21) dX10_finish_1 (by decide) (fun c_1 => ?_) (fun c_1 => ?_)
  · skip
    exact absurd c_1 (by omega)
  · skip
    refine AW_iload_n dX10_finish_4 rfl ?_
    refine AW_aload_n dX10_finish_5 rfl ?_
    refine AW_getI dX10_finish_6 gfX10_27 (hS.wc hk) ?_
    refine AW_icmp_ge (tgt := 21) dX10_finish_9 (by decide) (fun c_9 => ?_) (fun c_9 => ?_)
    · skip
      rw [hW.1] at c_9
      exact absurd c_9 (by omega)
    · skip
      rw [hW.1] at c_9
      refine AW_aload_n dX10_finish_12 rfl ?_
      refine AW_getR (a := wcl k + 5) dX10_finish_13 gfX10_24 (hS.wc hk) (by rw [hS.wr hk 4 (by decide)]) ?_
      refine AW_iload_n dX10_finish_16 rfl ?_
      refine AW_iald dX10_finish_17 (hS.wl5 hk) (by omega) (by omega) ?_
      refine AW_goto (tgt := 22) dX10_finish_18 (by decide) ?_
      refine AW_iret dX10_finish_22 rfl ?_
      refine ⟨rfl, ?_⟩
      rw [show i0.toNat = i by omega]
      have q := hW.2.2.2.2.1 i hi
      first | rw [q.2.1] | rw [q.2.2.1] | rw [q.2.2.2]
theorem k_wystep {G : Gt} {d : Nat} {σ : St} {k : Nat} {W : Wy} (hS : Sta σ) (hk : k < 6) (hW : WyC σ k W) (i0 : Int) (i : Nat) (e : i0 = i) (hi : i < W.2.2.1) : AM mX10_step G d 0 0 [vR (wcl k), vI i0] σ (fun r τ => τ = σ ∧ r = some (vI (W.2.2.2 i))) := by
  have h12 := hW.2.1
  have h40 := hW.2.2.2.1
  refine AM.intro (by decide +kernel) (by simp [nLg]) (Nat.le_of_ble_eq_true rfl) (fun hO => ?_)
  show AW _ _ _ _ _ _ 0 [some (vR (wcl k)), some (vI i0)] [] σ
  refine AW_iload_n dX10_step_0 rfl ?_
  refine AW_if_lt (tgt := 21) dX10_step_1 (by decide) (fun c_1 => ?_) (fun c_1 => ?_)
  · skip
    exact absurd c_1 (by omega)
  · skip
    refine AW_iload_n dX10_step_4 rfl ?_
    refine AW_aload_n dX10_step_5 rfl ?_
    refine AW_getI dX10_step_6 gfX10_31 (hS.wc hk) ?_
    refine AW_icmp_ge (tgt := 21) dX10_step_9 (by decide) (fun c_9 => ?_) (fun c_9 => ?_)
    · skip
      rw [hW.2.2.1] at c_9
      exact absurd c_9 (by omega)
    · skip
      rw [hW.2.2.1] at c_9
      refine AW_aload_n dX10_step_12 rfl ?_
      refine AW_getR (a := wcl k + 1) dX10_step_13 gfX10_9 (hS.wc hk) (by rw [hS.wr hk 0 (by decide)]) ?_
      refine AW_iload_n dX10_step_16 rfl ?_
      refine AW_iald dX10_step_17 (hS.wa hk) (by omega) (by omega) ?_
      refine AW_goto (tgt := 22) dX10_step_18 (by decide) ?_
      refine AW_iret dX10_step_22 rfl ?_
      refine ⟨rfl, ?_⟩
      rw [show i0.toNat = i by omega, hW.2.2.2.2.2 i hi]
theorem k_wybeg {G : Gt} {d : Nat} {σ : St} {k : Nat} {W : Wy} (hS : Sta σ) (hk : k < 6) (hW : WyC σ k W) (i0 h : Int) (i : Nat) (e : i0 = i) (hi : i < W.1) : AM mX10_begins G d 0 0 [vR (wcl k), vI i0, vI h] σ (fun r τ => τ = σ ∧ r = some (vI (if W.2.1 0 i = h then 1 else 0))) := by
  have h12 := hW.2.1
  have q := hW.2.2.2.2.1 i hi
  refine AM.intro (by decide +kernel) (by simp [nLg]) (Nat.le_of_ble_eq_true rfl) (fun hO => ?_)
  show AW _ _ _ _ _ _ 0 [some (vR (wcl k)), some (vI i0), some (vI h)] [] σ
  refine AW_iload_n dX10_begins_0 rfl ?_
  refine AW_if_lt (tgt := 26) dX10_begins_1 (by decide) (fun c_1 => ?_) (fun c_1 => ?_)
  · skip
    exact absurd c_1 (by omega)
  · skip
    refine AW_iload_n dX10_begins_4 rfl ?_
    refine AW_aload_n dX10_begins_5 rfl ?_
    refine AW_getI dX10_begins_6 gfX10_27 (hS.wc hk) ?_
    refine AW_icmp_ge (tgt := 26) dX10_begins_9 (by decide) (fun c_9 => ?_) (fun c_9 => ?_)
    · skip
      rw [hW.1] at c_9
      exact absurd c_9 (by omega)
    · skip
      rw [hW.1] at c_9
      refine AW_aload_n dX10_begins_12 rfl ?_
      refine AW_getR (a := wcl k + 2) dX10_begins_13 gfX10_15 (hS.wc hk) (by rw [hS.wr hk 1 (by decide)]) ?_
      refine AW_iload_n dX10_begins_16 rfl ?_
      refine AW_iald dX10_begins_17 (hS.wl2 hk) (by omega) (by omega) ?_
      refine AW_iload_n dX10_begins_18 rfl ?_
      refine AW_icmp_ne (tgt := 26) dX10_begins_19 (by decide) (fun c_19 => ?_) (fun c_19 => ?_)
      · skip
        rw [show i0.toNat = i by omega, q.1] at c_19
        refine AW_iconst dX10_begins_26 ?_
        refine AW_zret dX10_begins_27 rfl (by decide) ?_
        refine ⟨rfl, ?_⟩
        first | rw [if_pos (by omega)] | rw [if_neg (by omega)]
      · skip
        rw [show i0.toNat = i by omega, q.1] at c_19
        refine AW_iconst dX10_begins_22 ?_
        refine AW_goto (tgt := 27) dX10_begins_23 (by decide) ?_
        refine AW_zret dX10_begins_27 rfl (by decide) ?_
        refine ⟨rfl, ?_⟩
        first | rw [if_pos (by omega)] | rw [if_neg (by omega)]
theorem k_wyn {G : Gt} {d : Nat} {σ : St} {k : Nat} {W : Wy} (hS : Sta σ) (hk : k < 6) (hW : WyC σ k W) : AM mX10_lines G d 0 0 [vR (wcl k)] σ (fun r τ => τ = σ ∧ r = some (vI (W.1 : Int))) := by
  refine AM.intro (by decide +kernel) (by simp [nLg]) (Nat.le_of_ble_eq_true rfl) (fun hO => ?_)
  show AW _ _ _ _ _ _ 0 [some (vR (wcl k))] [] σ
  refine AW_aload_n dX10_lines_0 rfl ?_
  refine AW_getI dX10_lines_1 gfX10_27 (hS.wc hk) ?_
  refine AW_iret dX10_lines_4 rfl ?_
  exact ⟨rfl, by rw [hW.1]⟩
theorem k_join {G : Gt} {d : Nat} {σ : St}   (x a b : Int) (h1 : -16 ≤ x) (h2 : x < -7) (h3 : x = -11 → b ≠ 0) (h4 : x < -14 → (a = 0 ∨ a = 1) ∧ (b = 0 ∨ b = 1)) : AM mX2_join G d 0 0 [vI x, vI a, vI b] σ (fun r τ => τ = σ ∧ r = some (vI (jop x a b))) := by
  refine AM.intro (by decide +kernel) (by simp [nLg]) (Nat.le_of_ble_eq_true rfl) (fun hO => ?_)
  have i_x : -2147483648 ≤ x ∧ x < 2147483648 := hO (vI x) (by simp)
  have i_a : -2147483648 ≤ a ∧ a < 2147483648 := hO (vI a) (by simp)
  have i_b : -2147483648 ≤ b ∧ b < 2147483648 := hO (vI b) (by simp)
  show AW _ _ _ _ _ _ 0 [some (vI x), some (vI a), some (vI b)] [] σ
  refine AW_iload_n dX2_join_0 rfl ?_
  refine (Classical.em (x = (-15))).elim (fun c_1_m15 => ?_) (fun c_1_m15 => ?_)
  · skip
    refine AW_tableIn (off := 104) (tgt := 105) dX2_join_1 (by rw [c_1_m15]; decide) (by rw [c_1_m15]; decide) (by rw [c_1_m15]; rfl) (by decide) ?_
    refine AW_iload_n dX2_join_105 rfl ?_
    refine AW_iload_n dX2_join_106 rfl ?_
    refine AW_iand dX2_join_107 ?_
    refine AW_iret dX2_join_108 rfl ?_
    refine ⟨rfl, ?_⟩
    rw [c_1_m15, jop_15]
    obtain ⟨ha, hb⟩ := h4 (by omega)
    rcases ha with rfl | rfl <;> rcases hb with rfl | rfl <;> decide +kernel
  refine (Classical.em (x = (-14))).elim (fun c_1_m14 => ?_) (fun c_1_m14 => ?_)
  · skip
    refine AW_tableIn (off := 93) (tgt := 94) dX2_join_1 (by rw [c_1_m14]; decide) (by rw [c_1_m14]; decide) (by rw [c_1_m14]; rfl) (by decide) ?_
    refine AW_iload_n dX2_join_94 rfl ?_
    refine AW_iload_n dX2_join_95 rfl ?_
    refine AW_icmp_le (tgt := 103) dX2_join_96 (by decide) (fun c_96 => ?_) (fun c_96 => ?_)
    · skip
      refine AW_iconst dX2_join_103 ?_
      refine AW_iret dX2_join_104 rfl ?_
      refine ⟨rfl, ?_⟩
      rw [c_1_m14, jop_14]
      first | rw [if_pos (by omega)] | rw [if_neg (by omega)]
    · skip
      refine AW_iconst dX2_join_99 ?_
      refine AW_goto (tgt := 104) dX2_join_100 (by decide) ?_
      refine AW_iret dX2_join_104 rfl ?_
      refine ⟨rfl, ?_⟩
      rw [c_1_m14, jop_14]
      first | rw [if_pos (by omega)] | rw [if_neg (by omega)]
  refine (Classical.em (x = (-13))).elim (fun c_1_m13 => ?_) (fun c_1_m13 => ?_)
  · skip
    refine AW_tableIn (off := 82) (tgt := 83) dX2_join_1 (by rw [c_1_m13]; decide) (by rw [c_1_m13]; decide) (by rw [c_1_m13]; rfl) (by decide) ?_
    refine AW_iload_n dX2_join_83 rfl ?_
    refine AW_iload_n dX2_join_84 rfl ?_
    refine AW_icmp_ne (tgt := 92) dX2_join_85 (by decide) (fun c_85 => ?_) (fun c_85 => ?_)
    · skip
      refine AW_iconst dX2_join_92 ?_
      refine AW_iret dX2_join_93 rfl ?_
      refine ⟨rfl, ?_⟩
      rw [c_1_m13, jop_13]
      first | rw [if_pos (by omega)] | rw [if_neg (by omega)]
    · skip
      refine AW_iconst dX2_join_88 ?_
      refine AW_goto (tgt := 93) dX2_join_89 (by decide) ?_
      refine AW_iret dX2_join_93 rfl ?_
      refine ⟨rfl, ?_⟩
      rw [c_1_m13, jop_13]
      first | rw [if_pos (by omega)] | rw [if_neg (by omega)]
  refine (Classical.em (x = (-12))).elim (fun c_1_m12 => ?_) (fun c_1_m12 => ?_)
  · skip
    refine AW_tableIn (off := 71) (tgt := 72) dX2_join_1 (by rw [c_1_m12]; decide) (by rw [c_1_m12]; decide) (by rw [c_1_m12]; rfl) (by decide) ?_
    refine AW_iload_n dX2_join_72 rfl ?_
    refine AW_iload_n dX2_join_73 rfl ?_
    refine AW_icmp_ge (tgt := 81) dX2_join_74 (by decide) (fun c_74 => ?_) (fun c_74 => ?_)
    · skip
      refine AW_iconst dX2_join_81 ?_
      refine AW_iret dX2_join_82 rfl ?_
      refine ⟨rfl, ?_⟩
      rw [c_1_m12, jop_12]
      first | rw [if_pos (by omega)] | rw [if_neg (by omega)]
    · skip
      refine AW_iconst dX2_join_77 ?_
      refine AW_goto (tgt := 82) dX2_join_78 (by decide) ?_
      refine AW_iret dX2_join_82 rfl ?_
      refine ⟨rfl, ?_⟩
      rw [c_1_m12, jop_12]
      first | rw [if_pos (by omega)] | rw [if_neg (by omega)]
  refine (Classical.em (x = (-11))).elim (fun c_1_m11 => ?_) (fun c_1_m11 => ?_)
  · skip
    refine AW_tableIn (off := 59) (tgt := 60) dX2_join_1 (by rw [c_1_m11]; decide) (by rw [c_1_m11]; decide) (by rw [c_1_m11]; rfl) (by decide) ?_
    refine AW_iload_n dX2_join_60 rfl ?_
    refine AW_if_ne (tgt := 68) dX2_join_61 (by decide) (fun c_61 => ?_) (fun c_61 => ?_)
    · skip
      refine AW_iload_n dX2_join_68 rfl ?_
      refine AW_iload_n dX2_join_69 rfl ?_
      refine AW_idiv dX2_join_70 c_61 ?_
      refine AW_iret dX2_join_71 rfl ?_
      refine ⟨rfl, ?_⟩
      rw [c_1_m11, jop_11]
    · skip
      exact absurd c_61 (h3 c_1_m11)
  refine (Classical.em (x = (-10))).elim (fun c_1_m10 => ?_) (fun c_1_m10 => ?_)
  · skip
    refine AW_tableIn (off := 55) (tgt := 56) dX2_join_1 (by rw [c_1_m10]; decide) (by rw [c_1_m10]; decide) (by rw [c_1_m10]; rfl) (by decide) ?_
    refine AW_iload_n dX2_join_56 rfl ?_
    refine AW_iload_n dX2_join_57 rfl ?_
    refine AW_imul dX2_join_58 ?_
    refine AW_iret dX2_join_59 rfl ?_
    refine ⟨rfl, ?_⟩
    rw [c_1_m10, jop_10]
  refine (Classical.em (x = (-9))).elim (fun c_1_m9 => ?_) (fun c_1_m9 => ?_)
  · skip
    refine AW_tableIn (off := 51) (tgt := 52) dX2_join_1 (by rw [c_1_m9]; decide) (by rw [c_1_m9]; decide) (by rw [c_1_m9]; rfl) (by decide) ?_
    refine AW_iload_n dX2_join_52 rfl ?_
    refine AW_iload_n dX2_join_53 rfl ?_
    refine AW_isub dX2_join_54 ?_
    refine AW_iret dX2_join_55 rfl ?_
    refine ⟨rfl, ?_⟩
    rw [c_1_m9, jop_9]
  refine (Classical.em (x = (-8))).elim (fun c_1_m8 => ?_) (fun c_1_m8 => ?_)
  · skip
    refine AW_tableIn (off := 47) (tgt := 48) dX2_join_1 (by rw [c_1_m8]; decide) (by rw [c_1_m8]; decide) (by rw [c_1_m8]; rfl) (by decide) ?_
    refine AW_iload_n dX2_join_48 rfl ?_
    refine AW_iload_n dX2_join_49 rfl ?_
    refine AW_iadd dX2_join_50 ?_
    refine AW_iret dX2_join_51 rfl ?_
    refine ⟨rfl, ?_⟩
    rw [c_1_m8, jop_8]
  refine AW_tableOut (tgt := 109) dX2_join_1 (by omega) (by decide) ?_
  refine AW_iload_n dX2_join_109 rfl ?_
  refine AW_iload_n dX2_join_110 rfl ?_
  refine AW_ior dX2_join_111 ?_
  refine AW_iret dX2_join_112 rfl ?_
  refine ⟨rfl, ?_⟩
  rw [jop_16 (by omega)]
  obtain ⟨ha, hb⟩ := h4 (by omega)
  rcases ha with rfl | rfl <;> rcases hb with rfl | rfl <;> decide +kernel
theorem l_run {G : Gt} {d : Nat} {σ : St} {k b t : Nat} {W : Wy} {f : Nat → Int} {v : Int} {x2 : Option AV} (hd : 1 ≤ d) (hk : k < 6) (hS0 : Sta σ) (hW : WyC σ k W) (hf : ∀ i, i < 7 → σ.2.1 43 i = f i) (hb : b ≤ W.2.2.1) : ∀ (nn : Nat) (m i : Nat) (s : List Int) (ts : List Nat) (x6 : Option AV) (tp : Int) (τ : St), m < nn → i + m = b → tp = (s.length : Int) → okT s ts → ts.length ≤ 32 → trun W.2.2.2 i m ts = some [t] → jrun f W.2.2.2 i m s = [v] → Sk τ 44 s → Fr [44] σ τ →  AW mX2_run G d 0 0 (mq G (fun ro ρ => ro = some (vI v) ∧ Fr [44] σ ρ)) 6 [some (vR 42), some (vR (wcl k)), x2, some (vI (b : Int)), some (vI tp), some (vI (i : Int)), x6] [] τ := by
  intro nn
  induction nn with
  | zero => intros; omega
  | succ nn ih =>
    intro m i s ts x6 tp τ hn hi htp hok hl ht hj hSk hF
    have hS := hF.sta hS0
    have hb0 := wcl_b hk
    have h400 := hW.2.2.2.1
    have hW1 : WyC τ k W := hW.fr hF (fun r h1 h2 => by simp; omega)
    have hsl := okT_len s ts hok
    have htn : tp.toNat = s.length := by omega
    refine AW_iload dX2_run_6 rfl ?_
    refine AW_iload_n dX2_run_8 rfl ?_
    refine AW_icmp_ge (tgt := 150) dX2_run_9 (by decide) (fun c_9 => ?_) (fun c_9 => ?_)
    · skip
      have hm : m = 0 := by omega
      subst hm
      rw [trun_0] at ht
      cases ht
      rw [jrun_0] at hj
      subst hj
      have hv0 : τ.2.1 44 0 = v := hSk.1
      refine AW_aload_n dX2_run_150 rfl ?_
      refine AW_getR (a := 44) dX2_run_151 gfX2_17 (hS.cel rfl) (hS.rf rfl) ?_
      refine AW_iconst dX2_run_154 ?_
      refine AW_ialdK 0 dX2_run_155 (hS.cel rfl) (by decide) ?_
      refine AW_iret dX2_run_156 rfl ?_
      exact ⟨by rw [hv0], hF⟩
    · skip
      obtain ⟨m1, rfl⟩ : ∃ m1, m = m1 + 1 := ⟨m - 1, by omega⟩
      obtain ⟨ts2, e1, e2, e3⟩ := trun_inv ht
      have ok2 := okT_step (f := f) hok e1
      rw [jrun_s] at hj
      refine AW_aload_n dX2_run_12 rfl ?_
      refine AW_iload dX2_run_13 rfl ?_
      refine AW_callV1 (d' := d - 1) dX2_run_15 (Or.inl lkX2_42) mfX10_step (hS.wc hk) ⟨_, rfl, rfl⟩ (k_wystep hS hk hW1 _ i rfl (by omega)) (by omega) (Nat.le_of_ble_eq_true rfl) ?_
      rintro _ _ ⟨e_, rfl⟩ -
      rw [e_]
      clear e_
      generalize W.2.2.2 i = x at e1 ok2 hj ⊢
      refine AW_istore6 dX2_run_18 ?_
      refine AW_iload dX2_run_20 rfl ?_
      refine AW_bipush dX2_run_22 ?_
      refine AW_icmp_lt (tgt := 69) dX2_run_24 (by decide) (fun c_24 => ?_) (fun c_24 => ?_)
      · skip
        refine AW_iload dX2_run_69 rfl ?_
        refine AW_bipush dX2_run_71 ?_
        refine AW_icmp_ne (tgt := 105) dX2_run_73 (by decide) (fun c_73 => ?_) (fun c_73 => ?_)
        · skip
          have P4 := c_73
          obtain ⟨h16, b2, a2, u, t2, rfl, rfl, q1, q2, q3, q4⟩ := ts_bin (by omega) c_73 e1
          obtain ⟨vb, va, s2, rfl⟩ := okT_cons2 hok
          have hvb : τ.2.1 44 (s2.length + 1) = vb := hSk.1
          have hva : τ.2.1 44 s2.length = va := hSk.2.1
          have htp2 : tp = (s2.length : Int) + 2 := by rw [htp]; simp; omega
          have hs1 : s2.length + 2 ≤ 32 := by simp at hsl hl; omega
          refine AW_iload dX2_run_105 rfl ?_
          refine AW_iconst dX2_run_107 ?_
          refine AW_icmp_lt (tgt := 144) dX2_run_108 (by decide) (fun c_108 => ?_) (fun c_108 => ?_)
          · skip
            exact absurd c_108 (by omega)
          · skip
            refine AW_iincE4 dX2_run_111 (by omega) (by omega) ?_
            refine AW_aload_n dX2_run_114 rfl ?_
            refine AW_getR (a := 44) dX2_run_115 gfX2_17 (hS.cel rfl) (hS.rf rfl) ?_
            refine AW_iload dX2_run_118 rfl ?_
            refine AW_iconst dX2_run_120 ?_
            refine AW_isubE dX2_run_121 (by omega) (by omega) ?_
            refine AW_iload dX2_run_122 rfl ?_
            refine AW_aload_n dX2_run_124 rfl ?_
            refine AW_getR (a := 44) dX2_run_125 gfX2_17 (hS.cel rfl) (hS.rf rfl) ?_
            refine AW_iload dX2_run_128 rfl ?_
            refine AW_iconst dX2_run_130 ?_
            refine AW_isubE dX2_run_131 (by omega) (by omega) ?_
            refine AW_iald dX2_run_132 (hS.cel rfl) (by omega) (by omega) ?_
            refine AW_aload_n dX2_run_133 rfl ?_
            refine AW_getR (a := 44) dX2_run_134 gfX2_17 (hS.cel rfl) (hS.rf rfl) ?_
            refine AW_iload dX2_run_137 rfl ?_
            refine AW_iald dX2_run_139 (hS.cel rfl) (by omega) (by omega) ?_
            rw [show (tp + -1 - 1).toNat = s2.length by omega, show (tp + -1).toNat = s2.length + 1 by omega, hva, hvb]
            refine AW_callS3 (d' := d - 1) dX2_run_140 lkX2_45 mfX2_join (k_join x va vb (by omega) (by omega) (fun q => hok.2.1 (q1 q)) (fun q => ⟨hok.2.2.1 (q2 q).2, hok.1 (q2 q).1⟩)) (by omega) (Nat.le_of_ble_eq_true rfl) ?_
            rintro _ _ ⟨e_, rfl⟩ -
            rw [e_]
            clear e_
            refine AW_iast dX2_run_143 (hS.cel rfl) (by omega) (by omega) ?_
            refine AW_iincE5 dX2_run_144 (by omega) (by omega) ?_
            refine AW_goto (tgt := 6) dX2_run_147 (by decide) ?_
            rw [show (i : Int) + 1 = ((i + 1 : Nat) : Int) by omega]
            first
            | (have P := P1
               rw [js_num f (by omega)] at ok2 hj
               rw [htn]
               exact ih m1 (i + 1) (x :: s) ts2 _ _ _ (by omega) (by omega) (by simp; omega) ok2 e2 e3 hj ⟨up_at _ _ _ _, Sk.up _ _ _ (Nat.le_refl _) hSk⟩ (hF.up (by decide) _ _))
            | (have P := P2
               rw [js_fact f (by omega) (by omega)] at ok2 hj
               rw [htn, hF.iv 43 _, hf _ (by omega)]
               exact ih m1 (i + 1) (f (-1 - x).toNat :: s) ts2 _ _ _ (by omega) (by omega) (by simp; omega) ok2 e2 e3 hj ⟨up_at _ _ _ _, Sk.up _ _ _ (Nat.le_refl _) hSk⟩ (hF.up (by decide) _ _))
            | (have P := P3
               rw [js_not] at ok2 hj
               rw [ht1, hvb]
               exact ih m1 (i + 1) ((1 - vb) :: s1) _ _ _ _ (by omega) (by omega) (by simp; omega) ok2 e2 e3 hj ⟨up_at _ _ _ _, Sk.up _ _ _ (Nat.le_refl _) hSk.2⟩ (hF.up (by decide) _ _))
            | (have P := P4
               rw [js_bin f (by omega) c_73] at ok2 hj
               rw [show (tp + -1 - 1).toNat = s2.length by omega]
               exact ih m1 (i + 1) (jop x va vb :: s2) _ _ _ _ (by omega) (by omega) (by simp; omega) ok2 e2 e3 hj ⟨up_at _ _ _ _, Sk.up _ _ _ (Nat.le_refl _) hSk.2.2⟩ (hF.up (by decide) _ _))
        · skip
          have P3 := c_73
          have hx17 : x = -17 := by omega
          subst hx17
          obtain ⟨u, rfl, rfl⟩ := ts_17 e1
          obtain ⟨vb, s1, rfl⟩ := okT_cons hok
          have hvb : τ.2.1 44 s1.length = vb := hSk.1
          have hb01 := hok.1 rfl
          have htp2 : tp = (s1.length : Int) + 1 := by rw [htp]; simp
          have hs1 : s1.length + 1 ≤ 32 := by simp at hsl hl; omega
          have ht1 : (tp - 1).toNat = s1.length := by omega
          refine AW_iload dX2_run_76 rfl ?_
          refine AW_iconst dX2_run_78 ?_
          refine AW_icmp_lt (tgt := 144) dX2_run_79 (by decide) (fun c_79 => ?_) (fun c_79 => ?_)
          · skip
            exact absurd c_79 (by omega)
          · skip
            refine AW_aload_n dX2_run_82 rfl ?_
            refine AW_getR (a := 44) dX2_run_83 gfX2_17 (hS.cel rfl) (hS.rf rfl) ?_
            refine AW_iload dX2_run_86 rfl ?_
            refine AW_iconst dX2_run_88 ?_
            refine AW_isubE dX2_run_89 (by omega) (by omega) ?_
            refine AW_iconst dX2_run_90 ?_
            refine AW_aload_n dX2_run_91 rfl ?_
            refine AW_getR (a := 44) dX2_run_92 gfX2_17 (hS.cel rfl) (hS.rf rfl) ?_
            refine AW_iload dX2_run_95 rfl ?_
            refine AW_iconst dX2_run_97 ?_
            refine AW_isubE dX2_run_98 (by omega) (by omega) ?_
            refine AW_iald dX2_run_99 (hS.cel rfl) (by omega) (by omega) ?_
            refine AW_isubE dX2_run_100 (by rw [ht1, hvb]; omega) (by rw [ht1, hvb]; omega) ?_
            refine AW_iast dX2_run_101 (hS.cel rfl) (by omega) (by omega) ?_
            refine AW_goto (tgt := 144) dX2_run_102 (by decide) ?_
            refine AW_iincE5 dX2_run_144 (by omega) (by omega) ?_
            refine AW_goto (tgt := 6) dX2_run_147 (by decide) ?_
            rw [show (i : Int) + 1 = ((i + 1 : Nat) : Int) by omega]
            first
            | (have P := P1
               rw [js_num f (by omega)] at ok2 hj
               rw [htn]
               exact ih m1 (i + 1) (x :: s) ts2 _ _ _ (by omega) (by omega) (by simp; omega) ok2 e2 e3 hj ⟨up_at _ _ _ _, Sk.up _ _ _ (Nat.le_refl _) hSk⟩ (hF.up (by decide) _ _))
            | (have P := P2
               rw [js_fact f (by omega) (by omega)] at ok2 hj
               rw [htn, hF.iv 43 _, hf _ (by omega)]
               exact ih m1 (i + 1) (f (-1 - x).toNat :: s) ts2 _ _ _ (by omega) (by omega) (by simp; omega) ok2 e2 e3 hj ⟨up_at _ _ _ _, Sk.up _ _ _ (Nat.le_refl _) hSk⟩ (hF.up (by decide) _ _))
            | (have P := P3
               rw [js_not] at ok2 hj
               rw [ht1, hvb]
               exact ih m1 (i + 1) ((1 - vb) :: s1) _ _ _ _ (by omega) (by omega) (by simp; omega) ok2 e2 e3 hj ⟨up_at _ _ _ _, Sk.up _ _ _ (Nat.le_refl _) hSk.2⟩ (hF.up (by decide) _ _))
            | (have P := P4
               rw [js_bin f (by omega) c_73] at ok2 hj
               rw [show (tp + -1 - 1).toNat = s2.length by omega]
               exact ih m1 (i + 1) (jop x va vb :: s2) _ _ _ _ (by omega) (by omega) (by simp; omega) ok2 e2 e3 hj ⟨up_at _ _ _ _, Sk.up _ _ _ (Nat.le_refl _) hSk.2.2⟩ (hF.up (by decide) _ _))
      · skip
        obtain ⟨t2, _, _, ets⟩ := ts_push (by omega) e1
        have hlt : ts.length < 32 := by rw [ets] at e2; simp at e2; omega
        refine AW_iload dX2_run_27 rfl ?_
        refine AW_aload_n dX2_run_29 rfl ?_
        refine AW_getR (a := 44) dX2_run_30 gfX2_17 (hS.cel rfl) (hS.rf rfl) ?_
        refine AW_alen dX2_run_33 (hS.cel rfl) (by decide) (by decide) ?_
        refine AW_icmp_ge (tgt := 144) dX2_run_34 (by decide) (fun c_34 => ?_) (fun c_34 => ?_)
        · skip
          exact absurd c_34 (by omega)
        · skip
          refine AW_aload_n dX2_run_37 rfl ?_
          refine AW_getR (a := 44) dX2_run_38 gfX2_17 (hS.cel rfl) (hS.rf rfl) ?_
          refine AW_iload dX2_run_41 rfl ?_
          refine AW_iload dX2_run_43 rfl ?_
          refine AW_if_lt (tgt := 53) dX2_run_45 (by decide) (fun c_45 => ?_) (fun c_45 => ?_)
          · skip
            have P2 := c_45
            refine AW_aload_n dX2_run_53 rfl ?_
            refine AW_getR (a := 43) dX2_run_54 gfX2_11 (hS.cel rfl) (hS.rf rfl) ?_
            refine AW_iconst dX2_run_57 ?_
            refine AW_iload dX2_run_58 rfl ?_
            refine AW_isubE dX2_run_60 (by omega) (by omega) ?_
            refine AW_iald dX2_run_61 (hS.cel rfl) (by omega) (by omega) ?_
            refine AW_iast dX2_run_62 (hS.cel rfl) (by omega) (by omega) ?_
            refine AW_iincE4 dX2_run_63 (by omega) (by omega) ?_
            refine AW_goto (tgt := 144) dX2_run_66 (by decide) ?_
            refine AW_iincE5 dX2_run_144 (by omega) (by omega) ?_
            refine AW_goto (tgt := 6) dX2_run_147 (by decide) ?_
            rw [show (i : Int) + 1 = ((i + 1 : Nat) : Int) by omega]
            first
            | (have P := P1
               rw [js_num f (by omega)] at ok2 hj
               rw [htn]
               exact ih m1 (i + 1) (x :: s) ts2 _ _ _ (by omega) (by omega) (by simp; omega) ok2 e2 e3 hj ⟨up_at _ _ _ _, Sk.up _ _ _ (Nat.le_refl _) hSk⟩ (hF.up (by decide) _ _))
            | (have P := P2
               rw [js_fact f (by omega) (by omega)] at ok2 hj
               rw [htn, hF.iv 43 _, hf _ (by omega)]
               exact ih m1 (i + 1) (f (-1 - x).toNat :: s) ts2 _ _ _ (by omega) (by omega) (by simp; omega) ok2 e2 e3 hj ⟨up_at _ _ _ _, Sk.up _ _ _ (Nat.le_refl _) hSk⟩ (hF.up (by decide) _ _))
            | (have P := P3
               rw [js_not] at ok2 hj
               rw [ht1, hvb]
               exact ih m1 (i + 1) ((1 - vb) :: s1) _ _ _ _ (by omega) (by omega) (by simp; omega) ok2 e2 e3 hj ⟨up_at _ _ _ _, Sk.up _ _ _ (Nat.le_refl _) hSk.2⟩ (hF.up (by decide) _ _))
            | (have P := P4
               rw [js_bin f (by omega) c_73] at ok2 hj
               rw [show (tp + -1 - 1).toNat = s2.length by omega]
               exact ih m1 (i + 1) (jop x va vb :: s2) _ _ _ _ (by omega) (by omega) (by simp; omega) ok2 e2 e3 hj ⟨up_at _ _ _ _, Sk.up _ _ _ (Nat.le_refl _) hSk.2.2⟩ (hF.up (by decide) _ _))
          · skip
            have P1 := c_45
            refine AW_iload dX2_run_48 rfl ?_
            refine AW_goto (tgt := 62) dX2_run_50 (by decide) ?_
            refine AW_iast dX2_run_62 (hS.cel rfl) (by omega) (by omega) ?_
            refine AW_iincE4 dX2_run_63 (by omega) (by omega) ?_
            refine AW_goto (tgt := 144) dX2_run_66 (by decide) ?_
            refine AW_iincE5 dX2_run_144 (by omega) (by omega) ?_
            refine AW_goto (tgt := 6) dX2_run_147 (by decide) ?_
            rw [show (i : Int) + 1 = ((i + 1 : Nat) : Int) by omega]
            first
            | (have P := P1
               rw [js_num f (by omega)] at ok2 hj
               rw [htn]
               exact ih m1 (i + 1) (x :: s) ts2 _ _ _ (by omega) (by omega) (by simp; omega) ok2 e2 e3 hj ⟨up_at _ _ _ _, Sk.up _ _ _ (Nat.le_refl _) hSk⟩ (hF.up (by decide) _ _))
            | (have P := P2
               rw [js_fact f (by omega) (by omega)] at ok2 hj
               rw [htn, hF.iv 43 _, hf _ (by omega)]
               exact ih m1 (i + 1) (f (-1 - x).toNat :: s) ts2 _ _ _ (by omega) (by omega) (by simp; omega) ok2 e2 e3 hj ⟨up_at _ _ _ _, Sk.up _ _ _ (Nat.le_refl _) hSk⟩ (hF.up (by decide) _ _))
            | (have P := P3
               rw [js_not] at ok2 hj
               rw [ht1, hvb]
               exact ih m1 (i + 1) ((1 - vb) :: s1) _ _ _ _ (by omega) (by omega) (by simp; omega) ok2 e2 e3 hj ⟨up_at _ _ _ _, Sk.up _ _ _ (Nat.le_refl _) hSk.2⟩ (hF.up (by decide) _ _))
            | (have P := P4
               rw [js_bin f (by omega) c_73] at ok2 hj
               rw [show (tp + -1 - 1).toNat = s2.length by omega]
               exact ih m1 (i + 1) (jop x va vb :: s2) _ _ _ _ (by omega) (by omega) (by simp; omega) ok2 e2 e3 hj ⟨up_at _ _ _ _, Sk.up _ _ _ (Nat.le_refl _) hSk.2.2⟩ (hF.up (by decide) _ _))
theorem k_run {G : Gt} {d : Nat} {σ : St} {k a n t : Nat} {W : Wy} {f : Nat → Int} (hd : 1 ≤ d) (hk : k < 6) (hS : Sta σ) (hW : WyC σ k W) (hf : ∀ i, i < 7 → σ.2.1 43 i = f i) (hb : a + n ≤ W.2.2.1) (ht : trun W.2.2.2 a n [] = some [t]) (a0 b0 : Int) (e1 : a0 = a) (e2 : b0 = ((a + n : Nat) : Int)) : AM mX2_run G d 0 0 [vR 42, vR (wcl k), vI a0, vI b0] σ (fun ro ρ => ro = some (vI (jval f W.2.2.2 a0 b0)) ∧ Fr [44] σ ρ) := by
  have hj := jval_ok (f := f) ht e1 e2
  subst e1
  subst e2
  refine AM.intro (by decide +kernel) (by simp [nLg]) (Nat.le_of_ble_eq_true rfl) (fun hO => ?_)
  show AW _ _ _ _ _ _ 0 [some (vR 42), some (vR (wcl k)), some (vI (a : Int)), some (vI ((a + n : Nat) : Int)), none, none, none] [] σ
  refine AW_iconst dX2_run_0 ?_
  refine AW_istore4 dX2_run_1 ?_
  refine AW_iload_n dX2_run_3 rfl ?_
  refine AW_istore5 dX2_run_4 ?_
  exact l_run (t := t) hd hk hS hW hf hb (n + 1) n a [] [] none 0 σ (by omega) rfl rfl trivial (by decide) ht hj trivial Fr.rf
abbrev jhit (f : Nat → Int) (W : Wy) (h : Int) (l : Nat) : Prop := W.2.1 0 l = h ∧ (W.2.1 2 l = W.2.1 3 l ∨ jval f W.2.2.2 (W.2.1 2 l) (W.2.1 3 l) ≠ 0)
/-- the first line of n from l on with this head whose B is so -/
def jfind (f : Nat → Int) (W : Wy) (h : Int) : Nat → Nat → Option Nat
  | 0, _ => none
  | n + 1, l => if jhit f W h l then some l else jfind f W h n (l + 1)
theorem jfind_0 (f : Nat → Int) (W : Wy) (h : Int) (l : Nat) : jfind f W h 0 l = none := rfl
theorem jfind_s (f : Nat → Int) (W : Wy) (h : Int) (n l : Nat) : jfind f W h (n + 1) l = if jhit f W h l then some l else jfind f W h n (l + 1) := rfl
def onI (T : Option Nat) : Int := match T with
  | none => -1
  | some q => (q : Int)
theorem jfind_lt {f : Nat → Int} {W : Wy} {h : Int} : ∀ (n l q : Nat), jfind f W h n l = some q → l ≤ q ∧ q < l + n := by
  intro n
  induction n with
  | zero => intro l q e; cases e
  | succ n ih =>
    intro l q e
    rw [jfind_s] at e
    split at e
    · cases e; omega
    · have := ih _ _ e; omega
/-- what one says by a WAY: the E of the first line of that head whose B is so -/
def jsay (f : Nat → Int) (W : Wy) (h : Int) : Option Int := (jfind f W h W.1 0).map (fun l => jval f W.2.2.2 (W.2.1 1 l) (W.2.1 2 l))
theorem l_line {G : Gt} {d : Nat} {σ : St} {k : Nat} {W : Wy} {f : Nat → Int} {h : Int} {T : Option Nat} (hd : 2 ≤ d) (hk : k < 6) (hS0 : Sta σ) (hW : WyC σ k W) (hO : wyOK W) (hf : ∀ i, i < 7 → σ.2.1 43 i = f i) : ∀ (nn : Nat) (n l : Nat) (x4 x5 : Option AV) (τ : St), n < nn → l + n = W.1 → jfind f W h n l = T → Fr [44] σ τ →  AW mX2_line G d 0 0 (mq G (fun ro ρ => ro = some (vI (onI T)) ∧ Fr [44] σ ρ)) 2 [some (vR 42), some (vR (wcl k)), some (vI h), some (vI (l : Int)), x4, x5] [] τ := by
  intro nn
  induction nn with
  | zero => intros; omega
  | succ nn ih =>
    intro n l x4 x5 τ hn hl hT hF
    have hS := hF.sta hS0
    have hb0 := wcl_b hk
    have h12 := hW.2.1
    have hW1 : WyC τ k W := hW.fr hF (fun r h1 h2 => by simp; omega)
    refine AW_iload_n dX2_line_2 rfl ?_
    refine AW_aload_n dX2_line_3 rfl ?_
    refine AW_callV0 (d' := d - 1) dX2_line_4 (Or.inl lkX2_20) mfX10_lines (hS.wc hk) ⟨_, rfl, rfl⟩ (k_wyn hS hk hW1) (by omega) (Nat.le_of_ble_eq_true rfl) ?_
    rintro _ _ ⟨e_, rfl⟩ -
    rw [e_]
    clear e_
    refine AW_icmp_ge (tgt := 60) dX2_line_7 (by decide) (fun c_7 => ?_) (fun c_7 => ?_)
    · skip
      have hm : n = 0 := by omega
      subst hm
      rw [jfind_0] at hT
      subst hT
      refine AW_iconst dX2_line_60 ?_
      refine AW_iret dX2_line_61 rfl ?_
      exact ⟨rfl, hF⟩
    · skip
      obtain ⟨n1, rfl⟩ : ∃ n1, n = n1 + 1 := ⟨n - 1, by omega⟩
      obtain ⟨_, a, k1, k2, t, g1, g2, g3, g4, g5, g6, hk2⟩ := hO l (by omega)
      rw [jfind_s] at hT
      refine AW_aload_n dX2_line_10 rfl ?_
      refine AW_iload_n dX2_line_11 rfl ?_
      refine AW_iload_n dX2_line_12 rfl ?_
      refine AW_callV2 (d' := d - 1) dX2_line_13 (Or.inl lkX2_24) mfX10_begins (hS.wc hk) ⟨_, rfl, rfl⟩ (k_wybeg hS hk hW1 _ h l rfl (by omega)) (by omega) (Nat.le_of_ble_eq_true rfl) ?_
      rintro _ _ ⟨e_, rfl⟩ -
      rw [e_]
      clear e_
      refine AW_if_eq (tgt := 54) dX2_line_16 (by decide) (fun c_16 => ?_) (fun c_16 => ?_)
      · skip
        replace c_16 := bz0 c_16
        rw [if_neg (fun q => c_16 q.1)] at hT
        have hF1 := hF
        refine AW_iincE3 dX2_line_54 (by omega) (by omega) ?_
        refine AW_goto (tgt := 2) dX2_line_57 (by decide) ?_
        rw [show (l : Int) + 1 = ((l + 1 : Nat) : Int) by omega]
        exact ih n1 (l + 1) _ _ _ (by omega) (by omega) hT hF1
      · skip
        replace c_16 := bz1 c_16
        refine AW_aload_n dX2_line_19 rfl ?_
        refine AW_iload_n dX2_line_20 rfl ?_
        refine AW_callV1 (d' := d - 1) dX2_line_21 (Or.inl lkX2_28) mfX10_middle (hS.wc hk) ⟨_, rfl, rfl⟩ (k_wymid hS hk hW1 _ l rfl (by omega)) (by omega) (Nat.le_of_ble_eq_true rfl) ?_
        rintro _ _ ⟨e_, rfl⟩ -
        rw [e_]
        clear e_
        refine AW_istore4 dX2_line_24 ?_
        refine AW_aload_n dX2_line_26 rfl ?_
        refine AW_iload_n dX2_line_27 rfl ?_
        refine AW_callV1 (d' := d - 1) dX2_line_28 (Or.inl lkX2_32) mfX10_finish (hS.wc hk) ⟨_, rfl, rfl⟩ (k_wyfin hS hk hW1 _ l rfl (by omega)) (by omega) (Nat.le_of_ble_eq_true rfl) ?_
        rintro _ _ ⟨e_, rfl⟩ -
        rw [e_]
        clear e_
        refine AW_istore5 dX2_line_31 ?_
        refine AW_iload dX2_line_33 rfl ?_
        refine AW_iload dX2_line_35 rfl ?_
        refine AW_icmp_eq (tgt := 52) dX2_line_37 (by decide) (fun c_37 => ?_) (fun c_37 => ?_)
        · skip
          rw [if_pos ⟨c_16, Or.inl c_37⟩] at hT
          have hF1 := hF
          refine AW_iload_n dX2_line_52 rfl ?_
          refine AW_iret dX2_line_53 rfl ?_
          subst hT
          exact ⟨rfl, hF1⟩
        · skip
          refine AW_aload_n dX2_line_40 rfl ?_
          refine AW_aload_n dX2_line_41 rfl ?_
          refine AW_iload dX2_line_42 rfl ?_
          refine AW_iload dX2_line_44 rfl ?_
          refine AW_callV3 (d' := d - 1) dX2_line_46 (Or.inl lkX2_35) mfX2_run (hS.cel rfl) ⟨_, rfl, rfl⟩ (k_run (n := k2) (by omega) hk hS hW1 (fun i hi => (hF.iv 43 i).trans (hf i hi)) (by omega) (hk2.resolve_left (by omega)) _ _ g2 g3) (by omega) (Nat.le_of_ble_eq_true rfl) ?_
          rintro _ ρ1 ⟨rfl, hG1⟩ -
          have hF1 := hF.tr hG1
          refine AW_if_eq (tgt := 54) dX2_line_49 (by decide) (fun c_49 => ?_) (fun c_49 => ?_)
          · skip
            rw [if_neg (fun q => q.2.elim c_37 (fun q2 => q2 c_49))] at hT
            refine AW_iincE3 dX2_line_54 (by omega) (by omega) ?_
            refine AW_goto (tgt := 2) dX2_line_57 (by decide) ?_
            rw [show (l : Int) + 1 = ((l + 1 : Nat) : Int) by omega]
            exact ih n1 (l + 1) _ _ _ (by omega) (by omega) hT hF1
          · skip
            rw [if_pos ⟨c_16, Or.inr c_49⟩] at hT
            refine AW_iload_n dX2_line_52 rfl ?_
            refine AW_iret dX2_line_53 rfl ?_
            subst hT
            exact ⟨rfl, hF1⟩
theorem k_line2 {G : Gt} {d : Nat} {σ : St} (hd : 2 ≤ d) {k : Nat} {W : Wy} {f : Nat → Int} (hk : k < 6) (hS : Sta σ) (hW : WyC σ k W) (hO : wyOK W) (hf : ∀ i, i < 7 → σ.2.1 43 i = f i) (h : Int) : AM mX2_line G d 0 0 [vR 42, vR (wcl k), vI h] σ (fun ro ρ => ro = some (vI (onI (jfind f W h W.1 0))) ∧ Fr [44] σ ρ) := by
  refine AM.intro (by decide +kernel) (by simp [nLg]) (Nat.le_of_ble_eq_true rfl) (fun hO2 => ?_)
  show AW _ _ _ _ _ _ 0 [some (vR 42), some (vR (wcl k)), some (vI h), none, none, none] [] σ
  refine AW_iconst dX2_line_0 ?_
  refine AW_istore3 dX2_line_1 ?_
  exact l_line (T := jfind f W h W.1 0) hd hk hS hW hO hf (W.1 + 1) W.1 0 none none σ (by omega) (by omega) rfl Fr.rf
theorem k_value {G : Gt} {d : Nat} {σ : St} (hd : 2 ≤ d) {k : Nat} {W : Wy} {f : Nat → Int} (hk : k < 6) (hS : Sta σ) (hW : WyC σ k W) (hO : wyOK W) (hf : ∀ i, i < 7 → σ.2.1 43 i = f i) (l0 : Int) (l : Nat) (e : l0 = l) (hl : l < W.1) : AM mX2_value G d 0 0 [vR 42, vR (wcl k), vI l0] σ (fun ro ρ => ro = some (vI (jval f W.2.2.2 (W.2.1 1 l) (W.2.1 2 l))) ∧ Fr [44] σ ρ) := by
  obtain ⟨_, a, k1, k2, t, g1, g2, g3, g4, g5, g6, hk2⟩ := hO l hl
  refine AM.intro (by decide +kernel) (by simp [nLg]) (Nat.le_of_ble_eq_true rfl) (fun hO2 => ?_)
  show AW _ _ _ _ _ _ 0 [some (vR 42), some (vR (wcl k)), some (vI l0)] [] σ
  refine AW_aload_n dX2_value_0 rfl ?_
  refine AW_aload_n dX2_value_1 rfl ?_
  refine AW_aload_n dX2_value_2 rfl ?_
  refine AW_iload_n dX2_value_3 rfl ?_
  refine AW_callV1 (d' := d - 1) dX2_value_4 (Or.inl lkX2_39) mfX10_start (hS.wc hk) ⟨_, rfl, rfl⟩ (k_wystart hS hk hW _ l e hl) (by omega) (Nat.le_of_ble_eq_true rfl) ?_
  rintro _ _ ⟨e_, rfl⟩ -
  rw [e_]
  clear e_
  refine AW_aload_n dX2_value_7 rfl ?_
  refine AW_iload_n dX2_value_8 rfl ?_
  refine AW_callV1 (d' := d - 1) dX2_value_9 (Or.inl lkX2_28) mfX10_middle (hS.wc hk) ⟨_, rfl, rfl⟩ (k_wymid hS hk hW _ l e hl) (by omega) (Nat.le_of_ble_eq_true rfl) ?_
  rintro _ _ ⟨e_, rfl⟩ -
  rw [e_]
  clear e_
  refine AW_callV3 (d' := d - 1) dX2_value_12 (Or.inl lkX2_35) mfX2_run (hS.cel rfl) ⟨_, rfl, rfl⟩ (k_run (n := k1) (by omega) hk hS hW hf (by omega) g6 _ _ g1 g2) (by omega) (Nat.le_of_ble_eq_true rfl) ?_
  rintro _ ρ1 ⟨rfl, hG1⟩ -
  refine AW_iret dX2_value_15 rfl ?_
  exact ⟨rfl, hG1⟩
theorem k_know {G : Gt} {d : Nat} {σ : St}  (hS : Sta σ) (w v : Int) (h0 : 0 ≤ w) (h7 : w < 7) : AM mX2_know G d 0 0 [vR 42, vI w, vI v] σ (fun r τ => r = none ∧ τ = upI σ 43 w.toNat v) := by
  refine AM.intro (by decide +kernel) (by simp [nLg]) (Nat.le_of_ble_eq_true rfl) (fun hO => ?_)
  have i_w : -2147483648 ≤ w ∧ w < 2147483648 := hO (vI w) (by simp)
  have i_v : -2147483648 ≤ v ∧ v < 2147483648 := hO (vI v) (by simp)
  show AW _ _ _ _ _ _ 0 [some (vR 42), some (vI w), some (vI v)] [] σ
  refine AW_iload_n dX2_know_0 rfl ?_
  refine AW_if_lt (tgt := 20) dX2_know_1 (by decide) (fun c_1 => ?_) (fun c_1 => ?_)
  · skip
    exact absurd c_1 (by omega)
  · skip
    refine AW_iload_n dX2_know_4 rfl ?_
    refine AW_aload_n dX2_know_5 rfl ?_
    refine AW_getR (a := 43) dX2_know_6 gfX2_11 (hS.cel rfl) (hS.rf rfl) ?_
    refine AW_alen dX2_know_9 (hS.cel rfl) (by decide) (by decide) ?_
    refine AW_icmp_ge (tgt := 20) dX2_know_10 (by decide) (fun c_10 => ?_) (fun c_10 => ?_)
    · skip
      exact absurd c_10 (by omega)
    · skip
      refine AW_aload_n dX2_know_13 rfl ?_
      refine AW_getR (a := 43) dX2_know_14 gfX2_11 (hS.cel rfl) (hS.rf rfl) ?_
      refine AW_iload_n dX2_know_17 rfl ?_
      refine AW_iload_n dX2_know_18 rfl ?_
      refine AW_iast dX2_know_19 (hS.cel rfl) (by omega) (by omega) ?_
      refine AW_vret dX2_know_20 rfl ?_
      exact ⟨rfl, rfl⟩
