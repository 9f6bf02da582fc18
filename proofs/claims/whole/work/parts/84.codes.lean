-- WHAT A WAY's CODE DOES: tags of what lies on the stack: 0 an int, 1 a truth (0 or 1), 2 a NUMBER that isn't 0
def tstep (x : Int) (s : List Nat) : Option (List Nat) :=
  if 0 ≤ x then some ((if x = 0 then 0 else 2) :: s)
  else if -7 ≤ x then some (0 :: s)
  else match s with
    | [] => none
    | b :: t =>
      if x = -17 then (if b = 1 then some (1 :: t) else none)
      else match t with
        | [] => none
        | a :: u =>
          if x = -11 then (if b = 2 ∧ a ≠ 1 then some (0 :: u) else none)
          else if -10 ≤ x then (if b ≠ 1 ∧ a ≠ 1 then some (0 :: u) else none)
          else if -14 ≤ x then (if b ≠ 1 ∧ a ≠ 1 then some (1 :: u) else none)
          else if -16 ≤ x then (if b = 1 ∧ a = 1 then some (1 :: u) else none)
          else none
/-- k steps from a on, never more than 32 on the stack -/
def trun (c : Nat → Int) : Nat → Nat → List Nat → Option (List Nat)
  | _, 0, s => some s
  | a, k + 1, s => match tstep (c a) s with
    | none => none
    | some s' => if s'.length ≤ 32 then trun c (a + 1) k s' else none
theorem trun_0 (c : Nat → Int) (a : Nat) (s : List Nat) : trun c a 0 s = some s := rfl
theorem trun_s (c : Nat → Int) (a k : Nat) (s : List Nat) : trun c a (k + 1) s = match tstep (c a) s with
    | none => none
    | some s' => if s'.length ≤ 32 then trun c (a + 1) k s' else none := rfl
theorem trun_one {c : Nat → Int} {a k : Nat} {s s' r : List Nat} (h : tstep (c a) s = some s') (hl : s'.length ≤ 32) (h2 : trun c (a + 1) k s' = some r) : trun c a (k + 1) s = some r := by
  rw [trun_s, h]
  show (if s'.length ≤ 32 then _ else _) = _
  rw [if_pos hl]
  exact h2
theorem trun_inv {c : Nat → Int} {a k : Nat} {s r : List Nat} (h : trun c a (k + 1) s = some r) : ∃ s', tstep (c a) s = some s' ∧ s'.length ≤ 32 ∧ trun c (a + 1) k s' = some r := by
  rw [trun_s] at h
  cases e : tstep (c a) s with
  | none => rw [e] at h; cases h
  | some s' =>
    rw [e] at h
    have h2 : (if s'.length ≤ 32 then trun c (a + 1) k s' else none) = some r := h
    by_cases hl : s'.length ≤ 32
    · rw [if_pos hl] at h2; exact ⟨s', rfl, hl, h2⟩
    · rw [if_neg hl] at h2; cases h2
theorem trun_app {c : Nat → Int} : ∀ (k a k' : Nat) (s s' s'' : List Nat), trun c a k s = some s' → trun c (a + k) k' s' = some s'' → trun c a (k + k') s = some s'' := by
  intro k
  induction k with
  | zero =>
    intro a k' s s' s'' h1 h2
    rw [trun_0] at h1
    cases h1
    rw [Nat.zero_add]
    exact h2
  | succ k ih =>
    intro a k' s s' s'' h1 h2
    obtain ⟨t, e1, e2, e3⟩ := trun_inv h1
    rw [show k + 1 + k' = (k + k') + 1 by omega]
    exact trun_one e1 e2 (ih (a + 1) k' t s' s'' e3 (by rw [show a + 1 + k = a + (k + 1) by omega]; exact h2))
theorem trun_congr {c c' : Nat → Int} : ∀ (k a : Nat) (s : List Nat), (∀ i, a ≤ i → i < a + k → c i = c' i) → trun c a k s = trun c' a k s := by
  intro k
  induction k with
  | zero => intro a s _; rfl
  | succ k ih =>
    intro a s h
    rw [trun_s, trun_s, h a (Nat.le_refl _) (by omega)]
    cases tstep (c' a) s with
    | none => rfl
    | some s' =>
      show (if s'.length ≤ 32 then _ else _) = (if s'.length ≤ 32 then _ else _)
      rw [ih (a + 1) s' (fun i h1 h2 => h i (by omega) (by omega))]
/-- from s to s' code came that makes the stack ts the stack ts' -/
def Cx (s s' : PS) (ts ts' : List Nat) : Prop := s'.1 = 0 → s.1 = 0 ∧ s.2.1 ≤ s'.2.1 ∧ ∃ k, s'.2.2.1 = s.2.2.1 + k ∧ (∀ j, j < s.2.2.1 → s'.2.2.2 j = s.2.2.2 j) ∧ trun s'.2.2.2 s.2.2.1 k ts = some ts'
theorem Cx.tr {s s' s'' : PS} {ts ts' ts'' : List Nat} (h1 : Cx s s' ts ts') (h2 : Cx s' s'' ts' ts'') : Cx s s'' ts ts'' := by
  intro h
  obtain ⟨a1, a2, k2, a3, a4, a5⟩ := h2 h
  obtain ⟨b1, b2, k1, b3, b4, b5⟩ := h1 a1
  refine ⟨b1, Nat.le_trans b2 a2, k1 + k2, by omega, fun j hj => (a4 j (by omega)).trans (b4 j hj), ?_⟩
  refine trun_app k1 _ k2 ts ts' ts'' ?_ (by rw [← b3]; exact a5)
  rw [trun_congr (c' := s'.2.2.2) k1 _ ts (fun i _ hi => a4 i (by omega))]
  exact b5
theorem Cx.rf (s : PS) (ts : List Nat) : Cx s s ts ts := fun h => ⟨h, Nat.le_refl _, 0, rfl, fun _ _ => rfl, rfl⟩
theorem Cx.step (s : PS) (ts : List Nat) : Cx s (stepS s) ts ts := fun h => ⟨h, Nat.le_succ _, 0, rfl, fun _ _ => rfl, rfl⟩
theorem Cx.put {x : Int} {ts ts' : List Nat} (s : PS) (h : tstep x ts = some ts') (hl : ts'.length ≤ 32) : Cx s (putS x s) ts ts' := by
  intro h0
  refine ⟨h0, Nat.le_refl _, 1, rfl, fun j hj => ?_, ?_⟩
  · show (if j = s.2.2.1 then x else s.2.2.2 j) = _
    rw [if_neg (by omega)]
  · refine trun_one ?_ hl (trun_0 _ _ _)
    show tstep (if s.2.2.1 = s.2.2.1 then x else s.2.2.2 s.2.2.1) ts = some ts'
    rw [if_pos rfl]
    exact h
theorem Cx.no {s s' : PS} {ts ts' : List Nat} (h : s'.1 ≠ 0) : Cx s s' ts ts' := fun q => absurd q h
theorem blame_n {k : Int} (hk : k ≠ 0) (s : PS) : (blameS k s).1 ≠ 0 := by
  unfold blameS
  split
  · exact hk
  · assumption
theorem Cx.blame {k : Int} (hk : k ≠ 0) (s : PS) (ts ts' : List Nat) : Cx s (blameS k s) ts ts' := Cx.no (blame_n hk s)
theorem ts_num {x : Int} (hx : 0 ≤ x) (ts : List Nat) : tstep x ts = some ((if x = 0 then 0 else 2) :: ts) := by unfold tstep; rw [if_pos hx]
theorem ts_fact {x : Int} (h1 : -7 ≤ x) (h2 : x < 0) (ts : List Nat) : tstep x ts = some (0 :: ts) := by unfold tstep; rw [if_neg (by omega), if_pos h1]
theorem ts_ar {x : Int} (h1 : -10 ≤ x) (h2 : x < -7) {a b : Nat} (ha : a ≠ 1) (hb : b ≠ 1) (ts : List Nat) : tstep x (b :: a :: ts) = some (0 :: ts) := by
  unfold tstep
  rw [if_neg (by omega), if_neg (by omega)]
  simp only []
  rw [if_neg (by omega), if_neg (by omega), if_pos h1, if_pos ⟨hb, ha⟩]
theorem ts_part {a : Nat} (ha : a ≠ 1) (ts : List Nat) : tstep (-11) (2 :: a :: ts) = some (0 :: ts) := by
  unfold tstep
  rw [if_neg (by omega), if_neg (by omega)]
  simp only []
  rw [if_neg (by omega), if_pos trivial, if_pos ⟨trivial, ha⟩]
theorem ts_cmp {x : Int} (h1 : -14 ≤ x) (h2 : x < -11) {a b : Nat} (ha : a ≠ 1) (hb : b ≠ 1) (ts : List Nat) : tstep x (b :: a :: ts) = some (1 :: ts) := by
  unfold tstep
  rw [if_neg (by omega), if_neg (by omega)]
  simp only []
  rw [if_neg (by omega), if_neg (by omega), if_neg (by omega), if_pos h1, if_pos ⟨hb, ha⟩]
theorem ts_bool {x : Int} (h1 : -16 ≤ x) (h2 : x < -14) (ts : List Nat) : tstep x (1 :: 1 :: ts) = some (1 :: ts) := by
  unfold tstep
  rw [if_neg (by omega), if_neg (by omega)]
  simp only []
  rw [if_neg (by omega), if_neg (by omega), if_neg (by omega), if_neg (by omega), if_pos h1, if_pos ⟨trivial, trivial⟩]
theorem ts_not (ts : List Nat) : tstep (-17) (1 :: ts) = some (1 :: ts) := by
  unfold tstep
  rw [if_neg (by omega), if_neg (by omega)]
  simp only []
  rw [if_pos trivial, if_pos trivial]
theorem cx_unit {K V : Nat → Int} (hV : ∀ i, K i = 2 → 0 ≤ V i) (s : PS) (ts : List Nat) (hl : ts.length < 32) : ∃ t, t ≠ 1 ∧ Cx s (unitS K V s) ts (t :: ts) := by
  unfold unitS
  split
  · rename_i hc
    have h0 : s.1 = 0 := by
      by_cases q : s.1 = 0
      · exact q
      · rw [kd_f q] at hc; omega
    rw [kd0 h0] at hc
    exact ⟨if V s.2.1 = 0 then 0 else 2, by split <;> decide, (Cx.put s (ts_num (hV _ hc) ts) (by simp; omega)).tr (Cx.step _ _)⟩
  · split
    · rename_i hc
      exact ⟨0, by decide, (Cx.put s (ts_fact (by omega) (by omega) ts) (by simp; omega)).tr (Cx.step _ _)⟩
    · exact ⟨0, by decide, Cx.blame (by decide) s _ _⟩
theorem cx_div {K V : Nat → Int} (hV : ∀ i, K i = 2 → 0 ≤ V i) (s : PS) (ts : List Nat) (hl : ts.length < 32) : Cx s (divS K V s) ts (2 :: ts) := by
  unfold divS
  split
  · rename_i hc
    have h0 : s.1 = 0 := by
      by_cases q : s.1 = 0
      · exact q
      · rw [kd_f q] at hc; omega
    rw [kd0 h0] at hc
    split
    · exact Cx.blame (by decide) s _ _
    · rename_i hz
      have e := ts_num (hV _ hc) ts
      rw [if_neg hz] at e
      exact (Cx.put s e (by simp; omega)).tr (Cx.step _ _)
  · exact Cx.blame (by decide) s _ _
theorem Cx.f {s s' : PS} {ts ts' : List Nat} (h : Cx s s' ts ts') (h0 : s.1 ≠ 0) : s'.1 ≠ 0 := fun q => h0 (h q).1
section
variable {K V : Nat → Int} {N : Nat}
theorem cx_sumL (hN : Fn K N) (hV : ∀ i, K i = 2 → 0 ≤ V i) : ∀ (f : Nat) (w : Int) (s : PS) (ts : List Nat) (t t' : Nat), t ≠ 1 → t' ≠ 1 → ts.length + 3 ≤ 32 → w = 0 ∨ w = -8 ∨ w = -9 → Inv N 0 s → N + 1 ≤ f + s.2.1 → ∃ u, u ≠ 1 ∧ Cx s (sumL K V f w s) (t :: (if w = 0 then ts else t' :: ts)) (u :: ts) := by
  intro f
  induction f with
  | zero => intro w s ts t t' _ _ _ _ hI h; have := hI.1; omega
  | succ f ih =>
    intro w s ts t t' ht ht' hl hw hI hf
    have hi := hI.1
    have hX : (if w = 0 then ts else t' :: ts).length + 2 ≤ 32 := by split <;> simp <;> omega
    have hwp : ∃ u, u ≠ 1 ∧ Cx s (if w = 0 then s else putS w s) (t :: (if w = 0 then ts else t' :: ts)) (u :: ts) := by
      by_cases hw0 : w = 0
      · rw [if_pos hw0, if_pos hw0]; exact ⟨t, ht, Cx.rf _ _⟩
      · rw [if_neg hw0, if_neg hw0]; exact ⟨0, by decide, Cx.put s (ts_ar (by omega) (by omega) ht' ht ts) (by simp; omega)⟩
    have hIw : Inv N 0 (if w = 0 then s else putS w s) ∨ w ≠ 0 := by
      by_cases hw0 : w = 0
      · rw [if_pos hw0]; exact Or.inl hI
      · exact Or.inr hw0
    have hiw : (if w = 0 then s else putS w s).2.1 = s.2.1 := by split <;> rfl
    have h1w : (if w = 0 then s else putS w s).1 = s.1 := by split <;> rfl
    rw [sumL_s]
    split
    · rename_i hc
      obtain ⟨u, hu, c1⟩ := cx_unit hV (stepS s) (t :: (if w = 0 then ts else t' :: ts)) (by simp; omega)
      have c2 := ((Cx.step s _).tr c1).tr (Cx.put _ (ts_ar (x := -10) (by decide) (by decide) ht hu _) (by simp; omega))
      have hI2 : Inv N 0 (putS (-10) (unitS K V (stepS s))) := Inv.put (Inv.unit V hN (hI.step hN (by omega) (by omega))) _
      have h3 := unit_i K V (stepS s)
      have h4 : (stepS s).2.1 = s.2.1 + 1 := rfl
      have h5 : (putS (-10) (unitS K V (stepS s))).2.1 = (unitS K V (stepS s)).2.1 := rfl
      obtain ⟨v, hv, c3⟩ := ih w _ ts 0 t' (by decide) ht' hl hw hI2 (by omega)
      exact ⟨v, hv, c2.tr c3⟩
    · split
      · rename_i hc
        have c1 := cx_div hV (stepS s) (t :: (if w = 0 then ts else t' :: ts)) (by simp; omega)
        have c2 := ((Cx.step s _).tr c1).tr (Cx.put _ (ts_part ht _) (by simp; omega))
        have hI2 : Inv N 0 (putS (-11) (divS K V (stepS s))) := Inv.put (Inv.div V hN (hI.step hN (by omega) (by omega))) _
        have h3 := div_i K V (stepS s)
        have h4 : (stepS s).2.1 = s.2.1 + 1 := rfl
        have h5 : (putS (-11) (divS K V (stepS s))).2.1 = (divS K V (stepS s)).2.1 := rfl
        obtain ⟨v, hv, c3⟩ := ih w _ ts 0 t' (by decide) ht' hl hw hI2 (by omega)
        exact ⟨v, hv, c2.tr c3⟩
      · obtain ⟨u, hu, c0⟩ := hwp
        have hgo : ∀ w2 : Int, (w2 = -8 ∨ w2 = -9) → kd K s ≠ 0 → kd K s ≠ 1 → ∃ v, v ≠ 1 ∧ Cx s (sumL K V f w2 (unitS K V (stepS (if w = 0 then s else putS w s)))) (t :: (if w = 0 then ts else t' :: ts)) (v :: ts) := by
          intro w2 hw2 k0 k1
          obtain ⟨x, hx, c1⟩ := cx_unit hV (stepS (if w = 0 then s else putS w s)) (u :: ts) (by simp; omega)
          have c2 := (c0.tr (Cx.step _ _)).tr c1
          have h3 := unit_i K V (stepS (if w = 0 then s else putS w s))
          have h4 : (stepS (if w = 0 then s else putS w s)).2.1 = s.2.1 + 1 := by show (if w = 0 then s else putS w s).2.1 + 1 = _; rw [hiw]
          by_cases hz : (unitS K V (stepS (if w = 0 then s else putS w s))).1 = 0
          · have hk := kd_lt hN hi k0 k1
            have hI2 : Inv N 0 (unitS K V (stepS (if w = 0 then s else putS w s))) := by
              refine Inv.unit V hN ⟨by rw [h4]; omega, fun q => ?_⟩
              have := hI.2 hk.1
              show (if w = 0 then s else putS w s).2.2.1 + 0 ≤ (if w = 0 then s else putS w s).2.1 + 1
              rw [hiw]
              split
              · omega
              · show s.2.2.1 + 1 + 0 ≤ _; omega
            obtain ⟨v, hv, c3⟩ := ih w2 _ ts x u hx hu hl (Or.inr hw2) hI2 (by omega)
            rw [if_neg (show ¬ w2 = 0 by omega)] at c3
            exact ⟨v, hv, c2.tr c3⟩
          · refine ⟨0, by decide, Cx.no ?_⟩
            rw [(sumL_f hz f w2).1]
            exact hz
        split
        · exact hgo (-8) (Or.inl rfl) (by omega) (by omega)
        · split
          · exact hgo (-9) (Or.inr rfl) (by omega) (by omega)
          · exact ⟨u, hu, c0⟩
theorem cx_sum (hN : Fn K N) (hV : ∀ i, K i = 2 → 0 ≤ V i) {F : Nat} (hNn : N ≤ 400) (hFF : F = 400) (s : PS) (ts : List Nat) (hl : ts.length + 3 ≤ 32) (hI : Inv N 0 s) : ∃ u, u ≠ 1 ∧ Cx s (sumS F K V s) ts (u :: ts) := by
  obtain ⟨t, ht, c1⟩ := cx_unit hV s ts (by omega)
  by_cases hz : (unitS K V s).1 = 0
  · have h0 := (c1 hz).1
    have h1 := unit_0 hz h0
    obtain ⟨u, hu, c2⟩ := cx_sumL hN hV F 0 (unitS K V s) ts t 0 ht (by decide) hl (Or.inl rfl) (hI.unit V hN) (by omega)
    rw [if_pos rfl] at c2
    exact ⟨u, hu, c1.tr c2⟩
  · refine ⟨0, by decide, Cx.no ?_⟩
    show (sumL K V F 0 (unitS K V s)).1 ≠ 0
    rw [(sumL_f hz F 0).1]
    exact hz
theorem cx_cmp (s : PS) (ts : List Nat) : Cx s (cmpS K s) ts ts := by
  unfold cmpS
  split
  · exact Cx.step s ts
  · exact Cx.blame (by decide) s _ _
theorem cx_com (hN : Fn K N) (hV : ∀ i, K i = 2 → 0 ≤ V i) {F : Nat} (hNn : N ≤ 400) (hFF : F = 400) (s : PS) (ts : List Nat) (hl : ts.length + 4 ≤ 32) (hI : Inv N 0 s) : Cx s (comS F K V s) ts (1 :: ts) := by
  obtain ⟨u, hu, c1⟩ := cx_sum hN hV hNn hFF s ts (by omega) hI
  have c2 := cx_cmp (K := K) (sumS F K V s) (u :: ts)
  obtain ⟨v, hv, c3⟩ := cx_sum hN hV hNn hFF (cmpS K (sumS F K V s)) (u :: ts) (by simp; omega) ((cmp_inv (F := F) V hN hI).mono (by omega))
  have hj : -14 ≤ joint (kd K (sumS F K V s)) ∧ joint (kd K (sumS F K V s)) < -11 := by
    unfold joint
    split
    · decide
    · split <;> decide
  unfold comS
  exact ((c1.tr c2).tr c3).tr (Cx.put _ (ts_cmp hj.1 hj.2 hu hv ts) (by simp; omega))
theorem cx_eitherL (hN : Fn K N) {cl : PS → PS} {h : Nat} (hcI : ∀ p s, Inv N p s → Inv N p (cl s)) (hcl : ∀ (s : PS) (ts : List Nat), ts.length + h ≤ 32 → Inv N 0 s → 1 ≤ s.2.1 → Cx s (cl s) ts (1 :: ts)) (hh : 1 ≤ h) : ∀ (f : Nat) (w : Bool) (s : PS) (ts : List Nat), ts.length + 2 + h ≤ 32 → Inv N 0 s → N + 1 ≤ f + s.2.1 → Cx s (eitherL K cl f w s) (1 :: (if w then 1 :: ts else ts)) (1 :: ts) := by
  intro f
  induction f with
  | zero => intro w s ts _ hI hf; have := hI.1; omega
  | succ f ih =>
    intro w s ts hl hI hf
    have hi := hI.1
    have hX : (if w then 1 :: ts else ts).length ≤ ts.length + 1 := by split <;> simp
    rw [eitherL_s]
    split
    · rename_i hc
      have c1 := hcl (stepS s) (1 :: (if w then 1 :: ts else ts)) (by simp only [List.length_cons]; omega) ((hI.step hN (by omega) (by omega)).mono (by omega)) (Nat.succ_le_succ (Nat.zero_le _))
      have c2 := ((Cx.step s _).tr c1).tr (Cx.put (cl (stepS s)) (ts_bool (x := -15) (by decide) (by decide) _) (by simp only [List.length_cons]; omega))
      by_cases hz : (putS (-15) (cl (stepS s))).1 = 0
      · have h1 := (c1 hz).2.1
        have h4 : (stepS s).2.1 = s.2.1 + 1 := rfl
        have h5 : (putS (-15) (cl (stepS s))).2.1 = (cl (stepS s)).2.1 := rfl
        exact c2.tr (ih w _ ts hl (Inv.put (hcI _ _ (hI.step hN (by omega) (by omega))) _) (by omega))
      · refine Cx.no ?_
        rw [(eitherL_f hz f w).1]
        exact hz
    · have c0 : Cx s (if w then putS (-16) s else s) (1 :: (if w then 1 :: ts else ts)) (1 :: ts) := by
        cases w with
        | true => exact Cx.put s (ts_bool (x := -16) (by decide) (by decide) _) (by simp only [List.length_cons]; omega)
        | false => exact Cx.rf _ _
      have hiw : (if w then putS (-16) s else s).2.1 = s.2.1 := by split <;> rfl
      split
      · rename_i hc
        have hk := kd_lt hN hi (by omega) (by omega)
        have h4 : (stepS (if w then putS (-16) s else s)).2.1 = s.2.1 + 1 := by show (if w then putS (-16) s else s).2.1 + 1 = _; rw [hiw]
        have hI1 : Inv N 0 (stepS (if w then putS (-16) s else s)) := by
          refine ⟨by rw [h4]; omega, fun q => ?_⟩
          have := hI.2 hk.1
          show (if w then putS (-16) s else s).2.2.1 + 0 ≤ (if w then putS (-16) s else s).2.1 + 1
          rw [hiw]
          split
          · show s.2.2.1 + 1 + 0 ≤ _; omega
          · omega
        have c1 := hcl (stepS (if w then putS (-16) s else s)) (1 :: ts) (by simp only [List.length_cons]; omega) hI1 (by rw [h4]; omega)
        have c2 := (c0.tr (Cx.step _ _)).tr c1
        by_cases hz : (cl (stepS (if w then putS (-16) s else s))).1 = 0
        · have h1 := (c1 hz).2.1
          exact c2.tr (ih true _ ts hl (hcI _ _ hI1) (by omega))
        · refine Cx.no ?_
          rw [(eitherL_f hz f true).1]
          exact hz
      · exact c0
theorem cx_either (hN : Fn K N) {F : Nat} (hNn : N ≤ 400) (hFF : F = 400) {cl : PS → PS} {h : Nat} (hcI : ∀ p s, Inv N p s → Inv N p (cl s)) (hcl : ∀ (s : PS) (ts : List Nat), ts.length + h ≤ 32 → Inv N 0 s → 1 ≤ s.2.1 → Cx s (cl s) ts (1 :: ts)) (hh : 1 ≤ h) (s : PS) (ts : List Nat) (hl : ts.length + 2 + h ≤ 32) (hI : Inv N 0 s) (h1 : 1 ≤ s.2.1) : Cx s (eitherS F K cl s) ts (1 :: ts) := by
  have c1 := hcl s ts (by omega) hI h1
  by_cases hz : (cl s).1 = 0
  · have h2 := (c1 hz).2.1
    exact c1.tr (cx_eitherL hN hcI hcl hh F false (cl s) ts hl (hcI _ _ hI) (by omega))
  · refine Cx.no ?_
    show (eitherL K cl F false (cl s)).1 ≠ 0
    rw [(eitherL_f hz F false).1]
    exact hz
theorem cx_close (s : PS) (ts : List Nat) : Cx s (closeS K s) ts ts := by
  unfold closeS
  split
  · exact Cx.step s ts
  · exact Cx.blame (by decide) s _ _
theorem cx_claim (hN : Fn K N) (hV : ∀ i, K i = 2 → 0 ≤ V i) {F : Nat} (hNn : N ≤ 400) (hFF : F = 400) : ∀ (d : Nat) (s : PS) (ts : List Nat), ts.length + (4 + 2 * d) ≤ 32 → Inv N 0 s → 1 ≤ s.2.1 → Cx s (claimS F K V d s) ts (1 :: ts) := by
  intro d
  induction d with
  | zero =>
    intro s ts hl hI h1
    rw [claimS_0]
    split
    · exact Cx.blame (by decide) s _ _
    · exact cx_com hN hV hNn hFF s ts (by omega) hI
  | succ d ih =>
    intro s ts hl hI h1
    rw [claimS_s]
    split
    · rename_i hc
      have c1 := ih (stepS s) ts (by omega) ((hI.step hN (by omega) (by omega)).mono (by omega)) (Nat.succ_le_succ (Nat.zero_le _))
      exact ((Cx.step s ts).tr c1).tr (Cx.put _ (ts_not ts) (by simp only [List.length_cons]; omega))
    · split
      · rename_i hc
        have c1 := cx_either hN hNn hFF (fun p s q => Inv.claim (F := F) V hN d p s q) ih (by omega) (stepS s) ts (by omega) ((hI.step hN (by omega) (by omega)).mono (by omega)) (Nat.succ_le_succ (Nat.zero_le _))
        exact ((Cx.step s ts).tr c1).tr (cx_close _ _)
      · exact cx_com hN hV hNn hFF s ts (by omega) hI
/-- a line's numbers fit the code -/
def lnOK (c : Nat → Int) (sz : Nat) (L : Nat → Nat → Int) (l : Nat) : Prop := (L 0 l = 256 ∨ L 0 l = 257) ∧ ∃ a k1 k2 t : Nat, L 1 l = a ∧ L 2 l = ((a + k1 : Nat) : Int) ∧ L 3 l = ((a + k1 + k2 : Nat) : Int) ∧ a + k1 + k2 ≤ sz ∧ t ≠ 1 ∧ trun c a k1 [] = some [t] ∧ (k2 = 0 ∨ trun c (a + k1) k2 [] = some [1])
def wyOK (W : Wy) : Prop := ∀ l, l < W.1 → lnOK W.2.2.2 W.2.2.1 W.2.1 l
def wsOK (w : WS) : Prop := w.1.1 = 0 → ∀ l, l < w.2.1 → lnOK w.1.2.2.2 w.1.2.2.1 w.2.2 l
theorem lnOK.go {c c' : Nat → Int} {sz sz' : Nat} {L L' : Nat → Nat → Int} {l : Nat} (h : lnOK c sz L l) (hs : sz ≤ sz') (hc : ∀ j, j < sz → c' j = c j) (hL : ∀ k, L' k l = L k l) : lnOK c' sz' L' l := by
  obtain ⟨h0, a, k1, k2, t, h1, h2, h3, h4, h5, h6, h7⟩ := h
  refine ⟨by rw [hL]; exact h0, a, k1, k2, t, by rw [hL]; exact h1, by rw [hL]; exact h2, by rw [hL]; exact h3, by omega, h5, ?_, h7.imp id (fun q => ?_)⟩
  · rw [trun_congr (c' := c) k1 a [] (fun i _ hi => hc i (by omega))]; exact h6
  · rw [trun_congr (c' := c) k2 (a + k1) [] (fun i _ hi => hc i (by omega))]; exact q
theorem line_ok (hN : Fn K N) (hV : ∀ i, K i = 2 → 0 ≤ V i) {F : Nat} (hNn : N ≤ 400) (hFF : F = 400) {w : WS} (hI : Inv N 0 w.1) (h0 : w.1.1 = 0) (h : wsOK w) : wsOK (lineS F K V w) := by
  intro hz l hl
  unfold lineS at hz hl ⊢
  by_cases hk : kd K w.1 = 256 ∨ kd K w.1 = 257
  · rw [if_pos hk] at hz hl ⊢
    by_cases h12 : 12 ≤ w.2.1
    · rw [if_pos h12] at hz
      exact absurd hz (blame_n (by decide) _)
    · rw [if_neg h12] at hz hl ⊢
      by_cases hs : kd K (bodyS F K V (sumS F K V (stepS w.1))) = 59
      · rw [if_pos hs] at hz hl ⊢
        have hI1 : Inv N 0 (stepS w.1) := (hI.step hN (by omega) (by omega)).mono (by omega)
        obtain ⟨t, ht, c1⟩ := cx_sum hN hV hNn hFF (stepS w.1) [] (by decide) hI1
        have hI2 := hI1.sum (F := F) V hN
        have hb0 : (bodyS F K V (sumS F K V (stepS w.1))).1 = 0 := hz
        have hs0 : (sumS F K V (stepS w.1)).1 = 0 := body_0 hs
        obtain ⟨_, _, k1, e1, e2, e3⟩ := c1 hs0
        have e1' : (sumS F K V (stepS w.1)).2.2.1 = w.1.2.2.1 + k1 := e1
        have hb : ∃ k2, (bodyS F K V (sumS F K V (stepS w.1))).2.2.1 = (sumS F K V (stepS w.1)).2.2.1 + k2 ∧ (∀ j, j < (sumS F K V (stepS w.1)).2.2.1 → (bodyS F K V (sumS F K V (stepS w.1))).2.2.2 j = (sumS F K V (stepS w.1)).2.2.2 j) ∧ (k2 = 0 ∨ trun (bodyS F K V (sumS F K V (stepS w.1))).2.2.2 (sumS F K V (stepS w.1)).2.2.1 k2 [] = some [1]) := by
          by_cases hw : kd K (sumS F K V (stepS w.1)) = 258
          · have c2 : Cx (sumS F K V (stepS w.1)) (bodyS F K V (sumS F K V (stepS w.1))) [] [1] := by
              unfold bodyS
              rw [if_pos hw]
              exact (Cx.step _ _).tr (cx_either hN hNn hFF (fun p s q => Inv.claim (F := F) V hN 8 p s q) (cx_claim hN hV hNn hFF 8) (by omega) (stepS (sumS F K V (stepS w.1))) [] (by decide) ((hI2.step hN (by omega) (by omega)).mono (by omega)) (Nat.succ_le_succ (Nat.zero_le _)))
            obtain ⟨_, _, k2, f1, f2, f3⟩ := c2 hb0
            exact ⟨k2, f1, f2, Or.inr f3⟩
          · have e : bodyS F K V (sumS F K V (stepS w.1)) = sumS F K V (stepS w.1) := by unfold bodyS; rw [if_neg hw]
            rw [e]
            exact ⟨0, rfl, fun _ _ => rfl, Or.inl rfl⟩
        obtain ⟨k2, f1, f2, f3⟩ := hb
        have hl2 : l < w.2.1 + 1 := hl
        show lnOK (bodyS F K V (sumS F K V (stepS w.1))).2.2.2 (bodyS F K V (sumS F K V (stepS w.1))).2.2.1 _ l
        by_cases hc : l = w.2.1
        · subst hc
          refine ⟨?_, w.1.2.2.1, k1, k2, t, ?_, ?_, ?_, by omega, ht, ?_, ?_⟩
          · show (if w.2.1 = w.2.1 then kd K w.1 else _) = 256 ∨ (if w.2.1 = w.2.1 then kd K w.1 else _) = 257
            rw [if_pos rfl]; exact hk
          · show (if w.2.1 = w.2.1 then (w.1.2.2.1 : Int) else _) = _
            rw [if_pos rfl]
          · show (if w.2.1 = w.2.1 then ((sumS F K V (stepS w.1)).2.2.1 : Int) else _) = _
            rw [if_pos rfl, e1']
          · show (if w.2.1 = w.2.1 then ((bodyS F K V (sumS F K V (stepS w.1))).2.2.1 : Int) else _) = _
            rw [if_pos rfl, f1, e1']
          · rw [trun_congr (c' := (sumS F K V (stepS w.1)).2.2.2) k1 w.1.2.2.1 [] (fun i _ hi => f2 i (by omega))]
            exact e3
          · rw [← e1']; exact f3
        · refine (h h0 l (by omega)).go (by omega) (fun j hj => (f2 j (by omega)).trans (e2 j hj)) (fun k => ?_)
          show (if l = w.2.1 then _ else _) = _
          rw [if_neg hc]
      · rw [if_neg hs] at hz
        exact absurd hz (blame_n (by decide) _)
  · rw [if_neg hk] at hz
    exact absurd hz (blame_n (by decide) _)
theorem way_ok (hN : Fn K N) (hV : ∀ i, K i = 2 → 0 ≤ V i) {F : Nat} (hNn : N ≤ 400) (hFF : F = 400) : ∀ (f : Nat) (w : WS), Inv N 0 w.1 → w.2.1 ≤ 12 → wsOK w → wsOK (wayL F K V f w) := by
  intro f
  induction f with
  | zero => intro w _ _ h; exact h
  | succ f ih =>
    intro w hI hm h
    rw [wayL_s]
    split
    · exact h
    · rename_i hc
      have h3 := line_inv (F := F) (V := V) hN hI hm
      exact ih _ h3.1 h3.2 (line_ok hN hV hNn hFF hI (by
        by_cases q : w.1.1 = 0
        · exact q
        · exact absurd (Or.inr q) hc) h)
end
theorem wayOf_ok {F : Nat} {B : Nat → Int} {n : Nat} (hn : n ≤ 400) (hFF : F = 400) (h : (wayOf F B n).1.1 = 0) : wyOK ((wayOf F B n).2.1, (wayOf F B n).2.2, (wayOf F B n).1.2.2.1, (wayOf F B n).1.2.2.2) := by
  obtain ⟨N, hNn, hN⟩ := fn_ex B n
  exact way_ok (F := F) (V := tV B n) hN (fun i hi => (tV_b hi).1) (by omega) hFF 13 ws0 ⟨Nat.zero_le _, fun _ => Nat.le_refl _⟩ (Nat.zero_le _) (fun _ l hl => absurd hl (Nat.not_lt_zero l)) h
