-- the model's reading of a B by a row of what waits, against the reading that calls itself
abbrev Fk : Type := Option (Nat × Bool × Bool)
section RES
variable (F : Nat) (K V : Nat → Int)
/-- what is still done with a claim that is read: none: a "not" waits; some (f, w, a): within a B, an "or" waits (w), an "and" waits (a) -/
def resu : List Fk → PS → PS
  | [], s => s
  | none :: k, s => resu k (putS (-17) s)
  | some q :: k, s => if k.isEmpty = true then eitherL K (claimS F K V (8 - k.length)) q.1 q.2.1 (if q.2.2 = true then putS (-15) s else s) else resu k (closeS K (eitherL K (claimS F K V (8 - k.length)) q.1 q.2.1 (if q.2.2 = true then putS (-15) s else s)))
end RES
theorem resu_n (F : Nat) (K V : Nat → Int) (k : List Fk) (s : PS) : resu F K V (none :: k) s = resu F K V k (putS (-17) s) := rfl
theorem resu_s (F : Nat) (K V : Nat → Int) (q : Nat × Bool × Bool) (k : List Fk) (s : PS) : resu F K V (some q :: k) s = if k.isEmpty = true then eitherL K (claimS F K V (8 - k.length)) q.1 q.2.1 (if q.2.2 = true then putS (-15) s else s) else resu F K V k (closeS K (eitherL K (claimS F K V (8 - k.length)) q.1 q.2.1 (if q.2.2 = true then putS (-15) s else s))) := rfl
def pendL : List Fk → List Int
  | [] => []
  | none :: k => 9 :: pendL k
  | some q :: k => (if q.2.2 = true then [10] else []) ++ ((if q.2.1 = true then [11] else []) ++ (if k.isEmpty = true then [] else 12 :: pendL k))
def brk : List Fk → Nat
  | [] => 0
  | none :: k => brk k
  | some _ :: k => (if k.isEmpty = true then 0 else 1) + brk k
def gdk : List Fk → Prop
  | [] => False
  | none :: k => gdk k
  | some _ :: k => k = [] ∨ gdk k
def stripN : List Fk → List Fk
  | [] => []
  | none :: k => stripN k
  | some q :: k => some q :: k
def fuk (N i : Nat) (k : List Fk) : Prop := ∀ q, some q ∈ k → N + 1 ≤ q.1 + i
def dropC (c : Int) : List Int → List Int
  | [] => []
  | y :: l => if y = c then dropC c l else y :: l
def putC (c x : Int) : List Int → PS → PS
  | [], s => s
  | y :: l, s => if y = c then putC c x l (putS x s) else s
def cntL : List Int → Nat
  | [] => 0
  | y :: l => (if y = 12 then 0 else 1) + cntL l
def Pn (σ : St) : List Int → Prop
  | [] => True
  | y :: l => σ.2.1 112 l.length = y ∧ Pn σ l
theorem Pn.fm {fs L : List Nat} {σ ρ : St} (hF : Fe fs L σ ρ) (h2 : 112 ∉ 94 :: L := by decide) : ∀ l, Pn σ l → Pn ρ l := by
  intro l
  induction l with
  | nil => intro _; trivial
  | cons y l ih => intro h; exact ⟨(hF.a 112 _ h2).trans h.1, ih h.2⟩
theorem Pn.up {σ : St} (j : Nat) (x : Int) : ∀ l, l.length ≤ j → Pn σ l → Pn (upI σ 112 j x) l := by
  intro l
  induction l with
  | nil => intro _ _; trivial
  | cons y l ih =>
    intro hj h
    have hj2 : l.length + 1 ≤ j := hj
    exact ⟨by rw [up_j _ _ _ (by omega)]; exact h.1, ih (by omega) h.2⟩
theorem putC_f (c x : Int) : ∀ (l : List Int) (s : PS), (putC c x l s).1 = s.1 ∧ (putC c x l s).2.1 = s.2.1 := by
  intro l
  induction l with
  | nil => intro s; exact ⟨rfl, rfl⟩
  | cons y l ih =>
    intro s
    unfold putC
    split
    · exact ih (putS x s)
    · exact ⟨rfl, rfl⟩
theorem putC_step (c x : Int) : ∀ (l : List Int) (s : PS), stepS (putC c x l s) = putC c x l (stepS s) := by
  intro l
  induction l with
  | nil => intro s; rfl
  | cons y l ih =>
    intro s
    unfold putC
    split
    · exact ih (putS x s)
    · rfl
theorem putC_kd (K : Nat → Int) (c x : Int) (l : List Int) (s : PS) : kd K (putC c x l s) = kd K s := by
  unfold kd
  rw [(putC_f c x l s).1, (putC_f c x l s).2]
theorem putC_inv {N : Nat} (c x : Int) (hc : c ≠ 12) : ∀ (l : List Int) (s : PS), Inv N (cntL l) s → Inv N (cntL (dropC c l)) (putC c x l s) := by
  intro l
  induction l with
  | nil => intro s h; exact h
  | cons y l ih =>
    intro s h
    unfold putC dropC
    split
    · rename_i e
      refine ih _ (Inv.put ?_ x)
      unfold cntL at h
      rw [if_neg (by omega), Nat.add_comm] at h
      exact h
    · exact h
theorem dropC_len (c : Int) : ∀ l : List Int, (dropC c l).length ≤ l.length := by
  intro l
  induction l with
  | nil => exact Nat.le_refl _
  | cons y l ih =>
    unfold dropC
    split
    · show _ ≤ l.length + 1; omega
    · exact Nat.le_refl _
theorem pend_9 : ∀ k : List Fk, dropC 9 (pendL k) = pendL (stripN k) := by
  intro k
  induction k with
  | nil => rfl
  | cons x k ih =>
    cases x with
    | none => exact ih
    | some q =>
      unfold stripN
      obtain ⟨f, w, a⟩ := q
      cases a <;> cases w <;> cases k <;> rfl
theorem pend_9s (F : Nat) (K V : Nat → Int) : ∀ (k : List Fk) (s : PS), resu F K V k s = resu F K V (stripN k) (putC 9 (-17) (pendL k) s) := by
  intro k
  induction k with
  | nil => intro s; rfl
  | cons x k ih =>
    intro s
    cases x with
    | none =>
      rw [resu_n, ih]
      rfl
    | some q =>
      have e : putC 9 (-17) (pendL (some q :: k)) s = s := by
        obtain ⟨f, w, a⟩ := q
        cases a <;> cases w <;> cases k <;> rfl
      rw [e]
      rfl
theorem pend_9l : ∀ k : List Fk, (pendL k).length + (stripN k).length = (pendL (stripN k)).length + k.length := by
  intro k
  induction k with
  | nil => rfl
  | cons x k ih =>
    cases x with
    | none =>
      show (pendL k).length + 1 + (stripN k).length = (pendL (stripN k)).length + (k.length + 1)
      omega
    | some q => exact rfl
theorem strip_gd : ∀ k : List Fk, gdk k → ∃ q k', stripN k = some q :: k' ∧ (k' = [] ∨ gdk k') ∧ brk k = brk (some q :: k') ∧ k'.length + 1 ≤ k.length := by
  intro k
  induction k with
  | nil => intro h; exact h.elim
  | cons x k ih =>
    intro h
    cases x with
    | none =>
      obtain ⟨q, k', h1, h2, h3, h4⟩ := ih h
      exact ⟨q, k', h1, h2, h3, by show _ ≤ k.length + 1; omega⟩
    | some q => exact ⟨q, k, rfl, h, rfl, Nat.le_refl _⟩
theorem strip_fu {N i : Nat} : ∀ k : List Fk, fuk N i k → fuk N i (stripN k) := by
  intro k
  induction k with
  | nil => intro h; exact h
  | cons x k ih =>
    intro h
    cases x with
    | none => exact ih (fun q hq => h q (List.mem_cons_of_mem _ hq))
    | some q => exact h
theorem fuk.mo {N i j : Nat} {k : List Fk} (h : fuk N i k) (hj : i ≤ j) : fuk N j k := fun q hq => by have := h q hq; omega
theorem pend_len : ∀ k : List Fk, (pendL k).length ≤ 3 * k.length := by
  intro k
  induction k with
  | nil => exact Nat.le_refl _
  | cons x k ih =>
    cases x with
    | none => show (pendL k).length + 1 ≤ 3 * (k.length + 1); omega
    | some q =>
      obtain ⟨f, w, a⟩ := q
      show _ ≤ 3 * (k.length + 1)
      cases a <;> cases w <;> cases k <;> simp [pendL] at ih ⊢ <;> omega
/-- what lies below the "or" and the "and" of the B that is read -/
def rstL (k : List Fk) : List Int := if k.isEmpty = true then [] else 12 :: pendL k
theorem rst_d (c : Int) (hc : c ≠ 12) (k : List Fk) : dropC c (rstL k) = rstL k := by
  cases k with
  | nil => rfl
  | cons x k =>
    show dropC c (12 :: pendL (x :: k)) = 12 :: pendL (x :: k)
    unfold dropC
    rw [if_neg (fun q => hc q.symm)]
theorem rst_p (c x : Int) (hc : c ≠ 12) (k : List Fk) (s : PS) : putC c x (rstL k) s = s := by
  cases k with
  | nil => rfl
  | cons y k =>
    show putC c x (12 :: pendL (y :: k)) s = s
    unfold putC
    rw [if_neg (fun q => hc q.symm)]
def orL (w : Bool) (k : List Fk) : List Int := (if w = true then [11] else []) ++ rstL k
theorem pend_s (f : Nat) (w a : Bool) (k : List Fk) : pendL (some (f, w, a) :: k) = (if a = true then [10] else []) ++ orL w k := rfl
theorem pd_10 (f : Nat) (w a : Bool) (k : List Fk) : dropC 10 (pendL (some (f, w, a) :: k)) = orL w k := by
  rw [pend_s]
  have h1 : dropC 10 (orL w k) = orL w k := by
    cases w with
    | true => rfl
    | false => exact rst_d 10 (by decide) k
  cases a with
  | true => exact h1
  | false => exact h1
theorem pp_10 (f : Nat) (w a : Bool) (k : List Fk) (s : PS) : putC 10 (-15) (pendL (some (f, w, a) :: k)) s = if a = true then putS (-15) s else s := by
  rw [pend_s]
  have h1 : ∀ s, putC 10 (-15) (orL w k) s = s := by
    intro s
    cases w with
    | true => rfl
    | false => exact rst_p 10 (-15) (by decide) k s
  cases a with
  | true => exact h1 (putS (-15) s)
  | false => exact h1 s
theorem pd_11 (w : Bool) (k : List Fk) : dropC 11 (orL w k) = rstL k := by
  cases w with
  | true => exact rst_d 11 (by decide) k
  | false => exact rst_d 11 (by decide) k
theorem pp_11 (w : Bool) (k : List Fk) (s : PS) : putC 11 (-16) (orL w k) s = if w = true then putS (-16) s else s := by
  cases w with
  | true => exact rst_p 11 (-16) (by decide) k _
  | false => exact rst_p 11 (-16) (by decide) k s
theorem eitherL_f {K : Nat → Int} {cl : PS → PS} {s : PS} (h : s.1 ≠ 0) (f : Nat) (w : Bool) : (eitherL K cl f w s).1 = s.1 ∧ (eitherL K cl f w s).2.1 = s.2.1 := by
  cases f with
  | zero => exact ⟨rfl, rfl⟩
  | succ f =>
    rw [eitherL_s, kd_f h, if_neg (by decide), if_neg (by decide)]
    split <;> exact ⟨rfl, rfl⟩
theorem closeS_f {K : Nat → Int} {s : PS} (h : s.1 ≠ 0) : closeS K s = s := by
  unfold closeS blameS
  rw [kd_f h, if_neg (by decide), if_neg h]
theorem resu_f {F : Nat} {K V : Nat → Int} : ∀ (k : List Fk) (s : PS), s.1 ≠ 0 → (resu F K V k s).1 = s.1 ∧ (resu F K V k s).2.1 = s.2.1 := by
  intro k
  induction k with
  | nil => intro s _; exact ⟨rfl, rfl⟩
  | cons x k ih =>
    intro s h
    cases x with
    | none => rw [resu_n]; exact ih (putS (-17) s) h
    | some q =>
      rw [resu_s]
      have h1 : (if q.2.2 = true then putS (-15) s else s).1 = s.1 ∧ (if q.2.2 = true then putS (-15) s else s).2.1 = s.2.1 := by split <;> exact ⟨rfl, rfl⟩
      have h2 := eitherL_f (K := K) (cl := claimS F K V (8 - k.length)) (s := (if q.2.2 = true then putS (-15) s else s)) (by rw [h1.1]; exact h) q.1 q.2.1
      have h3 : (eitherL K (claimS F K V (8 - k.length)) q.1 q.2.1 (if q.2.2 = true then putS (-15) s else s)).1 ≠ 0 := by rw [h2.1, h1.1]; exact h
      split
      · exact ⟨h2.1.trans h1.1, h2.2.trans h1.2⟩
      · rw [closeS_f h3]
        have h4 := ih _ h3
        exact ⟨h4.1.trans (h2.1.trans h1.1), h4.2.trans (h2.2.trans h1.2)⟩
theorem com_i {F : Nat} {K V : Nat → Int} {N : Nat} {s : PS} (hN : Fn K N) (h0 : s.1 = 0) (h : (comS F K V s).1 = 0) : s.2.1 + 1 ≤ (comS F K V s).2.1 := by
  have m1 : ∀ (f : Nat) (w : Int) (s : PS), s.2.1 ≤ (sumL K V f w s).2.1 := by
    intro f
    induction f with
    | zero => intro w s; exact Nat.le_refl _
    | succ f ih =>
      intro w s
      rw [sumL_s]
      have h1 : (stepS s).2.1 = s.2.1 + 1 := rfl
      have h2 : (if w = 0 then s else putS w s).2.1 = s.2.1 := by split <;> rfl
      have h3 : (stepS (if w = 0 then s else putS w s)).2.1 = s.2.1 + 1 := by show (if w = 0 then s else putS w s).2.1 + 1 = _; rw [h2]
      split
      · have := ih w (putS (-10) (unitS K V (stepS s)))
        have h4 := unit_i K V (stepS s)
        have h5 : (putS (-10) (unitS K V (stepS s))).2.1 = (unitS K V (stepS s)).2.1 := rfl
        omega
      · split
        · have := ih w (putS (-11) (divS K V (stepS s)))
          have h4 := div_i K V (stepS s)
          have h5 : (putS (-11) (divS K V (stepS s))).2.1 = (divS K V (stepS s)).2.1 := rfl
          omega
        · split
          · have := ih (-8) (unitS K V (stepS (if w = 0 then s else putS w s)))
            have h4 := unit_i K V (stepS (if w = 0 then s else putS w s))
            omega
          · split
            · have := ih (-9) (unitS K V (stepS (if w = 0 then s else putS w s)))
              have h4 := unit_i K V (stepS (if w = 0 then s else putS w s))
              omega
            · rw [h2]
              exact Nat.le_refl _
  have m2 : ∀ s : PS, s.2.1 ≤ (sumS F K V s).2.1 := fun s => Nat.le_trans (unit_i K V s) (m1 F 0 _)
  have m3 : ∀ s : PS, s.2.1 ≤ (cmpS K s).2.1 := by
    intro s
    unfold cmpS
    split
    · show s.2.1 ≤ s.2.1 + 1; omega
    · unfold blameS; split <;> exact Nat.le_refl _
  have e1 : (sumS F K V s).1 = 0 := by
    rcases Classical.em ((sumS F K V s).1 = 0) with q | q
    · exact q
    · exfalso
      apply q
      have e := cmpS_f (K := K) q
      have e2 := sumS_f (F := F) (K := K) (V := V) q
      have e3 : (comS F K V s).1 = (sumS F K V s).1 := by
        unfold comS
        rw [e]
        exact e2.1
      rw [← e3]
      exact h
  have e2 : (unitS K V s).1 = 0 := by
    rcases Classical.em ((unitS K V s).1 = 0) with q | q
    · exact q
    · exfalso
      have := sumL_f (K := K) (V := V) q F 0
      unfold sumS at e1
      rw [this.1] at e1
      exact q e1
  have e3 := unit_0 e2 h0
  have e4 := m1 F 0 (unitS K V s)
  have e5 := m3 (sumS F K V s)
  have e6 := m2 (cmpS K (sumS F K V s))
  have e7 : (comS F K V s).2.1 = (sumS F K V (cmpS K (sumS F K V s))).2.1 := rfl
  have e8 : (sumS F K V s).2.1 = (sumL K V F 0 (unitS K V s)).2.1 := rfl
  omega
theorem n_waitsFor {G : Gt} {d : Nat} {σ : St}  {l : List Int} (hS : Sta σ) (hP : Pn σ l) (h37 : σ.2.1 94 37 = l.length) (hl : l.length < 40) (c : Int)  : AM mX12_waitsFor G d 0 0 [vR 94, vI c] σ (fun ro ρ => ro = none ∧ Pn ρ (c :: l) ∧ ρ.2.1 94 37 = (c :: l).length ∧ Fe [37] [112] σ ρ) := by
  refine AM.intro (by decide +kernel) (by simp [nLg]) (Nat.le_of_ble_eq_true rfl) (fun hO => ?_)
  have i_c : -2147483648 ≤ c ∧ c < 2147483648 := hO (vI c) (by simp)
  show AW _ _ _ _ _ _ 0 [some (vR 94), some (vI c)] [] σ
  refine AW_aload_n dX12_waitsFor_0 rfl ?_
  refine AW_getR (a := 112) dX12_waitsFor_1 gfX12_74 (hS.cel rfl) (hS.rf rfl) ?_
  refine AW_aload_n dX12_waitsFor_4 rfl ?_
  refine AW_getI dX12_waitsFor_5 gfX12_278 (hS.cel rfl) ?_
  refine AW_iload_n dX12_waitsFor_8 rfl ?_
  rw [h37]
  refine AW_iast dX12_waitsFor_9 (hS.cel rfl) (by omega) (by omega) ?_
  refine AW_aload_n dX12_waitsFor_10 rfl ?_
  refine AW_aload_n dX12_waitsFor_11 rfl ?_
  refine AW_getI dX12_waitsFor_12 gfX12_278 (hS.cel rfl) ?_
  (repeat (first | rw [up_r _ _ _ _ (by decide)] | rw [up_j _ _ _ (by decide)] | rw [up_at]))
  refine AW_iconst dX12_waitsFor_15 ?_
  refine AW_iaddE dX12_waitsFor_16 (by omega) (by omega) ?_
  rw [h37]
  refine AW_putI dX12_waitsFor_17 (Or.inl pfX12_278) (hS.cel rfl) ?_
  refine AW_vret dX12_waitsFor_20 rfl ?_
  refine ⟨rfl, ⟨?_, ?_⟩, ?_, (Fe.rf.ua (by decide) (by decide) _ _).uf (by decide) _⟩
  · rw [up_r _ _ _ _ (by decide), show ((l.length : Int)).toNat = l.length from Int.toNat_natCast _, up_at]
  · exact Pn.fm (fs := [37]) (L := []) (Fe.rf.uf (by decide) _) (by decide) l (Pn.up _ _ l (by omega) hP)
  · rw [up_at]; show (l.length : Int) + 1 = ((l.length + 1 : Nat) : Int); omega
theorem ln_stl {G : Gt} {d : Nat} {σ : St} {B : Nat → Int} {n N : Nat} {T : PS} {lT : List Int} {oo c x : Int} (hd : 1 ≤ d) (hS0 : Sta σ) (hNn : N ≤ 400) (hx : c = mop x) (hx2 : (0 : Int) = marg x) (hc12 : c ≠ 12) (hoo : 0 ≤ oo ∧ oo ≤ 100) : ∀ (nn : Nat) (l : List Int) (s : PS) (τ : St), l.length < nn → l.length ≤ 40 → s.1 = 0 → Md B n τ s → Inv N (cntL l) s → Pn τ l → τ.2.1 94 37 = l.length → τ.2.1 94 35 = oo + (if c = 9 then (l.length : Int) - (dropC c l).length else 0) → putC c x l s = T → dropC c l = lT → Fe [34, 35, 37] [110, 111] σ τ →  AW mX12_settles G d 0 0 (mq G (fun ro ρ => ro = none ∧ Md B n ρ T ∧ Pn ρ lT ∧ ρ.2.1 94 37 = lT.length ∧ ρ.2.1 94 35 = oo ∧ Fe [34, 35, 37] [110, 111] σ ρ)) 0 [some (vR 94), some (vI c)] [] τ := by
  intro nn
  induction nn with
  | zero => intros; omega
  | succ nn ih =>
    intro l s τ hn hl h0 hM hI hP h37 h35 hT hlT hF
    have hS := hF.sta hS0
    refine AW_aload_n dX12_settles_0 rfl ?_
    refine AW_getI dX12_settles_1 gfX12_278 (hS.cel rfl) ?_
    refine AW_if_le (tgt := 57) dX12_settles_4 (by decide) (fun c_4 => ?_) (fun c_4 => ?_)
    · skip
      rw [h37] at c_4
      have hl0 : l = [] := List.eq_nil_of_length_eq_zero (by omega)
      subst hl0
      have hT2 : s = T := hT
      have hl2 : [] = lT := hlT
      subst hT2
      subst hl2
      refine AW_vret dX12_settles_57 rfl ?_
      first
      | exact ⟨rfl, hM, trivial, h37, by rw [h35]; split <;> simp [dropC], hF⟩
      | (refine ⟨rfl, hM, hP, by rw [hle]; exact h37, ?_, hF⟩
         rw [h35]
         split <;> omega)
    · skip
      rw [h37] at c_4
      obtain ⟨y, l2, rfl⟩ : ∃ y l2, l = y :: l2 := by
        cases l with
        | nil => exact absurd (by decide) c_4
        | cons y l2 => exact ⟨y, l2, rfl⟩
      have hle : ((y :: l2).length : Int) = l2.length + 1 := by simp
      rw [hle] at h37
      have hlb : l2.length + 1 ≤ 40 := hl
      have hdl := dropC_len c l2
      refine AW_aload_n dX12_settles_7 rfl ?_
      refine AW_getR (a := 112) dX12_settles_8 gfX12_74 (hS.cel rfl) (hS.rf rfl) ?_
      refine AW_aload_n dX12_settles_11 rfl ?_
      refine AW_getI dX12_settles_12 gfX12_278 (hS.cel rfl) ?_
      refine AW_iconst dX12_settles_15 ?_
      refine AW_isubE dX12_settles_16 (by rw [h37]; omega) (by rw [h37]; omega) ?_
      
      refine AW_iald dX12_settles_17 (hS.cel rfl) (by rw [h37]; omega) (by rw [h37]; omega) ?_
      refine AW_iload_n dX12_settles_18 rfl ?_
      refine AW_icmp_ne (tgt := 57) dX12_settles_19 (by decide) (fun c_19 => ?_) (fun c_19 => ?_)
      · skip
        rw [h37, show (((l2.length : Int) + 1) - 1).toNat = l2.length by omega, hP.1] at c_19
        unfold putC at hT
        unfold dropC at hlT h35
        rw [if_neg c_19] at hT hlT h35
        subst hT
        subst hlT
        refine AW_vret dX12_settles_57 rfl ?_
        first
        | exact ⟨rfl, hM, trivial, h37, by rw [h35]; split <;> simp [dropC], hF⟩
        | (refine ⟨rfl, hM, hP, by rw [hle]; exact h37, ?_, hF⟩
           rw [h35]
           split <;> omega)
      · skip
        rw [h37, show (((l2.length : Int) + 1) - 1).toNat = l2.length by omega, hP.1] at c_19
        have cy : y = c := c_19
        unfold putC at hT
        unfold dropC at hlT h35
        rw [if_pos cy] at hT hlT h35
        rw [hle] at h35
        have hI1 : Inv N (cntL l2 + 1) s := by
          unfold cntL at hI
          rw [if_neg (by omega), Nat.add_comm] at hI
          exact hI
        refine AW_aload_n dX12_settles_22 rfl ?_
        refine AW_aload_n dX12_settles_23 rfl ?_
        refine AW_getI dX12_settles_24 gfX12_278 (hS.cel rfl) ?_
        refine AW_iconst dX12_settles_27 ?_
        refine AW_isubE dX12_settles_28 (by rw [h37]; omega) (by rw [h37]; omega) ?_
        rw [h37, show ((l2.length : Int) + 1) - 1 = (l2.length : Int) by omega]
        refine AW_putI dX12_settles_29 (Or.inl pfX12_278) (hS.cel rfl) ?_
        have hF1 : Fe [37] [] τ (upI τ 94 37 (l2.length : Int)) := Fe.rf.uf (by decide) _
        have hM1 := hM.fm hF1
        have hS1 := hF1.sta hS
        have hP1 := Pn.fm hF1 (by decide) l2 hP.2
        have h371 : (upI τ 94 37 (l2.length : Int)).2.1 94 37 = (l2.length : Int) := up_at _ _ _ _
        have h351 : (upI τ 94 37 (l2.length : Int)).2.1 94 35 = τ.2.1 94 35 := hF1.f 35
        have hW1 : Fe [34, 35, 37] [110, 111] σ (upI τ 94 37 (l2.length : Int)) := hF.tr (hF1.mo (by decide) (by decide))
        generalize upI τ 94 37 (l2.length : Int) = τ1 at hF1 hM1 hS1 hP1 h371 h351 hW1 ⊢
        refine AW_aload_n dX12_settles_32 rfl ?_
        refine AW_iload_n dX12_settles_33 rfl ?_
        refine AW_iconst dX12_settles_34 ?_
        refine AW_callV2 (d' := d - 1) dX12_settles_35 (Or.inl lkX12_258) mfX12_emits (hS1.cel rfl) ⟨_, rfl, rfl⟩ (n_emits hS1 hM1 x _ _ (hI1.lt hNn h0) hx hx2) (by omega) (Nat.le_of_ble_eq_true rfl) ?_
        rintro _ ρ1 ⟨rfl, hM2, hG2⟩ -
        have hS2 := hG2.sta hS1
        have h372 := (hG2.f 37).trans h371
        have h352 : ρ1.2.1 94 35 = τ.2.1 94 35 := (hG2.f 35).trans h351
        have hW2 := hW1.tr (hG2.mo (by decide) (by decide))
        have hP2 := Pn.fm hG2 (by decide) l2 hP1
        rw [← h352] at h35
        refine AW_iload_n dX12_settles_38 rfl ?_
        refine AW_bipush dX12_settles_39 ?_
        refine AW_icmp_ne (tgt := 0) dX12_settles_41 (by decide) (fun c_41 => ?_) (fun c_41 => ?_)
        · skip
          first
          | (rw [if_neg (by assumption)] at h35
             exact ih l2 (putS x s) _ (by omega) (by omega) h0 hM2 (hI1.put x) hP2 h372 (by rw [if_neg (by assumption)]; exact h35) hT hlT hW2)
          | (have c9 : c = 9 := by omega
             rw [if_pos c9] at h35
             have hG3 : Fe [35] [] ρ1 (upI ρ1 94 35 (ρ1.2.1 94 35 - 1)) := Fe.rf.uf (by decide) _
             exact ih l2 (putS x s) _ (by omega) (by omega) h0 (hM2.fm hG3) (hI1.put x) (Pn.fm hG3 (by decide) l2 hP2) ((hG3.f 37).trans h372) (by rw [if_pos c9, up_at]; omega) hT hlT (hW2.tr (hG3.mo (by decide) (by decide))))
        · skip
          refine AW_aload_n dX12_settles_44 rfl ?_
          refine AW_aload_n dX12_settles_45 rfl ?_
          refine AW_getI dX12_settles_46 gfX12_281 (hS2.cel rfl) ?_
          refine AW_iconst dX12_settles_49 ?_
          refine AW_isubE dX12_settles_50 (by rw [h352]; omega) (by rw [h352]; omega) ?_
          refine AW_putI dX12_settles_51 (Or.inl pfX12_281) (hS2.cel rfl) ?_
          refine AW_goto (tgt := 0) dX12_settles_54 (by decide) ?_
          first
          | (rw [if_neg (by assumption)] at h35
             exact ih l2 (putS x s) _ (by omega) (by omega) h0 hM2 (hI1.put x) hP2 h372 (by rw [if_neg (by assumption)]; exact h35) hT hlT hW2)
          | (have c9 : c = 9 := by omega
             rw [if_pos c9] at h35
             have hG3 : Fe [35] [] ρ1 (upI ρ1 94 35 (ρ1.2.1 94 35 - 1)) := Fe.rf.uf (by decide) _
             exact ih l2 (putS x s) _ (by omega) (by omega) h0 (hM2.fm hG3) (hI1.put x) (Pn.fm hG3 (by decide) l2 hP2) ((hG3.f 37).trans h372) (by rw [if_pos c9, up_at]; omega) hT hlT (hW2.tr (hG3.mo (by decide) (by decide))))
theorem n_settles {G : Gt} {d : Nat} {σ : St} (hd : 1 ≤ d) {B : Nat → Int} {n N : Nat} {oo c x : Int} (hS0 : Sta σ) (hNn : N ≤ 400) (hx : c = mop x) (hx2 : (0 : Int) = marg x) (hc12 : c ≠ 12) (hoo : 0 ≤ oo ∧ oo ≤ 100) {l : List Int} {s : PS} (hl : l.length ≤ 40) (h0 : s.1 = 0) (hM : Md B n σ s) (hI : Inv N (cntL l) s) (hP : Pn σ l) (h37 : σ.2.1 94 37 = l.length) (h35 : σ.2.1 94 35 = oo + (if c = 9 then (l.length : Int) - (dropC c l).length else 0)) : AM mX12_settles G d 0 0 [vR 94, vI c] σ (fun ro ρ => ro = none ∧ Md B n ρ (putC c x l s) ∧ Pn ρ (dropC c l) ∧ ρ.2.1 94 37 = (dropC c l).length ∧ ρ.2.1 94 35 = oo ∧ Fe [34, 35, 37] [110, 111] σ ρ) := by
  refine AM.intro (by decide +kernel) (by simp [nLg]) (Nat.le_of_ble_eq_true rfl) (fun hO => ?_)
  exact ln_stl hd hS0 hNn hx hx2 hc12 hoo (l.length + 1) l s σ (by omega) hl h0 hM hI hP h37 h35 rfl rfl Fe.rf
