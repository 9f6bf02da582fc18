-- THE PEOPLE: their fields (side, sort, way, own, waited, age, taken, looked, left, parted), tallies, STATE
abbrev Pe : Type := Nat → Nat → Int
abbrev Tw : Type := Pe × (Nat → Int) × Int
def setP (P : Pe) (f p : Nat) (v : Int) : Pe := fun f' p' => if f' = f ∧ p' = p then v else P f' p'
def setT (T : Nat → Int) (i : Nat) (v : Int) : Nat → Int := fun j => if j = i then v else T j
theorem setP_if (P : Pe) (f p : Nat) (v : Int) (f' p' : Nat) : setP P f p v f' p' = if f' = f ∧ p' = p then v else P f' p' := rfl
theorem setP_at (P : Pe) (f p : Nat) (v : Int) : setP P f p v f p = v := by rw [setP_if, if_pos ⟨rfl, rfl⟩]
theorem setP_f (P : Pe) {f f' : Nat} (p p' : Nat) (v : Int) (h : f' ≠ f) : setP P f p v f' p' = P f' p' := by rw [setP_if, if_neg (fun q => h q.1)]
theorem setP_p (P : Pe) (f f' : Nat) {p p' : Nat} (v : Int) (h : p' ≠ p) : setP P f p v f' p' = P f' p' := by rw [setP_if, if_neg (fun q => h q.2)]
theorem setT_if (T : Nat → Int) (i : Nat) (v : Int) (j : Nat) : setT T i v j = if j = i then v else T j := rfl
theorem setT_o (T : Nat → Int) {i j : Nat} (v : Int) (h : j ≠ i) : setT T i v j = T j := by rw [setT_if, if_neg h]
def fct (D : Mk) (T : Nat → Int) (P : Pe) (p : Nat) : Nat → Int
  | 0 => T 0
  | 1 => P 4 p
  | 2 => P 1 p
  | 3 => D 1 (6 * (P 0 p).toNat + (P 1 p).toNat)
  | 4 => bestL D (1 - (P 0 p).toNat) 6
  | 5 => D 4 6
  | _ => if T 0 + 1 < D 4 2 then wt D ((D 4 2).toNat - (T 0 + 1).toNat) (P 0 p).toNat (P 1 p).toNat else 0
def sy (D : Mk) (Ws : Nat → Wy) (w : Tw) (p : Nat) (h : Int) : Option Int := jsay (fct D w.2.1 w.1 p) (Ws (w.1 2 p).toNat) h
def wf (D : Mk) (P : Pe) (p q : Nat) : Int := wo D (P 0 p).toNat (P 1 p).toNat (P 1 q).toNat
def nxz (z : Int) : Int := wr (wr (1664525 * z) + 1013904223)
def drw (z m : Int) : Int := (aUshr z 8).tmod m
def errV (D : Mk) (z : Int) : Int := if D 4 3 = 0 then 0 else drw (nxz z) (2 * D 4 3 + 1) - D 4 3
def errZ (D : Mk) (z : Int) : Int := if D 4 3 = 0 then z else nxz z
def freP (P : Pe) (p : Nat) : Pe := setP (setP P 3 p (-1)) 5 p 0
def bndP (P : Pe) (p q : Nat) (t : Int) : Pe := setP (setP (setP (setP P 3 p (q : Int)) 5 p 0) 6 p t) 7 p 0
def takeS (D : Mk) (Ws : Nat → Wy) (w : Tw) (p : Nat) : Int := (sy D Ws w p 256).getD 0
def temptB (D : Mk) (Ws : Nat → Wy) (w : Tw) (q o : Nat) (seen : Int) : Bool := match sy D Ws w q 257 with
  | none => false
  | some v => decide (wr (wf D w.1 q o + v) ≤ seen)
def mtH (D : Mk) (w : Tw) (p q : Nat) : Int := wf D w.1 p q + errV D w.2.2
def mtS (D : Mk) (w : Tw) (p q : Nat) : Int := wf D w.1 q p + errV D (errZ D w.2.2)
def mtW (D : Mk) (w : Tw) : Tw := (w.1, setT w.2.1 1 (wr (w.2.1 1 + 1)), errZ D (errZ D w.2.2))
def pairS (w : Tw) (p q : Nat) (tp tq : Int) : Tw := (bndP (bndP w.1 p q tp) q p tq, setT w.2.1 2 (wr (w.2.1 2 + 1)), w.2.2)
def leftS (w : Tw) (o : Nat) : Tw := (setP (freP w.1 o) 8 o (wr (w.1 8 o + 1)), setT w.2.1 3 (wr (w.2.1 3 + 1)), w.2.2)
def meetS (D : Mk) (Ws : Nat → Wy) (w : Tw) (p q : Nat) : Tw :=
  if mtH D w p q < takeS D Ws (mtW D w) p then mtW D w
  else if w.1 3 q = -1 then (if mtS D w p q < takeS D Ws (mtW D w) q then mtW D w else pairS (mtW D w) p q (takeS D Ws (mtW D w) p) (takeS D Ws (mtW D w) q))
  else if temptB D Ws (mtW D w) q (w.1 3 q).toNat (mtS D w p q) = true then pairS (leftS (mtW D w) (w.1 3 q).toNat) p q (takeS D Ws (mtW D w) p) (takeS D Ws (mtW D w) q)
  else mtW D w
abbrev thr (D : Mk) (P : Pe) (q : Nat) : Prop := P 0 q = 1 ∧ (D 4 5 = 1 ∨ P 3 q = -1)
def cntT (D : Mk) (P : Pe) : Nat → Nat
  | 0 => 0
  | k + 1 => cntT D P k + if thr D P k then 1 else 0
def pick (D : Mk) (P : Pe) : Nat → Nat → Int → Option Nat
  | 0, _, _ => none
  | m + 1, i, k => if thr D P i then (if k = 0 then some i else pick D P m (i + 1) (k - 1)) else pick D P m (i + 1) k
theorem pick_0 (D : Mk) (P : Pe) (i : Nat) (k : Int) : pick D P 0 i k = none := rfl
theorem pick_s (D : Mk) (P : Pe) (m i : Nat) (k : Int) : pick D P (m + 1) i k = if thr D P i then (if k = 0 then some i else pick D P m (i + 1) (k - 1)) else pick D P m (i + 1) k := rfl
theorem cntT_s (D : Mk) (P : Pe) (k : Nat) : cntT D P (k + 1) = cntT D P k + if thr D P k then 1 else 0 := rfl
theorem cntT_le (D : Mk) (P : Pe) : ∀ k, cntT D P k ≤ k := by
  intro k
  induction k with
  | zero => exact Nat.le_refl _
  | succ k ih => rw [cntT_s]; split <;> omega
/-- who is met by the draw, if one is -/
def goW (w : Tw) : Tw := (w.1, w.2.1, nxz w.2.2)
def goS (D : Mk) (Ws : Nat → Wy) (n : Nat) (w : Tw) (p : Nat) : Tw :=
  if cntT D w.1 n = 0 then w else match pick D w.1 n 0 (drw (nxz w.2.2) (cntT D w.1 n : Int)) with
    | none => goW w
    | some q => meetS D Ws (goW w) p q
def lkP (P : Pe) (p q : Nat) : Pe := setP (setP P 7 p 1) 7 q 1
def ptP (P : Pe) (p q : Nat) : Pe := setP (setP (freP (freP P p) q) 9 p (wr (P 9 p + 1))) 9 q (wr (P 9 q + 1))
abbrev lkC (D : Mk) (P : Pe) (p : Nat) : Prop := P 7 p = 0 ∧ D 4 4 ≤ P 5 p
def lkS (D : Mk) (w : Tw) (p q : Nat) : Tw :=
  if wf D w.1 p q < w.1 6 p ∨ wf D w.1 q p < w.1 6 q then (ptP (lkP w.1 p q) p q, setT w.2.1 4 (wr (w.2.1 4 + 1)), w.2.2) else (lkP w.1 p q, w.2)
def lookS (D : Mk) (w : Tw) (p : Nat) : Tw := if w.1 0 p = 0 ∧ w.1 3 p ≠ -1 ∧ lkC D w.1 p then lkS D w p (w.1 3 p).toNat else w
def outS (D : Mk) (Ws : Nat → Wy) (n : Nat) (w : Tw) (p : Nat) : Tw := if w.1 0 p = 0 ∧ w.1 3 p = -1 then goS D Ws n w p else w
def ageS (w : Tw) (p : Nat) : Tw := if w.1 3 p = -1 then (setP w.1 4 p (wr (w.1 4 p + 1)), w.2) else (setP w.1 5 p (wr (w.1 5 p + 1)), w.2)
def itr (g : Tw → Nat → Tw) : Nat → Nat → Tw → Tw
  | 0, _, w => w
  | m + 1, i, w => itr g m (i + 1) (g w i)
theorem itr_0 (g : Tw → Nat → Tw) (i : Nat) (w : Tw) : itr g 0 i w = w := rfl
theorem itr_s (g : Tw → Nat → Tw) (m i : Nat) (w : Tw) : itr g (m + 1) i w = itr g m (i + 1) (g w i) := rfl
def endW (w : Tw) : Tw := (w.1, setT w.2.1 0 (wr (w.2.1 0 + 1)), w.2.2)
def weekS (D : Mk) (Ws : Nat → Wy) (n : Nat) (w : Tw) : Tw := endW (itr ageS n 0 (itr (outS D Ws n) n 0 (itr (lookS D) n 0 w)))
def weeksS (D : Mk) (Ws : Nat → Wy) (n : Nat) : Nat → Tw → Tw
  | 0, w => w
  | k + 1, w => weeksS D Ws n k (weekS D Ws n w)
theorem weeksS_0 (D : Mk) (Ws : Nat → Wy) (n : Nat) (w : Tw) : weeksS D Ws n 0 w = w := rfl
theorem weeksS_s (D : Mk) (Ws : Nat → Wy) (n k : Nat) (w : Tw) : weeksS D Ws n (k + 1) w = weeksS D Ws n k (weekS D Ws n w) := rfl
-- what always holds of PEOPLE
def WFo (D : Mk) (n : Nat) (P : Pe) (p : Nat) : Prop := (P 0 p = 0 ∨ P 0 p = 1) ∧ (0 ≤ P 1 p ∧ P 1 p < D 0 (P 0 p).toNat) ∧ (0 ≤ P 2 p ∧ P 2 p < 6) ∧ (P 3 p = -1 ∨ (0 ≤ P 3 p ∧ P 3 p < n ∧ P 0 (P 3 p).toNat = 1 - P 0 p)) ∧ (P 7 p = 0 ∨ P 7 p = 1)
def WFP (D : Mk) (n : Nat) (P : Pe) : Prop := n ≤ 40 ∧ (∀ p, p < n → WFo D n P p) ∧ ∀ f p, 4 ≤ f → n ≤ p → P f p = 0
theorem WFP.set {D : Mk} {n : Nat} {P : Pe} (h : WFP D n P) {f p : Nat} {v : Int} (hp : p < n) (hf : 3 ≤ f) (h3 : f = 3 → v = -1 ∨ (0 ≤ v ∧ v < n ∧ P 0 v.toNat = 1 - P 0 p)) (h7 : f = 7 → v = 0 ∨ v = 1) : WFP D n (setP P f p v) := by
  refine ⟨h.1, fun q hq => ?_, fun f' q h4 hq => ?_⟩
  · obtain ⟨a1, a2, a3, a4, a5⟩ := h.2.1 q hq
    have e : ∀ f' q', f' < 3 → setP P f p v f' q' = P f' q' := fun f' q' hf' => setP_f _ _ _ _ (by omega)
    refine ⟨by rw [e 0 _ (by decide)]; exact a1, by rw [e 0 _ (by decide), e 1 _ (by decide)]; exact a2, by rw [e 2 _ (by decide)]; exact a3, ?_, ?_⟩
    · by_cases hc : f = 3 ∧ q = p
      · obtain ⟨rfl, rfl⟩ := hc
        rw [setP_at, e 0 _ (by decide), e 0 _ (by decide)]
        exact h3 rfl
      · rw [setP_if, if_neg (fun q => hc ⟨q.1.symm, q.2⟩), e 0 _ (by decide), e 0 _ (by decide)]
        exact a4
    · by_cases hc : f = 7 ∧ q = p
      · obtain ⟨rfl, rfl⟩ := hc
        rw [setP_at]
        exact h7 rfl
      · rw [setP_if, if_neg (fun q => hc ⟨q.1.symm, q.2⟩)]
        exact a5
  · rw [setP_p _ _ _ _ (by omega)]
    exact h.2.2 f' q h4 hq
theorem WFP.se {D : Mk} {n : Nat} {P : Pe} (h : WFP D n P) {p : Nat} (hp : p < n) (f : Nat) (v : Int) (hf : 4 ≤ f ∧ f ≠ 7 := by decide) : WFP D n (setP P f p v) := h.set hp (by omega) (fun q => by omega) (fun q => by omega)
theorem WFP.fre {D : Mk} {n : Nat} {P : Pe} (h : WFP D n P) {p : Nat} (hp : p < n) : WFP D n (freP P p) := (h.set hp (by decide) (fun _ => Or.inl rfl) (fun q => absurd q (by decide))).se hp 5 0
theorem WFP.bnd {D : Mk} {n : Nat} {P : Pe} (h : WFP D n P) {p q : Nat} (hp : p < n) (hq : q < n) (hs : P 0 q = 1 - P 0 p) (t : Int) : WFP D n (bndP P p q t) := by
  have h1 : WFP D n (setP P 3 p (q : Int)) := h.set hp (by decide) (fun _ => Or.inr ⟨by omega, by omega, by rw [Int.toNat_natCast]; exact hs⟩) (fun q => absurd q (by decide))
  exact ((h1.se hp 5 0).se hp 6 t).set hp (by decide) (fun q => absurd q (by decide)) (fun _ => Or.inl rfl)
theorem bnd_0 (P : Pe) (p q : Nat) (t : Int) (x : Nat) : bndP P p q t 0 x = P 0 x := by
  unfold bndP
  rw [setP_f _ _ _ _ (by decide), setP_f _ _ _ _ (by decide), setP_f _ _ _ _ (by decide), setP_f _ _ _ _ (by decide)]
theorem fre_0 (P : Pe) (p x : Nat) : freP P p 0 x = P 0 x := by
  unfold freP
  rw [setP_f _ _ _ _ (by decide), setP_f _ _ _ _ (by decide)]
theorem left_0 (w : Tw) (o x : Nat) : (leftS w o).1 0 x = w.1 0 x := by
  show setP (freP w.1 o) 8 o (wr (w.1 8 o + 1)) 0 x = _
  rw [setP_f _ _ _ _ (by decide), fre_0]
theorem WFP.pair {D : Mk} {n : Nat} {w : Tw} (h : WFP D n w.1) {p q : Nat} (hp : p < n) (hq : q < n) (h0 : w.1 0 p = 0) (h1 : w.1 0 q = 1) (t t' : Int) : WFP D n (pairS w p q t t').1 := by
  refine (h.bnd hp hq (by rw [h0, h1]; rfl) t).bnd hq hp ?_ t'
  rw [bnd_0, bnd_0, h0, h1]; rfl
theorem WFP.left {D : Mk} {n : Nat} {w : Tw} (h : WFP D n w.1) {o : Nat} (ho : o < n) : WFP D n (leftS w o).1 := (h.fre ho).se ho 8 _
theorem own_lt {D : Mk} {n : Nat} {P : Pe} (h : WFP D n P) {p : Nat} (hp : p < n) (hn : P 3 p ≠ -1) : (P 3 p).toNat < n ∧ P 0 (P 3 p).toNat = 1 - P 0 p ∧ P 3 p = ((P 3 p).toNat : Int) := by
  rcases (h.2.1 p hp).2.2.2.1 with q | q
  · exact absurd q hn
  · exact ⟨by omega, q.2.2, by omega⟩
theorem WFP.meet {D : Mk} {Ws : Nat → Wy} {n : Nat} {w : Tw} (h : WFP D n w.1) {p q : Nat} (hp : p < n) (hq : q < n) (h0 : w.1 0 p = 0) (h1 : w.1 0 q = 1) : WFP D n (meetS D Ws w p q).1 := by
  unfold meetS
  split
  · exact h
  · split
    · split
      · exact h
      · exact WFP.pair (w := mtW D w) h hp hq h0 h1 _ _
    · rename_i hn
      split
      · have ho := own_lt h hq hn
        refine WFP.pair (w := leftS (mtW D w) (w.1 3 q).toNat) (WFP.left (w := mtW D w) h ho.1) hp hq ?_ ?_ _ _
        · rw [left_0]; exact h0
        · rw [left_0]; exact h1
      · exact h
theorem pick_ok {D : Mk} {P : Pe} : ∀ (m i : Nat) (k : Int) (q : Nat), pick D P m i k = some q → i ≤ q ∧ q < i + m ∧ thr D P q := by
  intro m
  induction m with
  | zero => intro i k q h; cases h
  | succ m ih =>
    intro i k q h
    rw [pick_s] at h
    split at h
    · rename_i ht
      split at h
      · cases h
        exact ⟨Nat.le_refl _, by omega, ht⟩
      · have := ih _ _ _ h
        exact ⟨by omega, by omega, this.2.2⟩
    · have := ih _ _ _ h
      exact ⟨by omega, by omega, this.2.2⟩
theorem WFP.go {D : Mk} {Ws : Nat → Wy} {n : Nat} {w : Tw} (h : WFP D n w.1) {p : Nat} (hp : p < n) (h0 : w.1 0 p = 0) : WFP D n (goS D Ws n w p).1 := by
  unfold goS
  split
  · exact h
  · split
    · exact h
    · rename_i q e
      have hq := pick_ok _ _ _ _ e
      exact WFP.meet (w := goW w) h hp (by omega) h0 hq.2.2.1
theorem WFP.look {D : Mk} {n : Nat} {w : Tw} (h : WFP D n w.1) {p : Nat} (hp : p < n) : WFP D n (lookS D w p).1 := by
  unfold lookS
  split
  · rename_i hc
    have ho := own_lt h hp hc.2.1
    have h1 : WFP D n (lkP w.1 p (w.1 3 p).toNat) := (h.set hp (f := 7) (v := 1) (by decide) (fun q => absurd q (by decide)) (fun _ => Or.inr rfl)).set ho.1 (by decide) (fun q => absurd q (by decide)) (fun _ => Or.inr rfl)
    unfold lkS
    split
    · exact (((h1.fre hp).fre ho.1).se hp 9 _).se ho.1 9 _
    · exact h1
  · exact h
theorem WFP.out {D : Mk} {Ws : Nat → Wy} {n : Nat} {w : Tw} (h : WFP D n w.1) {p : Nat} (hp : p < n) : WFP D n (outS D Ws n w p).1 := by
  unfold outS
  split
  · rename_i hc
    exact h.go hp hc.1
  · exact h
theorem WFP.age {D : Mk} {n : Nat} {w : Tw} (h : WFP D n w.1) {p : Nat} (hp : p < n) : WFP D n (ageS w p).1 := by
  unfold ageS
  split
  · exact h.se hp 4 _
  · exact h.se hp 5 _
theorem wfp_itr {D : Mk} {n : Nat} {g : Tw → Nat → Tw} (hg : ∀ w p, WFP D n w.1 → p < n → WFP D n (g w p).1) : ∀ (m i : Nat) (w : Tw), i + m ≤ n → WFP D n w.1 → WFP D n (itr g m i w).1 := by
  intro m
  induction m with
  | zero => intro i w _ h; exact h
  | succ m ih => intro i w hi h; exact ih (i + 1) _ (by omega) (hg w i h (by omega))
theorem WFP.week {D : Mk} {Ws : Nat → Wy} {n : Nat} {w : Tw} (h : WFP D n w.1) : WFP D n (weekS D Ws n w).1 := by
  show WFP D n (itr ageS n 0 _).1
  exact wfp_itr (fun w p h hp => h.age hp) n 0 _ (by omega) (wfp_itr (fun w p h hp => h.out hp) n 0 _ (by omega) (wfp_itr (fun w p h hp => h.look hp) n 0 _ (by omega) h))
-- the tally of WEEKS
theorem mt_t0 (D : Mk) (w : Tw) : (mtW D w).2.1 0 = w.2.1 0 := by
  show setT w.2.1 1 (wr (w.2.1 1 + 1)) 0 = _
  exact setT_o _ _ (by decide)
theorem pair_t0 (w : Tw) (p q : Nat) (t t' : Int) : (pairS w p q t t').2.1 0 = w.2.1 0 := by
  show setT w.2.1 2 (wr (w.2.1 2 + 1)) 0 = _
  exact setT_o _ _ (by decide)
theorem left_t0 (w : Tw) (o : Nat) : (leftS w o).2.1 0 = w.2.1 0 := by
  show setT w.2.1 3 (wr (w.2.1 3 + 1)) 0 = _
  exact setT_o _ _ (by decide)
theorem meet_t0 (D : Mk) (Ws : Nat → Wy) (w : Tw) (p q : Nat) : (meetS D Ws w p q).2.1 0 = w.2.1 0 := by
  unfold meetS
  split
  · exact mt_t0 D w
  · split
    · split
      · exact mt_t0 D w
      · rw [pair_t0, mt_t0]
    · split
      · rw [pair_t0, left_t0, mt_t0]
      · exact mt_t0 D w
theorem out_t0 (D : Mk) (Ws : Nat → Wy) (n : Nat) (w : Tw) (p : Nat) : (outS D Ws n w p).2.1 0 = w.2.1 0 := by
  unfold outS goS
  split
  · split
    · rfl
    · split
      · rfl
      · exact meet_t0 D Ws (goW w) p _
  · rfl
theorem look_t0 (D : Mk) (w : Tw) (p : Nat) : (lookS D w p).2.1 0 = w.2.1 0 := by
  unfold lookS lkS
  split
  · split
    · show setT w.2.1 4 (wr (w.2.1 4 + 1)) 0 = _
      exact setT_o _ _ (by decide)
    · rfl
  · rfl
theorem age_t0 (w : Tw) (p : Nat) : (ageS w p).2.1 0 = w.2.1 0 := by
  unfold ageS
  split <;> rfl
theorem itr_t0 {g : Tw → Nat → Tw} (hg : ∀ w p, (g w p).2.1 0 = w.2.1 0) : ∀ (m i : Nat) (w : Tw), (itr g m i w).2.1 0 = w.2.1 0 := by
  intro m
  induction m with
  | zero => intro i w; rfl
  | succ m ih => intro i w; rw [itr_s, ih]; exact hg w i
theorem week_t0 (D : Mk) (Ws : Nat → Wy) (n : Nat) (w : Tw) : (weekS D Ws n w).2.1 0 = wr (w.2.1 0 + 1) := by
  unfold weekS endW
  show setT (itr ageS n 0 (itr (outS D Ws n) n 0 (itr (lookS D) n 0 w))).2.1 0 (wr ((itr ageS n 0 (itr (outS D Ws n) n 0 (itr (lookS D) n 0 w))).2.1 0 + 1)) 0 = _
  rw [setT_if, if_pos rfl, itr_t0 age_t0, itr_t0 (out_t0 D Ws n), itr_t0 (look_t0 D)]
