-- what each picture keeps over the others' methods
def Fu (L : List Nat) (σ τ : St) : Prop := ∀ r, 16 ≤ r → r < 132 → r ∉ L → ∀ j, τ.2.1 r j = σ.2.1 r j
theorem Fr.u {L : List Nat} {σ τ : St} (h : Fr L σ τ) : Fu L σ τ := fun r _ _ hr j => h.2.2.2 r hr j
theorem Fl.u {L : List Nat} {σ τ : St} (h : Fl L σ τ) (hS : Sta σ) : Fu L σ τ := fun r h1 h2 h3 j => h.iv hS r j ⟨h1, h2⟩ h3
theorem Fkm.u {σ τ : St} (h : Fkm σ τ) (hS : Sta σ) : Fu [46] σ τ := fun r h1 h2 h3 j => h.2.2.1 r j (Nat.lt_of_lt_of_le h2 hS.1) (fun e => h3 (by simp [e]))
theorem Ff.u {σ τ : St} (h : Ff σ τ) (hS : Sta σ) {hc N : Nat} (hh : HcC hc N σ) : Fu [85, 87, 88, 89, 90] σ τ := by
  intro r h1 h2 h3 j
  refine h.2.2.2.2.1 r j (Nat.lt_of_lt_of_le h2 hS.1) (fun q => h3 ?_) (fun e => h3 ?_)
  · simp at q ⊢
    omega
  · rw [hh.1] at e
    have := hh.2.2.1
    simp
    omega
theorem Fu.tr {L : List Nat} {σ τ ρ : St} (h : Fu L σ τ) (h2 : Fu L τ ρ) : Fu L σ ρ := fun r a b c j => (h2 r a b c j).trans (h r a b c j)
theorem Fu.mo {L L' : List Nat} {σ τ : St} (h : Fu L σ τ) (hL : ∀ r, r ∈ L → r ∈ L' := by decide) : Fu L' σ τ := fun r a b c j => h r a b (fun q => c (hL r q)) j
theorem Fu.v {L : List Nat} {σ τ : St} (h : Fu L σ τ) (r j : Nat) (hr : r ∉ L := by decide) (h16 : 16 ≤ r := by decide) (h132 : r < 132 := by decide) : τ.2.1 r j = σ.2.1 r j := h r h16 h132 hr j
section KEEP
variable {L : List Nat} {σ τ : St} {D : Mk}
theorem RepC.u (h : RepC D σ) (hF : Fu L σ τ) (h18 : 18 ∉ L := by decide) (h19 : 19 ∉ L := by decide) (h20 : 20 ∉ L := by decide) (h21 : 21 ∉ L := by decide) (h22 : 22 ∉ L := by decide) : RepC D τ :=
  ⟨fun k hk => (hF.v 18 k h18).trans (h.1 k hk), fun k hk => (hF.v 19 k h19).trans (h.2.1 k hk), fun k hk => (hF.v 20 k h20).trans (h.2.2.1 k hk), fun k hk => (hF.v 21 k h21).trans (h.2.2.2.1 k hk), fun k hk => (hF.v 22 k h22).trans (h.2.2.2.2 k hk)⟩
theorem rkC.u (h : rkC D σ) (hF : Fu L σ τ) (h17 : 17 ∉ L := by decide) (h23 : 23 ∉ L := by decide) (h24 : 24 ∉ L := by decide) (h25 : 25 ∉ L := by decide) : rkC D τ := by
  refine ⟨by rw [hF.v 23 3 h23, hF.v 17 5 h17]; exact h.1, fun e => ?_⟩
  rw [hF.v 23 3 h23, hF.v 17 5 h17] at e
  rcases h.2 e with ⟨a, b, m, c, f⟩ | ⟨a, b⟩
  · exact Or.inl ⟨a, (hF.v 23 5 h23).trans b, m, c, (hF.v 23 4 h23).trans f.1, (hF.v 25 0 h25).trans f.2.1, (hF.v 25 1 h25).trans f.2.2.1, f.2.2.2.1.keep (fun j _ => hF.v 24 j h24), f.2.2.2.2⟩
  · exact Or.inr ⟨a, (hF.v 23 5 h23).trans b⟩
theorem wtC.u (h : wtC D σ) (hF : Fu L σ τ) (h17 : 17 ∉ L := by decide) (h26 : 26 ∉ L := by decide) (h27 : 27 ∉ L := by decide) : wtC D τ := by
  refine ⟨by rw [hF.v 26 3 h26, hF.v 17 5 h17]; exact h.1, fun e => ?_⟩
  rw [hF.v 26 3 h26, hF.v 17 5 h17] at e
  exact fun s i a b c t' f g => (hF.v 27 _ h27).trans (h.2 e s i a b c t' f g)
theorem tpC.u {n : Nat} {B : Nat → Int} (h : tpC n B σ) (hF : Fu L σ τ) (h29 : 29 ∉ L := by decide) (h30 : 30 ∉ L := by decide) : tpC n B τ := ⟨(hF.v 29 4 h29).trans h.1, h.2.1, fun k hk => by rw [hF.v 30 k h30]; exact h.2.2 k hk⟩
theorem wcl_bd {k : Nat} (hk : k < 6) : 48 ≤ wcl k ∧ wcl k + 5 ≤ 84 := by
  rcases (show k = 0 ∨ k = 1 ∨ k = 2 ∨ k = 3 ∨ k = 4 ∨ k = 5 by omega) with rfl | rfl | rfl | rfl | rfl | rfl <;> decide
theorem WyC.u {k : Nat} {W : Wy} (h : WyC σ k W) (hF : Fu L σ τ) (hk : k < 6) (hL : ∀ r, r ∈ L → r < 48 ∨ 84 < r := by decide) : WyC τ k W := by
  obtain ⟨b1, b2⟩ := wcl_bd hk
  have e : ∀ q, q ≤ 5 → ∀ j, τ.2.1 (wcl k + q) j = σ.2.1 (wcl k + q) j := fun q hq j => hF (wcl k + q) (by omega) (by omega) (fun m => by have := hL _ m; omega) j
  obtain ⟨h1, h2, h3, h4, h5, h6⟩ := h
  refine ⟨(e 0 (by omega) 6).trans h1, h2, (e 0 (by omega) 5).trans h3, h4, fun l hl => ?_, fun i hi => (e 1 (by omega) i).trans (h6 i hi)⟩
  obtain ⟨a, b, c, d⟩ := h5 l hl
  exact ⟨(e 2 (by omega) l).trans a, (e 3 (by omega) l).trans b, (e 4 (by omega) l).trans c, (e 5 (by omega) l).trans d⟩
theorem PrC.u {Q : Nat → Int} (h : PrC Q σ) (hF : Fu L σ τ) (h92 : 92 ∉ L := by decide) : PrC Q τ := ⟨fun j hj => (hF.v 92 j h92).trans (h.1 j hj), h.2⟩
/-- THE FEAST keeps, where its cells do -/
theorem FeC.kp {hc N n : Nat} {K : Nat → Int} (h : FeC hc N n K σ) (h1 : τ.2.2.1 85 4 = σ.2.2.1 85 4) (h2 : Cel σ hc (20, N) → Cel τ hc (20, N)) (h85 : ∀ j, τ.2.1 85 j = σ.2.1 85 j) (h86 : ∀ j, τ.2.1 86 j = σ.2.1 86 j) (h88 : ∀ j, τ.2.1 88 j = σ.2.1 88 j) (h89 : ∀ j, τ.2.1 89 j = σ.2.1 89 j) (hh : ∀ j, τ.2.1 hc j = σ.2.1 hc j) : FeC hc N n K τ := by
  obtain ⟨a, b, c, d⟩ := h
  have hb : HcC hc N τ := ⟨h1.trans b.1, h2 b.2.1, b.2.2⟩
  refine ⟨⟨(h85 6).trans a.1, a.2.1, fun i hi => (h86 i).trans (a.2.2.1 i hi), a.2.2.2⟩, hb, ⟨by rw [h85]; exact c.1, by rw [h85]; exact c.2⟩, ?_⟩
  rw [h85 10]
  refine d.imp id (fun q => ⟨q.1, ?_⟩)
  obtain ⟨r1, r2, r3, r4, r5, r6⟩ := q.2
  refine ⟨⟨hb, (h85 5).trans r1.2.1, r1.2.2.1, fun i l hi => (hh i).trans (r1.2.2.2 i l hi)⟩, by rw [h85 7]; exact r2, by rw [h85 8]; exact r3, (h85 9).trans r4, (h89 0).trans r5, fun j hj => (h88 j).trans (r6 j hj)⟩
theorem FeC.k {hc N n : Nat} {K : Nat → Int} (h : FeC hc N n K σ) (hF : Fr L σ τ) (hL : ∀ r, r ∈ L → r < 85 ∨ (90 < r ∧ r < 132) := by decide) : FeC hc N n K τ := by
  have e : ∀ r, (85 ≤ r ∧ r ≤ 90) ∨ 132 ≤ r → ∀ j, τ.2.1 r j = σ.2.1 r j := fun r hr j => hF.iv r j (fun m => by have := hL _ m; omega)
  have := h.2.1.2.2.1
  exact h.kp (hF.rv 85 4) (fun q => hF.cel q) (e 85 (by omega)) (e 86 (by omega)) (e 88 (by omega)) (e 89 (by omega)) (e hc (by omega))
theorem FeC.l {hc N n : Nat} {K : Nat → Int} (h : FeC hc N n K σ) (hS : Sta σ) (hF : Fl L σ τ) (hL : ∀ r, r ∈ L → r < 85 ∨ (90 < r ∧ r < 132) := by decide) : FeC hc N n K τ := by
  have e : ∀ r, 85 ≤ r ∧ r ≤ 90 → ∀ j, τ.2.1 r j = σ.2.1 r j := fun r hr j => hF.iv hS r j (by omega) (fun m => by have := hL _ m; omega)
  have hk := h.2.1.2.1
  have := h.2.1.2.2.1
  refine h.kp (hF.2.2.1 85 4 (hS.np (by decide) (by decide))) (fun q => ⟨q.1, by rw [hF.2.1]; exact q.2.1, by rw [hF.1]; exact q.2.2⟩) (e 85 (by omega)) (e 86 (by omega)) (e 88 (by omega)) (e 89 (by omega)) (fun j => hF.2.2.2 hc j ?_ (fun m => by have := hL _ m; omega))
  rw [hk.2.2]
  intro q
  cases q
theorem FeC.km {hc N n : Nat} {K : Nat → Int} (h : FeC hc N n K σ) (hS : Sta σ) (hF : Fkm σ τ) : FeC hc N n K τ := by
  have e : ∀ r, 85 ≤ r ∧ r ≤ 90 → ∀ j, τ.2.1 r j = σ.2.1 r j := fun r hr j => hF.u hS r (by omega) (by omega) (fun m => by simp at m; omega) j
  have hk := h.2.1.2.1
  have := h.2.1.2.2.1
  have := hS.1
  exact h.kp (hF.2.2.2 85 4 (by decide) (by omega) (by decide) (Or.inl (by decide))) (fun q => ⟨q.1, Nat.lt_of_lt_of_le q.2.1 hF.1, by rw [hF.2.1 hc q.2.1]; exact q.2.2⟩) (e 85 (by omega)) (e 86 (by omega)) (e 88 (by omega)) (e 89 (by omega)) (fun j => hF.2.2.1 hc j hk.2.1 (by omega))
/-- the people keep, where THE FEAST's cells alone are written -/
theorem TwC.ff {n hc N : Nat} {pc : Nat → Nat} {w : Tw} (h : TwC n pc w σ) (hS : Sta σ) (hh : HcC hc N σ) (hF : Ff σ τ) : TwC n pc w τ := by
  have hu := hF.u hS hh
  have hc2 : ∀ r k, Cel σ r k → Cel τ r k := fun r k q => ⟨q.1, Nat.lt_of_lt_of_le q.2.1 hF.1, (hF.2.1 r q.2.1).trans q.2.2⟩
  have hr : ∀ r k j, Cel σ r k → r ≠ 85 → τ.2.2.1 r j = σ.2.2.1 r j := fun r k j q q2 => hF.2.2.2.1 r j q.2.1 (Or.inl q2)
  have h46 : Cel σ 46 (13, 3) := hS.cel rfl
  obtain ⟨⟨⟨a1, a2, a3⟩, a4, a5⟩, b, c⟩ := h
  refine ⟨⟨⟨(hu.v 46 2).trans a1, a2, ?_⟩, a4, fun i hi => ?_⟩, fun i hi => (hu.v 47 i).trans (b i hi), (hu.v 41 6).trans c⟩
  · rw [hr 46 _ 1 h46 (by decide)]
    refine a3.imp id ?_
    rintro ⟨ea, N2, q1, q2, q3, q4, q5, q6⟩
    exact ⟨ea, N2, q1, hc2 _ _ q2, q3, q4, q5, fun i hi => (hr ea _ i q2 (by omega)).trans (q6 i hi)⟩
  · obtain ⟨q1, q2, q3, q4, q5, q6⟩ := a5 i hi
    have hi2 : ∀ j, τ.2.1 (pc i) j = σ.2.1 (pc i) j := fun j => hF.2.2.2.2.1 (pc i) j q1.2.1 (fun m => by simp at m; omega) (fun e => by
      rw [hh.1] at e
      have e1 := q1.2.2
      rw [e, hh.2.1.2.2] at e1
      cases e1)
    exact ⟨hc2 _ _ q1, q2, (hi2 0).trans q3, fun f f1 f2 f3 => (hi2 _).trans (q4 f f1 f2 f3), (hr _ _ 3 q1 (by omega)).trans q5, (hr _ _ 4 q1 (by omega)).trans q6⟩
-- the model's pictures keep, where its cells do
theorem RepM.x (h : RepM D σ) (hF : Fu L σ τ) (hL : ∀ r, r ∈ L → r < 94 := by decide) : RepM D τ := by
  have e : ∀ r, 94 ≤ r → r < 132 → ∀ j, τ.2.1 r j = σ.2.1 r j := fun r a b j => hF r (by omega) b (fun m => by have := hL _ m; omega) j
  exact ⟨fun k hk => (e 95 (by omega) (by omega) k).trans (h.1 k hk), fun k hk => (e 96 (by omega) (by omega) k).trans (h.2.1 k hk), fun k hk => (e 97 (by omega) (by omega) k).trans (h.2.2.1 k hk), fun k hk => (e 98 (by omega) (by omega) k).trans (h.2.2.2.1 k hk), fun k hk => (e 94 (by omega) (by omega) _).trans (h.2.2.2.2 k hk)⟩
theorem mwC.x (h : mwC D σ) (e : ∀ r, 94 ≤ r → r < 132 → ∀ j, τ.2.1 r j = σ.2.1 r j) : mwC D τ := by
  unfold mwC
  rw [e 94 (by omega) (by omega)]
  exact h.imp id (fun q => ⟨q.1, fun s i a b c t' f g => (e 102 (by omega) (by omega) _).trans (q.2 s i a b c t' f g)⟩)
theorem tpM.x {n : Nat} {B : Nat → Int} (h : tpM n B σ) (e : ∀ r, 94 ≤ r → r < 132 → ∀ j, τ.2.1 r j = σ.2.1 r j) : tpM n B τ := ⟨(e 94 (by omega) (by omega) _).trans h.1, h.2.1, fun k hk => (e 103 (by omega) (by omega) _).trans (h.2.2 k hk)⟩
theorem wdM.x (h : wdM σ) (e : ∀ r, 94 ≤ r → r < 132 → ∀ j, τ.2.1 r j = σ.2.1 r j) : wdM τ := fun k hk => (e 104 (by omega) (by omega) k).trans (h k hk)
theorem WyM.x {k : Nat} {W : Wy} (h : WyM σ k W) (e : ∀ r, 94 ≤ r → r < 132 → ∀ j, τ.2.1 r j = σ.2.1 r j) : WyM τ k W := h.go (e 105 (by omega) (by omega) k) (fun r a b j _ _ => e r (by omega) (by omega) j) (fun j _ _ => ⟨e 110 (by omega) (by omega) j, e 111 (by omega) (by omega) j⟩)
theorem TwM.x {n : Nat} {w : Tw} (h : TwM n w σ) (e : ∀ r, 94 ≤ r → r < 132 → ∀ j, τ.2.1 r j = σ.2.1 r j) : TwM n w τ := ⟨fun f p hf hp => (e (113 + f) (by omega) (by omega) p).trans (h.1 f p hf hp), (e 94 (by omega) (by omega) _).trans h.2.1, fun i hi => (e 94 (by omega) (by omega) _).trans (h.2.2.1 i hi), (e 94 (by omega) (by omega) _).trans h.2.2.2⟩
theorem FeM.x {n : Nat} {K : Nat → Int} (h : FeM n K σ) (e : ∀ r, 94 ≤ r → r < 132 → ∀ j, τ.2.1 r j = σ.2.1 r j) : FeM n K τ := by
  have e94 := e 94 (by omega) (by omega)
  obtain ⟨a, b⟩ := h
  refine ⟨⟨(e94 _).trans a.1, a.2.1, fun i hi => (e 125 (by omega) (by omega) i).trans (a.2.2.1 i hi), a.2.2.2⟩, ?_⟩
  rw [e94 65]
  refine b.imp id (fun q => ⟨q.1, ?_⟩)
  obtain ⟨c1, c2, c3, c4, c5⟩ := q.2
  exact ⟨⟨(e94 _).trans c1.1, fun i l hi m hm => (e 127 (by omega) (by omega) _).trans (c1.2 i l hi m hm)⟩, (e94 _).trans c2, fun j hj => (e 128 (by omega) (by omega) j).trans (c3 j hj), (e94 _).trans c4, fun w hw => (e 131 (by omega) (by omega) w).trans (c5 w hw)⟩
theorem PrM.x {Q : Nat → Int} (h : PrM Q σ) (e : ∀ r, 94 ≤ r → r < 132 → ∀ j, τ.2.1 r j = σ.2.1 r j) : PrM Q τ := ⟨fun j hj => (e 126 (by omega) (by omega) j).trans (h.1 j hj), h.2⟩
end KEEP
-- the invariant of the law's loop
def IP (D : Mk) (Ws : Nat → Wy) (np : Nat) (w : Tw) : Prop := WFm D ∧ (∀ k, k < 6 → wyOK (Ws k)) ∧ WFP D np w.1 ∧ (0 ≤ w.2.1 0 ∧ w.2.1 0 ≤ 99)
def IC (D : Mk) (nt : Nat) (B : Nat → Int) (Ws : Nat → Wy) (np : Nat) (pc : Nat → Nat) (w : Tw) (hc N nf : Nat) (K Q : Nat → Int) (σ : St) : Prop := RepC D σ ∧ rkC D σ ∧ wtC D σ ∧ tpC nt B σ ∧ σ.2.1 45 2 = 6 ∧ (∀ k, k < 6 → WyC σ k (Ws k)) ∧ TwC np pc w σ ∧ FeC hc N nf K σ ∧ PrC Q σ
def IM (D : Mk) (nt : Nat) (B : Nat → Int) (Ws : Nat → Wy) (np : Nat) (w : Tw) (nf : Nat) (K Q : Nat → Int) (σ : St) : Prop := RepM D σ ∧ mwC D σ ∧ tpM nt B σ ∧ wdM σ ∧ (∀ k, k < 6 → WyM σ k (Ws k)) ∧ TwM np w σ ∧ FeM nf K σ ∧ PrM Q σ
def Ig (v : Nat) (σ : St) : Prop := Sta σ ∧ (0 ≤ σ.2.1 17 5 ∧ σ.2.1 17 5 ≤ (v : Int)) ∧ σ.2.1 34 4 = σ.2.1 94 40 ∧ σ.2.1 34 5 = σ.2.1 94 41
def Ivl (v N : Nat) (σ : St) : Prop := Ig v σ ∧ ∃ (D : Mk) (nt : Nat) (B : Nat → Int) (Ws : Nat → Wy) (np : Nat) (pc : Nat → Nat) (w : Tw) (hc nf : Nat) (K Q : Nat → Int), IP D Ws np w ∧ IC D nt B Ws np pc w hc N nf K Q σ ∧ IM D nt B Ws np w nf K Q σ
section INV
variable {D : Mk} {nt : Nat} {B : Nat → Int} {Ws : Nat → Wy} {np : Nat} {pc : Nat → Nat} {w : Tw} {hc N nf : Nat} {K Q : Nat → Int} {σ τ : St} {v : Nat}
theorem Ig.up (h : Ig v σ) : Ig (v + 1) σ := ⟨h.1, ⟨h.2.1.1, by have := h.2.1.2; omega⟩, h.2.2⟩
theorem Ivl.up (h : Ivl v N σ) : Ivl (v + 1) N σ := ⟨h.1.up, h.2⟩
theorem Ivl.cap (h : Ivl v N σ) : 8 ≤ N ∧ N ≤ 10080 := by
  obtain ⟨-, D, nt, B, Ws, np, pc, w, hc, nf, K, Q, -, hC, -⟩ := h
  have := hC.2.2.2.2.2.2.2.1.2.1.2.2.2
  exact this
theorem Ig.fm {fs L : List Nat} (h : Ig v σ) (hF : Fm fs L σ τ) (h40 : 40 ∉ fs := by decide) (h41 : 41 ∉ fs := by decide) (hL : ∀ r, r ∈ L → 95 ≤ r := by decide) : Ig v τ := by
  obtain ⟨a, b, c, d⟩ := h
  have e : ∀ r, r < 94 → ∀ j, τ.2.1 r j = σ.2.1 r j := fun r hr j => hF.a r j (fun q => by
    rcases List.mem_cons.mp q with q | q
    · omega
    · have := hL _ q
      omega)
  exact ⟨hF.sta a, by rw [e 17 (by decide)]; exact b, by rw [e 34 (by decide), hF.f 40 h40]; exact c, by rw [e 34 (by decide), hF.f 41 h41]; exact d⟩
theorem Ig.u {L : List Nat} (h : Ig v σ) (hS : Sta τ) (hF : Fu L σ τ) (h17 : 17 ∉ L := by decide) (h34 : 34 ∉ L := by decide) (h94 : 94 ∉ L := by decide) : Ig v τ := by
  obtain ⟨a, b, c, d⟩ := h
  exact ⟨hS, by rw [hF.v 17 5 h17]; exact b, by rw [hF.v 34 4 h34, hF.v 94 40 h94]; exact c, by rw [hF.v 34 5 h34, hF.v 94 41 h94]; exact d⟩
/-- the model's method leaves the class's pictures -/
theorem IC.fm {fs L : List Nat} (h : IC D nt B Ws np pc w hc N nf K Q σ) (hF : Fm fs L σ τ) (hL : ∀ r, r ∈ L → 95 ≤ r ∧ r < 132 := by decide) : IC D nt B Ws np pc w hc N nf K Q τ := by
  have hL2 : ∀ r, r ∈ 94 :: L → 94 ≤ r ∧ r < 132 := fun r q => by
    rcases List.mem_cons.mp q with q | q
    · omega
    · have := hL _ q
      omega
  have hn : ∀ r, r < 94 → r ∉ 94 :: L := fun r hr q => by have := hL2 _ q; omega
  have hu := hF.1.u
  obtain ⟨c1, c2, c3, c4, c5, c6, c7, c8, c9⟩ := h
  exact ⟨c1.u hu (hn _ (by decide)) (hn _ (by decide)) (hn _ (by decide)) (hn _ (by decide)) (hn _ (by decide)), c2.u hu (hn _ (by decide)) (hn _ (by decide)) (hn _ (by decide)) (hn _ (by decide)), c3.u hu (hn _ (by decide)) (hn _ (by decide)) (hn _ (by decide)), c4.u hu (hn _ (by decide)) (hn _ (by decide)), (hu.v 45 2 (hn _ (by decide))).trans c5, fun k hk => (c6 k hk).u hu hk (fun r q => by have := hL2 _ q; omega), c7.fr hF.1 (fun r q => by have := hL2 _ q; omega), c8.k hF.1 (fun r q => by have := hL2 _ q; omega), c9.u hu (hn _ (by decide))⟩
/-- the class's method leaves the model's pictures -/
theorem IM.u {L : List Nat} (h : IM D nt B Ws np w nf K Q σ) (hF : Fu L σ τ) (hL : ∀ r, r ∈ L → r < 94 := by decide) : IM D nt B Ws np w nf K Q τ := by
  have e : ∀ r, 94 ≤ r → r < 132 → ∀ j, τ.2.1 r j = σ.2.1 r j := fun r a b j => hF r (by omega) b (fun m => by have := hL _ m; omega) j
  obtain ⟨m1, m2, m3, m4, m5, m6, m7, m8⟩ := h
  exact ⟨m1.x hF hL, m2.x e, m3.x e, m4.x e, fun k hk => (m5 k hk).x e, m6.x e, m7.x e, m8.x e⟩
/-- a method of the model that leaves all but its place of return -/
theorem IM.m0 (h : IM D nt B Ws np w nf K Q σ) (hF : Fm [0] [] σ τ) : IM D nt B Ws np w nf K Q τ := by
  obtain ⟨m1, m2, m3, m4, m5, m6, m7, m8⟩ := h
  exact ⟨m1.fm hF, m2.fm hF, m3.fm hF, m4.fm hF, fun k hk => (m5 k hk).fm hF, m6.fm hF, m7.fm hF, m8.fm hF⟩
theorem inv_of {fs L : List Nat} (hG : Ig v τ) (hP : IP D Ws np w) (hC : IC D nt B Ws np pc w hc N nf K Q σ) (hF : Fm fs L σ τ) (hM : IM D nt B Ws np w nf K Q τ) (hL : ∀ r, r ∈ L → 95 ≤ r ∧ r < 132 := by decide) : Ivl v N τ := ⟨hG, D, nt, B, Ws, np, pc, w, hc, nf, K, Q, hP, hC.fm hF hL, hM⟩
end INV
/-- both sides answer alike, and what holds goes on -/
def Op (Mx Mm : MT) (G : Gt) (d : Nat) (as : List AV) (v N : Nat) (σ : St) : Prop := ∃ c s N' : Nat, c + N ≤ N' + 2 ∧ s + 2 * N ≤ 2 * N' + 60 ∧ N' ≤ 10080 ∧ AM Mx G d c s (vR 16 :: as) σ (fun ro ρ => Sta ρ ∧ ∃ z : Int, ro = some (vI z) ∧ AM Mm G d 0 0 (vR 94 :: as) ρ (fun ro' ρ' => ro' = some (vI z) ∧ Ivl (v + 1) N' ρ'))
