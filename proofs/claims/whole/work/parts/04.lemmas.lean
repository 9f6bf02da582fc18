-- stores and their lists
def upI (σ : St) (r j : Nat) (x : Int) : St := (σ.1, (fun r' j' => if r' = r ∧ j' = j then x else σ.2.1 r' j'), σ.2.2.1, σ.2.2.2)
def upR (σ : St) (r j : Nat) (x : Nat) : St := (σ.1, σ.2.1, (fun r' j' => if r' = r ∧ j' = j then x else σ.2.2.1 r' j'), σ.2.2.2)
/-- one cell more, of kind k, all 0 and null -/
def nwC (σ : St) (k : Nat × Nat) : St := ((fun r => if r = σ.2.2.2 then k else σ.1 r), (fun r j => if r = σ.2.2.2 then 0 else σ.2.1 r j), (fun r j => if r = σ.2.2.2 then 0 else σ.2.2.1 r j), σ.2.2.2 + 1)
def Cel (σ : St) (r : Nat) (k : Nat × Nat) : Prop := 16 ≤ r ∧ r < σ.2.2.2 ∧ σ.1 r = k
theorem wl_len (G : Gt) (σ : St) : (wl G σ).length = σ.2.2.2 - 16 := by simp [wl]
theorem wl_at (G : Gt) {σ : St} {r : Nat} (h1 : 16 ≤ r) (h2 : r < σ.2.2.2) : (wl G σ)[r - 16]? = some (adr G r, cellE G σ r) := by
  have h3 : r - 16 < σ.2.2.2 - 16 := by omega
  have h4 : r - 16 + 16 = r := by omega
  simp only [wl, List.getElem?_map, List.getElem?_range h3, Option.map_some, h4, adr, if_neg (Nat.not_lt.mpr h1)]
theorem wl_get (G : Gt) {σ : St} {k : Nat} {q : Nat × va_E} (h : (wl G σ)[k]? = some q) : k < σ.2.2.2 - 16 ∧ q = (G.2.2.1 + k, cellE G σ (k + 16)) := by
  have h1 : k < σ.2.2.2 - 16 := by
    have := (List.getElem?_eq_some_iff.mp h).1
    rwa [wl_len] at this
  refine ⟨h1, ?_⟩
  simp only [wl, List.getElem?_map, List.getElem?_range h1, Option.map_some, Option.some.injEq] at h
  exact h.symm
theorem wl_D (G : Gt) (σ : St) : va_D (AG G) (wl G σ) := by
  refine ⟨fun i j p q hi hj h => ?_, fun k q hk => ?_⟩
  · obtain ⟨-, rfl⟩ := wl_get G hi
    obtain ⟨-, rfl⟩ := wl_get G hj
    simp only at h
    omega
  · obtain ⟨-, rfl⟩ := wl_get G hk
    show G.2.2.1 ≤ G.2.2.1 + k
    omega
theorem wl_set (G : Gt) {σ τ : St} {r : Nat} {e : va_E} (h1 : 16 ≤ r) (h2 : r < σ.2.2.2) (hn : τ.2.2.2 = σ.2.2.2) (he : cellE G τ r = e) (ho : ∀ r', r' ≠ r → cellE G τ r' = cellE G σ r') : (wl G σ).set (r - 16) (adr G r, e) = wl G τ := by
  apply List.ext_getElem?
  intro k
  rw [List.getElem?_set, wl_len]
  by_cases hk : r - 16 = k
  · subst hk
    rw [if_pos rfl, if_pos (by omega), wl_at G h1 (by omega), he]
  · rw [if_neg hk]
    by_cases hb : k < σ.2.2.2 - 16
    · simp only [wl, List.getElem?_map, hn, List.getElem?_range hb, Option.map_some]
      rw [ho (k + 16) (by omega)]
    · simp only [wl, List.getElem?_map, hn]
      rw [List.getElem?_eq_none (by simp; omega)]
      rfl
theorem wl_push (G : Gt) {σ τ : St} {e : va_E} (h0 : 16 ≤ σ.2.2.2) (hn : τ.2.2.2 = σ.2.2.2 + 1) (he : cellE G τ σ.2.2.2 = e) (ho : ∀ r', r' < σ.2.2.2 → cellE G τ r' = cellE G σ r') : wl G σ ++ [(adr G σ.2.2.2, e)] = wl G τ := by
  have e1 : σ.2.2.2 + 1 - 16 = (σ.2.2.2 - 16) + 1 := by omega
  have e2 : σ.2.2.2 - 16 + 16 = σ.2.2.2 := by omega
  simp only [wl, hn, e1, List.range_succ, List.map_append, List.map_cons, List.map_nil, e2, he, adr, if_neg (Nat.not_lt.mpr h0)]
  congr 1
  apply List.map_congr_left
  intro k hk
  rw [ho (k + 16) (by have := List.mem_range.mp hk; omega)]
theorem cellE_obj (G : Gt) {σ : St} {r ci N : Nat} (h : σ.1 r = (ci, N)) (hc : ci < 20) : cellE G σ r = .inr (ci, (List.range N).map (fvl G ci (σ.2.1 r) (σ.2.2.1 r))) := by
  simp only [cellE, h, cellF, if_pos hc]
theorem cellE_int (G : Gt) {σ : St} {r ci N : Nat} (h : σ.1 r = (ci, N)) (hc : 20 ≤ ci) (hc2 : ci ≠ 23) : cellE G σ r = .inl (G.2.1 ci, N, .inl (fun j => Int32.ofInt (σ.2.1 r j))) := by
  simp only [cellE, h, cellF, if_neg (Nat.not_lt.mpr hc), if_neg hc2]
theorem cellE_ref (G : Gt) {σ : St} {r N : Nat} (h : σ.1 r = (23, N)) : cellE G σ r = .inl (G.2.1 23, N, .inr (.inr (.inr (.inr (fun j => crf G (σ.2.2.1 r j)))))) := by
  simp [cellE, h, cellF]
theorem cls_lt {ci : Nat} {q : vw_C} (h : cls[ci]? = some q) : ci < 20 := by
  have := (List.getElem?_eq_some_iff.mp h).1
  have e : cls.length = 14 := rfl
  omega
theorem map_set {α : Type} (N j : Nat) (f : Nat → α) (v : α) (h : j < N) : ((List.range N).map f).set j v = (List.range N).map (fun k => if k = j then v else f k) := by
  apply List.ext_getElem?
  intro k
  rw [List.getElem?_set]
  simp only [List.length_map, List.length_range, List.getElem?_map]
  by_cases hk : j = k
  · subst hk
    simp [h]
  · rw [if_neg hk]
    by_cases hb : k < N
    · simp [List.getElem?_range hb, Ne.symm hk]
    · rw [List.getElem?_eq_none (by simp; omega)]
      rfl
theorem OKs_cons {v : AV} {l : List AV} : OKs (v :: l) ↔ OKv v ∧ OKs l := by
  simp [OKs]
theorem OKs_app {l l2 : List AV} (h1 : OKs l) (h2 : OKs l2) : OKs (l ++ l2) := by
  intro v hv
  rcases List.mem_append.mp hv with h | h
  · exact h1 v h
  · exact h2 v h
-- what a method's start state holds goes to the callee's
theorem KnH.go {G : Gt} {s U : State} {H : Heap} {locs : List Loc} (h : KnH G s s.heap) (hS : va_S (AG G) s.heap H locs) (hvm : s.vm.Alike U.vm) : KnH G U H := by
  obtain ⟨a1, a2, a3, a4, a5, a6, a7, a8, a9, a10⟩ := h
  have hq : ∀ a : Nat, a < s.heap.size → ¬ AG G a → H[a]? = s.heap[a]? := hS.2.1
  exact ⟨(a1.kept hq).moved hvm, (a2.kept hq).moved hvm, (a3.kept hq).moved hvm, (a4.kept hq).moved hvm, (a5.kept hq).moved hvm, (a6.kept hq).moved hvm, (a7.kept hq).moved hvm, a8.imp (fun h => (h.kept hq).moved hvm) (fun h => (h.kept hq).moved hvm), (a9.kept hq).moved hvm, (a10.kept hq).moved hvm⟩
theorem sp_warm {w : Cond} (hw : w ∈ lw_sp) {s U : State} (hW : s.WarmedH U.vm) (h : va_Nw w s) : va_Nw w U := by
  have h1 := (List.mem_filter.mp hw).2
  cases w <;> first | exact va_Nw.warmF hW h | exact va_Nw.warmM hW h | exact va_Nw.warmC hW h | (exfalso; cases h1)
theorem Kn.go {G : Gt} {s U : State} {H : Heap} {locs : List Loc} (h : Kn G s) (hS : va_S (AG G) s.heap H locs) (hW : s.WarmedH U.vm) (hU : U.heap = H) : Kn G U := by
  obtain ⟨a1, a2, a3, a4, a5, a6, a7, a8, a9⟩ := h
  refine ⟨va_K.moved hW.alike a1, fun w hw => sp_warm hw hW (a2 w hw), ?_, va_AO.moved hW.alike a4, va_Dc.moved hW.alike a5, va_Mi.moved hW.alike a6, vk_R.warm hW a7, vk_R.warm hW a8, ?_⟩
  · rw [hU]
    exact Nat.le_trans a3 hS.1
  · rw [hU]
    exact KnH.go a9 hS hW.alike
theorem Kn.calling {G : Gt} {U : State} (h : Kn G U) (g : JFrame) (mk : MethodId) (a : Array Value) : Kn G (U.calling g mk a) := by
  have hS : va_S (AG G) U.heap U.heap [] := va_S.rf
  obtain ⟨a1, a2, a3, a4, a5, a6, a7, a8, a9⟩ := h
  have hvm : (U.calling g mk a).vm = U.vm := rfl
  have hal : U.vm.Alike (U.calling g mk a).vm := Vm.Alike.refl U.vm
  exact ⟨va_K.moved hal a1, fun w hw => by
    have h1 := (List.mem_filter.mp hw).2
    cases w <;> first | exact va_Nw.same rfl hvm.symm (a2 _ hw) | (exfalso; cases h1), a3, va_AO.moved hal a4, va_Dc.moved hal a5, va_Mi.moved hal a6, vk_R.same hvm a7, vk_R.same hvm a8, KnH.go a9 hS hal⟩
theorem AMblind (G : Gt) (σ : St) (av : List Value) : FrameBlind (va_Pc av (fun U => WD G σ U.heap ∧ Kn G U)) := by
  intro a U g mk q
  exact ⟨q.1, q.2.1, q.2.2.calling g mk a⟩
theorem good_g {M M' : MT} (h : Cond.code M'.1 M'.2.1 M'.2.2.1 M'.2.2.2 ∈ lw_g) : GoodIn (wsOf M) (wsOf M') := by
  intro w hw
  have hm : w ∈ lw_g := by
    rcases List.mem_cons.mp hw with e | e
    · rw [e]; exact h
    · exact e
  exact ⟨List.mem_cons_of_mem _ hm, good_of_word (List.mem_filter.mp hm).2⟩
theorem hts_g {M : MT} {args : Array Value} {s : State} (h : ∀ w ∈ wsOf M, w.before args s = true) {w : Cond} (hw : w ∈ lw_g) : w.before args s = true := h w (List.mem_cons_of_mem _ hw)
-- locals
def lvs (G : Gt) : Nat → List (Option AV) → List (Nat × Value)
  | _, [] => []
  | i, none :: t => lvs G (i + 1) t
  | i, some v :: t => (i, cv G v) :: lvs G (i + 1) t
theorem lvs_mem (G : Gt) : ∀ (ls : List (Option AV)) (i : Nat) (q : Nat × Value), q ∈ lvs G i ls ↔ ∃ (j : Nat) (v : AV), ls[j]? = some (some v) ∧ q = (i + j, cv G v) := by
  intro ls
  induction ls with
  | nil => intro i q; simp [lvs]
  | cons a t ih =>
    intro i q
    have step : (∃ (j : Nat) (v : AV), t[j]? = some (some v) ∧ q = (i + 1 + j, cv G v)) ↔ ∃ (j : Nat) (v : AV), (a :: t)[j + 1]? = some (some v) ∧ q = (i + (j + 1), cv G v) := by
      simp only [List.getElem?_cons_succ]
      constructor
      · rintro ⟨j, v, h1, h2⟩; exact ⟨j, v, h1, by rw [h2, Nat.add_assoc, Nat.add_comm 1 j]⟩
      · rintro ⟨j, v, h1, h2⟩; exact ⟨j, v, h1, by rw [h2, Nat.add_assoc, Nat.add_comm 1 j]⟩
    have all : (∃ (j : Nat) (v : AV), (a :: t)[j]? = some (some v) ∧ q = (i + j, cv G v)) ↔ (∃ v : AV, a = some v ∧ q = (i, cv G v)) ∨ ∃ (j : Nat) (v : AV), (a :: t)[j + 1]? = some (some v) ∧ q = (i + (j + 1), cv G v) := by
      constructor
      · rintro ⟨j, v, h1, h2⟩
        cases j with
        | zero => exact Or.inl ⟨v, by simpa using h1, h2⟩
        | succ j => exact Or.inr ⟨j, v, h1, h2⟩
      · rintro (⟨v, h1, h2⟩ | ⟨j, v, h1, h2⟩)
        · exact ⟨0, v, by simp [h1], h2⟩
        · exact ⟨j + 1, v, h1, h2⟩
    rw [all, ← step, ← ih (i + 1) q]
    cases a with
    | none => simp [lvs]
    | some w => simp [lvs]
theorem LH.has {G : Gt} {lsM : Array Slot} {nL : Nat} {ls : List (Option AV)} (h : LH G lsM nL ls) : lv_has lsM nL (lvs G 0 ls) := by
  refine ⟨h.2.1, h.2.2.1, fun q hq => ?_⟩
  obtain ⟨j, v, h1, rfl⟩ := (lvs_mem G ls 0 q).mp hq
  rw [Nat.zero_add]
  exact h.2.2.2.1 j v h1
theorem cv_cat {G : Gt} {v : AV} (h : nLg v) : (cv G v).category = 1 := by
  rcases v with x | r | x
  · rfl
  · show (va_rf (crf G r)).category = 1
    cases crf G r <;> rfl
  · exact h.elim
theorem LH.set {G : Gt} {lsM : Array Slot} {nL : Nat} {ls : List (Option AV)} (h : LH G lsM nL ls) {i : Nat} {v : AV} (hv : OKv v) (hg : nLg v) (hi : i < nL) {ls' : Array Slot}
    (h' : lv_has ls' nL ((i, cv G v) :: (lvs G 0 ls).filter (fun q => !(q.1 == i) && !(q.1 + 1 == i && q.2.category == 2)))) : LH G ls' nL (ls.set i (some v)) := by
  refine ⟨by rw [List.length_set]; exact h.1, h'.1, h'.2.1, fun j w hw => ?_, fun j w hw => ?_⟩
  · rw [List.getElem?_set] at hw
    by_cases hj : i = j
    · subst hj
      rw [if_pos rfl] at hw
      split at hw
      · cases hw
        exact h'.2.2 (i, cv G v) List.mem_cons_self
      · cases hw
    · rw [if_neg hj] at hw
      refine h'.2.2 (j, cv G w) (List.mem_cons_of_mem _ (List.mem_filter.mpr ⟨(lvs_mem G ls 0 _).mpr ⟨j, w, hw, by rw [Nat.zero_add]⟩, ?_⟩))
      have hc := cv_cat (G := G) (h.2.2.2.2 j w hw).2
      simp [hc, Ne.symm hj]
  · rw [List.getElem?_set] at hw
    by_cases hj : i = j
    · subst hj
      rw [if_pos rfl] at hw
      split at hw
      · cases hw
        exact ⟨hv, hg⟩
      · cases hw
    · rw [if_neg hj] at hw
      exact h.2.2.2.2 j w hw
theorem lg_cat1 : ∀ (vs : List Value), (∀ v ∈ vs, v.category = 1) → (lg_sl vs).length = vs.length := by
  intro vs
  induction vs with
  | nil => intro _; rfl
  | cons v t ih =>
    intro h
    have h1 : v.category = 1 := h v List.mem_cons_self
    have h2 := ih (fun w hw => h w (List.mem_cons_of_mem _ hw))
    have h3 : lg_sl (v :: t) = .val v :: lg_sl t := by
      simp only [lg_sl, List.flatMap_cons, h1]
      rfl
    rw [h3, List.length_cons, List.length_cons, h2]
theorem lv_args1 : ∀ (vs : List Value) (i : Nat), (∀ v ∈ vs, v.category = 1) → ∀ (j : Nat) (v : Value), vs[j]? = some v → (i + j, v) ∈ lv_args i vs := by
  intro vs
  induction vs with
  | nil => intro i _ j v h; simp at h
  | cons a t ih =>
    intro i h j v hj
    have h1 : a.category = 1 := h a List.mem_cons_self
    simp only [lv_args, h1]
    cases j with
    | zero =>
      simp at hj
      subst hj
      exact List.mem_cons_self
    | succ j =>
      have := ih (i + 1) (fun w hw => h w (List.mem_cons_of_mem _ hw)) j v (by simpa using hj)
      rw [show i + (j + 1) = i + 1 + j by omega]
      exact List.mem_cons_of_mem _ (by simpa using this)
theorem AM.intro {M : MT} {G : Gt} {d bc bs : Nat} {av : List AV} {σ : St} {Qf : Option AV → St → Prop} (hp : plainName M.1.cls = true) (hlg : ∀ v ∈ av, nLg v) (hn : av.length ≤ M.2.2.1)
    (k : OKs av → AW M G d bc bs (mq G Qf) 0 (av.map some ++ List.replicate (M.2.2.1 - av.length) none) [] σ) : AM M G d bc bs av σ Qf := by
  intro hO l
  refine Met.ofW (cc := M.2.1) (maxL := M.2.2.1) (ret := M.2.2.2) hp rfl ?_
  intro p e s m args below meth c s₁ B hml hv
  obtain ⟨rfl, hWd, hKn⟩ := hv
  have hts := atoms_spec (ws := wsOf M) B.pre
  have hcat : ∀ v ∈ av.map (cv G), v.category = 1 := by
    intro v hv
    obtain ⟨w, hw, rfl⟩ := List.mem_map.mp hv
    exact cv_cat (hlg w hw)
  have hlen : (lg_sl (av.map (cv G))).length ≤ M.2.2.1 := by
    rw [lg_cat1 _ hcat, List.length_map]
    exact hn
  have hl := lv_entry (av.map (cv G)) (n := M.2.2.1) hlen
  rw [lg_entry_eq]
  refine k hO p l e s m _ below meth c s.heap [] 0 0 bc bs _ ⟨B.exec, B.bytes, B.returns, hml, findClass_of_methodNamed B.named, B.notSynchronized, (name_of_methodNamed B.named B.method).1, hts, hKn⟩ hWd va_S.rf (by omega) (by omega) ⟨?_, hl.1, hl.2.1, ?_, ?_⟩ (by intro v hv; cases hv)
  · simp; omega
  · intro i v hi
    have : i < av.length := by
      rcases Nat.lt_or_ge i av.length with h | h
      · exact h
      · rw [List.getElem?_append_right (by simpa using h)] at hi
        rw [List.getElem?_replicate] at hi
        split at hi <;> simp at hi
    rw [List.getElem?_append_left (by simpa using this), List.getElem?_map] at hi
    have hv : av[i]? = some v := by
      cases h : av[i]? with
      | none => rw [h] at hi; simp at hi
      | some w => rw [h] at hi; simp at hi; rw [hi]
    have h2 := lv_args1 (av.map (cv G)) 0 hcat i (cv G v) (by rw [List.getElem?_map, hv]; rfl)
    rw [Nat.zero_add] at h2
    exact hl.2.2 _ h2
  · intro i v hi
    have : i < av.length := by
      rcases Nat.lt_or_ge i av.length with h | h
      · exact h
      · rw [List.getElem?_append_right (by simpa using h)] at hi
        rw [List.getElem?_replicate] at hi
        split at hi <;> simp at hi
    rw [List.getElem?_append_left (by simpa using this), List.getElem?_map] at hi
    have hv : av[i]? = some v := by
      cases h : av[i]? with
      | none => rw [h] at hi; simp at hi
      | some w => rw [h] at hi; simp at hi; rw [hi]
    have hm : v ∈ av := List.mem_of_getElem? hv
    exact ⟨hO v hm, hlg v hm⟩
