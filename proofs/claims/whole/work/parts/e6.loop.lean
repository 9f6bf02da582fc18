theorem t00_n : (nwC E0 (11, 8)).2.2.2 = 17 := by decide +kernel
theorem t00_k : Cel (nwC E0 (11, 8)) 16 (11, 8) := ⟨by decide, by rw [t00_n]; decide, by decide +kernel⟩
theorem t1_n : T1.2.2.2 = 94 := by decide +kernel
theorem t1_m : (nwC T1 (12, 74)).2.2.2 = 95 := by decide +kernel
theorem t1_k : Cel (nwC T1 (12, 74)) 94 (12, 74) := ⟨by decide, by rw [t1_m]; decide, by decide +kernel⟩
/-- the law's end -/
theorem AW_lret {G : Gt} {d bc bs pc : Nat} {ls : List (Option AV)} {σ : St} (hdg : decode cL_law pc = .ok (.ireturn, 1)) : AW mL_law G d bc bs (QL G) pc ls [vI 1] σ := by
  intro p l e s m args below meth c H locs cells slots mc ms lsM C hW hS h1 h2 hL hO
  have hlocks : meth.locks = false := C.2.2.2.2.2.1
  have hr : meth.sig.returnType = ret := C.2.2.1
  have hx := C.1
  have hb : c.code = code := C.2.1
  refine W.widen (k := mc) (n := ms) (by omega) (by omega) ?_
  by_cases hsz : G.2.2.1 = s.heap.size
  · refine va_forget (fun q hq => by have h := hS.2.2 q hq; show s.heap.size ≤ q.base; rw [← hsz]; exact h) ?_
    intro T hT X
    obtain ⟨fs, hret, hrun, hended, hW, hframe⟩ := X.leave (v := some (.int 1)) (hlocks := hlocks) (fun h => by rw [hr] at h; cases h)
    have hmeth' : T.vm.method? m = some meth := X.method'
    refine ⟨T.setFrames fs, ?_, fun _ => ⟨.returned (some (.int 1)), hrun, hended, rfl, ⟨_, rfl⟩, hW, hframe⟩⟩
    show Steps p.tables e below (T.setTop (F0 m pc lsM [.int 1])) _
    jvm_step X.here [X.here.top, hx, hb, hdg, hmeth', hr, ret, narrow_b1]
    (try refine ⟨rfl, ?_⟩); (try refine ⟨rfl, ?_⟩)
    first | (intro acts; rw [hret _ acts rfl rfl rfl]) | rw [hret _ _ rfl rfl rfl]
    exact Steps.refl _
  · intro T hT X
    have k : W p l e (rmv d mc ms) s m args below meth c H locs mc ms (MQ below (fun _ _ _ _ => True) args s mc ms (AG G)) (F0 m pc lsM [.int (Int32.ofInt 1)]) := W.zret (v := Int32.ofInt 1) hx hb hr (by decide) (fun t ht _ => trivial) hS.2.2 hdg
    obtain ⟨t, a1, a2⟩ := k T hT X
    exact ⟨t, a1, fun h => absurd h hsz⟩
theorem law_loop {G : Gt} {d : Nat} (hd : 61 ≤ d) (hL : G.2.2.2.2.1 ≤ 3072) : ∀ (nn v N : Nat) (σ : St), 600 - v < nn → v ≤ 520 → Ivl v N σ → AW mL_law G d (bcL v N) (bsL v N) (QL G) 18 (lsL v) [] σ := by
  intro nn
  induction nn with
  | zero => intros; omega
  | succ nn ih =>
    intro v N σ hn h52 hI
    refine AW_iload_n dL_law_18 rfl ?_
    refine AW_aload_n dL_law_19 rfl ?_
    refine AW_slen dL_law_20 hL ?_
    refine AW_bipush dL_law_21 ?_
    refine AW_isubE dL_law_23 (by omega) (by omega) ?_
    refine AW_icmp_gt (tgt := 972) dL_law_24 (by decide) (fun c_24 => ?_) (fun c_24 => ?_)
    · refine AW_iconst dL_law_972 ?_
      exact AW_lret dL_law_973
    have hl : 6 * v + 6 ≤ G.2.2.2.2.1 := by omega
    have hv : v < 600 := by omega
    have hK : Nxt G d v := fun N2 τ hI2 => by
      refine AW_iincE3 dL_law_966 (by omega) (by omega) ?_
      refine AW_goto (tgt := 18) dL_law_969 (by decide) ?_
      have h := ih (v + 1) N2 τ (by omega) (by omega) hI2
      rw [show lsL (v + 1) = [some (vR 10), some (vR 16), some (vR 94), some (vI (((6 * v : Nat) : Int) + 6))] by
        unfold lsL
        rw [show ((6 * (v + 1) : Nat) : Int) = ((6 * v : Nat) : Int) + 6 by omega]] at h
      exact h
    refine AW_aload_n dL_law_27 rfl ?_
    refine AW_iload_n dL_law_28 rfl ?_
    refine AW_sld (6 * v) dL_law_29 rfl (by omega) ?_
    refine AW_bipush dL_law_30 ?_
    refine AW_iand dL_law_32 ?_
    refine (Classical.em (aAnd (sc G (6 * v)) 31 = 0)).elim (fun c => ?_) (fun c_0 => ?_)
    · refine AW_tableIn (off := 111) (tgt := 144) dL_law_33 (by rw [c]; decide) (by rw [c]; decide) (by rw [c]; rfl) (by decide) ?_
      exact lc_sorts hd hI hv (by omega) hL hK
    refine (Classical.em (aAnd (sc G (6 * v)) 31 = 1)).elim (fun c => ?_) (fun c_1 => ?_)
    · refine AW_tableIn (off := 144) (tgt := 177) dL_law_33 (by rw [c]; decide) (by rw [c]; decide) (by rw [c]; rfl) (by decide) ?_
      exact lc_look hd hI hv (by omega) hL hK
    refine (Classical.em (aAnd (sc G (6 * v)) 31 = 2)).elim (fun c => ?_) (fun c_2 => ?_)
    · refine AW_tableIn (off := 197) (tgt := 230) dL_law_33 (by rw [c]; decide) (by rw [c]; decide) (by rw [c]; rfl) (by decide) ?_
      exact lc_worth hd hI hv (by omega) hL hK
    refine (Classical.em (aAnd (sc G (6 * v)) 31 = 3)).elim (fun c => ?_) (fun c_3 => ?_)
    · refine AW_tableIn (off := 250) (tgt := 283) dL_law_33 (by rw [c]; decide) (by rw [c]; decide) (by rw [c]; rfl) (by decide) ?_
      exact lc_set hd hI hv (by omega) hL hK
    refine (Classical.em (aAnd (sc G (6 * v)) 31 = 4)).elim (fun c => ?_) (fun c_4 => ?_)
    · refine AW_tableIn (off := 283) (tgt := 316) dL_law_33 (by rw [c]; decide) (by rw [c]; decide) (by rw [c]; rfl) (by decide) ?_
      exact lc_classes hd hI hv (by omega) hL hK
    refine (Classical.em (aAnd (sc G (6 * v)) 31 = 5)).elim (fun c => ?_) (fun c_5 => ?_)
    · refine AW_tableIn (off := 316) (tgt := 349) dL_law_33 (by rw [c]; decide) (by rw [c]; decide) (by rw [c]; rfl) (by decide) ?_
      exact lc_patience hd hI hv (by omega) hL hK
    refine (Classical.em (aAnd (sc G (6 * v)) 31 = 6)).elim (fun c => ?_) (fun c_6 => ?_)
    · refine AW_tableIn (off := 359) (tgt := 392) dL_law_33 (by rw [c]; decide) (by rw [c]; decide) (by rw [c]; rfl) (by decide) ?_
      exact lc_pairs hd hI hv (by omega) hL hK
    refine (Classical.em (aAnd (sc G (6 * v)) 31 = 7)).elim (fun c => ?_) (fun c_7 => ?_)
    · refine AW_tableIn (off := 412) (tgt := 445) dL_law_33 (by rw [c]; decide) (by rw [c]; decide) (by rw [c]; rfl) (by decide) ?_
      exact lc_feed hd hI hv (by omega) hL hK
    refine (Classical.em (aAnd (sc G (6 * v)) 31 = 8)).elim (fun c => ?_) (fun c_8 => ?_)
    · refine AW_tableIn (off := 475) (tgt := 508) dL_law_33 (by rw [c]; decide) (by rw [c]; decide) (by rw [c]; rfl) (by decide) ?_
      exact lc_end hd hI hv (by omega) hL hK
    refine (Classical.em (aAnd (sc G (6 * v)) 31 = 9)).elim (fun c => ?_) (fun c_9 => ?_)
    · refine AW_tableIn (off := 498) (tgt := 531) dL_law_33 (by rw [c]; decide) (by rw [c]; decide) (by rw [c]; rfl) (by decide) ?_
      exact lc_way hd hI hv (by omega) hL hK
    refine (Classical.em (aAnd (sc G (6 * v)) 31 = 10)).elim (fun c => ?_) (fun c_10 => ?_)
    · refine AW_tableIn (off := 521) (tgt := 554) dL_law_33 (by rw [c]; decide) (by rw [c]; decide) (by rw [c]; rfl) (by decide) ?_
      exact lc_fault hd hI hv (by omega) hL hK
    refine (Classical.em (aAnd (sc G (6 * v)) 31 = 11)).elim (fun c => ?_) (fun c_11 => ?_)
    · refine AW_tableIn (off := 544) (tgt := 577) dL_law_33 (by rw [c]; decide) (by rw [c]; decide) (by rw [c]; rfl) (by decide) ?_
      exact lc_come hd hI hv (by omega) hL hK
    refine (Classical.em (aAnd (sc G (6 * v)) 31 = 12)).elim (fun c => ?_) (fun c_12 => ?_)
    · refine AW_tableIn (off := 587) (tgt := 620) dL_law_33 (by rw [c]; decide) (by rw [c]; decide) (by rw [c]; rfl) (by decide) ?_
      exact lc_state hd hI hv (by omega) hL hK
    refine (Classical.em (aAnd (sc G (6 * v)) 31 = 13)).elim (fun c => ?_) (fun c_13 => ?_)
    · refine AW_tableIn (off := 610) (tgt := 643) dL_law_33 (by rw [c]; decide) (by rw [c]; decide) (by rw [c]; rfl) (by decide) ?_
      exact lc_weeks hd hI hv (by omega) hL hK
    refine (Classical.em (aAnd (sc G (6 * v)) 31 = 14)).elim (fun c => ?_) (fun c_14 => ?_)
    · refine AW_tableIn (off := 633) (tgt := 666) dL_law_33 (by rw [c]; decide) (by rw [c]; decide) (by rw [c]; rfl) (by decide) ?_
      exact lc_one hd hI hv (by omega) hL hK
    refine (Classical.em (aAnd (sc G (6 * v)) 31 = 15)).elim (fun c => ?_) (fun c_15 => ?_)
    · refine AW_tableIn (off := 666) (tgt := 699) dL_law_33 (by rw [c]; decide) (by rw [c]; decide) (by rw [c]; rfl) (by decide) ?_
      exact lc_all hd hI hv (by omega) hL hK
    refine (Classical.em (aAnd (sc G (6 * v)) 31 = 16)).elim (fun c => ?_) (fun c_16 => ?_)
    · refine AW_tableIn (off := 709) (tgt := 742) dL_law_33 (by rw [c]; decide) (by rw [c]; decide) (by rw [c]; rfl) (by decide) ?_
      exact lc_town hd hI hv (by omega) hL hK
    refine (Classical.em (aAnd (sc G (6 * v)) 31 = 17)).elim (fun c => ?_) (fun c_17 => ?_)
    · refine AW_tableIn (off := 732) (tgt := 765) dL_law_33 (by rw [c]; decide) (by rw [c]; decide) (by rw [c]; rfl) (by decide) ?_
      exact lc_feast hd hI hv (by omega) hL hK
    refine (Classical.em (aAnd (sc G (6 * v)) 31 = 18)).elim (fun c => ?_) (fun c_18 => ?_)
    · refine AW_tableIn (off := 755) (tgt := 788) dL_law_33 (by rw [c]; decide) (by rw [c]; decide) (by rw [c]; rfl) (by decide) ?_
      exact lc_likes hd hI hv (by omega) hL hK
    refine (Classical.em (aAnd (sc G (6 * v)) 31 = 19)).elim (fun c => ?_) (fun c_19 => ?_)
    · refine AW_tableIn (off := 808) (tgt := 841) dL_law_33 (by rw [c]; decide) (by rw [c]; decide) (by rw [c]; rfl) (by decide) ?_
      exact lc_holds hd hI hv (by omega) hL hK
    refine (Classical.em (aAnd (sc G (6 * v)) 31 = 20)).elim (fun c => ?_) (fun c_20 => ?_)
    · refine AW_tableIn (off := 821) (tgt := 854) dL_law_33 (by rw [c]; decide) (by rw [c]; decide) (by rw [c]; rfl) (by decide) ?_
      exact lc_pairing hd hI hv (by omega) hL hK
    refine (Classical.em (aAnd (sc G (6 * v)) 31 = 21)).elim (fun c => ?_) (fun c_21 => ?_)
    · refine AW_tableIn (off := 854) (tgt := 887) dL_law_33 (by rw [c]; decide) (by rw [c]; decide) (by rw [c]; rfl) (by decide) ?_
      exact lc_mended hd hI hv (by omega) hL hK
    refine (Classical.em (aAnd (sc G (6 * v)) 31 = 22)).elim (fun c => ?_) (fun c_22 => ?_)
    · refine AW_tableIn (off := 867) (tgt := 900) dL_law_33 (by rw [c]; decide) (by rw [c]; decide) (by rw [c]; rfl) (by decide) ?_
      exact lc_price hd hI hv (by omega) hL hK
    refine (Classical.em (aAnd (sc G (6 * v)) 31 = 23)).elim (fun c => ?_) (fun c_23 => ?_)
    · refine AW_tableIn (off := 900) (tgt := 933) dL_law_33 (by rw [c]; decide) (by rw [c]; decide) (by rw [c]; rfl) (by decide) ?_
      exact lc_sums hd hI hv (by omega) hL hK
    refine AW_tableOut (tgt := 966) dL_law_33 (by omega) (by decide) ?_
    have hc := hI.cap
    exact AW_up (by unfold bcL; omega) (by unfold bsL; omega) (hK N σ hI.up)
/-- the law from its entry on -/
theorem law_all {G : Gt} {d : Nat} (hd : 61 ≤ d) (hL : G.2.2.2.2.1 ≤ 3072) : AW mL_law G d (bcL 0 8 + 37 + 1 + 77 + 1) (bsL 0 8 + 43554 + 74 + 6150 + 8) (QL G) 0 [some (vR 10), none, none, none] [] E0 := by
  refine AW_newN (bc := bcL 0 8 + 37 + 1 + 77) (bs := bsL 0 8 + 43554 + 74 + 6150) (ci := 11) (N := 8) (n := 16) dL_law_0 nwL_7 rfl ?_
  refine AW_dup dL_law_3 ?_
  refine AW_callIb0 (bc := bcL 0 8 + 37 + 1) (bs := bsL 0 8 + 43554 + 74) (bc' := 77) (bs' := 6150) (d' := d - 1) dL_law_4 (Or.inl lkL_9) mfX11_init (by decide) (i_notyet (σ := nwC E0 (11, 8)) (by omega) t00_n t00_k) (by omega) (Nat.le_of_ble_eq_true rfl) ?_
  rintro _ _ ⟨rfl, rfl⟩ -
  refine AW_astore1 dL_law_7 ?_
  show AW mL_law G d (bcL 0 8 + 37 + 1) (bsL 0 8 + 43554 + 74) (QL G) 8 [some (vR 10), some (vR 16), none, none] [] T1
  refine AW_newN (bc := bcL 0 8 + 37) (bs := bsL 0 8 + 43554) (ci := 12) (N := 74) (n := 94) dL_law_8 nwL_10 t1_n ?_
  refine AW_dup dL_law_11 ?_
  refine AW_callIb0 (bc := bcL 0 8) (bs := bsL 0 8) (bc' := 37) (bs' := 43554) (d' := d - 1) dL_law_12 (Or.inl lkL_12) mfX12_init (by decide) (i_model (σ := nwC T1 (12, 74)) (by omega) t1_m t1_k) (by omega) (Nat.le_of_ble_eq_true rfl) ?_
  rintro _ _ ⟨rfl, rfl⟩ -
  refine AW_astore2 dL_law_15 ?_
  refine AW_iconst dL_law_16 ?_
  refine AW_istore3 dL_law_17 ?_
  exact law_loop hd hL 601 0 8 T0 (by omega) (by omega) t0_inv
