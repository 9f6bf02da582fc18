section DIVS
variable {M : MT} {G : Gt} {d bc bs : Nat} {Qz : QZ} {pc : Nat} {ls : List (Option AV)} {st : List AV} {σ : St}
theorem AW_idivE {a b : Int} (hd : decode M.2.1 pc = .ok (.idiv, 1)) (ha : 0 ≤ a) (ha2 : a < 2147483648) (hb : 0 < b) (k : AW M G d bc bs Qz (pc + 1) ls (vI (a / b) :: st) σ) : AW M G d bc bs Qz pc ls (vI b :: vI a :: st) σ := by
  refine AW_idiv hd (by omega) ?_
  have h1 : 0 ≤ a / b := Int.ediv_nonneg ha (by omega)
  have h2 : a / b ≤ a := Int.ediv_le_self b ha
  rw [Int.tdiv_eq_ediv_of_nonneg ha, wr_id (by omega) (by omega)]
  exact k
theorem AW_iremE {a b : Int} (hd : decode M.2.1 pc = .ok (.irem, 1)) (ha : 0 ≤ a) (hb : 0 < b) (k : AW M G d bc bs Qz (pc + 1) ls (vI (a % b) :: st) σ) : AW M G d bc bs Qz pc ls (vI b :: vI a :: st) σ := by
  refine AW_irem hd (by omega) ?_
  rw [Int.tmod_eq_emod_of_nonneg ha]
  exact k
end DIVS
