section LIT
variable {M : MT} {G : Gt} {d bc bs : Nat} {Qz : QZ} {pc : Nat} {ls : List (Option AV)} {st : List AV} {σ : St}
theorem AW_ialdK (n : Nat) {r N : Nat} (hd : decode M.2.1 pc = .ok (.iaload, 1)) (hk : Cel σ r (20, N)) (hn : n < N) (k : AW M G d bc bs Qz (pc + 1) ls (vI (σ.2.1 r n) :: st) σ) : AW M G d bc bs Qz pc ls (vI (n : Int) :: vR r :: st) σ := AW_iald hd hk (by omega) (by omega) (by rw [Int.toNat_natCast]; exact k)
theorem AW_iastK (n : Nat) {r N : Nat} {x : Int} (hd : decode M.2.1 pc = .ok (.iastore, 1)) (hk : Cel σ r (20, N)) (hn : n < N) (k : AW M G d bc bs Qz (pc + 1) ls st (upI σ r n x)) : AW M G d bc bs Qz pc ls (vI x :: vI (n : Int) :: vR r :: st) σ := AW_iast hd hk (by omega) (by omega) (by rw [Int.toNat_natCast]; exact k)
end LIT
