theorem Sta.up {σ : St} (h : Sta σ) (r j : Nat) (x : Int) : Sta (upI σ r j x) := h
theorem Cel.up {σ : St} {r' : Nat} {k : Nat × Nat} (h : Cel σ r' k) (r j : Nat) (x : Int) : Cel (upI σ r j x) r' k := h
