theorem AQ_mono {G : Gt} {Qf Qf' : Option AV → St → Prop} (h : ∀ r τ, Qf r τ → Qf' r τ) {a : Array Value} {st t : State} {o : Outcome} (q : AQ G Qf a st o t) : AQ G Qf' a st o t := by
  obtain ⟨⟨r, σ, h1, h2⟩, h3⟩ := q
  exact ⟨⟨r, σ, h r σ h1, h2⟩, h3⟩
theorem AW_mq {M : MT} {G : Gt} {d bc bs pc : Nat} {ls : List (Option AV)} {st : List AV} {σ : St} {Qf Qf' : Option AV → St → Prop} (h : ∀ r τ, Qf r τ → Qf' r τ) (k : AW M G d bc bs (mq G Qf) pc ls st σ) : AW M G d bc bs (mq G Qf') pc ls st σ := by
  intro p l e s m args below meth c H locs cells slots mc ms lsM C hW hS h1 h2 hL hO T hT X
  obtain ⟨t, a1, o, b1, b2, b3, b4⟩ := k p l e s m args below meth c H locs cells slots mc ms lsM C hW hS h1 h2 hL hO T hT X
  exact ⟨t, a1, o, b1, b2, AQ_mono h b3, b4⟩
theorem AM_mono {M : MT} {G : Gt} {d bc bs : Nat} {av : List AV} {σ : St} {Qf Qf' : Option AV → St → Prop} (h : ∀ r τ, Qf r τ → Qf' r τ) (k : AM M G d bc bs av σ Qf) : AM M G d bc bs av σ Qf' := by
  intro hO l p e ha hc hk s m args below hf hap hP hT
  obtain ⟨kk, o, h1, h2, h3, h4, h5⟩ := k hO l p e ha hc hk s m args below hf hap hP hT
  exact ⟨kk, o, h1, h2, h3, AQ_mono h h4, h5⟩
