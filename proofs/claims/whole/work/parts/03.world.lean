-- THE ABSTRACT MACHINE'S WORLD: cells by numbers (0 null, 1..15 cells of the start, 16.. cells made), ints as Int in range
abbrev AV : Type := Int ⊕ Nat ⊕ Int
abbrev vI (x : Int) : AV := .inl x
abbrev vR (a : Nat) : AV := .inr (.inl a)
abbrev vL (x : Int) : AV := .inr (.inr x)
abbrev St : Type := (Nat → Nat × Nat) × (Nat → Nat → Int) × (Nat → Nat → Nat) × Nat
abbrev Gt : Type := va_G × (Nat → ClassId) × Nat × (Nat → Nat) × Nat × (Nat → Int32)
abbrev MT : Type := MethodName × ByteArray × Nat × Option FieldType
def InR (x : Int) : Prop := -2147483648 ≤ x ∧ x < 2147483648
def InL (x : Int) : Prop := -9223372036854775808 ≤ x ∧ x < 9223372036854775808
def wr (x : Int) : Int := Int.bmod x 4294967296
def wL (x : Int) : Int := Int.bmod x 18446744073709551616
def adr (G : Gt) (r : Nat) : Nat := if r < 16 then G.2.2.2.1 r else G.2.2.1 + (r - 16)
def crf (G : Gt) (r : Nat) : Option Nat := if r = 0 then none else some (adr G r)
def cv (G : Gt) (v : AV) : Value := match v with
  | .inl x => .int (Int32.ofInt x)
  | .inr (.inl r) => va_rf (crf G r)
  | .inr (.inr x) => .long (Int64.ofInt x)
def cls : List vw_C := [(RX0, TX0, 11), (RX1, TX1, 7), (RX2, TX2, 2), (RX3, TX3, 6), (RX4, TX4, 11), (RX5, TX5, 3), (RX6, TX6, 9), (RX7, TX7, 6), (RX8, TX8, 6), (RX9, TX9, 4), (RX10, TX10, 7), (RX11, TX11, 8), (RX12, TX12, 74), (RJx4a65c, TJx4a65c, 3)]
def tyT (ci : Nat) : Nat → FieldType := match ci with
  | 0 => tyX0 | 1 => tyX1 | 2 => tyX2 | 3 => tyX3 | 4 => tyX4 | 5 => tyX5 | 6 => tyX6 | 7 => tyX7 | 8 => tyX8 | 9 => tyX9 | 10 => tyX10 | 11 => tyX11 | 12 => tyX12 | _ => tyJx4a65c
def isRt (t : FieldType) : Bool := match t with
  | .object _ => true
  | .array _ => true
  | _ => false
def isRf (ci j : Nat) : Bool := isRt (tyT ci j)
def fvl (G : Gt) (ci : Nat) (f : Nat → Int) (g : Nat → Nat) (j : Nat) : Value := if isRf ci j then va_rf (crf G (g j)) else .int (Int32.ofInt (f j))
def cellF (G : Gt) (k : Nat × Nat) (f : Nat → Int) (g : Nat → Nat) : va_E :=
  if k.1 < 20 then .inr (k.1, (List.range k.2).map (fvl G k.1 f g))
  else .inl (G.2.1 k.1, k.2, if k.1 = 23 then .inr (.inr (.inr (.inr (fun j => crf G (g j))))) else .inl (fun j => Int32.ofInt (f j)))
def cellE (G : Gt) (σ : St) (r : Nat) : va_E := cellF G (σ.1 r) (σ.2.1 r) (σ.2.2.1 r)
def wl (G : Gt) (σ : St) : va_W := (List.range (σ.2.2.2 - 16)).map (fun k => (G.2.2.1 + k, cellE G σ (k + 16)))
def AG (G : Gt) : Nat → Prop := fun q => G.2.2.1 ≤ q
def aTys (G : Gt) : List (ClassId × FieldType) := [(G.2.1 20, .int), (G.2.1 21, .byte), (G.2.1 22, .boolean), (G.2.1 23, .object "java/lang/Object")]
def WD (G : Gt) (σ : St) (H : Heap) : Prop := 16 ≤ σ.2.2.2 ∧ va_P G.1 cls (wl G σ) H ∧ H.size = G.2.2.1 + (σ.2.2.2 - 16) ∧ ∀ r j, InR (σ.2.1 r j)
def lw_g : List Cond := lw_tbl.filter goodWord
def isSp (w : Cond) : Bool := match w with
  | .fieldLinkNest .. => true
  | .methodLinkNest .. => true
  | .castable .. => true
  | _ => false
def lw_sp : List Cond := lw_tbl.filter isSp
def wsOf (M : MT) : List Cond := Cond.code M.1 M.2.1 M.2.2.1 M.2.2.2 :: lw_g
def fLEAST : Nat → Value := fun j => .int ([0, 1, 1, 0, 1, 0, 0].getD j 0)
def fMOST : Nat → Value := fun j => .int ([99, 999, 60, 99, 99, 1, 1].getD j 0)
def tWORDS : String := "take leave when or and not week waited sort mine best told wait "
def tSIGNS : String := ";+-*/()<=>"
def bWORDS : List Int32 := [116, 97, 107, 101, 32, 108, 101, 97, 118, 101, 32, 119, 104, 101, 110, 32, 111, 114, 32, 97, 110, 100, 32, 110, 111, 116, 32, 119, 101, 101, 107, 32, 119, 97, 105, 116, 101, 100, 32, 115, 111, 114, 116, 32, 109, 105, 110, 101, 32, 98, 101, 115, 116, 32, 116, 111, 108, 100, 32, 119, 97, 105, 116, 32]
def bSIGNS : List Int32 := [59, 43, 45, 42, 47, 40, 41, 60, 61, 62]
/-- what the heap at a method's start holds outside the made cells -/
def KnH (G : Gt) (U : State) (H : Heap) : Prop :=
  va_Z "java/util/ArrayList" "DEFAULTCAPACITY_EMPTY_ELEMENTDATA" "[Ljava/lang/Object;" (.ref (G.2.2.2.1 3)) (AG G) U H ∧ va_T (.object "java/lang/Object") (G.2.2.2.1 3) 0 (fun _ => .null) (AG G) U H ∧
  va_Z "NotYet$Market" "LEAST" "[I" (.ref (G.2.2.2.1 1)) (AG G) U H ∧ va_T .int (G.2.2.2.1 1) 7 fLEAST (AG G) U H ∧
  va_Z "NotYet$Market" "MOST" "[I" (.ref (G.2.2.2.1 2)) (AG G) U H ∧ va_T .int (G.2.2.2.1 2) 7 fMOST (AG G) U H ∧
  va_Z "java/lang/String" "COMPACT_STRINGS" "Z" (.int 1) (AG G) U H ∧ (va_Z "jdk/internal/util/Preconditions" "SIOOBE_FORMATTER" "Ljava/util/function/BiFunction;" .null (AG G) U H ∨ va_Z "jdk/internal/util/Preconditions" "SIOOBE_FORMATTER" "Ljava/util/function/BiFunction;" (.ref (G.2.2.2.1 8)) (AG G) U H) ∧
  va_T .int (G.2.2.2.1 10) G.2.2.2.2.1 (fun j => .int (G.2.2.2.2.2 j)) (AG G) U H ∧
  vk_S 2 [64, 10] [bWORDS, bSIGNS] (fun i => G.2.2.2.1 (4 + i)) (fun i => G.2.2.2.1 (6 + i)) (AG G) U H
/-- what a method's start state holds of the tables, the statics and the cells of the start -/
def Kn (G : Gt) (U : State) : Prop := va_K G.1 cls (aTys G) U ∧ (∀ w ∈ lw_sp, va_Nw w U) ∧ G.2.2.1 ≤ U.heap.size ∧ va_AO "java/lang/Object" U ∧ va_Dc U ∧ va_Mi "[Ljava/lang/Object;" (G.2.2.2.1 9) U ∧
  vk_R "NotYet$Tape" 68 tWORDS (G.2.2.2.1 4) U ∧ vk_R "NotYet$Tape" 58 tSIGNS (G.2.2.2.1 5) U ∧ KnH G U U.heap
def QZ : Type := Nat → Nat → State → Array Value → List Frame → State → Prop
def OKv (v : AV) : Prop := match v with
  | .inl x => InR x
  | .inr (.inl _) => True
  | .inr (.inr x) => InL x
def OKs (l : List AV) : Prop := ∀ v ∈ l, OKv v
def nLg (v : AV) : Prop := match v with
  | .inr (.inr _) => False
  | _ => True
def LH (G : Gt) (lsM : Array Slot) (nL : Nat) (ls : List (Option AV)) : Prop := ls.length = nL ∧ lsM.size = nL ∧ lv_wf lsM ∧ (∀ (i : Nat) (v : AV), ls[i]? = some (some v) → lsM[i]? = some (.val (cv G v))) ∧ ∀ (i : Nat) (v : AV), ls[i]? = some (some v) → OKv v ∧ nLg v
def CX (M : MT) (G : Gt) (p : Program) (s : State) (m : MethodId) (args : Array Value) (meth : Method) (c : Code) : Prop :=
  p.tables.exec = Jvm.exec ∧ c.code = M.2.1 ∧ meth.sig.returnType = M.2.2.2 ∧ c.maxLocals = M.2.2.1 ∧ s.vm.findClass M.1.cls = some m.cls ∧ meth.locks = false ∧ meth.name = M.1.name ∧ (∀ w ∈ wsOf M, w.before args s = true) ∧ Kn G s
def rmv (d mc ms : Nat) : Room := { frames := d, cells := mc, slots := ms, locals := 41 * d + 32 }
def AQ (G : Gt) (Qf : Option AV → St → Prop) : Array Value → State → Outcome → State → Prop := fun _ st o t => (∃ (r : Option AV) (σ : St), Qf r σ ∧ o = .returned (r.map (cv G)) ∧ WD G σ t.heap ∧ ∀ v, r = some v → OKv v) ∧ va_F (AG G) st t
def mq (G : Gt) (Qf : Option AV → St → Prop) : QZ := fun mc ms s args below => MQ below (AQ G Qf) args s mc ms (AG G)
/-- the abstract machine stands at pc with these locals, stack and store, and comes to an end of kind Qz -/
def AW (M : MT) (G : Gt) (d bc bs : Nat) (Qz : QZ) (pc : Nat) (ls : List (Option AV)) (st : List AV) (σ : St) : Prop :=
  ∀ (p : Program) (l : Launch) (e : Env) (s : State) (m : MethodId) (args : Array Value) (below : List Frame) (meth : Method) (c : Code) (H : Heap) (locs : List Loc) (cells slots mc ms : Nat) (lsM : Array Slot),
    CX M G p s m args meth c → WD G σ H → va_S (AG G) s.heap H locs → cells + bc ≤ mc → slots + bs ≤ ms → LH G lsM M.2.2.1 ls → OKs st →
    W p l e (rmv d mc ms) s m args below meth c H locs cells slots (Qz mc ms s args below) (F0 m pc lsM (st.map (cv G)))
/-- a method's contract -/
def AM (M : MT) (G : Gt) (d bc bs : Nat) (av : List AV) (σ : St) (Qf : Option AV → St → Prop) : Prop :=
  OKs av → ∀ l : Launch, Met l M.1 (wsOf M) (rmv d bc bs) (va_Pc (av.map (cv G)) (fun U => WD G σ U.heap ∧ Kn G U)) (AQ G Qf) bc bs (AG G)
-- numbers
theorem wr_id {x : Int} (h1 : -2147483648 ≤ x) (h2 : x < 2147483648) : wr x = x := by
  unfold wr
  rw [Int.bmod_def]
  split <;> omega
theorem wr_in (x : Int) : InR (wr x) := by
  unfold wr InR
  rw [Int.bmod_def]
  split <;> omega
theorem wL_in (x : Int) : InL (wL x) := by
  unfold wL InL
  rw [Int.bmod_def]
  split <;> omega
theorem wL_id {x : Int} (h1 : -9223372036854775808 ≤ x) (h2 : x < 9223372036854775808) : wL x = x := by
  unfold wL
  rw [Int.bmod_def]
  split <;> omega
theorem of_wr (x : Int) : Int32.ofInt (wr x) = Int32.ofInt x := by
  apply Int32.toInt_inj.mp
  rw [Int32.toInt_ofInt, Int32.toInt_ofInt]
  show Int.bmod (Int.bmod x 4294967296) (2 ^ 32) = Int.bmod x (2 ^ 32)
  exact Int.bmod_bmod
theorem toI {x : Int} (h : InR x) : (Int32.ofInt x).toInt = x := by
  rw [Int32.toInt_ofInt]
  exact wr_id h.1 h.2
theorem toIw (x : Int) : (Int32.ofInt x).toInt = wr x := by
  rw [Int32.toInt_ofInt]
  rfl
theorem ofI (x : Int32) : Int32.ofInt x.toInt = x := by
  apply Int32.toInt_inj.mp
  rw [Int32.toInt_ofInt]
  exact wr_id (Int32.le_toInt x) (Int32.toInt_lt x)
theorem inI (x : Int32) : InR x.toInt := ⟨Int32.le_toInt x, Int32.toInt_lt x⟩
theorem eqI {x y : Int} (hx : InR x) (hy : InR y) : Int32.ofInt x = Int32.ofInt y ↔ x = y := by
  constructor
  · intro h
    have := congrArg Int32.toInt h
    rwa [toI hx, toI hy] at this
  · intro h; rw [h]
theorem ltI {x y : Int} (hx : InR x) (hy : InR y) : Int32.ofInt x < Int32.ofInt y ↔ x < y := by
  rw [Int32.lt_iff_toInt_lt, toI hx, toI hy]
theorem leI {x y : Int} (hx : InR x) (hy : InR y) : Int32.ofInt x ≤ Int32.ofInt y ↔ x ≤ y := by
  rw [Int32.le_iff_toInt_le, toI hx, toI hy]
theorem addI (x y : Int) : Int32.ofInt x + Int32.ofInt y = Int32.ofInt (wr (x + y)) := by
  rw [of_wr, Int32.ofInt_add]
theorem subI (x y : Int) : Int32.ofInt x - Int32.ofInt y = Int32.ofInt (wr (x - y)) := by
  rw [of_wr, Int32.ofInt_sub]
theorem mulI (x y : Int) : Int32.ofInt x * Int32.ofInt y = Int32.ofInt (wr (x * y)) := by
  rw [of_wr, Int32.ofInt_mul]
theorem in0 : InR 0 := ⟨by decide, by decide⟩
theorem clI {x : Int} (h0 : 0 ≤ x) (h1 : InR x) : (Int32.ofInt x).toNatClampNeg = x.toNat := by
  rw [Int32.toNatClampNeg, toI h1]
theorem vpI {x : Int} {n : Nat} (h1 : InR x) (h0 : 0 ≤ x) (hn : x < n) : vp_in (Int32.ofInt x) n := by
  rw [vp_in_iff, toI h1]
  exact ⟨h0, hn⟩
