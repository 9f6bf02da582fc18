-- links and methods, by the tables
def GF (own : String) (idx ci N j : Nat) : Prop := ∃ q : vw_C, cls[ci]? = some q ∧ q.2.2 = N ∧ j < N ∧ ((∃ ref : String, Cond.fieldLink own idx ref (q.2.1 j).2.1 (q.2.1 j).2.2.1 ∈ lw_g ∧ (ref = (q.2.1 j).1 ∨ Cond.sameField ref (q.2.1 j).1 (q.2.1 j).2.1 (q.2.1 j).2.2.1 ∈ lw_g)) ∨ ∃ host : String, Cond.fieldLinkNest own idx (q.2.1 j).1 (q.2.1 j).2.1 (q.2.1 j).2.2.1 host ∈ lw_sp)
def LK (own : String) (idx : Nat) (M : MT) : Prop := Cond.methodLink own idx M.1 ∈ lw_g
def LKn (own : String) (idx : Nat) (M : MT) : Prop := ∃ host : String, Cond.methodLinkNest own idx M.1 host ∈ lw_sp
def MF0 (M : MT) (n : Nat) : Prop := Cond.initialized M.1.cls ∈ lw_g ∧ Cond.code M.1 M.2.1 M.2.2.1 M.2.2.2 ∈ lw_g ∧ (M.1.cls ≠ "java/lang/invoke/MethodHandle" ∧ M.1.cls ≠ "java/lang/invoke/VarHandle" ∧ (parseMethodDescriptor M.1.desc).map (fun d => d.parameters.length) = some n) ∧ M.2.2.1 ≤ 22
def MFv (M : MT) (n : Nat) : Prop := MF0 M n ∧ Cond.instanceMethod M.1 ∈ lw_g ∧ Cond.selects M.1.cls M.1 M.1 ∈ lw_g
def MFs (M : MT) (n : Nat) : Prop := MF0 M n ∧ Cond.static M.1 ∈ lw_g
def MFi (M : MT) (n : Nat) : Prop := MF0 M n ∧ M.1.name = "<init>" ∧ Cond.instanceMethod M.1 ∈ lw_g ∧ M.2.2.2 = none
theorem mem_g {w : Cond} (i : Nat) (h : lw_tbl[i]? = some w) (hg : goodWord w = true) : w ∈ lw_g := List.mem_filter.mpr ⟨List.mem_of_getElem? h, hg⟩
theorem mem_sp {w : Cond} (i : Nat) (h : lw_tbl[i]? = some w) (hg : isSp w = true) : w ∈ lw_sp := List.mem_filter.mpr ⟨List.mem_of_getElem? h, hg⟩
theorem mem_gs (ws : List Cond) (ps : List Nat) (hp : ws = ps.filterMap (fun i => lw_tbl[i]?)) (h : ws.all goodWord = true) : ∀ w ∈ ws, w ∈ lw_g := by
  intro w hw
  have h1 := List.all_eq_true.mp h w hw
  rw [hp] at hw
  obtain ⟨i, -, hi⟩ := List.mem_filterMap.mp hw
  exact mem_g i hi h1
theorem layX0 : ∀ w ∈ u_ws RX0 TX0 11, w ∈ lw_g := mem_gs _ [453, 455, 457, 459, 461, 463, 465, 467, 469, 471, 473] (by decide +kernel) (by decide +kernel)
theorem layX1 : ∀ w ∈ u_ws RX1 TX1 7, w ∈ lw_g := mem_gs _ [421, 423, 425, 427, 429, 431, 433] (by decide +kernel) (by decide +kernel)
theorem layX2 : ∀ w ∈ u_ws RX2 TX2 2, w ∈ lw_g := mem_gs _ [320, 322] (by decide +kernel) (by decide +kernel)
theorem layX3 : ∀ w ∈ u_ws RX3 TX3 6, w ∈ lw_g := mem_gs _ [156, 158, 160, 162, 164, 166] (by decide +kernel) (by decide +kernel)
theorem layX4 : ∀ w ∈ u_ws RX4 TX4 11, w ∈ lw_g := mem_gs _ [994, 996, 998, 1000, 1002, 1004, 1006, 1008, 1010, 1012, 1014] (by decide +kernel) (by decide +kernel)
theorem layX5 : ∀ w ∈ u_ws RX5 TX5 3, w ∈ lw_g := mem_gs _ [485, 487, 489] (by decide +kernel) (by decide +kernel)
theorem layX6 : ∀ w ∈ u_ws RX6 TX6 9, w ∈ lw_g := mem_gs _ [185, 187, 189, 191, 193, 195, 197, 199, 201] (by decide +kernel) (by decide +kernel)
theorem layX7 : ∀ w ∈ u_ws RX7 TX7 6, w ∈ lw_g := mem_gs _ [293, 295, 297, 299, 301, 303] (by decide +kernel) (by decide +kernel)
theorem layX8 : ∀ w ∈ u_ws RX8 TX8 6, w ∈ lw_g := mem_gs _ [239, 241, 243, 245, 247, 249] (by decide +kernel) (by decide +kernel)
theorem layX9 : ∀ w ∈ u_ws RX9 TX9 4, w ∈ lw_g := mem_gs _ [214, 216, 218, 220] (by decide +kernel) (by decide +kernel)
theorem layX10 : ∀ w ∈ u_ws RX10 TX10 7, w ∈ lw_g := mem_gs _ [272, 274, 276, 278, 280, 282, 284] (by decide +kernel) (by decide +kernel)
theorem layX11 : ∀ w ∈ u_ws RX11 TX11 8, w ∈ lw_g := mem_gs _ [500, 502, 504, 506, 508, 510, 512, 514] (by decide +kernel) (by decide +kernel)
theorem layX12 : ∀ w ∈ u_ws RX12 TX12 74, w ∈ lw_g := mem_gs _ [1424, 1426, 1428, 1430, 1432, 1434, 1436, 1438, 1440, 1442, 1444, 1446, 1448, 1450, 1452, 1454, 1456, 1458, 1460, 1462, 1464, 1466, 1468, 1470, 1472, 1474, 1476, 1478, 1480, 1482, 1484, 1486, 1488, 1490, 1492, 1494, 1496, 1498, 1500, 1502, 1504, 1506, 1508, 1510, 1512, 1514, 1516, 1518, 1520, 1522, 1524, 1526, 1528, 1530, 1532, 1534, 1536, 1538, 1540, 1542, 1544, 1546, 1548, 1550, 1552, 1554, 1556, 1558, 1560, 1562, 1564, 1566, 1568, 1570] (by decide +kernel) (by decide +kernel)
theorem layJx4a65c : ∀ w ∈ u_ws RJx4a65c TJx4a65c 3, w ∈ lw_g := mem_gs _ [348, 344, 346] (by decide +kernel) (by decide +kernel)
theorem cls_lays {ci : Nat} {q : vw_C} (h : cls[ci]? = some q) : ∀ w ∈ u_ws q.1 q.2.1 q.2.2, w ∈ lw_g := by
  have h20 : ci < 14 := (List.getElem?_eq_some_iff.mp h).1
  match ci, h20, h with
  | 0, _, h => cases h; exact layX0
  | 1, _, h => cases h; exact layX1
  | 2, _, h => cases h; exact layX2
  | 3, _, h => cases h; exact layX3
  | 4, _, h => cases h; exact layX4
  | 5, _, h => cases h; exact layX5
  | 6, _, h => cases h; exact layX6
  | 7, _, h => cases h; exact layX7
  | 8, _, h => cases h; exact layX8
  | 9, _, h => cases h; exact layX9
  | 10, _, h => cases h; exact layX10
  | 11, _, h => cases h; exact layX11
  | 12, _, h => cases h; exact layX12
  | 13, _, h => cases h; exact layJx4a65c
  | n + 14, h20, _ => exact absurd h20 (by omega)
def catA (v : AV) : Nat := match v with
  | .inr (.inr _) => 2
  | _ => 1
theorem cat_cv (G : Gt) (v : AV) : (cv G v).category = catA v := by
  rcases v with x | r | x
  · rfl
  · exact cv_cat (v := vR r) trivial
  · rfl
theorem cat_sum (G : Gt) (l : List AV) : ((l.map (cv G)).map fun v => v.category).sum = (l.map catA).sum := by
  rw [List.map_map]
  congr 1
  apply List.map_congr_left
  intro v _
  exact cat_cv G v
theorem fv_get (G : Gt) {ci N j : Nat} (f : Nat → Int) (g : Nat → Nat) (h : j < N) : ((List.range N).map (fvl G ci f g))[j]? = some (fvl G ci f g j) := by
  simp [List.getElem?_range h]
section HEAP
variable {M : MT} {G : Gt} {d bc bs : Nat} {Qz : QZ} {pc : Nat} {ls : List (Option AV)} {st : List AV} {σ : St}
theorem AW_get {r ci N j idx : Nat} {v : AV} (hd : decode M.2.1 pc = .ok (.getfield idx, 3)) (hl : GF M.1.cls idx ci N j) (hk : Cel σ r (ci, N)) (hv : fvl G ci (σ.2.1 r) (σ.2.2.1 r) j = cv G v) (hok : (∀ r j, InR (σ.2.1 r j)) → OKv v) (k : AW M G d bc bs Qz (pc + 3) ls (v :: st) σ) : AW M G d bc bs Qz pc ls (vR r :: st) σ := by
  intro p l e s m args below meth c H locs cells slots mc ms lsM C hW hS h1 h2 hL hO
  obtain ⟨q, hq, hN, hj, hlk⟩ := hl
  obtain ⟨h16, hlt, hkd⟩ := hk
  have hc20 := cls_lt hq
  subst hN
  have he := wl_at G h16 hlt
  rw [cellE_obj G hkd hc20] at he
  have hvv := fv_get G (ci := ci) (σ.2.1 r) (σ.2.2.1 r) hj
  rw [hv] at hvv
  have hts := C.2.2.2.2.2.2.2.1
  have hkk := k p l e s m args below meth c H locs cells slots mc ms lsM C hW hS h1 h2 hL (OKs_cons.mpr ⟨hok hW.2.2.2, (OKs_cons.mp hO).2⟩)
  have e1 : cv G (vR r) = .ref (adr G r) := by
    show va_rf (crf G r) = _
    rw [show crf G r = some (adr G r) by simp [crf, show r ≠ 0 by omega]]
    rfl
  rw [List.map_cons, e1]
  rcases hlk with ⟨ref, hw, hs⟩ | ⟨host, hw⟩
  · exact va_get C.1 C.2.1 hts (fun w hw => List.mem_cons_of_mem _ (cls_lays hq w hw)) C.2.2.2.2.1 C.2.2.2.2.2.2.2.2.1 hW.2.1 (r - 16) he hq j hj (hts_g hts hw) (fun x hx => by
      rcases hs with rfl | hs
      · exact hx
      · exact u_same (hts_g hts hs) x hx) hvv hd hkk
  · exact va_getN C.1 C.2.1 hts (fun w hw => List.mem_cons_of_mem _ (cls_lays hq w hw)) C.2.2.2.2.1 C.2.2.2.2.2.2.2.2.1 hW.2.1 (r - 16) he hq j hj (va_Nw.use rfl (C.2.2.2.2.2.2.2.2.2.1 _ hw)) (fun x hx => hx) hvv hd hkk
theorem AW_getI {r ci N j idx : Nat} (hd : decode M.2.1 pc = .ok (.getfield idx, 3)) (hl : GF M.1.cls idx ci N j) (hk : Cel σ r (ci, N)) (k : AW M G d bc bs Qz (pc + 3) ls (vI (σ.2.1 r j) :: st) σ) (ht : isRf ci j = false := by rfl) : AW M G d bc bs Qz pc ls (vR r :: st) σ :=
  AW_get (v := vI (σ.2.1 r j)) hd hl hk (by simp [fvl, ht, cv]) (fun h => h r j) k
theorem AW_getR {r ci N j idx : Nat} (hd : decode M.2.1 pc = .ok (.getfield idx, 3)) (hl : GF M.1.cls idx ci N j) (hk : Cel σ r (ci, N)) {a : Nat} (ha : σ.2.2.1 r j = a) (k : AW M G d bc bs Qz (pc + 3) ls (vR a :: st) σ) (ht : isRf ci j = true := by rfl) : AW M G d bc bs Qz pc ls (vR r :: st) σ :=
  AW_get (v := vR a) hd hl hk (by simp [fvl, ht, cv, ha]) (fun _ => trivial) k
theorem rf_val {r : Nat} (h : 16 ≤ r) : cv G (vR r) = .ref (adr G r) := by
  show va_rf (crf G r) = _
  rw [show crf G r = some (adr G r) by simp [crf, show r ≠ 0 by omega]]
  rfl
theorem AG_adr {r : Nat} (h : 16 ≤ r) : AG G (adr G r) := by
  unfold AG adr
  rw [if_neg (by omega)]
  omega
theorem fvl_fits (ci j : Nat) (f : Nat → Int) (g : Nat → Nat) (hz : isRf ci j = false → tyT ci j = .boolean → f j = 0 ∨ f j = 1) (ht : tyT ci j = .int ∨ tyT ci j = .boolean ∨ isRf ci j = true) : narrow (tyT ci j) (fvl G ci f g j) = fvl G ci f g j ∧ fits (tyT ci j) (fvl G ci f g j) = true := by
  unfold fvl
  cases hb : isRf ci j with
  | true =>
    rw [if_pos rfl]
    unfold isRf isRt at hb
    cases ht : tyT ci j with
    | object C => constructor <;> (cases crf G (g j) <;> rfl)
    | array t => constructor <;> (cases crf G (g j) <;> rfl)
    | _ => rw [ht] at hb; cases hb
  | false =>
    rw [if_neg (by simp)]
    rcases ht with ht | ht | ht
    · rw [ht]; exact ⟨rfl, rfl⟩
    · rw [ht]
      rcases hz hb ht with h | h <;> rw [h] <;> decide
    · rw [hb] at ht; cases ht
end HEAP
