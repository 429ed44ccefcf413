/-! THE LAYER OF NUMBERS: ints and longs as Int, cells by their numbers, one memory of numbers; a judgement AJ over the kit's W, and a rule an instruction -/
abbrev VV : Type := Int ⊕ (Int ⊕ Option (Option Nat))
abbrev vi (x : Int) : VV := .inl x
abbrev vl (x : Int) : VV := .inr (.inl x)
abbrev vr (j : Nat) : VV := .inr (.inr (some (some j)))
abbrev vsc : VV := .inr (.inr (some none))
abbrev vnl : VV := .inr (.inr none)
/-- the shape of a cell: a row of numbers (kind, length); a row of references; an object (class, fields: none is a number) -/
abbrev Sh : Type := (Nat × Nat) ⊕ ((Nat × List (Option Nat)) ⊕ (Nat × List (Option (Option Nat))))
abbrev Mem : Type := Nat → Int → Int
/-- script's address, length, contents; the classes' tables; the row classes -/
abbrev CX : Type := Nat × Nat × (Int → Int) × va_G × (Nat → ClassId)
abbrev MI : Type := MethodName × ByteArray × Nat × Option FieldType
def mu (g : Mem) (i : Nat) (k v : Int) : Mem := fun j q => if j = i ∧ q = k then v else g j q
abbrev R32 (x : Int) : Prop := -2147483648 ≤ x ∧ x < 2147483648
abbrev R64 (x : Int) : Prop := -9223372036854775808 ≤ x ∧ x < 9223372036854775808
def cv (b : Nat) (ρ : Nat → Nat) : VV → Value
  | .inl x => .int (Int32.ofInt x)
  | .inr (.inl x) => .long (Int64.ofInt x)
  | .inr (.inr none) => .null
  | .inr (.inr (some none)) => .ref b
  | .inr (.inr (some (some j))) => .ref (ρ j)
def wfv (n : Nat) : VV → Prop
  | .inl _ => True
  | .inr (.inl _) => True
  | .inr (.inr none) => True
  | .inr (.inr (some none)) => True
  | .inr (.inr (some (some j))) => j < n
def wfs (n : Nat) (l : List VV) : Prop := ∀ v ∈ l, wfv n v
def wfo (n : Nat) (l : List (Option VV)) : Prop := ∀ v : VV, some v ∈ l → wfv n v
def wfh (n : Nat) : Sh → Prop
  | .inl _ => True
  | .inr (.inl (_, rs)) => ∀ j : Nat, some j ∈ rs → j < n
  | .inr (.inr (_, fs)) => ∀ j : Nat, some (some j) ∈ fs → j < n
def wfz (Z : List Sh) : Prop := ∀ sh ∈ Z, wfh Z.length sh
def fvl (ρ : Nat → Nat) (x : Int) : Option (Option Nat) → Value
  | none => .int (Int32.ofInt x)
  | some none => .null
  | some (some j) => .ref (ρ j)
def ent (cA : Nat → ClassId) (ρ : Nat → Nat) (row : Int → Int) : Sh → va_E
  | .inl (t, n) => if t = 2 then .inl (cA t, n, .inr (.inl (fun k : Nat => Int64.ofInt (row k)))) else .inl (cA t, n, .inl (fun k : Nat => Int32.ofInt (row k)))
  | .inr (.inl (t, rs)) => .inl (cA t, rs.length, .inr (.inr (.inr (.inr (fun k => (rs.getD k none).map ρ)))))
  | .inr (.inr (c, fs)) => .inr (c, fs.mapIdx (fun k f => fvl ρ (row k) f))
def wd (X : CX) (ρ : Nat → Nat) (Z : List Sh) (g : Mem) : va_W := Z.mapIdx (fun i sh => (ρ i, ent X.2.2.2.2 ρ (g i) sh))
def tysX (X : CX) : List (ClassId × FieldType) := [(X.2.2.2.2 0, .int), (X.2.2.2.2 1, .boolean), (X.2.2.2.2 2, .long), (X.2.2.2.2 3, .object "DayCords$Line"), (X.2.2.2.2 4, .object "DayCords$Image")]
def lcv (b : Nat) (ρ : Nat → Nat) (ls : List (Option VV)) : List (Nat × Value) := (List.range ls.length).filterMap (fun k => (ls.getD k none).map (fun v => (k, cv b ρ v)))
def gTbl : List Cond := lw_tbl.filter goodWord
def nTbl : List (String × Nat × MethodName × String) := lw_tbl.filterMap (fun w => match w with | .methodLinkNest a i x h => some (a, i, x, h) | _ => none)
def Agr (ρ0 : Nat → Nat) (n0 : Nat) (ρ : Nat → Nat) (n : Nat) : Prop := n0 ≤ n ∧ ∀ j : Nat, (j < n0 ∨ n ≤ j) → ρ j = ρ0 j
def RetAt (M : MI) (pc : Nat) (r : Option VV) : Prop := (decode M.2.1 pc = .ok (.ireturn, 1) ∧ ∃ v : Int, r = some (vi v) ∧ ∃ ty, M.2.2.2 = some ty ∧ (ty = .int ∨ (ty = .boolean ∧ (v = 0 ∨ v = 1)))) ∨ (decode M.2.1 pc = .ok (.return_, 1) ∧ r = none ∧ M.2.2.2 = none)
def RD (X : CX) (s : State) (A : Nat → Prop) (ρ0 : Nat → Nat) (n0 nL : Nat) (H : Heap) (locs : List Loc) (ρ : Nat → Nat) (arr : Array Slot) (ls : List (Option VV)) (st : List VV) (Z : List Sh) (g : Mem) : Prop :=
  va_P X.2.2.2.1 vwCl (wd X ρ Z g) H ∧ va_D A (wd X ρ Z g) ∧ va_S A s.heap H locs ∧ wfz Z ∧ wfo Z.length ls ∧ wfs Z.length st ∧ lv_has arr nL (lcv X.1 ρ ls) ∧ ls.length = nL ∧ Agr ρ0 n0 ρ Z.length
def RE (X : CX) (s : State) (A : Nat → Prop) (ρ0 : Nat → Nat) (n0 : Nat) (H : Heap) (locs : List Loc) (ρ : Nat → Nat) (r : Option VV) (Z : List Sh) (g : Mem) : Prop :=
  va_P X.2.2.2.1 vwCl (wd X ρ Z g) H ∧ va_D A (wd X ρ Z g) ∧ va_S A s.heap H locs ∧ wfz Z ∧ wfs Z.length r.toList ∧ Agr ρ0 n0 ρ Z.length
def NW (s : State) : Prop := (∀ q ∈ nTbl, va_Nw (.methodLinkNest q.1 q.2.1 q.2.2.1 q.2.2.2) s) ∧ va_AO "DayCords$Line" s ∧ va_AO "DayCords$Image" s
def RS (X : CX) (d : Nat) (M : MI) (mc ms : Nat) (Q : Option VV → List Sh → Mem → Prop) (p : Program) (l : Launch) (e : Env) (R : Room) (s : State) (m : MethodId) (args : Array Value) (below : List Frame) (meth : Method) (c : Code) (Qw : State → Prop) (A : Nat → Prop) (ρ0 : Nat → Nat) (n0 : Nat) : Prop :=
  p.tables.exec = Jvm.exec ∧ c.code = M.2.1 ∧ c.maxLocals = M.2.2.1 ∧ s.vm.findClass M.1.cls = some m.cls ∧ (∀ w ∈ gTbl, w.before args s = true) ∧ NW s ∧ va_K X.2.2.2.1 vwCl (tysX X) s ∧ meth.sig.returnType = M.2.2.2 ∧ meth.locks = false ∧ meth.name = M.1.name ∧
  (d ≤ R.frames ∧ 64 * d ≤ R.locals ∧ mc ≤ R.cells ∧ ms ≤ R.slots) ∧ (∀ q : Nat, s.heap.size ≤ q → A q) ∧ (M.1.name = "law" → va_X X.1 X.2.1 (fun j : Nat => Int32.ofInt (X.2.2.1 j)) s s.heap ∧ X.1 < s.heap.size ∧ ¬ A X.1) ∧
  (∀ (r : Option VV) (Z : List Sh) (g : Mem) (ρ : Nat → Nat) (H : Heap) (locs : List Loc) (k n pc : Nat) (arr : Array Slot), Q r Z g → RE X s A ρ0 n0 H locs ρ r Z g → k ≤ mc → n ≤ ms → RetAt M pc r → W p l e R s m args below meth c H locs k n Qw (F0 m pc arr (r.toList.map (cv X.1 ρ))))
def AJ (X : CX) (d : Nat) (M : MI) (mc ms : Nat) (Q : Option VV → List Sh → Mem → Prop) (k n pc : Nat) (ls : List (Option VV)) (st : List VV) (Z : List Sh) (g : Mem) : Prop :=
  ∀ (p : Program) (l : Launch) (e : Env) (R : Room) (s : State) (m : MethodId) (args : Array Value) (below : List Frame) (meth : Method) (c : Code) (Qw : State → Prop) (A : Nat → Prop) (ρ0 : Nat → Nat) (n0 : Nat), RS X d M mc ms Q p l e R s m args below meth c Qw A ρ0 n0 →
  ∀ (H : Heap) (locs : List Loc) (ρ : Nat → Nat) (arr : Array Slot), RD X s A ρ0 n0 M.2.2.1 H locs ρ arr ls st Z g → W p l e R s m args below meth c H locs k n Qw (F0 m pc arr (st.map (cv X.1 ρ)))
def Ent (X : CX) (d : Nat) (M : MI) (mc ms : Nat) (vs : List VV) (Z : List Sh) (g : Mem) (Q : Option VV → List Sh → Mem → Prop) : Prop := AJ X d M mc ms Q 0 0 0 (vs.map some ++ List.replicate (M.2.2.1 - vs.length) none) [] Z g
-- numbers
theorem i32_toInt {x : Int} (h : R32 x) : (Int32.ofInt x).toInt = x := by
  rw [Int32.toInt_ofInt]
  have e : x.bmod 4294967296 = x := by rw [Int.bmod_def]; omega
  exact e
theorem i64_toInt {x : Int} (h : R64 x) : (Int64.ofInt x).toInt = x := by
  rw [Int64.toInt_ofInt]
  have e : x.bmod 18446744073709551616 = x := by rw [Int.bmod_def]; omega
  exact e
theorem i32_lt {a b : Int} (ha : R32 a) (hb : R32 b) : Int32.ofInt a < Int32.ofInt b ↔ a < b := by rw [Int32.lt_iff_toInt_lt, i32_toInt ha, i32_toInt hb]
theorem i32_le {a b : Int} (ha : R32 a) (hb : R32 b) : Int32.ofInt a ≤ Int32.ofInt b ↔ a ≤ b := by rw [Int32.le_iff_toInt_le, i32_toInt ha, i32_toInt hb]
theorem i32_eq {a b : Int} (ha : R32 a) (hb : R32 b) : Int32.ofInt a = Int32.ofInt b ↔ a = b := by rw [← Int32.toInt_inj, i32_toInt ha, i32_toInt hb]
theorem i32_0 : (0 : Int32) = Int32.ofInt 0 := rfl
theorem i32_div {a b : Int} (ha : R32 a) (hb : R32 b) : Int32.ofInt a / Int32.ofInt b = Int32.ofInt (a.tdiv b) := by
  rw [← Int32.toInt_inj, Int32.toInt_div, i32_toInt ha, i32_toInt hb, Int32.toInt_ofInt]
theorem i64_div {a b : Int} (ha : R64 a) (hb : R64 b) : Int64.ofInt a / Int64.ofInt b = Int64.ofInt (a.tdiv b) := by
  rw [← Int64.toInt_inj, Int64.toInt_div, i64_toInt ha, i64_toInt hb, Int64.toInt_ofInt]
theorem i32_in {i : Int} {n : Nat} (h0 : 0 ≤ i) (h1 : i < n) (hn : n < 2147483648) : vp_in (Int32.ofInt i) n ∧ (Int32.ofInt i).toNatClampNeg = i.toNat := by
  have e : (Int32.ofInt i).toInt = i := i32_toInt ⟨by omega, by omega⟩
  refine ⟨vp_in_iff.mpr (by rw [e]; exact ⟨h0, h1⟩), ?_⟩
  show (Int32.ofInt i).toInt.toNat = _
  rw [e]
-- lists of locals
theorem mem_lcv {b : Nat} {ρ : Nat → Nat} {ls : List (Option VV)} {q : Nat × Value} : q ∈ lcv b ρ ls ↔ ∃ v, ls[q.1]? = some (some v) ∧ q.2 = cv b ρ v := by
  unfold lcv
  rw [List.mem_filterMap]
  constructor
  · rintro ⟨k, hk, h⟩
    have hk' := List.mem_range.mp hk
    rw [Option.map_eq_some_iff] at h
    obtain ⟨v, h1, rfl⟩ := h
    refine ⟨v, ?_, rfl⟩
    rw [List.getD_eq_getElem?_getD] at h1
    show ls[k]? = _
    rw [List.getElem?_eq_getElem hk'] at h1 ⊢
    exact congrArg some h1
  · rintro ⟨v, h1, h2⟩
    have hk := (List.getElem?_eq_some_iff.mp h1).1
    refine ⟨q.1, List.mem_range.mpr hk, ?_⟩
    rw [List.getD_eq_getElem?_getD, h1]
    obtain ⟨k, w⟩ := q
    cases h2
    rfl
theorem lv_mono {arr : Array Slot} {nL : Nat} {l l' : List (Nat × Value)} (h : lv_has arr nL l) (hs : ∀ q ∈ l', q ∈ l) : lv_has arr nL l' := ⟨h.1, h.2.1, fun q hq => h.2.2 q (hs q hq)⟩
theorem lv_get {arr : Array Slot} {nL b : Nat} {ρ : Nat → Nat} {ls : List (Option VV)} (h : lv_has arr nL (lcv b ρ ls)) {i : Nat} {v : VV} (hi : ls[i]? = some (some v)) : arr[i]? = some (.val (cv b ρ v)) := h.2.2 (i, cv b ρ v) (mem_lcv.mpr ⟨v, hi, rfl⟩)
def nol (ls : List (Option VV)) : Nat → Bool
  | 0 => true
  | j + 1 => match ls[j]? with
    | some (some (.inr (.inl _))) => false
    | _ => true
def oks (ls : List (Option VV)) (i : Nat) : Bool := nol ls i && Nat.ble (i + 1) ls.length
theorem oks_lt {ls : List (Option VV)} {i : Nat} (h : oks ls i = true) : i < ls.length := Nat.le_of_ble_eq_true (Bool.and_eq_true _ _ ▸ h).2
theorem nol_cat {b : Nat} {ρ : Nat → Nat} {ls : List (Option VV)} {j : Nat} {v : VV} (h : nol ls (j + 1) = true) (hv : ls[j]? = some (some v)) : (cv b ρ v).category ≠ 2 := by
  simp only [nol, hv] at h
  rcases v with x | x | _ | _ | x
  · simp [cv, Value.category]
  · simp at h
  · simp [cv, Value.category]
  · simp [cv, Value.category]
  · simp [cv, Value.category]
theorem lv_setv {b : Nat} {ρ : Nat → Nat} {ls : List (Option VV)} {i : Nat} {v : VV} {q : Nat × Value} (ho : oks ls i = true) (hq : q ∈ lcv b ρ (ls.set i (some v))) : q ∈ (i, cv b ρ v) :: (lcv b ρ ls).filter (fun q => !(q.1 == i) && !(q.1 + 1 == i && q.2.category == 2)) := by
  obtain ⟨w, h1, h2⟩ := mem_lcv.mp hq
  obtain ⟨k, u⟩ := q
  dsimp only at h1 h2
  subst h2
  have hno : nol ls i = true := (Bool.and_eq_true _ _ ▸ ho).1
  by_cases hk : k = i
  · subst hk
    rw [List.getElem?_set_self (oks_lt ho)] at h1
    cases h1
    exact List.mem_cons_self
  · rw [List.getElem?_set_ne (Ne.symm hk)] at h1
    refine List.mem_cons_of_mem _ (List.mem_filter.mpr ⟨mem_lcv.mpr ⟨w, h1, rfl⟩, ?_⟩)
    have hc : ¬ (k + 1 = i ∧ (cv b ρ w).category = 2) := by
      rintro ⟨e, hc⟩
      subst e
      exact nol_cat hno h1 hc
    simp only [Bool.and_eq_true, Bool.not_eq_true', beq_eq_false_iff_ne, ne_eq, Bool.and_eq_false_iff]
    refine ⟨hk, ?_⟩
    by_cases e : k + 1 = i
    · exact Or.inr fun z => hc ⟨e, z⟩
    · exact Or.inl e
theorem lv_setl {b : Nat} {ρ : Nat → Nat} {ls : List (Option VV)} {i : Nat} {v : VV} {q : Nat × Value} (ho : oks ls i = true) (hi : i + 1 < ls.length) (hq : q ∈ lcv b ρ ((ls.set i (some v)).set (i + 1) none)) : q ∈ (i, cv b ρ v) :: (lcv b ρ ls).filter (fun q => !(q.1 == i) && (!(q.1 == i + 1) && !(q.1 + 1 == i && q.2.category == 2))) := by
  obtain ⟨w, h1, h2⟩ := mem_lcv.mp hq
  obtain ⟨k, u⟩ := q
  dsimp only at h1 h2
  subst h2
  have hno : nol ls i = true := (Bool.and_eq_true _ _ ▸ ho).1
  by_cases hk1 : k = i + 1
  · subst hk1
    rw [List.getElem?_set_self (by rw [List.length_set]; exact hi)] at h1
    cases h1
  rw [List.getElem?_set_ne (Ne.symm hk1)] at h1
  by_cases hk : k = i
  · subst hk
    rw [List.getElem?_set_self (oks_lt ho)] at h1
    cases h1
    exact List.mem_cons_self
  · rw [List.getElem?_set_ne (Ne.symm hk)] at h1
    refine List.mem_cons_of_mem _ (List.mem_filter.mpr ⟨mem_lcv.mpr ⟨w, h1, rfl⟩, ?_⟩)
    have hc : ¬ (k + 1 = i ∧ (cv b ρ w).category = 2) := by
      rintro ⟨e, hc⟩
      subst e
      exact nol_cat hno h1 hc
    simp only [Bool.and_eq_true, Bool.not_eq_true', beq_eq_false_iff_ne, ne_eq, Bool.and_eq_false_iff]
    refine ⟨hk, hk1, ?_⟩
    by_cases e : k + 1 = i
    · exact Or.inr fun z => hc ⟨e, z⟩
    · exact Or.inl e
-- wf
theorem wfs_c {n : Nat} {st : List VV} {v : VV} (hv : wfv n v) (h : wfs n st) : wfs n (v :: st) := fun w hw => by
  rcases List.mem_cons.mp hw with rfl | hw
  · exact hv
  · exact h w hw
theorem wfs_t {n : Nat} {st : List VV} {v : VV} (h : wfs n (v :: st)) : wfs n st := fun w hw => h w (List.mem_cons_of_mem _ hw)
theorem wfs_h {n : Nat} {st : List VV} {v : VV} (h : wfs n (v :: st)) : wfv n v := h v List.mem_cons_self
theorem wfo_g {n : Nat} {ls : List (Option VV)} {i : Nat} {v : VV} (h : wfo n ls) (hi : ls[i]? = some (some v)) : wfv n v := h v (List.mem_of_getElem? hi)
theorem wfo_s {n : Nat} {ls : List (Option VV)} {i : Nat} {o : Option VV} (h : wfo n ls) (ho : ∀ v, o = some v → wfv n v) : wfo n (ls.set i o) := fun v hv => by
  rcases List.mem_or_eq_of_mem_set hv with h1 | h1
  · exact h v h1
  · exact ho v h1.symm
