/-! making cells: a new cell has the next number; its numbers are 0 -/
def upr (ρ : Nat → Nat) (n q : Nat) : Nat → Nat := fun j => if j = n then q else ρ j
theorem upr_agr (ρ : Nat → Nat) (n q : Nat) : Agr ρ n (upr ρ n q) (n + 1) := ⟨Nat.le_succ _, fun j hj => by unfold upr; rw [if_neg (by omega)]⟩
theorem ent_agr {cA : Nat → ClassId} {n n' : Nat} {ρ ρ' : Nat → Nat} (h : Agr ρ n ρ' n') {row : Int → Int} {sh : Sh} (hw : wfh n sh) : ent cA ρ' row sh = ent cA ρ row sh := by
  rcases sh with ⟨t, m⟩ | ⟨t, rs⟩ | ⟨c, fs⟩
  · rfl
  · show Sum.inl (_, _, Sum.inr (Sum.inr (Sum.inr (Sum.inr _)))) = Sum.inl (_, _, Sum.inr (Sum.inr (Sum.inr (Sum.inr _))))
    congr 7
    funext k
    cases hk : rs.getD k none with
    | none => rfl
    | some j =>
      have hm : some j ∈ rs := by
        rw [List.getD_eq_getElem?_getD] at hk
        cases h2 : rs[k]? with
        | none => rw [h2] at hk; cases hk
        | some w => rw [h2] at hk; cases hk; exact List.mem_of_getElem? h2
      show some (ρ' j) = some (ρ j)
      rw [h.2 j (Or.inl (hw j hm))]
  · show Sum.inr (c, _) = Sum.inr (c, _)
    congr 2
    apply List.ext_getElem?
    intro k
    rw [List.getElem?_mapIdx, List.getElem?_mapIdx]
    cases hk : fs[k]? with
    | none => rfl
    | some f =>
      rcases f with _ | _ | j
      · rfl
      · rfl
      · show some (Value.ref (ρ' j)) = some (Value.ref (ρ j))
        rw [h.2 j (Or.inl (hw j (List.mem_of_getElem? hk)))]
theorem wd_agr {X : CX} {n' : Nat} {ρ ρ' : Nat → Nat} {Z : List Sh} {g : Mem} (h : Agr ρ Z.length ρ' n') (hz : wfz Z) : wd X ρ' Z g = wd X ρ Z g := by
  unfold wd
  apply List.ext_getElem?
  intro i
  rw [List.getElem?_mapIdx, List.getElem?_mapIdx]
  cases hi : Z[i]? with
  | none => rfl
  | some sh =>
    show some (ρ' i, _) = some (ρ i, _)
    rw [ent_agr h (hz sh (List.mem_of_getElem? hi)), h.2 i (Or.inl (List.getElem?_eq_some_iff.mp hi).1)]
theorem wd_app {X : CX} {ρ : Nat → Nat} {Z : List Sh} {g : Mem} {sh : Sh} {q : Nat} (hz : wfz Z) : wd X (upr ρ Z.length q) (Z ++ [sh]) g = wd X ρ Z g ++ [(q, ent X.2.2.2.2 (upr ρ Z.length q) (g Z.length) sh)] := by
  have h := wd_agr (X := X) (g := g) (upr_agr ρ Z.length q) hz
  rw [← h]
  unfold wd
  rw [List.mapIdx_concat]
  congr 3
  unfold upr
  rw [if_pos rfl]
theorem lcv_agr {b n n' : Nat} {ρ ρ' : Nat → Nat} (h : Agr ρ n ρ' n') {ls : List (Option VV)} (ho : wfo n ls) : lcv b ρ' ls = lcv b ρ ls := by
  unfold lcv
  congr 1
  funext q
  cases hx : ls.getD q none with
  | none => rfl
  | some v =>
    have : some v ∈ ls := by
      rw [List.getD_eq_getElem?_getD] at hx
      cases h2 : ls[q]? with
      | none => rw [h2] at hx; cases hx
      | some w => rw [h2] at hx; cases hx; exact List.mem_of_getElem? h2
    show some (q, cv b ρ' v) = some (q, cv b ρ v)
    rw [cv_agr h (ho v this)]
theorem wfh_le {n n' : Nat} (h : n ≤ n') {sh : Sh} (hw : wfh n sh) : wfh n' sh := by
  rcases sh with ⟨t, m⟩ | ⟨t, rs⟩ | ⟨c, fs⟩
  · trivial
  · exact fun j hj => Nat.lt_of_lt_of_le (hw j hj) h
  · exact fun j hj => Nat.lt_of_lt_of_le (hw j hj) h
theorem RD.new {X : CX} {s : State} {A : Nat → Prop} {ρ0 : Nat → Nat} {n0 nL : Nat} {H : Heap} {locs : List Loc} {ρ : Nat → Nat} {arr : Array Slot} {ls : List (Option VV)} {st st' : List VV} {Z : List Sh} {g : Mem} (D : RD X s A ρ0 n0 nL H locs ρ arr ls st Z g) {sh : Sh} {q : Nat} {H1 : Heap} (hst : wfs Z.length st') (hsh : wfh Z.length sh)
    (hP : va_P X.2.2.2.1 vwCl (wd X ρ Z g ++ [(q, ent X.2.2.2.2 (upr ρ Z.length q) (g Z.length) sh)]) H1) (hD : va_D A (wd X ρ Z g ++ [(q, ent X.2.2.2.2 (upr ρ Z.length q) (g Z.length) sh)])) (hS : va_S A s.heap H1 locs) :
    RD X s A ρ0 n0 nL H1 locs (upr ρ Z.length q) arr ls (vr Z.length :: st') (Z ++ [sh]) g ∧ (vr Z.length :: st').map (cv X.1 (upr ρ Z.length q)) = .ref q :: st'.map (cv X.1 ρ) := by
  have ha := upr_agr ρ Z.length q
  have hl : (Z ++ [sh]).length = Z.length + 1 := by rw [List.length_append]; rfl
  refine ⟨⟨by rw [wd_app D.z]; exact hP, by rw [wd_app D.z]; exact hD, hS, ?_, ?_, ?_, ?_, D.n, ?_⟩, ?_⟩
  · intro x hx
    rw [hl]
    rcases List.mem_append.mp hx with h | h
    · exact wfh_le (by omega) (D.z x h)
    · rw [List.mem_singleton.mp h]
      exact wfh_le (by omega) hsh
  · intro v hv
    rw [hl]
    exact wfv_le (by omega) (D.o v hv)
  · rw [hl]
    exact wfs_c (show Z.length < Z.length + 1 by omega) (fun v hv => wfv_le (by omega) (hst v hv))
  · rw [lcv_agr ha D.o]
    exact D.l
  · rw [hl]
    refine ⟨Nat.le_trans D.ag.1 (by omega), fun j hj => ?_⟩
    have h1 := D.ag.1
    unfold upr
    rw [if_neg (by omega)]
    exact D.ag.2 j (by omega)
  · rw [List.map_cons, map_agr ha hst]
    show Value.ref (upr ρ Z.length q Z.length) :: _ = _
    unfold upr
    rw [if_pos rfl]
def dfl : Option (Option Nat) → Value
  | none => .int 0
  | some _ => .null
section AllocRules
variable {X : CX} {d : Nat} {M : MI} {mc ms : Nat} {Q : Option VV → List Sh → Mem → Prop} {k n pc pc' : Nat} {ls : List (Option VV)} {st : List VV} {Z Z' : List Sh} {g g' : Mem}
theorem r_new {idx c0 N j : Nat} {C : String} {T : u_T} {tyf : Nat → FieldType} {fs : List (Option (Option Nat))} (hd : decode M.2.1 pc = .ok (.new idx, 3)) (hp : pc + 3 = pc') (hc : cF c0 C T N tyf) (hx : Cond.classLink M.1.cls idx C ∈ gTbl) (hi : Cond.instantiable C N ∈ gTbl) (hini : Cond.initialized C ∈ gTbl) (hfs : ∀ j, j < N → ∃ f, fs[j]? = some f ∧ defaultValue (tyf j) = dfl f) (hnf : ∀ i : Nat, some (some i) ∉ fs) (h0 : ∀ q, g Z.length q = 0) (hk : k + 1 ≤ mc) (hn : n + N ≤ ms) (hj : Z.length = j) (hZ : Z ++ [.inr (.inr (c0, fs))] = Z')
    (kk : AJ X d M mc ms Q (k + 1) (n + N) pc' ls (vr j :: st) Z' g) : AJ X d M mc ms Q k n pc ls st Z g := by
  intro p l e R s m args below meth c Qw A ρ0 n0 S H locs ρ arr D
  subst hp hj hZ
  obtain ⟨h1, h2, h3, h4, h5⟩ := hc
  obtain ⟨-, -, r3, r4⟩ := S.rm
  have e1 : ∀ ρ' : Nat → Nat, (fs.mapIdx (fun k f => fvl ρ' (g Z.length k) f)) = fs.map dfl := by
    intro ρ'
    apply List.ext_getElem?
    intro i
    rw [List.getElem?_mapIdx, List.getElem?_map]
    cases hf : fs[i]? with
    | none => rfl
    | some f =>
      rcases f with _ | _ | x
      · show some (Value.int (Int32.ofInt (g Z.length i))) = some (Value.int 0)
        rw [h0]
        rfl
      · rfl
      · exact absurd (List.mem_of_getElem? hf) (hnf x)
  refine va_new (fs := fs.map dfl) S.ex S.co S.ts h2 tyf h3 S.ow (S.ts _ hx) (S.ts _ hi) (S.ts _ hini) S.K D.P D.D D.S S.hA h1 (fun j hj => ?_) (by omega) (by omega) hd (fun q H1 hP hD hS => ?_)
  · obtain ⟨f, f1, f2⟩ := hfs j hj
    rw [f2]
    unfold vp_V
    rw [List.getD_eq_getElem?_getD, List.getElem?_map, f1]
    rfl
  · have e2 : ent X.2.2.2.2 (upr ρ Z.length q) (g Z.length) (.inr (.inr (c0, fs))) = .inr (c0, fs.map dfl) := congrArg (fun z => Sum.inr (c0, z)) (e1 _)
    obtain ⟨D1, D2⟩ := D.new (st' := st) (sh := .inr (.inr (c0, fs))) D.sk (fun i hi => absurd hi (hnf i)) (by rw [e2]; exact hP) (by rw [e2]; exact hD) hS
    have h := kk p l e R s m args below meth c Qw A ρ0 n0 S H1 locs _ arr D1
    rw [D2] at h
    exact h
theorem K_cls {U : State} {cA : ClassId} {ty : FieldType} {t : Nat} (hK : va_K X.2.2.2.1 vwCl (tysX X) U) (hK1 : va_K X.2.2.2.1 vwCl (tysX X ++ [(cA, ty)]) U) (ht : (tysX X)[t]? = some (X.2.2.2.2 t, ty)) : cA = X.2.2.2.2 t := by
  have h1 := (hK1.2 5 (cA, ty) rfl).2
  have h2 := (hK.2 t _ ht).2
  cases ty with
  | object C =>
    obtain ⟨_, _, _, _, _, e1⟩ := h1
    obtain ⟨_, _, _, _, _, e2⟩ := h2
    exact Option.some.inj (e1.symm.trans e2)
  | _ => exact Option.some.inj (h1.symm.trans h2)
theorem r_newI {len : Nat} {j : Nat} {z : Int} (hd : decode M.2.1 pc = .ok (.newarray .int, 2)) (hp : pc + 2 = pc') (hz : z = (len : Int)) (hl : len < 1000) (h0 : ∀ q, g Z.length q = 0) (hk : k + 1 ≤ mc) (hn : n + len ≤ ms) (hj : Z.length = j) (hZ : Z ++ [.inl (0, len)] = Z')
    (kk : AJ X d M mc ms Q (k + 1) (n + len) pc' ls (vr j :: st) Z' g) : AJ X d M mc ms Q k n pc ls (vi z :: st) Z g := by
  intro p l e R s m args below meth c Qw A ρ0 n0 S H locs ρ arr D
  subst hp hj hZ hz
  obtain ⟨-, -, r3, r4⟩ := S.rm
  have e1 : (Int32.ofInt (len : Int)).toInt = len := i32_toInt ⟨by omega, by omega⟩
  refine va_newa (atype := .int) (ty := .int) (a0 := (len, .inl (fun k : Nat => Int32.ofInt (g Z.length k)))) S.ex S.co (S.ts _ arI) rfl S.K D.P D.D D.S S.hA (fun cA => ?_) (fun q => ?_) (N' := len) (by show (Int32.ofInt (len : Int)).toInt.toNat = _; rw [e1]; rfl) (by show len * 4 ≤ _; omega) (by omega) (by omega) hd (fun q cA H1 hK1 hP hD hS => ?_)
  · rw [vp_cell_i]
    congr 1
    funext j
    rw [h0]
    rfl
  · rw [Int32.lt_iff_toInt_lt, e1] at q
    exact absurd (show (len : Int) < 0 from q) (by omega)
  · rw [K_cls S.K hK1 (tys0 X)] at hP hD
    obtain ⟨D1, D2⟩ := D.new (st' := st) (sh := .inl (0, len)) (wfs_t D.sk) trivial hP hD hS
    have h := kk p l e R s m args below meth c Qw A ρ0 n0 S H1 locs _ arr D1
    rw [D2] at h
    exact h
theorem r_newZ {len : Nat} {j : Nat} {z : Int} (hd : decode M.2.1 pc = .ok (.newarray .boolean, 2)) (hp : pc + 2 = pc') (hz : z = (len : Int)) (hl : len < 1000) (h0 : ∀ q, g Z.length q = 0) (hk : k + 1 ≤ mc) (hn : n + len ≤ ms) (hj : Z.length = j) (hZ : Z ++ [.inl (1, len)] = Z')
    (kk : AJ X d M mc ms Q (k + 1) (n + len) pc' ls (vr j :: st) Z' g) : AJ X d M mc ms Q k n pc ls (vi z :: st) Z g := by
  intro p l e R s m args below meth c Qw A ρ0 n0 S H locs ρ arr D
  subst hp hj hZ hz
  obtain ⟨-, -, r3, r4⟩ := S.rm
  have e1 : (Int32.ofInt (len : Int)).toInt = len := i32_toInt ⟨by omega, by omega⟩
  refine va_newa (atype := .boolean) (ty := .boolean) (a0 := (len, .inl (fun k : Nat => Int32.ofInt (g Z.length k)))) S.ex S.co (S.ts _ arZ) rfl S.K D.P D.D D.S S.hA (fun cA => ?_) (fun q => ?_) (N' := len) (by show (Int32.ofInt (len : Int)).toInt.toNat = _; rw [e1]; rfl) (by show len * 1 ≤ _; omega) (by omega) (by omega) hd (fun q cA H1 hK1 hP hD hS => ?_)
  · rw [vp_cell_i]
    congr 1
    funext j
    rw [h0]
    rfl
  · rw [Int32.lt_iff_toInt_lt, e1] at q
    exact absurd (show (len : Int) < 0 from q) (by omega)
  · rw [K_cls S.K hK1 (tys1 X)] at hP hD
    obtain ⟨D1, D2⟩ := D.new (st' := st) (sh := .inl (1, len)) (wfs_t D.sk) trivial hP hD hS
    have h := kk p l e R s m args below meth c Qw A ρ0 n0 S H1 locs _ arr D1
    rw [D2] at h
    exact h
theorem r_newJ {len : Nat} {j : Nat} {z : Int} (hd : decode M.2.1 pc = .ok (.newarray .long, 2)) (hp : pc + 2 = pc') (hz : z = (len : Int)) (hl : len < 1000) (h0 : ∀ q, g Z.length q = 0) (hk : k + 1 ≤ mc) (hn : n + len ≤ ms) (hj : Z.length = j) (hZ : Z ++ [.inl (2, len)] = Z')
    (kk : AJ X d M mc ms Q (k + 1) (n + len) pc' ls (vr j :: st) Z' g) : AJ X d M mc ms Q k n pc ls (vi z :: st) Z g := by
  intro p l e R s m args below meth c Qw A ρ0 n0 S H locs ρ arr D
  subst hp hj hZ hz
  obtain ⟨-, -, r3, r4⟩ := S.rm
  have e1 : (Int32.ofInt (len : Int)).toInt = len := i32_toInt ⟨by omega, by omega⟩
  refine va_newa (atype := .long) (ty := .long) (a0 := (len, .inr (.inl (fun k : Nat => Int64.ofInt (g Z.length k))))) S.ex S.co (S.ts _ arJ) rfl S.K D.P D.D D.S S.hA (fun cA => ?_) (fun q => ?_) (N' := len) (by show (Int32.ofInt (len : Int)).toInt.toNat = _; rw [e1]; rfl) (by show len * 8 ≤ _; omega) (by omega) (by omega) hd (fun q cA H1 hK1 hP hD hS => ?_)
  · rw [vp_cell_l]
    congr 1
    funext j
    rw [h0]
    rfl
  · rw [Int32.lt_iff_toInt_lt, e1] at q
    exact absurd (show (len : Int) < 0 from q) (by omega)
  · rw [K_cls S.K hK1 (tys2 X)] at hP hD
    obtain ⟨D1, D2⟩ := D.new (st' := st) (sh := .inl (2, len)) (wfs_t D.sk) trivial hP hD hS
    have h := kk p l e R s m args below meth c Qw A ρ0 n0 S H1 locs _ arr D1
    rw [D2] at h
    exact h
theorem r_newQ {idx t len j : Nat} {C : String} {z : Int} (hd : decode M.2.1 pc = .ok (.anewarray idx, 3)) (hp : pc + 3 = pc') (hx : Cond.classLink M.1.cls idx C ∈ gTbl) (ht : (tysX X)[t]? = some (X.2.2.2.2 t, .object C)) (hC : C = "DayCords$Line" ∨ C = "DayCords$Image") (hz : z = (len : Int)) (hl : len < 1000) (hk : k + 1 ≤ mc) (hn : n + len ≤ ms) (hj : Z.length = j) (hZ : Z ++ [.inr (.inl (t, List.replicate len none))] = Z')
    (kk : AJ X d M mc ms Q (k + 1) (n + len) pc' ls (vr j :: st) Z' g) : AJ X d M mc ms Q k n pc ls (vi z :: st) Z g := by
  intro p l e R s m args below meth c Qw A ρ0 n0 S H locs ρ arr D
  subst hp hj hZ hz
  obtain ⟨-, -, r3, r4⟩ := S.rm
  have e1 : (Int32.ofInt (len : Int)).toInt = len := i32_toInt ⟨by omega, by omega⟩
  have hAO : va_AO C s := by
    rcases hC with rfl | rfl
    · exact S.nw.2.1
    · exact S.nw.2.2
  refine va_newq S.ex S.co S.ow (S.ts _ hx) hAO S.K D.P D.D D.S S.hA (fun q => ?_) (N' := len) (by show (Int32.ofInt (len : Int)).toInt.toNat = _; rw [e1]; rfl) (by omega) (by omega) (by omega) hd (fun q cA H1 hK1 hP hD hS => ?_)
  · rw [Int32.lt_iff_toInt_lt, e1] at q
    exact absurd (show (len : Int) < 0 from q) (by omega)
  · have e2 : ∀ ρ' : Nat → Nat, ent X.2.2.2.2 ρ' (g Z.length) (.inr (.inl (t, List.replicate len none))) = .inl (X.2.2.2.2 t, len, .inr (.inr (.inr (.inr (fun _ => none))))) := by
      intro ρ'
      show Sum.inl (_, (List.replicate len none).length, _) = _
      rw [List.length_replicate]
      congr 7
      funext i
      rw [List.getD_eq_getElem?_getD, List.getElem?_replicate]
      split <;> rfl
    rw [K_cls S.K hK1 ht] at hP hD
    obtain ⟨D1, D2⟩ := D.new (st' := st) (sh := .inr (.inl (t, List.replicate len none))) (wfs_t D.sk) (fun i hi => by rw [List.mem_replicate] at hi; cases hi.2) (by rw [e2]; exact hP) (by rw [e2]; exact hD) hS
    have h := kk p l e R s m args below meth c Qw A ρ0 n0 S H1 locs _ arr D1
    rw [D2] at h
    exact h
theorem r_objI {idx i : Nat} (hd : decode M.2.1 pc = .ok (.invokespecial idx, 3)) (hp : pc + 3 = pc') (hl : Cond.methodLink M.1.cls idx objectInit ∈ gTbl) (hw : Nat.ble (st.map (fun v => match v with | .inr (.inl _) => 2 | _ => 1)).sum 8 = true) (kk : AJ X (d + 1) M mc ms Q k n pc' ls st Z g) : AJ X (d + 1) M mc ms Q k n pc ls (vr i :: st) Z g := by
  intro p l e R s m args below meth c Qw A ρ0 n0 S H locs ρ arr D
  subst hp
  obtain ⟨r1, r2, -, -⟩ := S.rm
  have h := kk p l e R s m args below meth c Qw A ρ0 n0 S H locs ρ arr (D.stk (wfs_t D.sk))
  have h8 := cat_le (b := X.1) (ρ := ρ) hw
  exact W.objInit S.ex S.co S.ow (S.ts _ hl) (S.ts _ oiM) (S.ts _ oiC) rfl (by rw [S.ml]; exact D.l.1) rfl hd (by omega) (by show 2 * 0 + ((st.map (cv X.1 ρ)).map fun v => v.category).sum + 12 ≤ _; omega) h
theorem wd_setZ {ρ : Nat → Nat} {i : Nat} {sh sh' : Sh} {E : va_E} (h : Z[i]? = some sh) (he : ent X.2.2.2.2 ρ (g i) sh' = E) : (wd X ρ Z g).set i (ρ i, E) = wd X ρ (Z.set i sh') g := by
  have hl := (List.getElem?_eq_some_iff.mp h).1
  apply List.ext_getElem?
  intro j
  by_cases hj : j = i
  · subst hj
    rw [List.getElem?_set_self (by unfold wd; rw [List.length_mapIdx]; exact hl), wd_get (List.getElem?_set_self hl), he]
  · rw [List.getElem?_set_ne (Ne.symm hj)]
    unfold wd
    rw [List.getElem?_mapIdx, List.getElem?_mapIdx, List.getElem?_set_ne (Ne.symm hj)]
theorem RD.setZ {s : State} {A : Nat → Prop} {ρ0 : Nat → Nat} {n0 nL : Nat} {H H1 : Heap} {locs locs1 : List Loc} {ρ : Nat → Nat} {arr : Array Slot} {st' : List VV} {i : Nat} {sh : Sh} (D : RD X s A ρ0 n0 nL H locs ρ arr ls st Z g) (hst : wfs Z.length st') (hsh : wfh Z.length sh) (hP : va_P X.2.2.2.1 vwCl (wd X ρ (Z.set i sh) g) H1) (hD : va_D A (wd X ρ (Z.set i sh) g)) (hS : va_S A s.heap H1 locs1) : RD X s A ρ0 n0 nL H1 locs1 ρ arr ls st' (Z.set i sh) g := by
  refine ⟨hP, hD, hS, fun x hx => ?_, by rw [List.length_set]; exact D.o, by rw [List.length_set]; exact hst, D.l, D.n, by rw [List.length_set]; exact D.ag⟩
  rw [List.length_set]
  rcases List.mem_or_eq_of_mem_set hx with h | h
  · exact D.z x h
  · rw [h]; exact hsh
theorem r_putr {idx c0 kf i j : Nat} {ty : FieldType} {fs : List (Option (Option Nat))} (hd : decode M.2.1 pc = .ok (.putfield idx, 3)) (hp : pc + 3 = pc') (hs : fS M.1.cls idx c0 kf ty true) (hown : (vwCl[c0]?).map (fun q => q.1) = some M.1.cls) (hin : M.1.name = "<init>") (hfit : ∀ a, narrow ty (.ref a) = .ref a ∧ fits ty (.ref a) = true) (hz : Z[i]? = some (.inr (.inr (c0, fs)))) (hf : Nat.ble (kf + 1) fs.length = true) (hZ : Z.set i (.inr (.inr (c0, fs.set kf (some (some j))))) = Z') (kk : AJ X d M mc ms Q k n pc' ls st Z' g) : AJ X d M mc ms Q k n pc ls (vr j :: vr i :: st) Z g := by
  intro p l e R s m args below meth c Qw A ρ0 n0 S H locs ρ arr D
  subst hp hZ
  obtain ⟨C, T, N, tyf, ⟨h1, h2, h3, h4, h5⟩, h6, h7, rfl, h9⟩ := hs
  have hkl : kf < fs.length := Nat.le_of_ble_eq_true hf
  have hj : j < Z.length := wfs_h D.sk
  have eC : C = M.1.cls := by rw [h1] at hown; exact Option.some.inj hown
  have hent : ent X.2.2.2.2 ρ (g i) (.inr (.inr (c0, fs.set kf (some (some j))))) = .inr (c0, (fs.mapIdx (fun k f => fvl ρ (g i k) f)).set kf (.ref (ρ j))) := by
    show Sum.inr (c0, _) = _
    congr 2
    apply List.ext_getElem?
    intro q
    by_cases hq : q = kf
    · subst hq
      rw [List.getElem?_mapIdx, List.getElem?_set_self hkl, List.getElem?_set_self (by rw [List.length_mapIdx]; exact hkl)]
      rfl
    · rw [List.getElem?_mapIdx, List.getElem?_set_ne (Ne.symm hq), List.getElem?_set_ne (Ne.symm hq), List.getElem?_mapIdx]
  refine va_putF (v := .ref (ρ j)) S.ex S.co S.ts h2 tyf h3 h4 S.ow S.K D.P D.D D.S i (wd_get hz) h1 kf h6 (S.ts _ h7) (fun x hx => by rw [h5 kf h6] at hx; exact hx) h9 (S.nm.trans hin) (by rw [h5 kf h6]; exact eC) (h3 kf h6) (hfit _).1 (hfit _).2 (by rw [List.length_mapIdx]; exact hkl) hd (fun H1 locs1 hP hD hS => ?_)
  rw [wd_setZ hz hent] at hP hD
  refine kk p l e R s m args below meth c Qw A ρ0 n0 S H1 locs1 ρ arr (D.setZ (wfs_t (wfs_t D.sk)) (fun x hx => ?_) hP hD hS)
  rcases List.mem_or_eq_of_mem_set hx with h | h
  · exact D.z _ (List.mem_of_getElem? hz) x h
  · injection h with h
    injection h with h
    rw [h]; exact hj
theorem r_aast {t i j c0 : Nat} {C : String} {T : u_T} {N : Nat} {rs : List (Option Nat)} {fs : List (Option (Option Nat))} {q : Nat} {z : Int} (hd : decode M.2.1 pc = .ok (.aastore, 1)) (hp : pc + 1 = pc') (ht : (tysX X)[t]? = some (X.2.2.2.2 t, .object C)) (hc : vwCl[c0]? = some (C, T, N)) (hi : Z[i]? = some (.inr (.inl (t, rs)))) (hj : Z[j]? = some (.inr (.inr (c0, fs)))) (hz : z = (q : Int)) (hq : q < rs.length) (hl : rs.length < 1000) (hZ : Z.set i (.inr (.inl (t, rs.set q (some j)))) = Z') (kk : AJ X d M mc ms Q k n pc' ls st Z' g) : AJ X d M mc ms Q k n pc ls (vr j :: vi z :: vr i :: st) Z g := by
  intro p l e R s m args below meth c Qw A ρ0 n0 S H locs ρ arr D
  subst hp hZ hz
  have hjl : j < Z.length := wfs_h D.sk
  obtain ⟨q1, q2⟩ := i32_in (i := (q : Int)) (n := rs.length) (by omega) (by omega) (by omega)
  have hent : ent X.2.2.2.2 ρ (g i) (.inr (.inl (t, rs.set q (some j)))) = .inl (X.2.2.2.2 t, rs.length, .inr (.inr (.inr (.inr (va_up (fun k => (rs.getD k none).map ρ) (Int32.ofInt (q : Int)).toNatClampNeg (some (ρ j))))))) := by
    show Sum.inl (_, (rs.set q (some j)).length, _) = _
    rw [List.length_set, q2]
    congr 7
    funext x
    show ((rs.set q (some j)).getD x none).map ρ = va_up (fun k => (rs.getD k none).map ρ) q (some (ρ j)) x
    unfold va_up
    rw [List.getD_eq_getElem?_getD]
    by_cases hx : x = q
    · subst hx
      rw [List.getElem?_set_self hq, if_pos rfl]
      rfl
    · rw [List.getElem?_set_ne (Ne.symm hx), if_neg hx]
      show _ = Option.map ρ (rs.getD x none)
      rw [List.getD_eq_getElem?_getD]
  refine va_astq (r := (C, T, N)) S.ex S.co S.K D.P D.D D.S i t j c0 (wd_get hi) ht (wd_get hj) hc q1 hd (fun H1 locs1 hP hD hS => ?_)
  rw [wd_setZ hi hent] at hP hD
  refine kk p l e R s m args below meth c Qw A ρ0 n0 S H1 locs1 ρ arr (D.setZ (wfs_t (wfs_t (wfs_t D.sk))) (fun x hx => ?_) hP hD hS)
  rcases List.mem_or_eq_of_mem_set hx with h | h
  · exact D.z _ (List.mem_of_getElem? hi) x h
  · injection h with h
    rw [h]; exact hjl
end AllocRules
