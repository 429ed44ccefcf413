-- worlds
theorem wd_get {X : CX} {ρ : Nat → Nat} {Z : List Sh} {g : Mem} {i : Nat} {sh : Sh} (h : Z[i]? = some sh) : (wd X ρ Z g)[i]? = some (ρ i, ent X.2.2.2.2 ρ (g i) sh) := by
  unfold wd
  rw [List.getElem?_mapIdx, h]
  rfl
theorem wd_set {X : CX} {ρ : Nat → Nat} {Z : List Sh} {g g' : Mem} {i : Nat} {sh : Sh} {E : va_E} (h : Z[i]? = some sh) (ho : ∀ j, j ≠ i → g' j = g j) (he : ent X.2.2.2.2 ρ (g' i) sh = E) : (wd X ρ Z g).set i (ρ i, E) = wd X ρ Z g' := by
  apply List.ext_getElem?
  intro j
  by_cases hj : j = i
  · subst hj
    have hl : j < (wd X ρ Z g).length := (List.getElem?_eq_some_iff.mp (wd_get (X := X) (ρ := ρ) (g := g) h)).1
    rw [List.getElem?_set_self hl, wd_get h, he]
  · rw [List.getElem?_set_ne (Ne.symm hj)]
    unfold wd
    rw [List.getElem?_mapIdx, List.getElem?_mapIdx, ho j hj]
theorem mu_off {g : Mem} {i : Nat} {k v : Int} {j : Nat} (h : j ≠ i) : mu g i k v j = g j := by
  funext q
  simp [mu, h]
theorem mu_row (g : Mem) (i : Nat) (k v : Int) : mu g i k v i = fun q => if q = k then v else g i q := by
  funext q
  simp [mu]
theorem ent_put {cA : Nat → ClassId} {ρ : Nat → Nat} {row : Int → Int} {c k : Nat} {fs : List (Option (Option Nat))} {v : Int} (hf : fs[k]? = some none) : ent cA ρ (fun q => if q = (k : Int) then v else row q) (.inr (.inr (c, fs))) = .inr (c, (fs.mapIdx (fun k f => fvl ρ (row k) f)).set k (.int (Int32.ofInt v))) := by
  show Sum.inr (c, _) = _
  congr 2
  apply List.ext_getElem?
  intro j
  by_cases hj : j = k
  · subst hj
    have hl := (List.getElem?_eq_some_iff.mp hf).1
    rw [List.getElem?_set_self (by rw [List.length_mapIdx]; exact hl), List.getElem?_mapIdx, hf]
    simp [fvl]
  · rw [List.getElem?_set_ne (Ne.symm hj), List.getElem?_mapIdx, List.getElem?_mapIdx]
    cases fs[j]? with
    | none => rfl
    | some f =>
      have hj' : ¬ ((j : Int) = (k : Int)) := by omega
      cases f <;> simp [fvl, hj']
-- the static part's words
section RSp
variable {X : CX} {d : Nat} {M : MI} {mc ms : Nat} {Q : Option VV → List Sh → Mem → Prop} {p : Program} {l : Launch} {e : Env} {R : Room} {s : State} {m : MethodId} {args : Array Value} {below : List Frame} {meth : Method} {c : Code} {Qw : State → Prop} {A : Nat → Prop} {ρ0 : Nat → Nat} {n0 : Nat}
theorem RS.ex (S : RS X d M mc ms Q p l e R s m args below meth c Qw A ρ0 n0) : p.tables.exec = Jvm.exec := S.1
theorem RS.co (S : RS X d M mc ms Q p l e R s m args below meth c Qw A ρ0 n0) : c.code = M.2.1 := S.2.1
theorem RS.ml (S : RS X d M mc ms Q p l e R s m args below meth c Qw A ρ0 n0) : c.maxLocals = M.2.2.1 := S.2.2.1
theorem RS.ow (S : RS X d M mc ms Q p l e R s m args below meth c Qw A ρ0 n0) : s.vm.findClass M.1.cls = some m.cls := S.2.2.2.1
theorem RS.ts (S : RS X d M mc ms Q p l e R s m args below meth c Qw A ρ0 n0) : ∀ w ∈ gTbl, w.before args s = true := S.2.2.2.2.1
theorem RS.nw (S : RS X d M mc ms Q p l e R s m args below meth c Qw A ρ0 n0) : NW s := S.2.2.2.2.2.1
theorem RS.K (S : RS X d M mc ms Q p l e R s m args below meth c Qw A ρ0 n0) : va_K X.2.2.2.1 vwCl (tysX X) s := S.2.2.2.2.2.2.1
theorem RS.rt (S : RS X d M mc ms Q p l e R s m args below meth c Qw A ρ0 n0) : meth.sig.returnType = M.2.2.2 := S.2.2.2.2.2.2.2.1
theorem RS.lk (S : RS X d M mc ms Q p l e R s m args below meth c Qw A ρ0 n0) : meth.locks = false := S.2.2.2.2.2.2.2.2.1
theorem RS.nm (S : RS X d M mc ms Q p l e R s m args below meth c Qw A ρ0 n0) : meth.name = M.1.name := S.2.2.2.2.2.2.2.2.2.1
theorem RS.rm (S : RS X d M mc ms Q p l e R s m args below meth c Qw A ρ0 n0) : d ≤ R.frames ∧ 64 * d ≤ R.locals ∧ mc ≤ R.cells ∧ ms ≤ R.slots := S.2.2.2.2.2.2.2.2.2.2.1
theorem RS.hA (S : RS X d M mc ms Q p l e R s m args below meth c Qw A ρ0 n0) : ∀ q : Nat, s.heap.size ≤ q → A q := S.2.2.2.2.2.2.2.2.2.2.2.1
theorem RS.sc (S : RS X d M mc ms Q p l e R s m args below meth c Qw A ρ0 n0) : M.1.name = "law" → va_X X.1 X.2.1 (fun j : Nat => Int32.ofInt (X.2.2.1 j)) s s.heap ∧ X.1 < s.heap.size ∧ ¬ A X.1 := S.2.2.2.2.2.2.2.2.2.2.2.2.1
end RSp
section RDp
variable {X : CX} {s : State} {A : Nat → Prop} {ρ0 : Nat → Nat} {n0 nL : Nat} {H : Heap} {locs : List Loc} {ρ : Nat → Nat} {arr : Array Slot} {ls : List (Option VV)} {st : List VV} {Z : List Sh} {g : Mem}
theorem RD.P (D : RD X s A ρ0 n0 nL H locs ρ arr ls st Z g) : va_P X.2.2.2.1 vwCl (wd X ρ Z g) H := D.1
theorem RD.D (D : RD X s A ρ0 n0 nL H locs ρ arr ls st Z g) : va_D A (wd X ρ Z g) := D.2.1
theorem RD.S (D : RD X s A ρ0 n0 nL H locs ρ arr ls st Z g) : va_S A s.heap H locs := D.2.2.1
theorem RD.z (D : RD X s A ρ0 n0 nL H locs ρ arr ls st Z g) : wfz Z := D.2.2.2.1
theorem RD.o (D : RD X s A ρ0 n0 nL H locs ρ arr ls st Z g) : wfo Z.length ls := D.2.2.2.2.1
theorem RD.sk (D : RD X s A ρ0 n0 nL H locs ρ arr ls st Z g) : wfs Z.length st := D.2.2.2.2.2.1
theorem RD.l (D : RD X s A ρ0 n0 nL H locs ρ arr ls st Z g) : lv_has arr nL (lcv X.1 ρ ls) := D.2.2.2.2.2.2.1
theorem RD.n (D : RD X s A ρ0 n0 nL H locs ρ arr ls st Z g) : ls.length = nL := D.2.2.2.2.2.2.2.1
theorem RD.ag (D : RD X s A ρ0 n0 nL H locs ρ arr ls st Z g) : Agr ρ0 n0 ρ Z.length := D.2.2.2.2.2.2.2.2
theorem RD.stk (D : RD X s A ρ0 n0 nL H locs ρ arr ls st Z g) {st' : List VV} (h : wfs Z.length st') : RD X s A ρ0 n0 nL H locs ρ arr ls st' Z g := ⟨D.P, D.D, D.S, D.z, D.o, h, D.l, D.n, D.ag⟩
theorem RD.loc (D : RD X s A ρ0 n0 nL H locs ρ arr ls st Z g) {st' : List VV} {arr' : Array Slot} {ls' : List (Option VV)} (h : wfs Z.length st') (ho : wfo Z.length ls') (hl : lv_has arr' nL (lcv X.1 ρ ls')) (hn : ls'.length = ls.length) : RD X s A ρ0 n0 nL H locs ρ arr' ls' st' Z g := ⟨D.P, D.D, D.S, D.z, ho, h, hl, hn.trans D.n, D.ag⟩
theorem RD.mem (D : RD X s A ρ0 n0 nL H locs ρ arr ls st Z g) {st' : List VV} {g' : Mem} {H' : Heap} {locs' : List Loc} (h : wfs Z.length st') (hP : va_P X.2.2.2.1 vwCl (wd X ρ Z g') H') (hD : va_D A (wd X ρ Z g')) (hS : va_S A s.heap H' locs') : RD X s A ρ0 n0 nL H' locs' ρ arr ls st' Z g' := ⟨hP, hD, hS, D.z, D.o, h, D.l, D.n, D.ag⟩
end RDp
section Rules
variable {X : CX} {d : Nat} {M : MI} {mc ms : Nat} {Q : Option VV → List Sh → Mem → Prop} {k n pc pc' : Nat} {ls : List (Option VV)} {st : List VV} {Z : List Sh} {g : Mem}
theorem r_iconst {z : Int} (hd : decode M.2.1 pc = .ok (.iconst z, 1)) (hp : pc + 1 = pc') (kk : AJ X d M mc ms Q k n pc' ls (vi z :: st) Z g) : AJ X d M mc ms Q k n pc ls st Z g := by
  intro p l e R s m args below meth c Qw A ρ0 n0 S H locs ρ arr D
  subst hp
  exact lv_iconst S.ex S.co hd rfl (kk p l e R s m args below meth c Qw A ρ0 n0 S H locs ρ arr (D.stk (wfs_c trivial D.sk)))
theorem r_bipush {z : Int} (hd : decode M.2.1 pc = .ok (.bipush z, 2)) (hp : pc + 2 = pc') (hz : (Int8.ofInt z).toInt32 = Int32.ofInt z) (kk : AJ X d M mc ms Q k n pc' ls (vi z :: st) Z g) : AJ X d M mc ms Q k n pc ls st Z g := by
  intro p l e R s m args below meth c Qw A ρ0 n0 S H locs ρ arr D
  subst hp
  exact lv_bipush S.ex S.co hd hz (kk p l e R s m args below meth c Qw A ρ0 n0 S H locs ρ arr (D.stk (wfs_c trivial D.sk)))
theorem r_sipush {z : Int} (hd : decode M.2.1 pc = .ok (.sipush z, 3)) (hp : pc + 3 = pc') (hz : (Int16.ofInt z).toInt32 = Int32.ofInt z) (kk : AJ X d M mc ms Q k n pc' ls (vi z :: st) Z g) : AJ X d M mc ms Q k n pc ls st Z g := by
  intro p l e R s m args below meth c Qw A ρ0 n0 S H locs ρ arr D
  subst hp
  exact lv_sipush S.ex S.co hd hz (kk p l e R s m args below meth c Qw A ρ0 n0 S H locs ρ arr (D.stk (wfs_c trivial D.sk)))
theorem r_ldc {i : Nat} {z : Int} (hd : decode M.2.1 pc = .ok (.ldc i, 2)) (hp : pc + 2 = pc') (hw : Cond.constant M.1.cls i (Int32.ofInt z) ∈ gTbl) (kk : AJ X d M mc ms Q k n pc' ls (vi z :: st) Z g) : AJ X d M mc ms Q k n pc ls st Z g := by
  intro p l e R s m args below meth c Qw A ρ0 n0 S H locs ρ arr D
  subst hp
  exact lv_ldc S.ex S.co S.ow (S.ts _ hw) hd (kk p l e R s m args below meth c Qw A ρ0 n0 S H locs ρ arr (D.stk (wfs_c trivial D.sk)))
theorem r_ldc_w {i : Nat} {z : Int} (hd : decode M.2.1 pc = .ok (.ldc_w i, 3)) (hp : pc + 3 = pc') (hw : Cond.constant M.1.cls i (Int32.ofInt z) ∈ gTbl) (kk : AJ X d M mc ms Q k n pc' ls (vi z :: st) Z g) : AJ X d M mc ms Q k n pc ls st Z g := by
  intro p l e R s m args below meth c Qw A ρ0 n0 S H locs ρ arr D
  subst hp
  exact lv_ldcw S.ex S.co S.ow (S.ts _ hw) hd (kk p l e R s m args below meth c Qw A ρ0 n0 S H locs ρ arr (D.stk (wfs_c trivial D.sk)))
theorem r_ldc2_w {i : Nat} {z : Int} (hd : decode M.2.1 pc = .ok (.ldc2_w i, 3)) (hp : pc + 3 = pc') (hw : Cond.constantLong M.1.cls i (Int64.ofInt z) ∈ gTbl) (kk : AJ X d M mc ms Q k n pc' ls (vl z :: st) Z g) : AJ X d M mc ms Q k n pc ls st Z g := by
  intro p l e R s m args below meth c Qw A ρ0 n0 S H locs ρ arr D
  subst hp
  exact lv_ldc2 S.ex S.co S.ow (S.ts _ hw) hd (kk p l e R s m args below meth c Qw A ρ0 n0 S H locs ρ arr (D.stk (wfs_c trivial D.sk)))
theorem r_iload_n {i : Fin 4} {x : Int} (hd : decode M.2.1 pc = .ok (.iload_n i, 1)) (hp : pc + 1 = pc') (hl : ls[i.val]? = some (some (vi x))) (kk : AJ X d M mc ms Q k n pc' ls (vi x :: st) Z g) : AJ X d M mc ms Q k n pc ls st Z g := by
  intro p l e R s m args below meth c Qw A ρ0 n0 S H locs ρ arr D
  subst hp
  exact lv_iload_n S.ex S.co hd rfl (lv_get D.l hl) (kk p l e R s m args below meth c Qw A ρ0 n0 S H locs ρ arr (D.stk (wfs_c trivial D.sk)))
theorem r_iload {i : Nat} {x : Int} (hd : decode M.2.1 pc = .ok (.iload i, 2)) (hp : pc + 2 = pc') (hl : ls[i]? = some (some (vi x))) (kk : AJ X d M mc ms Q k n pc' ls (vi x :: st) Z g) : AJ X d M mc ms Q k n pc ls st Z g := by
  intro p l e R s m args below meth c Qw A ρ0 n0 S H locs ρ arr D
  subst hp
  exact lv_iload S.ex S.co hd (lv_get D.l hl) (kk p l e R s m args below meth c Qw A ρ0 n0 S H locs ρ arr (D.stk (wfs_c trivial D.sk)))
theorem r_lload_n {i : Fin 4} {x : Int} (hd : decode M.2.1 pc = .ok (.lload_n i, 1)) (hp : pc + 1 = pc') (hl : ls[i.val]? = some (some (vl x))) (kk : AJ X d M mc ms Q k n pc' ls (vl x :: st) Z g) : AJ X d M mc ms Q k n pc ls st Z g := by
  intro p l e R s m args below meth c Qw A ρ0 n0 S H locs ρ arr D
  subst hp
  exact lv_lload_n S.ex S.co hd rfl (lv_get D.l hl) (kk p l e R s m args below meth c Qw A ρ0 n0 S H locs ρ arr (D.stk (wfs_c trivial D.sk)))
theorem r_aload_n {i : Fin 4} {x : Nat} (hd : decode M.2.1 pc = .ok (.aload_n i, 1)) (hp : pc + 1 = pc') (hl : ls[i.val]? = some (some (vr x))) (kk : AJ X d M mc ms Q k n pc' ls (vr x :: st) Z g) : AJ X d M mc ms Q k n pc ls st Z g := by
  intro p l e R s m args below meth c Qw A ρ0 n0 S H locs ρ arr D
  subst hp
  exact lv_aload_n S.ex S.co hd rfl (lv_get D.l hl) (kk p l e R s m args below meth c Qw A ρ0 n0 S H locs ρ arr (D.stk (wfs_c (wfo_g D.o hl) D.sk)))
theorem r_aload_s {i : Fin 4} (hd : decode M.2.1 pc = .ok (.aload_n i, 1)) (hp : pc + 1 = pc') (hl : ls[i.val]? = some (some vsc)) (kk : AJ X d M mc ms Q k n pc' ls (vsc :: st) Z g) : AJ X d M mc ms Q k n pc ls st Z g := by
  intro p l e R s m args below meth c Qw A ρ0 n0 S H locs ρ arr D
  subst hp
  exact lv_aload_n S.ex S.co hd rfl (lv_get D.l hl) (kk p l e R s m args below meth c Qw A ρ0 n0 S H locs ρ arr (D.stk (wfs_c trivial D.sk)))
theorem r_istore_n {i : Fin 4} {x : Int} (hd : decode M.2.1 pc = .ok (.istore_n i, 1)) (hp : pc + 1 = pc') (ho : oks ls i.val = true) (kk : AJ X d M mc ms Q k n pc' (ls.set i.val (some (vi x))) st Z g) : AJ X d M mc ms Q k n pc ls (vi x :: st) Z g := by
  intro p l e R s m args below meth c Qw A ρ0 n0 S H locs ρ arr D
  subst hp
  refine lv_istore_n S.ex S.co hd rfl D.l (by rw [← D.n]; exact oks_lt ho) rfl fun arr' h => ?_
  exact kk p l e R s m args below meth c Qw A ρ0 n0 S H locs ρ arr' (D.loc (wfs_t D.sk) (wfo_s D.o (fun v h => by cases h; trivial)) (lv_mono h fun q hq => lv_setv ho hq) (List.length_set ..))
theorem r_istore {i : Nat} {x : Int} (hd : decode M.2.1 pc = .ok (.istore i, 2)) (hp : pc + 2 = pc') (ho : oks ls i = true) (kk : AJ X d M mc ms Q k n pc' (ls.set i (some (vi x))) st Z g) : AJ X d M mc ms Q k n pc ls (vi x :: st) Z g := by
  intro p l e R s m args below meth c Qw A ρ0 n0 S H locs ρ arr D
  subst hp
  refine lv_istore S.ex S.co hd D.l (by rw [← D.n]; exact oks_lt ho) rfl fun arr' h => ?_
  exact kk p l e R s m args below meth c Qw A ρ0 n0 S H locs ρ arr' (D.loc (wfs_t D.sk) (wfo_s D.o (fun v h => by cases h; trivial)) (lv_mono h fun q hq => lv_setv ho hq) (List.length_set ..))
theorem r_astore_n {i : Fin 4} {x : Nat} (hd : decode M.2.1 pc = .ok (.astore_n i, 1)) (hp : pc + 1 = pc') (ho : oks ls i.val = true) (kk : AJ X d M mc ms Q k n pc' (ls.set i.val (some (vr x))) st Z g) : AJ X d M mc ms Q k n pc ls (vr x :: st) Z g := by
  intro p l e R s m args below meth c Qw A ρ0 n0 S H locs ρ arr D
  subst hp
  refine lv_astore_n S.ex S.co hd rfl D.l (by rw [← D.n]; exact oks_lt ho) rfl fun arr' h => ?_
  exact kk p l e R s m args below meth c Qw A ρ0 n0 S H locs ρ arr' (D.loc (wfs_t D.sk) (wfo_s D.o (fun v h => by cases h; exact wfs_h D.sk)) (lv_mono h fun q hq => lv_setv ho hq) (List.length_set ..))
theorem r_lstore_n {i : Fin 4} {x : Int} (hd : decode M.2.1 pc = .ok (.lstore_n i, 1)) (hp : pc + 1 = pc') (ho : oks ls i.val = true) (ho2 : Nat.ble (i.val + 2) ls.length = true) (kk : AJ X d M mc ms Q k n pc' ((ls.set i.val (some (vl x))).set (i.val + 1) none) st Z g) : AJ X d M mc ms Q k n pc ls (vl x :: st) Z g := by
  intro p l e R s m args below meth c Qw A ρ0 n0 S H locs ρ arr D
  subst hp
  have hi : i.val + 1 < ls.length := Nat.le_of_ble_eq_true ho2
  refine lv_lstore_n S.ex S.co hd rfl D.l (by rw [← D.n]; exact hi) rfl fun arr' h => ?_
  exact kk p l e R s m args below meth c Qw A ρ0 n0 S H locs ρ arr' (D.loc (wfs_t D.sk) (wfo_s (wfo_s D.o (fun v h => by cases h; trivial)) (fun v h => by cases h)) (lv_mono h fun q hq => lv_setl ho hi hq) (by rw [List.length_set, List.length_set]))
theorem r_iinc {i : Nat} {x z : Int} (hd : decode M.2.1 pc = .ok (.iinc i z, 3)) (hp : pc + 3 = pc') (hl : ls[i]? = some (some (vi x))) (ho : oks ls i = true) (kk : AJ X d M mc ms Q k n pc' (ls.set i (some (vi (x + z)))) st Z g) : AJ X d M mc ms Q k n pc ls st Z g := by
  intro p l e R s m args below meth c Qw A ρ0 n0 S H locs ρ arr D
  subst hp
  obtain ⟨kq, hkq⟩ := List.getElem?_of_mem (mem_lcv (b := X.1) (ρ := ρ) (q := (i, cv X.1 ρ (vi x))).mpr ⟨_, hl, rfl⟩)
  refine lv_iinc (v := Int32.ofInt (x + z)) S.ex S.co hd D.l hkq (by rw [Int32.ofInt_add]) (by rw [← D.n]; exact oks_lt ho) rfl fun arr' h => ?_
  exact kk p l e R s m args below meth c Qw A ρ0 n0 S H locs ρ arr' (D.loc D.sk (wfo_s D.o (fun v h => by cases h; trivial)) (lv_mono h fun q hq => lv_setv (v := vi (x + z)) ho hq) (List.length_set ..))
theorem r_iadd {a b : Int} (hd : decode M.2.1 pc = .ok (.iadd, 1)) (hp : pc + 1 = pc') (kk : AJ X d M mc ms Q k n pc' ls (vi (a + b) :: st) Z g) : AJ X d M mc ms Q k n pc ls (vi b :: vi a :: st) Z g := by
  intro p l e R s m args below meth c Qw A ρ0 n0 S H locs ρ arr D
  subst hp
  have h := kk p l e R s m args below meth c Qw A ρ0 n0 S H locs ρ arr (D.stk (wfs_c trivial (wfs_t (wfs_t D.sk))))
  refine lv_iadd S.ex S.co hd ?_
  rw [← Int32.ofInt_add]
  exact h
theorem r_isub {a b : Int} (hd : decode M.2.1 pc = .ok (.isub, 1)) (hp : pc + 1 = pc') (kk : AJ X d M mc ms Q k n pc' ls (vi (a - b) :: st) Z g) : AJ X d M mc ms Q k n pc ls (vi b :: vi a :: st) Z g := by
  intro p l e R s m args below meth c Qw A ρ0 n0 S H locs ρ arr D
  subst hp
  have h := kk p l e R s m args below meth c Qw A ρ0 n0 S H locs ρ arr (D.stk (wfs_c trivial (wfs_t (wfs_t D.sk))))
  refine lv_isub S.ex S.co hd ?_
  rw [← Int32.ofInt_sub]
  exact h
theorem r_imul {a b : Int} (hd : decode M.2.1 pc = .ok (.imul, 1)) (hp : pc + 1 = pc') (kk : AJ X d M mc ms Q k n pc' ls (vi (a * b) :: st) Z g) : AJ X d M mc ms Q k n pc ls (vi b :: vi a :: st) Z g := by
  intro p l e R s m args below meth c Qw A ρ0 n0 S H locs ρ arr D
  subst hp
  have h := kk p l e R s m args below meth c Qw A ρ0 n0 S H locs ρ arr (D.stk (wfs_c trivial (wfs_t (wfs_t D.sk))))
  refine lv_imul S.ex S.co hd ?_
  rw [← Int32.ofInt_mul]
  exact h
theorem r_idiv {a b : Int} (hd : decode M.2.1 pc = .ok (.idiv, 1)) (hp : pc + 1 = pc') (ha : R32 a) (hb : R32 b) (h0 : b ≠ 0) (kk : AJ X d M mc ms Q k n pc' ls (vi (a.tdiv b) :: st) Z g) : AJ X d M mc ms Q k n pc ls (vi b :: vi a :: st) Z g := by
  intro p l e R s m args below meth c Qw A ρ0 n0 S H locs ρ arr D
  subst hp
  have h := kk p l e R s m args below meth c Qw A ρ0 n0 S H locs ρ arr (D.stk (wfs_c trivial (wfs_t (wfs_t D.sk))))
  refine lv_idiv S.ex S.co hd (by rw [i32_0, i32_eq hb (by decide)]; exact h0) ?_
  rw [i32_div ha hb]
  exact h
theorem r_irem {a b : Int} (hd : decode M.2.1 pc = .ok (.irem, 1)) (hp : pc + 1 = pc') (ha : R32 a) (hb : R32 b) (h0 : b ≠ 0) (kk : AJ X d M mc ms Q k n pc' ls (vi (a.tmod b) :: st) Z g) : AJ X d M mc ms Q k n pc ls (vi b :: vi a :: st) Z g := by
  intro p l e R s m args below meth c Qw A ρ0 n0 S H locs ρ arr D
  subst hp
  have h := kk p l e R s m args below meth c Qw A ρ0 n0 S H locs ρ arr (D.stk (wfs_c trivial (wfs_t (wfs_t D.sk))))
  refine lv_irem S.ex S.co hd (by rw [i32_0, i32_eq hb (by decide)]; exact h0) ?_
  rw [i32_div ha hb, ← Int32.ofInt_mul, ← Int32.ofInt_sub]
  have e1 : a - a.tdiv b * b = a.tmod b := by
    have := Int.tmod_add_mul_tdiv a b
    rw [Int.mul_comm] at this
    omega
  rw [e1]
  exact h
end Rules
