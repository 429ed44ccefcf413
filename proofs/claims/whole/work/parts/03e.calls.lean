-- calls
theorem lv_args_in {b : Nat} {ρ : Nat → Nat} : ∀ (vs : List VV) (i : Nat), (∀ v ∈ vs, (cv b ρ v).category = 1) → ∀ (k : Nat) (v : VV), vs[k]? = some v → (i + k, cv b ρ v) ∈ lv_args i (vs.map (cv b ρ))
  | [], _, _, k, v, h => by simp at h
  | w :: vs, i, hc, k, v, h => by
    have h1 : (cv b ρ w).category = 1 := hc w List.mem_cons_self
    simp only [List.map_cons, lv_args, h1]
    rw [if_neg (by decide)]
    cases k with
    | zero =>
      rw [List.getElem?_cons_zero] at h
      cases h
      exact List.mem_cons_self
    | succ k =>
      rw [List.getElem?_cons_succ] at h
      have := lv_args_in vs (i + 1) (fun v hv => hc v (List.mem_cons_of_mem _ hv)) k v h
      rw [show i + 1 + k = i + (k + 1) by omega] at this
      exact List.mem_cons_of_mem _ this
theorem lg_sl_len {b : Nat} {ρ : Nat → Nat} : ∀ (vs : List VV), (∀ v ∈ vs, (cv b ρ v).category = 1) → (lg_sl (vs.map (cv b ρ))).length = vs.length
  | [], _ => rfl
  | w :: vs, hc => by
    have h1 : (cv b ρ w).category = 1 := hc w List.mem_cons_self
    have := lg_sl_len vs (fun v hv => hc v (List.mem_cons_of_mem _ hv))
    unfold lg_sl at this ⊢
    simp only [List.map_cons, List.flatMap_cons, h1, List.length_append, this]
    rw [if_neg (by decide)]
    simp
    omega
theorem ent_ls {vs : List VV} {k N : Nat} {v : VV} (h : (vs.map some ++ List.replicate N (none : Option VV))[k]? = some (some v)) : vs[k]? = some v := by
  by_cases hk : k < vs.length
  · rw [List.getElem?_append_left (by rw [List.length_map]; exact hk), List.getElem?_map] at h
    cases hv : vs[k]? with
    | none => rw [hv] at h; cases h
    | some w => rw [hv] at h; cases h; rfl
  · rw [List.getElem?_append_right (by rw [List.length_map]; omega)] at h
    have := List.mem_of_getElem? h
    rw [List.mem_replicate] at this
    cases this.2
def cat1 (vs : List VV) : Bool := vs.all (fun v => match v with | .inr (.inl _) => false | _ => true)
theorem cat1_of {vs : List VV} (h : cat1 vs = true) (b : Nat) (ρ : Nat → Nat) : ∀ v ∈ vs, (cv b ρ v).category = 1 := fun v hv => cv_cat1 (List.all_eq_true.mp h v hv)
def PC (X : CX) (ρ : Nat → Nat) (vs : List VV) (Z : List Sh) (g : Mem) (sz : Nat) : State → Prop := fun U => NW U ∧ va_K X.2.2.2.1 vwCl (tysX X) U ∧ va_P X.2.2.2.1 vwCl (wd X ρ Z g) U.heap ∧ va_D (fun _ => True) (wd X ρ Z g) ∧ wfz Z ∧ wfs Z.length vs ∧ U.heap.size = sz
def QC (X : CX) (ρ : Nat → Nat) (Z : List Sh) (g : Mem) (sz : Nat) (Q : Option VV → List Sh → Mem → Prop) : Array Value → State → Outcome → State → Prop := fun _ st oc t =>
  (∃ (r : Option VV) (Z' : List Sh) (g' : Mem) (ρ' : Nat → Nat), oc = .returned (r.map (cv X.1 ρ')) ∧ Q r Z' g' ∧ va_P X.2.2.2.1 vwCl (wd X ρ' Z' g') t.heap ∧ va_D (va_A (wd X ρ Z g) sz) (wd X ρ' Z' g') ∧ wfz Z' ∧ wfs Z'.length r.toList ∧ Agr ρ Z.length ρ' Z'.length) ∧ va_F (va_A (wd X ρ Z g) sz) st t
theorem ret_W {X : CX} {M : MI} {mc ms : Nat} {p : Program} {l : Launch} {e : Env} {R : Room} {s : State} {m : MethodId} {args : Array Value} {below : List Frame} {meth : Method} {c : Code} {H : Heap} {locs : List Loc} {k n pc : Nat} {arr : Array Slot} {r : Option VV} {ρ : Nat → Nat} {Qc : Array Value → State → Outcome → State → Prop} {free : Addr → Prop}
    (hx : p.tables.exec = Jvm.exec) (hb : c.code = M.2.1) (hr : meth.sig.returnType = M.2.2.2) (hlk : meth.locks = false) (hk : k ≤ mc) (hn : n ≤ ms) (ha : RetAt M pc r) (hq : ∀ t : State, t.heap = H → s.WarmedH t.vm → Qc args s (.returned (r.map (cv X.1 ρ))) t) (hf : ∀ q ∈ locs, free q.base) :
    W p l e R s m args below meth c H locs k n (MQ below Qc args s mc ms free) (F0 m pc arr (r.toList.map (cv X.1 ρ))) := by
  refine W.widen hk hn ?_
  rcases ha with ⟨hd, v, rfl, ty, ht, h⟩ | ⟨hd, rfl, ht⟩
  · exact W.zret hx hb (hr.trans ht) (fits_iz h).1 hq hf hd hlk
  · exact W.vret hx hb (hr.trans ht) hq hf hd hlk
theorem met_ofW {l : Launch} {y : MethodName} {ws ws' : List Cond} {rm : Room} {Pc : Array Value → State → Prop} {Qc : Array Value → State → Outcome → State → Prop} {mc ms : Nat} {free : Addr → Prop} {cc : ByteArray} {maxL : Nat} {ret : Option FieldType}
    (hy : plainFor y = true) (hw : ws = Cond.code y cc maxL ret :: ws')
    (body : ∀ p e s m args below meth c s₁, BodyLoose p l y (headSpec ws rm) cc maxL ret e s m args below meth c s₁ → c.maxLocals = maxL → Pc args s →
      W p l e (headSpec ws rm).room s m args below meth c s.heap [] 0 0 (MQ below Qc args s mc ms free) (entryFrame m args maxL)) : Met l y ws rm Pc Qc mc ms free := by
  refine MetFree.of_bodySF (code := cc) (maxLocals := maxL) (ret := ret) hy (fun args s m h hn => ?_) (fun p e s m args below meth c s₁ B hml hP _ => ?_)
  · have hc := atoms_spec (ws := ws) h (Cond.code y cc maxL ret) (by rw [hw]; exact List.mem_cons_self)
    obtain ⟨meth, c, a1, a2, a3, a4, a5, a6, -⟩ := Cond.code_spec hn hc
    exact ⟨meth, c, a1, a2, a3, a4, a5, a6⟩
  · have e0 : s₁.heap = s.heap := by rw [B.state]; rfl
    obtain ⟨t, a1, o, b1, b2, b3⟩ := body p e s m args below meth c s₁ B hml hP s₁ e0 (Stand.of_body B)
    exact ⟨t, o, a1, b1, b2, b3⟩
theorem met_of {X : CX} {d : Nat} {M : MI} {mc ms : Nat} {vs : List VV} {Z : List Sh} {g : Mem} {Q : Option VV → List Sh → Mem → Prop} (l : Launch) (he : Ent X d M mc ms vs Z g Q) (hpn : plainFor M.1 = true) (hlaw : M.1.name ≠ "law") (hc : cat1 vs = true) (hle : vs.length ≤ M.2.2.1) (ρ : Nat → Nat) (sz : Nat) :
    Met l M.1 (.code M.1 M.2.1 M.2.2.1 M.2.2.2 :: gTbl) { frames := d, cells := mc, slots := ms, locals := 64 * d } (va_Pc (vs.map (cv X.1 ρ)) (PC X ρ vs Z g sz)) (QC X ρ Z g sz Q) mc ms (va_A (wd X ρ Z g) sz) := by
  refine met_ofW (cc := M.2.1) (maxL := M.2.2.1) (ret := M.2.2.2) hpn rfl ?_
  intro p e s m args below meth c s₁ B hml hv
  obtain ⟨rfl, hNW, hK, hP, hD0, hz, hs, hsz⟩ := hv
  have hts := atoms_spec (ws := .code M.1 M.2.1 M.2.2.1 M.2.2.2 :: gTbl) B.pre
  have hcc := cat1_of hc X.1 ρ
  have hll := lg_sl_len vs hcc
  have hl := lv_entry (vs.map (cv X.1 ρ)) (n := M.2.2.1) (by rw [hll]; exact hle)
  rw [lg_entry_eq]
  subst hsz
  refine he p l e _ s m _ below meth c _ (va_A (wd X ρ Z g) s.heap.size) ρ Z.length ⟨B.exec, B.bytes, hml, findClass_of_methodNamed B.named, fun w hw => hts w (List.mem_cons_of_mem _ hw), hNW, hK, B.returns, B.notSynchronized, (name_of_methodNamed B.named B.method).1, ⟨Nat.le_refl _, Nat.le_refl _, Nat.le_refl _, Nat.le_refl _⟩, fun q h => Or.inr h, fun h => absurd h hlaw, ?_⟩ s.heap [] ρ _ ⟨hP, hD0.self, va_S.rf, hz, ?_, fun v hv => (by cases hv), lv_mono hl ?_, ?_, ⟨Nat.le_refl _, fun _ _ => rfl⟩⟩
  · intro r Z' g' ρ' H' locs' k' n' pc' arr' hq hE hk hn ha
    obtain ⟨e1, e2, e3, e4, e5, e6⟩ := hE
    exact ret_W B.exec B.bytes B.returns B.notSynchronized hk hn ha (fun t ht hW => ⟨⟨r, Z', g', ρ', rfl, hq, by rw [ht]; exact e1, e2, e4, e5, e6⟩, e3.F ht⟩) e3.2.2
  · intro v hv
    rcases List.mem_append.mp hv with h | h
    · obtain ⟨w, hw, e⟩ := List.mem_map.mp h
      cases e
      exact hs v hw
    · rw [List.mem_replicate] at h
      cases h.2
  · intro q hq
    obtain ⟨v, h1, h2⟩ := mem_lcv.mp hq
    have := lv_args_in vs 0 hcc q.1 v (ent_ls h1)
    rw [Nat.zero_add] at this
    obtain ⟨a, b⟩ := q
    cases h2
    exact this
  · rw [List.length_append, List.length_map, List.length_replicate]
    omega
theorem cv_agr {b n n' : Nat} {ρ ρ' : Nat → Nat} (h : Agr ρ n ρ' n') {v : VV} (hv : wfv n v) : cv b ρ' v = cv b ρ v := by
  rcases v with x | x | _ | _ | x
  · rfl
  · rfl
  · rfl
  · rfl
  · show Value.ref (ρ' x) = Value.ref (ρ x)
    rw [h.2 x (Or.inl hv)]
theorem map_agr {b n n' : Nat} {ρ ρ' : Nat → Nat} (h : Agr ρ n ρ' n') {st : List VV} (hs : wfs n st) : st.map (cv b ρ') = st.map (cv b ρ) := List.map_congr_left fun v hv => cv_agr h (hs v hv)
theorem wfv_le {n n' : Nat} (h : n ≤ n') {v : VV} (hv : wfv n v) : wfv n' v := by
  rcases v with x | x | _ | _ | x
  · trivial
  · trivial
  · trivial
  · trivial
  · exact Nat.lt_of_lt_of_le hv h
theorem wd_A {X : CX} {ρ : Nat → Nat} {Z : List Sh} {g : Mem} {A : Nat → Prop} {H0 H : Heap} {locs : List Loc} (hD : va_D A (wd X ρ Z g)) (hS : va_S A H0 H locs) (hA : ∀ q : Nat, H0.size ≤ q → A q) : ∀ q, va_A (wd X ρ Z g) H.size q → A q := by
  intro q h
  rcases h with ⟨k, e, h⟩ | h
  · exact hD.2 k (q, e) h
  · exact hA q (Nat.le_trans hS.1 h)
section CallEnd
variable {X : CX} {d : Nat} {M : MI} {mc ms : Nat} {Q : Option VV → List Sh → Mem → Prop} {k n pc pc' mc' ms' : Nat} {ls : List (Option VV)} {st sta : List VV} {Z : List Sh} {g : Mem}
variable {p : Program} {l : Launch} {e : Env} {R : Room} {s : State} {m : MethodId} {args : Array Value} {below : List Frame} {meth : Method} {c : Code} {Qw : State → Prop} {A : Nat → Prop} {ρ0 : Nat → Nat} {n0 : Nat} {H : Heap} {locs : List Loc} {ρ : Nat → Nat} {arr : Array Slot} {st0 : List Value} {a : Array Value}
theorem call_end (S : RS X d M mc ms Q p l e R s m args below meth c Qw A ρ0 n0) (D : RD X s A ρ0 n0 M.2.2.1 H locs ρ arr ls sta Z g) (hst : wfs Z.length st) (hp : pc + 3 = pc')
    (hr : va_Run p l e R s m args below meth c H locs k n mc' ms' (F0 m pc arr st0) (st.map (cv X.1 ρ)) (QC X ρ Z g H.size (fun r Z' g' => AJ X d M mc ms Q (k + mc') (n + ms') pc' ls (r.toList ++ st) Z' g') a) (va_A (wd X ρ Z g) H.size)) : W p l e R s m args below meth c H locs k n Qw (F0 m pc arr st0) := by
  subst hp
  have hFA := wd_A D.D D.S S.hA
  intro T hT XX
  obtain ⟨v, st₀, t, T', L, h0, X', hL, e1, e2, ⟨⟨r, Z', g', ρ', hv, hq, hP, hD, hz, hs, hag⟩, hF⟩, stp⟩ := hr T hT XX
  obtain ⟨hz1, hk1⟩ := hF
  rw [h0] at hz1 hk1
  have hv' : v = r.map (cv X.1 ρ') := by injection hv
  subst hv'
  have hle : Z.length ≤ Z'.length := hag.1
  have elc : lcv X.1 ρ' ls = lcv X.1 ρ ls := by
    unfold lcv
    congr 1
    funext q
    cases hx : ls.getD q none with
    | none => rfl
    | some v =>
      have : some v ∈ ls := by
        rw [List.getD_eq_getElem?_getD] at hx
        cases h2 : ls[q]? with
        | none => rw [h2] at hx; cases hx
        | some w => rw [h2] at hx; cases hx; exact List.mem_of_getElem? h2
      show some (q, cv X.1 ρ' v) = some (q, cv X.1 ρ v)
      rw [cv_agr hag (D.o v this)]
  obtain ⟨t2, a1, b1⟩ := hq p l e R s m args below meth c Qw A ρ0 n0 S T'.heap (locs ++ L) ρ' arr ⟨by rw [e1]; exact hP, hD.weaken (fun _ q _ h => hFA q.1 h),
    ⟨Nat.le_trans D.S.1 (by rw [e1]; exact hz1), fun q h1 h2 => by rw [e1, hk1 q (Nat.lt_of_lt_of_le h1 D.S.1) (fun z => h2 (hFA q z))]; exact D.S.2.1 q h1 h2, fun q hq => by
      rcases List.mem_append.mp hq with h | h
      · exact D.S.2.2 q h
      · exact hFA _ (hL q h)⟩, hz, fun v hv => wfv_le hle (D.o v hv), fun v hv => by
      rcases List.mem_append.mp hv with h | h
      · exact hs v h
      · exact wfv_le hle (hst v h), by rw [elc]; exact D.l, D.n, ⟨Nat.le_trans D.ag.1 hle, fun j hj => by
      rcases hj with h | h
      · rw [hag.2 j (Or.inl (Nat.lt_of_lt_of_le h D.ag.1)), D.ag.2 j (Or.inl h)]
      · rw [hag.2 j (Or.inr h), D.ag.2 j (Or.inr (Nat.le_trans hle h))]⟩⟩ T' rfl X'
  refine ⟨t2, stp t2 ?_, b1⟩
  rw [List.map_append, map_agr hag hst] at a1
  have er : (r.map (cv X.1 ρ')).toList = r.toList.map (cv X.1 ρ') := by cases r <;> rfl
  show Steps p.tables e below (T'.setTop { method := m, pc := pc + 3, locals := arr, stack := (r.map (cv X.1 ρ')).toList ++ st.map (cv X.1 ρ), locked := none }) t2
  rw [er]
  exact a1
end CallEnd
/-- what the tables say of a method: its code, that it can be called; n: its parameters -/
def mB (M : MI) (n : Nat) : Prop := Cond.code M.1 M.2.1 M.2.2.1 M.2.2.2 ∈ gTbl ∧ Cond.initialized M.1.cls ∈ gTbl ∧ M.1.cls ≠ "java/lang/invoke/MethodHandle" ∧ M.1.cls ≠ "java/lang/invoke/VarHandle" ∧ (parseMethodDescriptor M.1.desc).map (fun d => d.parameters.length) = some n ∧ M.2.2.1 ≤ 40 ∧ M.1.name ≠ "law" ∧ plainFor M.1 = true
def mV (M : MI) (n : Nat) : Prop := mB M n ∧ Cond.instanceMethod M.1 ∈ gTbl ∧ Cond.selects M.1.cls M.1 M.1 ∈ gTbl
def mS (M : MI) (n : Nat) : Prop := mB M n ∧ Cond.static M.1 ∈ gTbl
def mI (M : MI) (n : Nat) : Prop := mB M n ∧ Cond.instanceMethod M.1 ∈ gTbl ∧ M.1.name = "<init>"
theorem g_good : GoodIn gTbl gTbl := fun w hw => ⟨hw, good_of_word (List.mem_filter.mp hw).2⟩
theorem g_goodM {M : MI} (h : Cond.code M.1 M.2.1 M.2.2.1 M.2.2.2 ∈ gTbl) : GoodIn gTbl (.code M.1 M.2.1 M.2.2.1 M.2.2.2 :: gTbl) := fun w hw => by
  rcases List.mem_cons.mp hw with rfl | hw
  · exact g_good _ h
  · exact g_good _ hw
theorem NW.warm {s U : State} (hW : s.WarmedH U.vm) (h : NW s) : NW U := ⟨fun q hq => va_Nw.warmM hW (h.1 q hq), va_AO.moved hW.alike h.2.1, va_AO.moved hW.alike h.2.2⟩
theorem NW.same {U V : State} (h : U.vm = V.vm) (hn : NW U) : NW V := ⟨fun q hq => va_Nw.same rfl h (hn.1 q hq), va_AO.moved (by rw [h]; exact Vm.Alike.refl _) hn.2.1, va_AO.moved (by rw [h]; exact Vm.Alike.refl _) hn.2.2⟩
theorem PC_blind {X : CX} {ρ : Nat → Nat} {vs : List VV} {Z : List Sh} {g : Mem} {sz : Nat} {av : List Value} : FrameBlind (va_Pc av (PC X ρ vs Z g sz)) := by
  intro a U gf mk q
  obtain ⟨q0, q1, qK, qP, qD, qz, qs, qsz⟩ := q
  exact ⟨q0, q1.same rfl, va_K.moved (u := U) (U := U.calling gf mk a) (Vm.Alike.refl U.vm) qK, qP, qD, qz, qs, qsz⟩
theorem PC_at {X : CX} {s : State} {A : Nat → Prop} {ρ0 : Nat → Nat} {n0 nL : Nat} {H : Heap} {locs : List Loc} {ρ : Nat → Nat} {arr : Array Slot} {ls : List (Option VV)} {sta vs : List VV} {Z : List Sh} {g : Mem} (hn : NW s) (hK : va_K X.2.2.2.1 vwCl (tysX X) s) (D : RD X s A ρ0 n0 nL H locs ρ arr ls sta Z g) (hvs : wfs Z.length vs) (U : State) (hU : U.heap = H) (hW : s.WarmedH U.vm) : PC X ρ vs Z g H.size U :=
  ⟨hn.warm hW, va_K.moved hW.alike hK, by rw [hU]; exact D.P, D.D.weaken (fun _ _ _ _ => trivial), D.z, hvs, by rw [hU]⟩
theorem cat_le {b : Nat} {ρ : Nat → Nat} {st : List VV} (h : Nat.ble (st.map (fun v => match v with | .inr (.inl _) => 2 | _ => 1)).sum 8 = true) : ((st.map (cv b ρ)).map fun v => v.category).sum ≤ 8 := by
  have e : (st.map (cv b ρ)).map (fun v => v.category) = st.map (fun v => match v with | .inr (.inl _) => 2 | _ => 1) := by
    rw [List.map_map]
    refine List.map_congr_left fun v _ => ?_
    rcases v with x | x | _ | _ | x <;> rfl
  rw [e]
  exact Nat.le_of_ble_eq_true h
section CallRules
variable {X : CX} {d : Nat} {M M' : MI} {mc ms mc' ms' : Nat} {Q : Option VV → List Sh → Mem → Prop} {k n pc pc' : Nat} {ls : List (Option VV)} {st vs : List VV} {Z : List Sh} {g : Mem}
/-- a call on an object: the arguments vs behind the receiver i, the last on top -/
theorem r_cV {idx i c0 : Nat} {fs : List (Option (Option Nat))} (hd : decode M.2.1 pc = .ok (.invokevirtual idx, 3)) (hp : pc + 3 = pc') (hm : mV M' vs.length) (hl : Cond.methodLink M.1.cls idx M'.1 ∈ gTbl) (hz : Z[i]? = some (.inr (.inr (c0, fs)))) (hcn : (vwCl[c0]?).map (fun q => q.1) = some M'.1.cls) (hc : cat1 vs = true) (hle : vs.length < M'.2.2.1) (hw : Nat.ble (st.map (fun v => match v with | .inr (.inl _) => 2 | _ => 1)).sum 8 = true) (hk : k + mc' ≤ mc) (hn : n + ms' ≤ ms) {sta : List VV} (hs : sta = vs.reverse ++ vr i :: st)
    (he : Ent X d M' mc' ms' (vr i :: vs) Z g (fun r Z' g' => AJ X (d + 1) M mc ms Q (k + mc') (n + ms') pc' ls (r.toList ++ st) Z' g')) : AJ X (d + 1) M mc ms Q k n pc ls sta Z g := by
  intro p l e R s m args below meth c Qw A ρ0 n0 S H locs ρ arr D
  subst hs
  obtain ⟨⟨q1, q2, q3, q4, q5, q6, q7, q8⟩, q9, q10⟩ := hm
  obtain ⟨r1, r2, r3, r4⟩ := S.rm
  have wst : wfs Z.length st := fun v hv => D.sk v (List.mem_append_right _ (List.mem_cons_of_mem _ hv))
  have wvs : wfs Z.length (vr i :: vs) := fun v hv => by
    rcases List.mem_cons.mp hv with rfl | hv
    · exact D.sk _ (List.mem_append_right _ List.mem_cons_self)
    · exact D.sk v (List.mem_append_left _ (List.mem_reverse.mpr hv))
  obtain ⟨q, hq, hqn⟩ := Option.map_eq_some_iff.mp hcn
  have hrec := va_recv S.K D.P hq (wd_get hz)
  rw [hqn] at hrec
  have hM := met_of l he q8 q7 (by simpa [cat1] using hc) (by simp; omega) ρ H.size
  refine call_end (mc' := mc') (ms' := ms') S D wst hp (va_runV (As := vs.map (cv X.1 ρ)) (rest := st.map (cv X.1 ρ)) ⟨S.ex, S.co, S.ml, S.ow, S.ts⟩ hM (C := M'.1.cls) ⟨callB_of (bytes := M'.2.1) (maxL := M'.2.2.1) (ret := M'.2.2.2) vs.length S.ts (g_goodM q1) rfl rfl rfl (S.ts _ q2) (S.ts _ hl) ⟨q3, q4, q5⟩ ⟨by show d + 1 ≤ _; omega, by show 8 + (M'.2.2.1 + 11) + 64 * d ≤ _; omega⟩, S.ts _ q9, S.ts _ q10⟩ ⟨PC_blind, hrec, fun U hU hW => ⟨rfl, PC_at S.nw S.K D wvs U hU hW⟩⟩ rfl (by rw [List.length_map]) (by rw [← S.ml]; exact D.l.1.trans S.ml.symm) ?_ (lv_room (cat_le hw)) hd ⟨by omega, by omega⟩)
  show List.map (cv X.1 ρ) (vs.reverse ++ vr i :: st) = _
  rw [List.map_append, List.map_reverse]
  rfl
/-- a static call, of the class itself or of another -/
theorem r_cS {idx : Nat} (hd : decode M.2.1 pc = .ok (.invokestatic idx, 3)) (hp : pc + 3 = pc') (hm : mS M' vs.length) (hl : Cond.methodLink M.1.cls idx M'.1 ∈ gTbl) (hc : cat1 vs = true) (hle : vs.length ≤ M'.2.2.1) (hw : Nat.ble (st.map (fun v => match v with | .inr (.inl _) => 2 | _ => 1)).sum 8 = true) (hk : k + mc' ≤ mc) (hn : n + ms' ≤ ms) {sta : List VV} (hs : sta = vs.reverse ++ st)
    (he : Ent X d M' mc' ms' vs Z g (fun r Z' g' => AJ X (d + 1) M mc ms Q (k + mc') (n + ms') pc' ls (r.toList ++ st) Z' g')) : AJ X (d + 1) M mc ms Q k n pc ls sta Z g := by
  intro p l e R s m args below meth c Qw A ρ0 n0 S H locs ρ arr D
  subst hs
  obtain ⟨⟨q1, q2, q3, q4, q5, q6, q7, q8⟩, q9⟩ := hm
  obtain ⟨r1, r2, r3, r4⟩ := S.rm
  have wst : wfs Z.length st := fun v hv => D.sk v (List.mem_append_right _ hv)
  have wvs : wfs Z.length vs := fun v hv => D.sk v (List.mem_append_left _ (List.mem_reverse.mpr hv))
  have hM := met_of l he q8 q7 hc hle ρ H.size
  refine call_end (mc' := mc') (ms' := ms') S D wst hp (va_runS (As := vs.map (cv X.1 ρ)) (rest := st.map (cv X.1 ρ)) ⟨S.ex, S.co, S.ml, S.ow, S.ts⟩ hM ⟨callB_of (bytes := M'.2.1) (maxL := M'.2.2.1) (ret := M'.2.2.2) vs.length S.ts (g_goodM q1) rfl rfl rfl (S.ts _ q2) (S.ts _ hl) ⟨q3, q4, q5⟩ ⟨by show d + 1 ≤ _; omega, by show 8 + (M'.2.2.1 + 11) + 64 * d ≤ _; omega⟩, S.ts _ q9⟩ ⟨PC_blind, fun U hU hW => ⟨rfl, PC_at S.nw S.K D wvs U hU hW⟩⟩ rfl (by rw [List.length_map]) (by rw [← S.ml]; exact D.l.1.trans S.ml.symm) ?_ (lv_room (cat_le hw)) hd ⟨by omega, by omega⟩)
  show List.map (cv X.1 ρ) (vs.reverse ++ st) = _
  rw [List.map_append, List.map_reverse]
/-- a static call of a nest mate's private method -/
theorem r_cSN {idx : Nat} {host : String} (hd : decode M.2.1 pc = .ok (.invokestatic idx, 3)) (hp : pc + 3 = pc') (hm : mS M' vs.length) (hl : (M.1.cls, idx, M'.1, host) ∈ nTbl) (hc : cat1 vs = true) (hle : vs.length ≤ M'.2.2.1) (hw : Nat.ble (st.map (fun v => match v with | .inr (.inl _) => 2 | _ => 1)).sum 8 = true) (hk : k + mc' ≤ mc) (hn : n + ms' ≤ ms) {sta : List VV} (hs : sta = vs.reverse ++ st)
    (he : Ent X d M' mc' ms' vs Z g (fun r Z' g' => AJ X (d + 1) M mc ms Q (k + mc') (n + ms') pc' ls (r.toList ++ st) Z' g')) : AJ X (d + 1) M mc ms Q k n pc ls sta Z g := by
  intro p l e R s m args below meth c Qw A ρ0 n0 S H locs ρ arr D
  subst hs
  obtain ⟨⟨q1, q2, q3, q4, q5, q6, q7, q8⟩, q9⟩ := hm
  obtain ⟨r1, r2, r3, r4⟩ := S.rm
  have wst : wfs Z.length st := fun v hv => D.sk v (List.mem_append_right _ hv)
  have wvs : wfs Z.length vs := fun v hv => D.sk v (List.mem_append_left _ (List.mem_reverse.mpr hv))
  have hM := met_of l he q8 q7 hc hle ρ H.size
  refine call_end (mc' := mc') (ms' := ms') S D wst hp (va_runSN (As := vs.map (cv X.1 ρ)) (rest := st.map (cv X.1 ρ)) ⟨S.ex, S.co, S.ml, S.ow, S.ts⟩ hM ⟨va_cnB (bytes := M'.2.1) (maxL := M'.2.2.1) (ret := M'.2.2.2) vs.length S.ts (g_goodM q1) rfl rfl rfl (S.nw.1 _ hl) (S.ts _ q2) ⟨q3, q4, q5⟩ ⟨by show d + 1 ≤ _; omega, by show 8 + (M'.2.2.1 + 11) + 64 * d ≤ _; omega⟩, S.ts _ q9, trivial⟩ ⟨PC_blind, fun U hU hW => ⟨rfl, PC_at S.nw S.K D wvs U hU hW⟩⟩ rfl (by rw [List.length_map]) (by rw [← S.ml]; exact D.l.1.trans S.ml.symm) ?_ (lv_room (cat_le hw)) hd ⟨by omega, by omega⟩)
  show List.map (cv X.1 ρ) (vs.reverse ++ st) = _
  rw [List.map_append, List.map_reverse]
/-- a constructor, of a nest mate -/
theorem r_cIN {idx i : Nat} {host : String} (hd : decode M.2.1 pc = .ok (.invokespecial idx, 3)) (hp : pc + 3 = pc') (hm : mI M' 0) (hl : (M.1.cls, idx, M'.1, host) ∈ nTbl) (hle : 0 < M'.2.2.1) (hr : M'.2.2.2 = none) (hw : Nat.ble (st.map (fun v => match v with | .inr (.inl _) => 2 | _ => 1)).sum 8 = true) (hk : k + mc' ≤ mc) (hn : n + ms' ≤ ms)
    (he : Ent X d M' mc' ms' [vr i] Z g (fun r Z' g' => AJ X (d + 1) M mc ms Q (k + mc') (n + ms') pc' ls (r.toList ++ st) Z' g')) : AJ X (d + 1) M mc ms Q k n pc ls (vr i :: st) Z g := by
  intro p l e R s m args below meth c Qw A ρ0 n0 S H locs ρ arr D
  obtain ⟨y, cc, mL, rt⟩ := M'
  have hr' : rt = none := hr
  subst hr'
  obtain ⟨⟨q1, q2, q3, q4, q5, q6, q7, q8⟩, q9, q10⟩ := hm
  dsimp only at q1 q2 q3 q4 q5 q6 q7 q8 q9 q10 hl hle he
  obtain ⟨r1, r2, r3, r4⟩ := S.rm
  have wst : wfs Z.length st := wfs_t D.sk
  have wvs : wfs Z.length [vr i] := fun v hv => by rw [List.mem_singleton.mp hv]; exact wfs_h D.sk
  have hM := met_of l he q8 q7 rfl hle ρ H.size
  exact call_end (mc' := mc') (ms' := ms') S D wst hp (va_runIN (As := []) (rest := st.map (cv X.1 ρ)) ⟨S.ex, S.co, S.ml, S.ow, S.ts⟩ hM ⟨va_cnB (bytes := cc) (maxL := mL) (ret := none) 0 S.ts (g_goodM (M := (y, cc, mL, none)) q1) rfl rfl rfl (S.nw.1 _ hl) (S.ts _ q2) ⟨q3, q4, q5⟩ ⟨by show d + 1 ≤ _; omega, by show 8 + (mL + 11) + 64 * d ≤ _; omega⟩, q10, S.ts _ q9⟩ ⟨PC_blind, fun U hU hW => ⟨rfl, PC_at S.nw S.K D wvs U hU hW⟩⟩ rfl rfl (by rw [← S.ml]; exact D.l.1.trans S.ml.symm) rfl (lv_room (cat_le hw)) hd ⟨by omega, by omega⟩)
/-- a constructor, by an ordinary link -/
theorem r_cI {idx i : Nat} (hd : decode M.2.1 pc = .ok (.invokespecial idx, 3)) (hp : pc + 3 = pc') (hm : mI M' 0) (hl : Cond.methodLink M.1.cls idx M'.1 ∈ gTbl) (hle : 0 < M'.2.2.1) (hr : M'.2.2.2 = none) (hw : Nat.ble (st.map (fun v => match v with | .inr (.inl _) => 2 | _ => 1)).sum 8 = true) (hk : k + mc' ≤ mc) (hn : n + ms' ≤ ms)
    (he : Ent X d M' mc' ms' [vr i] Z g (fun r Z' g' => AJ X (d + 1) M mc ms Q (k + mc') (n + ms') pc' ls (r.toList ++ st) Z' g')) : AJ X (d + 1) M mc ms Q k n pc ls (vr i :: st) Z g := by
  intro p l e R s m args below meth c Qw A ρ0 n0 S H locs ρ arr D
  obtain ⟨y, cc, mL, rt⟩ := M'
  have hr' : rt = none := hr
  subst hr'
  obtain ⟨⟨q1, q2, q3, q4, q5, q6, q7, q8⟩, q9, q10⟩ := hm
  dsimp only at q1 q2 q3 q4 q5 q6 q7 q8 q9 q10 hl hle he
  obtain ⟨r1, r2, r3, r4⟩ := S.rm
  have wst : wfs Z.length st := wfs_t D.sk
  have wvs : wfs Z.length [vr i] := fun v hv => by rw [List.mem_singleton.mp hv]; exact wfs_h D.sk
  have hM := met_of l he q8 q7 rfl hle ρ H.size
  exact call_end (mc' := mc') (ms' := ms') S D wst hp (va_runI (As := []) (rest := st.map (cv X.1 ρ)) ⟨S.ex, S.co, S.ml, S.ow, S.ts⟩ hM ⟨callB_of (bytes := cc) (maxL := mL) (ret := none) 0 S.ts (g_goodM (M := (y, cc, mL, none)) q1) rfl rfl rfl (S.ts _ q2) (S.ts _ hl) ⟨q3, q4, q5⟩ ⟨by show d + 1 ≤ _; omega, by show 8 + (mL + 11) + 64 * d ≤ _; omega⟩, q10, S.ts _ q9⟩ ⟨PC_blind, fun U hU hW => ⟨rfl, PC_at S.nw S.K D wvs U hU hW⟩⟩ rfl rfl (by rw [← S.ml]; exact D.l.1.trans S.ml.symm) rfl (lv_room (cat_le hw)) hd ⟨by omega, by omega⟩)
end CallRules
