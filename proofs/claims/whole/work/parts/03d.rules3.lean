/-- a class's tables, and a field of it as a site names it -/
def cF (c : Nat) (C : String) (T : u_T) (N : Nat) (ty : Nat → FieldType) : Prop := vwCl[c]? = some (C, T, N) ∧ (∀ w ∈ u_ws C T N, w ∈ gTbl) ∧ (∀ k, k < N → parseFieldDescriptor (T k).2.2.1 = some (ty k)) ∧ (∀ a, a < N → ∀ b, b < N → a ≠ b → (T a).2.1 ≠ (T b).2.1) ∧ ∀ k, k < N → (T k).1 = C
def fS (own : String) (idx c k : Nat) (ty : FieldType) (fin : Bool) : Prop := ∃ (C : String) (T : u_T) (N : Nat) (tyf : Nat → FieldType), cF c C T N tyf ∧ k < N ∧ Cond.fieldLink own idx C (T k).2.1 (T k).2.2.1 ∈ gTbl ∧ tyf k = ty ∧ (T k).2.2.2 = fin
theorem ent_get {cA : Nat → ClassId} {ρ : Nat → Nat} {row : Int → Int} {k : Nat} {fs : List (Option (Option Nat))} {f : Option (Option Nat)} (hf : fs[k]? = some f) : (fs.mapIdx (fun k f => fvl ρ (row k) f))[k]? = some (fvl ρ (row k) f) := by
  rw [List.getElem?_mapIdx, hf]
  rfl
theorem fits_iz {ty : FieldType} {v : Int} (h : ty = .int ∨ (ty = .boolean ∧ (v = 0 ∨ v = 1))) : narrow ty (.int (Int32.ofInt v)) = .int (Int32.ofInt v) ∧ fits ty (.int (Int32.ofInt v)) = true := by
  rcases h with rfl | ⟨rfl, rfl | rfl⟩
  · exact ⟨rfl, rfl⟩
  · exact ⟨rfl, rfl⟩
  · exact ⟨rfl, rfl⟩
theorem wfz_get {Z : List Sh} {i c : Nat} {fs : List (Option (Option Nat))} {j k : Nat} (hz : wfz Z) (h : Z[i]? = some (.inr (.inr (c, fs)))) (hf : fs[k]? = some (some (some j))) : j < Z.length := hz _ (List.mem_of_getElem? h) j (List.mem_of_getElem? hf)
theorem wfz_getq {Z : List Sh} {i t : Nat} {rs : List (Option Nat)} {j k : Nat} (hz : wfz Z) (h : Z[i]? = some (.inr (.inl (t, rs)))) (hf : rs[k]? = some (some j)) : j < Z.length := hz _ (List.mem_of_getElem? h) j (List.mem_of_getElem? hf)
section Rules
variable {X : CX} {d : Nat} {M : MI} {mc ms : Nat} {Q : Option VV → List Sh → Mem → Prop} {k n pc pc' : Nat} {ls : List (Option VV)} {st : List VV} {Z : List Sh} {g g' : Mem}
theorem r_getf {idx c0 kf i : Nat} {ty : FieldType} {fin : Bool} {fs : List (Option (Option Nat))} {x kI : Int} (hd : decode M.2.1 pc = .ok (.getfield idx, 3)) (hp : pc + 3 = pc') (hs : fS M.1.cls idx c0 kf ty fin) (hz : Z[i]? = some (.inr (.inr (c0, fs)))) (hf : fs[kf]? = some none) (hI : (kf : Int) = kI) (hv : g i kI = x) (kk : AJ X d M mc ms Q k n pc' ls (vi x :: st) Z g) : AJ X d M mc ms Q k n pc ls (vr i :: st) Z g := by
  intro p l e R s m args below meth c Qw A ρ0 n0 S H locs ρ arr D
  subst hp
  subst hI
  subst hv
  obtain ⟨C, T, N, tyf, ⟨h1, h2, h3, h4, h5⟩, h6, h7, h8, h9⟩ := hs
  have h := kk p l e R s m args below meth c Qw A ρ0 n0 S H locs ρ arr (D.stk (wfs_c trivial (wfs_t D.sk)))
  exact va_get S.ex S.co S.ts h2 S.ow S.K D.P i (wd_get hz) h1 kf h6 (S.ts _ h7) (fun x hx => by rw [h5 kf h6] at hx; exact hx) (ent_get (cA := X.2.2.2.2) hf) hd h
theorem r_getr {idx c0 kf i j : Nat} {ty : FieldType} {fin : Bool} {fs : List (Option (Option Nat))} (hd : decode M.2.1 pc = .ok (.getfield idx, 3)) (hp : pc + 3 = pc') (hs : fS M.1.cls idx c0 kf ty fin) (hz : Z[i]? = some (.inr (.inr (c0, fs)))) (hf : fs[kf]? = some (some (some j))) (kk : AJ X d M mc ms Q k n pc' ls (vr j :: st) Z g) : AJ X d M mc ms Q k n pc ls (vr i :: st) Z g := by
  intro p l e R s m args below meth c Qw A ρ0 n0 S H locs ρ arr D
  subst hp
  obtain ⟨C, T, N, tyf, ⟨h1, h2, h3, h4, h5⟩, h6, h7, h8, h9⟩ := hs
  have h := kk p l e R s m args below meth c Qw A ρ0 n0 S H locs ρ arr (D.stk (wfs_c (show j < Z.length from wfz_get D.z hz hf) (wfs_t D.sk)))
  exact va_get S.ex S.co S.ts h2 S.ow S.K D.P i (wd_get hz) h1 kf h6 (S.ts _ h7) (fun x hx => by rw [h5 kf h6] at hx; exact hx) (ent_get (cA := X.2.2.2.2) hf) hd h
theorem r_putf {idx c0 kf i : Nat} {ty : FieldType} {fs : List (Option (Option Nat))} {v kI : Int} (hd : decode M.2.1 pc = .ok (.putfield idx, 3)) (hp : pc + 3 = pc') (hs : fS M.1.cls idx c0 kf ty false) (hz : Z[i]? = some (.inr (.inr (c0, fs)))) (hf : fs[kf]? = some none) (ht : ty = .int ∨ (ty = .boolean ∧ (v = 0 ∨ v = 1))) (hI : (kf : Int) = kI) (hg : mu g i kI v = g') (kk : AJ X d M mc ms Q k n pc' ls st Z g') : AJ X d M mc ms Q k n pc ls (vi v :: vr i :: st) Z g := by
  intro p l e R s m args below meth c Qw A ρ0 n0 S H locs ρ arr D
  subst hp
  subst hI
  subst hg
  obtain ⟨C, T, N, tyf, ⟨h1, h2, h3, h4, h5⟩, h6, h7, rfl, h9⟩ := hs
  obtain ⟨hn, hfit⟩ := fits_iz ht
  have ew : (wd X ρ Z g).set i (ρ i, .inr (c0, (fs.mapIdx (fun k f => fvl ρ (g i k) f)).set kf (cv X.1 ρ (vi v)))) = wd X ρ Z (mu g i kf v) := wd_set hz (fun j hj => mu_off hj) (by rw [mu_row]; exact ent_put hf)
  refine va_put S.ex S.co S.ts h2 tyf h3 h4 S.ow S.K D.P D.D D.S i (wd_get hz) h1 kf h6 (S.ts _ h7) (fun x hx => by rw [h5 kf h6] at hx; exact hx) h9 (h3 kf h6) hn hfit (by rw [List.length_mapIdx]; exact (List.getElem?_eq_some_iff.mp hf).1) hd (fun H1 locs1 hP hD hS => ?_)
  rw [ew] at hP hD
  exact kk p l e R s m args below meth c Qw A ρ0 n0 S H1 locs1 ρ arr (D.mem (wfs_t (wfs_t D.sk)) hP hD hS)
theorem tys0 (X : CX) : (tysX X)[0]? = some (X.2.2.2.2 0, .int) := rfl
theorem tys1 (X : CX) : (tysX X)[1]? = some (X.2.2.2.2 1, .boolean) := rfl
theorem tys2 (X : CX) : (tysX X)[2]? = some (X.2.2.2.2 2, .long) := rfl
theorem r_iaload {i len : Nat} {j x : Int} (hd : decode M.2.1 pc = .ok (.iaload, 1)) (hp : pc + 1 = pc') (hz : Z[i]? = some (.inl (0, len))) (hl : len < 2147483648) (h0 : 0 ≤ j) (h1 : j < len) (hv : g i j = x) (kk : AJ X d M mc ms Q k n pc' ls (vi x :: st) Z g) : AJ X d M mc ms Q k n pc ls (vi j :: vr i :: st) Z g := by
  intro p l e R s m args below meth c Qw A ρ0 n0 S H locs ρ arr D
  subst hp
  subst hv
  obtain ⟨q1, q2⟩ := i32_in h0 h1 hl
  have h := kk p l e R s m args below meth c Qw A ρ0 n0 S H locs ρ arr (D.stk (wfs_c trivial (wfs_t (wfs_t D.sk))))
  refine va_iald S.ex S.co S.K D.P i 0 (wd_get hz) (tys0 X) q1 hd ?_
  rw [q2, show ((j.toNat : Nat) : Int) = j by omega]
  exact h
theorem r_baload {i len : Nat} {j x : Int} (hd : decode M.2.1 pc = .ok (.baload, 1)) (hp : pc + 1 = pc') (hz : Z[i]? = some (.inl (1, len))) (hl : len < 2147483648) (h0 : 0 ≤ j) (h1 : j < len) (hv : g i j = x) (kk : AJ X d M mc ms Q k n pc' ls (vi x :: st) Z g) : AJ X d M mc ms Q k n pc ls (vi j :: vr i :: st) Z g := by
  intro p l e R s m args below meth c Qw A ρ0 n0 S H locs ρ arr D
  subst hp
  subst hv
  obtain ⟨q1, q2⟩ := i32_in h0 h1 hl
  have h := kk p l e R s m args below meth c Qw A ρ0 n0 S H locs ρ arr (D.stk (wfs_c trivial (wfs_t (wfs_t D.sk))))
  refine va_zald S.ex S.co S.K D.P i 1 (wd_get hz) (tys1 X) q1 hd ?_
  rw [q2, show ((j.toNat : Nat) : Int) = j by omega]
  exact h
theorem r_laload {i len : Nat} {j x : Int} (hd : decode M.2.1 pc = .ok (.laload, 1)) (hp : pc + 1 = pc') (hz : Z[i]? = some (.inl (2, len))) (hl : len < 2147483648) (h0 : 0 ≤ j) (h1 : j < len) (hv : g i j = x) (kk : AJ X d M mc ms Q k n pc' ls (vl x :: st) Z g) : AJ X d M mc ms Q k n pc ls (vi j :: vr i :: st) Z g := by
  intro p l e R s m args below meth c Qw A ρ0 n0 S H locs ρ arr D
  subst hp
  subst hv
  obtain ⟨q1, q2⟩ := i32_in h0 h1 hl
  have h := kk p l e R s m args below meth c Qw A ρ0 n0 S H locs ρ arr (D.stk (wfs_c trivial (wfs_t (wfs_t D.sk))))
  refine va_lald S.ex S.co S.K D.P i 2 (wd_get hz) (tys2 X) q1 hd ?_
  rw [q2, show ((j.toNat : Nat) : Int) = j by omega]
  exact h
theorem r_aaload {i t r : Nat} {C : String} {j : Int} {rs : List (Option Nat)} (hd : decode M.2.1 pc = .ok (.aaload, 1)) (hp : pc + 1 = pc') (hz : Z[i]? = some (.inr (.inl (t, rs)))) (ht : ∀ X : CX, (tysX X)[t]? = some (X.2.2.2.2 t, .object C)) (hl : rs.length < 2147483648) (h0 : 0 ≤ j) (hr : rs[j.toNat]? = some (some r)) (kk : AJ X d M mc ms Q k n pc' ls (vr r :: st) Z g) : AJ X d M mc ms Q k n pc ls (vi j :: vr i :: st) Z g := by
  intro p l e R s m args below meth c Qw A ρ0 n0 S H locs ρ arr D
  subst hp
  have h1 := (List.getElem?_eq_some_iff.mp hr).1
  obtain ⟨q1, q2⟩ := i32_in h0 (show j < (rs.length : Int) by omega) hl
  have h := kk p l e R s m args below meth c Qw A ρ0 n0 S H locs ρ arr (D.stk (wfs_c (show r < Z.length from wfz_getq D.z hz hr) (wfs_t (wfs_t D.sk))))
  refine va_aldq S.ex S.co S.K D.P i t (wd_get hz) (ht X) q1 hd ?_
  rw [q2, List.getD_eq_getElem?_getD, hr]
  exact h
theorem upd_mu (g : Mem) (i : Nat) {j : Int} (hj : 0 ≤ j) (v : Int) : upd (fun q : Nat => Int32.ofInt (g i q)) j.toNat (Int32.ofInt v) = fun q : Nat => Int32.ofInt (mu g i j v i q) := by
  funext q
  by_cases h : q = j.toNat
  · have h2 : (q : Int) = j := by omega
    simp only [upd, mu, if_pos h, h2, and_self, if_true]
  · have h2 : ¬ (q : Int) = j := by omega
    simp [upd, mu, h, h2]
theorem updL_mu (g : Mem) (i : Nat) {j : Int} (hj : 0 ≤ j) (v : Int) : vp_updL (fun q : Nat => Int64.ofInt (g i q)) j.toNat (Int64.ofInt v) = fun q : Nat => Int64.ofInt (mu g i j v i q) := by
  funext q
  by_cases h : q = j.toNat
  · have h2 : (q : Int) = j := by omega
    simp only [vp_updL, mu, if_pos h, h2, and_self, if_true]
  · have h2 : ¬ (q : Int) = j := by omega
    simp [vp_updL, mu, h, h2]
theorem r_iastore {i len : Nat} {j x : Int} (hd : decode M.2.1 pc = .ok (.iastore, 1)) (hp : pc + 1 = pc') (hz : Z[i]? = some (.inl (0, len))) (hl : len < 2147483648) (h0 : 0 ≤ j) (h1 : j < len) (hg : mu g i j x = g') (kk : AJ X d M mc ms Q k n pc' ls st Z g') : AJ X d M mc ms Q k n pc ls (vi x :: vi j :: vr i :: st) Z g := by
  intro p l e R s m args below meth c Qw A ρ0 n0 S H locs ρ arr D
  subst hp
  subst hg
  obtain ⟨q1, q2⟩ := i32_in h0 h1 hl
  refine va_iast S.ex S.co S.K D.P D.D D.S i 0 (wd_get hz) (tys0 X) q1 hd (fun H1 locs1 hP hD hS => ?_)
  have ew : (wd X ρ Z g).set i (ρ i, .inl (X.2.2.2.2 0, len, .inl (fun q : Nat => Int32.ofInt (mu g i j x i q)))) = wd X ρ Z (mu g i j x) := wd_set hz (fun j hj => mu_off hj) rfl
  rw [q2, upd_mu g i h0, ew] at hP hD
  exact kk p l e R s m args below meth c Qw A ρ0 n0 S H1 locs1 ρ arr (D.mem (wfs_t (wfs_t (wfs_t D.sk))) hP hD hS)
theorem r_bastore {i len : Nat} {j x : Int} (hd : decode M.2.1 pc = .ok (.bastore, 1)) (hp : pc + 1 = pc') (hz : Z[i]? = some (.inl (1, len))) (hl : len < 2147483648) (h0 : 0 ≤ j) (h1 : j < len) (hx : x = 0 ∨ x = 1) (hg : mu g i j x = g') (kk : AJ X d M mc ms Q k n pc' ls st Z g') : AJ X d M mc ms Q k n pc ls (vi x :: vi j :: vr i :: st) Z g := by
  intro p l e R s m args below meth c Qw A ρ0 n0 S H locs ρ arr D
  subst hp
  subst hg
  obtain ⟨q1, q2⟩ := i32_in h0 h1 hl
  have hb : vp_nar .boolean (Int32.ofInt x) = Int32.ofInt x := by rcases hx with rfl | rfl <;> rfl
  refine va_zast S.ex S.co S.K D.P D.D D.S i 1 (wd_get hz) (tys1 X) q1 hd (fun H1 locs1 hP hD hS => ?_)
  have ew : (wd X ρ Z g).set i (ρ i, .inl (X.2.2.2.2 1, len, .inl (fun q : Nat => Int32.ofInt (mu g i j x i q)))) = wd X ρ Z (mu g i j x) := wd_set hz (fun j hj => mu_off hj) rfl
  rw [q2, hb, upd_mu g i h0, ew] at hP hD
  exact kk p l e R s m args below meth c Qw A ρ0 n0 S H1 locs1 ρ arr (D.mem (wfs_t (wfs_t (wfs_t D.sk))) hP hD hS)
theorem r_lastore {i len : Nat} {j x : Int} (hd : decode M.2.1 pc = .ok (.lastore, 1)) (hp : pc + 1 = pc') (hz : Z[i]? = some (.inl (2, len))) (hl : len < 2147483648) (h0 : 0 ≤ j) (h1 : j < len) (hg : mu g i j x = g') (kk : AJ X d M mc ms Q k n pc' ls st Z g') : AJ X d M mc ms Q k n pc ls (vl x :: vi j :: vr i :: st) Z g := by
  intro p l e R s m args below meth c Qw A ρ0 n0 S H locs ρ arr D
  subst hp
  subst hg
  obtain ⟨q1, q2⟩ := i32_in h0 h1 hl
  refine va_last S.ex S.co S.K D.P D.D D.S i 2 (wd_get hz) (tys2 X) q1 hd (fun H1 locs1 hP hD hS => ?_)
  have ew : (wd X ρ Z g).set i (ρ i, .inl (X.2.2.2.2 2, len, .inr (.inl (fun q : Nat => Int64.ofInt (mu g i j x i q))))) = wd X ρ Z (mu g i j x) := wd_set hz (fun j hj => mu_off hj) rfl
  rw [q2, updL_mu g i h0, ew] at hP hD
  exact kk p l e R s m args below meth c Qw A ρ0 n0 S H1 locs1 ρ arr (D.mem (wfs_t (wfs_t (wfs_t D.sk))) hP hD hS)
theorem r_alen {i t len : Nat} (hd : decode M.2.1 pc = .ok (.arraylength, 1)) (hp : pc + 1 = pc') (hz : Z[i]? = some (.inl (t, len))) (ht : t = 0 ∨ t = 1 ∨ t = 2) (kk : AJ X d M mc ms Q k n pc' ls (vi len :: st) Z g) : AJ X d M mc ms Q k n pc ls (vr i :: st) Z g := by
  intro p l e R s m args below meth c Qw A ρ0 n0 S H locs ρ arr D
  subst hp
  have h := kk p l e R s m args below meth c Qw A ρ0 n0 S H locs ρ arr (D.stk (wfs_c trivial (wfs_t D.sk)))
  have el : Int32.ofNat len = Int32.ofInt len := rfl
  rcases ht with rfl | rfl | rfl
  · exact va_alen S.ex S.co S.K D.P i 0 (wd_get hz) (tys0 X) el hd h
  · exact va_alen S.ex S.co S.K D.P i 1 (wd_get hz) (tys1 X) el hd h
  · exact va_alen S.ex S.co S.K D.P i 2 (wd_get hz) (tys2 X) el hd h
theorem r_slen (hn : M.1.name = "law") (hd : decode M.2.1 pc = .ok (.arraylength, 1)) (hp : pc + 1 = pc') (kk : AJ X d M mc ms Q k n pc' ls (vi X.2.1 :: st) Z g) : AJ X d M mc ms Q k n pc ls (vsc :: st) Z g := by
  intro p l e R s m args below meth c Qw A ρ0 n0 S H locs ρ arr D
  subst hp
  have h := kk p l e R s m args below meth c Qw A ρ0 n0 S H locs ρ arr (D.stk (wfs_c trivial (wfs_t D.sk)))
  obtain ⟨hX, hb, hA⟩ := S.sc hn
  exact va_slen S.ex S.co hX hb hA D.S hd h
theorem r_sald {j x : Int} (hn : M.1.name = "law") (hd : decode M.2.1 pc = .ok (.iaload, 1)) (hp : pc + 1 = pc') (hl : X.2.1 < 2147483648) (h0 : 0 ≤ j) (h1 : j < X.2.1) (hv : X.2.2.1 j = x) (kk : AJ X d M mc ms Q k n pc' ls (vi x :: st) Z g) : AJ X d M mc ms Q k n pc ls (vi j :: vsc :: st) Z g := by
  intro p l e R s m args below meth c Qw A ρ0 n0 S H locs ρ arr D
  subst hp
  subst hv
  obtain ⟨q1, q2⟩ := i32_in h0 h1 hl
  have h := kk p l e R s m args below meth c Qw A ρ0 n0 S H locs ρ arr (D.stk (wfs_c trivial (wfs_t (wfs_t D.sk))))
  obtain ⟨hX, hb, hA⟩ := S.sc hn
  refine va_sld S.ex S.co hX hb hA D.S q1 hd ?_
  rw [q2, show ((j.toNat : Nat) : Int) = j by omega]
  exact h
theorem r_tabI {a dflt lo hi off : Int} {offs : Array Int} {len tgt : Nat} (hd : decode M.2.1 pc = .ok (.tableswitch dflt lo hi offs, len)) (ha : R32 a) (h1 : lo ≤ a) (h2 : a ≤ hi) (ho : offs[(a - lo).toNat]? = some off) (ht : (pc : Int) + off = (tgt : Int)) (kk : AJ X d M mc ms Q k n tgt ls st Z g) : AJ X d M mc ms Q k n pc ls (vi a :: st) Z g := by
  intro p l e R s m args below meth c Qw A ρ0 n0 S H locs ρ arr D
  have h := kk p l e R s m args below meth c Qw A ρ0 n0 S H locs ρ arr (D.stk (wfs_t D.sk))
  exact lv_tableIn S.ex S.co hd (by rw [i32_toInt ha]; omega) (by rw [i32_toInt ha]; omega) (by rw [i32_toInt ha]; exact ho) ht h
theorem r_tabO {a dflt lo hi : Int} {offs : Array Int} {len tgt : Nat} (hd : decode M.2.1 pc = .ok (.tableswitch dflt lo hi offs, len)) (ha : R32 a) (h1 : a < lo ∨ hi < a) (ht : (pc : Int) + dflt = (tgt : Int)) (kk : AJ X d M mc ms Q k n tgt ls st Z g) : AJ X d M mc ms Q k n pc ls (vi a :: st) Z g := by
  intro p l e R s m args below meth c Qw A ρ0 n0 S H locs ρ arr D
  have h := kk p l e R s m args below meth c Qw A ρ0 n0 S H locs ρ arr (D.stk (wfs_t D.sk))
  exact lv_tableOut S.ex S.co hd (by rw [i32_toInt ha]; omega) ht h
theorem r_look {a dflt off : Int} {ps : Array (Int × Int)} {len tgt : Nat} (hd : decode M.2.1 pc = .ok (.lookupswitch dflt ps, len)) (hs : (ps.toList.zip (ps.toList.drop 1)).all (fun (a, next) => a.1 < next.1) = true) (ha : R32 a) (ho : Op.lookupswitch.offset ps.toList dflt a = off) (ht : (pc : Int) + off = (tgt : Int)) (kk : AJ X d M mc ms Q k n tgt ls st Z g) : AJ X d M mc ms Q k n pc ls (vi a :: st) Z g := by
  intro p l e R s m args below meth c Qw A ρ0 n0 S H locs ρ arr D
  have h := kk p l e R s m args below meth c Qw A ρ0 n0 S H locs ρ arr (D.stk (wfs_t D.sk))
  exact lv_lookup S.ex S.co hd hs (by rw [i32_toInt ha]; exact ho) ht h
theorem r_ret {v : Int} {ty : FieldType} (hd : decode M.2.1 pc = .ok (.ireturn, 1)) (hr : M.2.2.2 = some ty) (ht : ty = .int ∨ (ty = .boolean ∧ (v = 0 ∨ v = 1))) (hk : k ≤ mc) (hn : n ≤ ms) (hq : Q (some (vi v)) Z g) : AJ X d M mc ms Q k n pc ls [vi v] Z g := by
  intro p l e R s m args below meth c Qw A ρ0 n0 S H locs ρ arr D
  exact S.2.2.2.2.2.2.2.2.2.2.2.2.2 (some (vi v)) Z g ρ H locs k n pc arr hq ⟨D.P, D.D, D.S, D.z, D.sk, D.ag⟩ hk hn (Or.inl ⟨hd, v, rfl, ty, hr, ht⟩)
theorem r_retv (hd : decode M.2.1 pc = .ok (.return_, 1)) (hr : M.2.2.2 = none) (hk : k ≤ mc) (hn : n ≤ ms) (hq : Q none Z g) : AJ X d M mc ms Q k n pc ls [] Z g := by
  intro p l e R s m args below meth c Qw A ρ0 n0 S H locs ρ arr D
  exact S.2.2.2.2.2.2.2.2.2.2.2.2.2 none Z g ρ H locs k n pc arr hq ⟨D.P, D.D, D.S, D.z, D.sk, D.ag⟩ hk hn (Or.inr ⟨hd, rfl, hr⟩)
end Rules
