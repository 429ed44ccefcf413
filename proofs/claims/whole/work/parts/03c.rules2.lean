-- bit operations on numbers
def b_and (a b : Int) : Int := (Int32.ofInt a &&& Int32.ofInt b).toInt
def b_or (a b : Int) : Int := (Int32.ofInt a ||| Int32.ofInt b).toInt
def b_xor (a b : Int) : Int := (Int32.ofInt a ^^^ Int32.ofInt b).toInt
def b_shl (a b : Int) : Int := (Int32.ofInt a <<< (Int32.ofInt b &&& 31)).toInt
def b_shr (a b : Int) : Int := (Int32.ofInt a >>> (Int32.ofInt b &&& 31)).toInt
def b_ushr (a b : Int) : Int := ((Int32.ofInt a).toUInt32 >>> ((Int32.ofInt b).toUInt32 &&& Int32.toUInt32 31)).toInt32.toInt
def l_and (a b : Int) : Int := (Int64.ofInt a &&& Int64.ofInt b).toInt
def l_or (a b : Int) : Int := (Int64.ofInt a ||| Int64.ofInt b).toInt
def l_xor (a b : Int) : Int := (Int64.ofInt a ^^^ Int64.ofInt b).toInt
def l_shl (a b : Int) : Int := (Int64.ofInt a <<< ((Int32.ofInt b).toInt64 &&& 63)).toInt
def l_shr (a b : Int) : Int := (Int64.ofInt a >>> ((Int32.ofInt b).toInt64 &&& 63)).toInt
theorem i32_of (x : Int32) : Int32.ofInt x.toInt = x := Int32.ofInt_toInt x
theorem i64_of (x : Int64) : Int64.ofInt x.toInt = x := Int64.ofInt_toInt x
theorem i32_R (x : Int32) : R32 x.toInt := ⟨by have := Int32.le_toInt x; omega, by have := Int32.toInt_lt x; omega⟩
theorem i64_R (x : Int64) : R64 x.toInt := ⟨by have := Int64.le_toInt x; omega, by have := Int64.toInt_lt x; omega⟩
section Rules
variable {X : CX} {d : Nat} {M : MI} {mc ms : Nat} {Q : Option VV → List Sh → Mem → Prop} {k n pc pc' : Nat} {ls : List (Option VV)} {st : List VV} {Z : List Sh} {g : Mem}
theorem r_iand {a b : Int} (hd : decode M.2.1 pc = .ok (.iand, 1)) (hp : pc + 1 = pc') (kk : AJ X d M mc ms Q k n pc' ls (vi (b_and a b) :: st) Z g) : AJ X d M mc ms Q k n pc ls (vi b :: vi a :: st) Z g := by
  intro p l e R s m args below meth c Qw A ρ0 n0 S H locs ρ arr D
  subst hp
  have h := kk p l e R s m args below meth c Qw A ρ0 n0 S H locs ρ arr (D.stk (wfs_c trivial (wfs_t (wfs_t D.sk))))
  refine lv_iand S.ex S.co hd ?_
  rw [← i32_of (Int32.ofInt a &&& Int32.ofInt b)]
  exact h
theorem r_ior {a b : Int} (hd : decode M.2.1 pc = .ok (.ior, 1)) (hp : pc + 1 = pc') (kk : AJ X d M mc ms Q k n pc' ls (vi (b_or a b) :: st) Z g) : AJ X d M mc ms Q k n pc ls (vi b :: vi a :: st) Z g := by
  intro p l e R s m args below meth c Qw A ρ0 n0 S H locs ρ arr D
  subst hp
  have h := kk p l e R s m args below meth c Qw A ρ0 n0 S H locs ρ arr (D.stk (wfs_c trivial (wfs_t (wfs_t D.sk))))
  refine lv_ior S.ex S.co hd ?_
  rw [← i32_of (Int32.ofInt a ||| Int32.ofInt b)]
  exact h
theorem r_ixor {a b : Int} (hd : decode M.2.1 pc = .ok (.ixor, 1)) (hp : pc + 1 = pc') (kk : AJ X d M mc ms Q k n pc' ls (vi (b_xor a b) :: st) Z g) : AJ X d M mc ms Q k n pc ls (vi b :: vi a :: st) Z g := by
  intro p l e R s m args below meth c Qw A ρ0 n0 S H locs ρ arr D
  subst hp
  have h := kk p l e R s m args below meth c Qw A ρ0 n0 S H locs ρ arr (D.stk (wfs_c trivial (wfs_t (wfs_t D.sk))))
  refine lv_ixor S.ex S.co hd ?_
  rw [← i32_of (Int32.ofInt a ^^^ Int32.ofInt b)]
  exact h
theorem r_ishl {a b : Int} (hd : decode M.2.1 pc = .ok (.ishl, 1)) (hp : pc + 1 = pc') (kk : AJ X d M mc ms Q k n pc' ls (vi (b_shl a b) :: st) Z g) : AJ X d M mc ms Q k n pc ls (vi b :: vi a :: st) Z g := by
  intro p l e R s m args below meth c Qw A ρ0 n0 S H locs ρ arr D
  subst hp
  have h := kk p l e R s m args below meth c Qw A ρ0 n0 S H locs ρ arr (D.stk (wfs_c trivial (wfs_t (wfs_t D.sk))))
  refine lv_ishl S.ex S.co hd ?_
  rw [← i32_of (Int32.ofInt a <<< (Int32.ofInt b &&& 31))]
  exact h
theorem r_ishr {a b : Int} (hd : decode M.2.1 pc = .ok (.ishr, 1)) (hp : pc + 1 = pc') (kk : AJ X d M mc ms Q k n pc' ls (vi (b_shr a b) :: st) Z g) : AJ X d M mc ms Q k n pc ls (vi b :: vi a :: st) Z g := by
  intro p l e R s m args below meth c Qw A ρ0 n0 S H locs ρ arr D
  subst hp
  have h := kk p l e R s m args below meth c Qw A ρ0 n0 S H locs ρ arr (D.stk (wfs_c trivial (wfs_t (wfs_t D.sk))))
  refine lv_ishr S.ex S.co hd ?_
  rw [← i32_of (Int32.ofInt a >>> (Int32.ofInt b &&& 31))]
  exact h
theorem r_iushr {a b : Int} (hd : decode M.2.1 pc = .ok (.iushr, 1)) (hp : pc + 1 = pc') (kk : AJ X d M mc ms Q k n pc' ls (vi (b_ushr a b) :: st) Z g) : AJ X d M mc ms Q k n pc ls (vi b :: vi a :: st) Z g := by
  intro p l e R s m args below meth c Qw A ρ0 n0 S H locs ρ arr D
  subst hp
  have h := kk p l e R s m args below meth c Qw A ρ0 n0 S H locs ρ arr (D.stk (wfs_c trivial (wfs_t (wfs_t D.sk))))
  exact lv_iushr S.ex S.co hd (i32_of _).symm h
theorem r_land {a b : Int} (hd : decode M.2.1 pc = .ok (.land, 1)) (hp : pc + 1 = pc') (kk : AJ X d M mc ms Q k n pc' ls (vl (l_and a b) :: st) Z g) : AJ X d M mc ms Q k n pc ls (vl b :: vl a :: st) Z g := by
  intro p l e R s m args below meth c Qw A ρ0 n0 S H locs ρ arr D
  subst hp
  have h := kk p l e R s m args below meth c Qw A ρ0 n0 S H locs ρ arr (D.stk (wfs_c trivial (wfs_t (wfs_t D.sk))))
  refine lv_land S.ex S.co hd ?_
  rw [← i64_of (Int64.ofInt a &&& Int64.ofInt b)]
  exact h
theorem r_lor {a b : Int} (hd : decode M.2.1 pc = .ok (.lor, 1)) (hp : pc + 1 = pc') (kk : AJ X d M mc ms Q k n pc' ls (vl (l_or a b) :: st) Z g) : AJ X d M mc ms Q k n pc ls (vl b :: vl a :: st) Z g := by
  intro p l e R s m args below meth c Qw A ρ0 n0 S H locs ρ arr D
  subst hp
  have h := kk p l e R s m args below meth c Qw A ρ0 n0 S H locs ρ arr (D.stk (wfs_c trivial (wfs_t (wfs_t D.sk))))
  refine lv_lor S.ex S.co hd ?_
  rw [← i64_of (Int64.ofInt a ||| Int64.ofInt b)]
  exact h
theorem r_lxor {a b : Int} (hd : decode M.2.1 pc = .ok (.lxor, 1)) (hp : pc + 1 = pc') (kk : AJ X d M mc ms Q k n pc' ls (vl (l_xor a b) :: st) Z g) : AJ X d M mc ms Q k n pc ls (vl b :: vl a :: st) Z g := by
  intro p l e R s m args below meth c Qw A ρ0 n0 S H locs ρ arr D
  subst hp
  have h := kk p l e R s m args below meth c Qw A ρ0 n0 S H locs ρ arr (D.stk (wfs_c trivial (wfs_t (wfs_t D.sk))))
  refine lv_lxor S.ex S.co hd ?_
  rw [← i64_of (Int64.ofInt a ^^^ Int64.ofInt b)]
  exact h
theorem r_ladd {a b : Int} (hd : decode M.2.1 pc = .ok (.ladd, 1)) (hp : pc + 1 = pc') (kk : AJ X d M mc ms Q k n pc' ls (vl (a + b) :: st) Z g) : AJ X d M mc ms Q k n pc ls (vl b :: vl a :: st) Z g := by
  intro p l e R s m args below meth c Qw A ρ0 n0 S H locs ρ arr D
  subst hp
  have h := kk p l e R s m args below meth c Qw A ρ0 n0 S H locs ρ arr (D.stk (wfs_c trivial (wfs_t (wfs_t D.sk))))
  refine lv_ladd S.ex S.co hd ?_
  rw [← Int64.ofInt_add]
  exact h
theorem r_lmul {a b : Int} (hd : decode M.2.1 pc = .ok (.lmul, 1)) (hp : pc + 1 = pc') (kk : AJ X d M mc ms Q k n pc' ls (vl (a * b) :: st) Z g) : AJ X d M mc ms Q k n pc ls (vl b :: vl a :: st) Z g := by
  intro p l e R s m args below meth c Qw A ρ0 n0 S H locs ρ arr D
  subst hp
  have h := kk p l e R s m args below meth c Qw A ρ0 n0 S H locs ρ arr (D.stk (wfs_c trivial (wfs_t (wfs_t D.sk))))
  refine lv_lmul S.ex S.co hd ?_
  rw [← Int64.ofInt_mul]
  exact h
theorem r_ldiv {a b : Int} (hd : decode M.2.1 pc = .ok (.ldiv, 1)) (hp : pc + 1 = pc') (ha : R64 a) (hb : R64 b) (h0 : b ≠ 0) (kk : AJ X d M mc ms Q k n pc' ls (vl (a.tdiv b) :: st) Z g) : AJ X d M mc ms Q k n pc ls (vl b :: vl a :: st) Z g := by
  intro p l e R s m args below meth c Qw A ρ0 n0 S H locs ρ arr D
  subst hp
  have h := kk p l e R s m args below meth c Qw A ρ0 n0 S H locs ρ arr (D.stk (wfs_c trivial (wfs_t (wfs_t D.sk))))
  refine lv_ldiv S.ex S.co hd (fun q => h0 ?_) ?_
  · have := Int64.toInt_inj.mpr q
    rw [i64_toInt hb] at this
    exact this
  · rw [i64_div ha hb]
    exact h
theorem r_lshl {a b : Int} (hd : decode M.2.1 pc = .ok (.lshl, 1)) (hp : pc + 1 = pc') (kk : AJ X d M mc ms Q k n pc' ls (vl (l_shl a b) :: st) Z g) : AJ X d M mc ms Q k n pc ls (vi b :: vl a :: st) Z g := by
  intro p l e R s m args below meth c Qw A ρ0 n0 S H locs ρ arr D
  subst hp
  have h := kk p l e R s m args below meth c Qw A ρ0 n0 S H locs ρ arr (D.stk (wfs_c trivial (wfs_t (wfs_t D.sk))))
  exact lv_lshl S.ex S.co hd (i64_of _).symm h
theorem r_lshr {a b : Int} (hd : decode M.2.1 pc = .ok (.lshr, 1)) (hp : pc + 1 = pc') (kk : AJ X d M mc ms Q k n pc' ls (vl (l_shr a b) :: st) Z g) : AJ X d M mc ms Q k n pc ls (vi b :: vl a :: st) Z g := by
  intro p l e R s m args below meth c Qw A ρ0 n0 S H locs ρ arr D
  subst hp
  have h := kk p l e R s m args below meth c Qw A ρ0 n0 S H locs ρ arr (D.stk (wfs_c trivial (wfs_t (wfs_t D.sk))))
  exact lv_lshr S.ex S.co hd (i64_of _).symm h
theorem r_i2l {a : Int} (hd : decode M.2.1 pc = .ok (.i2l, 1)) (hp : pc + 1 = pc') (ha : R32 a) (kk : AJ X d M mc ms Q k n pc' ls (vl a :: st) Z g) : AJ X d M mc ms Q k n pc ls (vi a :: st) Z g := by
  intro p l e R s m args below meth c Qw A ρ0 n0 S H locs ρ arr D
  subst hp
  have h := kk p l e R s m args below meth c Qw A ρ0 n0 S H locs ρ arr (D.stk (wfs_c trivial (wfs_t D.sk)))
  refine lv_i2l S.ex S.co hd ?_ h
  rw [← Int64.toInt_inj, i64_toInt ⟨by omega, by omega⟩, Int32.toInt_toInt64, i32_toInt ha]
theorem r_l2i {a : Int} (hd : decode M.2.1 pc = .ok (.l2i, 1)) (hp : pc + 1 = pc') (kk : AJ X d M mc ms Q k n pc' ls (vi a :: st) Z g) : AJ X d M mc ms Q k n pc ls (vl a :: st) Z g := by
  intro p l e R s m args below meth c Qw A ρ0 n0 S H locs ρ arr D
  subst hp
  have h := kk p l e R s m args below meth c Qw A ρ0 n0 S H locs ρ arr (D.stk (wfs_c trivial (wfs_t D.sk)))
  refine lv_l2i S.ex S.co hd ?_ h
  rw [Int64.toInt32_ofInt]
theorem cv_cat1 {b : Nat} {ρ : Nat → Nat} {v : VV} (h : (match v with | .inr (.inl _) => false | _ => true) = true) : (cv b ρ v).category = 1 := by
  rcases v with x | x | _ | _ | x
  · simp [cv, Value.category]
  · simp at h
  · simp [cv, Value.category]
  · simp [cv, Value.category]
  · simp [cv, Value.category]
theorem r_dup {v : VV} (hd : decode M.2.1 pc = .ok (.dup, 1)) (hp : pc + 1 = pc') (hv : (match v with | .inr (.inl _) => false | _ => true) = true) (kk : AJ X d M mc ms Q k n pc' ls (v :: v :: st) Z g) : AJ X d M mc ms Q k n pc ls (v :: st) Z g := by
  intro p l e R s m args below meth c Qw A ρ0 n0 S H locs ρ arr D
  subst hp
  exact lv_dup S.ex S.co hd (cv_cat1 hv) (kk p l e R s m args below meth c Qw A ρ0 n0 S H locs ρ arr (D.stk (wfs_c (wfs_h D.sk) D.sk)))
theorem r_dup2 {v w : VV} (hd : decode M.2.1 pc = .ok (.dup2, 1)) (hp : pc + 1 = pc') (hv : (match v with | .inr (.inl _) => false | _ => true) = true) (hw : (match w with | .inr (.inl _) => false | _ => true) = true) (kk : AJ X d M mc ms Q k n pc' ls (v :: w :: v :: w :: st) Z g) : AJ X d M mc ms Q k n pc ls (v :: w :: st) Z g := by
  intro p l e R s m args below meth c Qw A ρ0 n0 S H locs ρ arr D
  subst hp
  exact lv_dup2_11 S.ex S.co hd (cv_cat1 hv) (cv_cat1 hw) (kk p l e R s m args below meth c Qw A ρ0 n0 S H locs ρ arr (D.stk (wfs_c (wfs_h D.sk) (wfs_c (wfs_h (wfs_t D.sk)) D.sk))))
theorem r_goto {off : Int} {tgt : Nat} (hd : decode M.2.1 pc = .ok (.goto off, 3)) (ht : (pc : Int) + off = (tgt : Int)) (kk : AJ X d M mc ms Q k n tgt ls st Z g) : AJ X d M mc ms Q k n pc ls st Z g := by
  intro p l e R s m args below meth c Qw A ρ0 n0 S H locs ρ arr D
  exact lv_goto S.ex S.co hd ht (kk p l e R s m args below meth c Qw A ρ0 n0 S H locs ρ arr D)
theorem r_if_eq {a off : Int} {tgt : Nat} (hd : decode M.2.1 pc = .ok (.ifCond .eq off, 3)) (ht : (pc : Int) + off = (tgt : Int)) (hp : pc + 3 = pc') (ha : R32 a) (kt : a = 0 → AJ X d M mc ms Q k n tgt ls st Z g) (kf : ¬ (a = 0) → AJ X d M mc ms Q k n pc' ls st Z g) : AJ X d M mc ms Q k n pc ls (vi a :: st) Z g := by
  intro p l e R s m args below meth c Qw A ρ0 n0 S H locs ρ arr D
  subst hp
  have D' := D.stk (wfs_t D.sk)
  refine lv_if_eq S.ex S.co hd ht (fun q => kt ?_ p l e R s m args below meth c Qw A ρ0 n0 S H locs ρ arr D') (fun q => kf ?_ p l e R s m args below meth c Qw A ρ0 n0 S H locs ρ arr D')
  · exact (i32_eq ha (by decide)).mp q
  · exact fun h => q ((i32_eq ha (by decide)).mpr h)
theorem r_icmp_eq {a b off : Int} {tgt : Nat} (hd : decode M.2.1 pc = .ok (.if_icmp .eq off, 3)) (ht : (pc : Int) + off = (tgt : Int)) (hp : pc + 3 = pc') (ha : R32 a) (hb : R32 b) (kt : a = b → AJ X d M mc ms Q k n tgt ls st Z g) (kf : ¬ (a = b) → AJ X d M mc ms Q k n pc' ls st Z g) : AJ X d M mc ms Q k n pc ls (vi b :: vi a :: st) Z g := by
  intro p l e R s m args below meth c Qw A ρ0 n0 S H locs ρ arr D
  subst hp
  have D' := D.stk (wfs_t (wfs_t D.sk))
  refine lv_icmp_eq S.ex S.co hd ht (fun q => kt ?_ p l e R s m args below meth c Qw A ρ0 n0 S H locs ρ arr D') (fun q => kf ?_ p l e R s m args below meth c Qw A ρ0 n0 S H locs ρ arr D')
  · exact (i32_eq ha hb).mp q
  · exact fun h => q ((i32_eq ha hb).mpr h)
theorem r_if_ne {a off : Int} {tgt : Nat} (hd : decode M.2.1 pc = .ok (.ifCond .ne off, 3)) (ht : (pc : Int) + off = (tgt : Int)) (hp : pc + 3 = pc') (ha : R32 a) (kt : a ≠ 0 → AJ X d M mc ms Q k n tgt ls st Z g) (kf : a = 0 → AJ X d M mc ms Q k n pc' ls st Z g) : AJ X d M mc ms Q k n pc ls (vi a :: st) Z g := by
  intro p l e R s m args below meth c Qw A ρ0 n0 S H locs ρ arr D
  subst hp
  have D' := D.stk (wfs_t D.sk)
  refine lv_if_ne S.ex S.co hd ht (fun q => kt ?_ p l e R s m args below meth c Qw A ρ0 n0 S H locs ρ arr D') (fun q => kf ?_ p l e R s m args below meth c Qw A ρ0 n0 S H locs ρ arr D')
  · exact fun h => q (by rw [h]; rfl)
  · exact (i32_eq ha (by decide)).mp q
theorem r_icmp_ne {a b off : Int} {tgt : Nat} (hd : decode M.2.1 pc = .ok (.if_icmp .ne off, 3)) (ht : (pc : Int) + off = (tgt : Int)) (hp : pc + 3 = pc') (ha : R32 a) (hb : R32 b) (kt : a ≠ b → AJ X d M mc ms Q k n tgt ls st Z g) (kf : a = b → AJ X d M mc ms Q k n pc' ls st Z g) : AJ X d M mc ms Q k n pc ls (vi b :: vi a :: st) Z g := by
  intro p l e R s m args below meth c Qw A ρ0 n0 S H locs ρ arr D
  subst hp
  have D' := D.stk (wfs_t (wfs_t D.sk))
  refine lv_icmp_ne S.ex S.co hd ht (fun q => kt ?_ p l e R s m args below meth c Qw A ρ0 n0 S H locs ρ arr D') (fun q => kf ?_ p l e R s m args below meth c Qw A ρ0 n0 S H locs ρ arr D')
  · exact fun h => q (by rw [h])
  · exact (i32_eq ha hb).mp q
theorem r_if_lt {a off : Int} {tgt : Nat} (hd : decode M.2.1 pc = .ok (.ifCond .lt off, 3)) (ht : (pc : Int) + off = (tgt : Int)) (hp : pc + 3 = pc') (ha : R32 a) (kt : a < 0 → AJ X d M mc ms Q k n tgt ls st Z g) (kf : ¬ (a < 0) → AJ X d M mc ms Q k n pc' ls st Z g) : AJ X d M mc ms Q k n pc ls (vi a :: st) Z g := by
  intro p l e R s m args below meth c Qw A ρ0 n0 S H locs ρ arr D
  subst hp
  have D' := D.stk (wfs_t D.sk)
  refine lv_if_lt S.ex S.co hd ht (fun q => kt ?_ p l e R s m args below meth c Qw A ρ0 n0 S H locs ρ arr D') (fun q => kf ?_ p l e R s m args below meth c Qw A ρ0 n0 S H locs ρ arr D')
  · exact (i32_lt ha (by decide)).mp q
  · exact fun h => q ((i32_lt ha (by decide)).mpr h)
theorem r_icmp_lt {a b off : Int} {tgt : Nat} (hd : decode M.2.1 pc = .ok (.if_icmp .lt off, 3)) (ht : (pc : Int) + off = (tgt : Int)) (hp : pc + 3 = pc') (ha : R32 a) (hb : R32 b) (kt : a < b → AJ X d M mc ms Q k n tgt ls st Z g) (kf : ¬ (a < b) → AJ X d M mc ms Q k n pc' ls st Z g) : AJ X d M mc ms Q k n pc ls (vi b :: vi a :: st) Z g := by
  intro p l e R s m args below meth c Qw A ρ0 n0 S H locs ρ arr D
  subst hp
  have D' := D.stk (wfs_t (wfs_t D.sk))
  refine lv_icmp_lt S.ex S.co hd ht (fun q => kt ?_ p l e R s m args below meth c Qw A ρ0 n0 S H locs ρ arr D') (fun q => kf ?_ p l e R s m args below meth c Qw A ρ0 n0 S H locs ρ arr D')
  · exact (i32_lt ha hb).mp q
  · exact fun h => q ((i32_lt ha hb).mpr h)
theorem r_if_ge {a off : Int} {tgt : Nat} (hd : decode M.2.1 pc = .ok (.ifCond .ge off, 3)) (ht : (pc : Int) + off = (tgt : Int)) (hp : pc + 3 = pc') (ha : R32 a) (kt : 0 ≤ a → AJ X d M mc ms Q k n tgt ls st Z g) (kf : ¬ (0 ≤ a) → AJ X d M mc ms Q k n pc' ls st Z g) : AJ X d M mc ms Q k n pc ls (vi a :: st) Z g := by
  intro p l e R s m args below meth c Qw A ρ0 n0 S H locs ρ arr D
  subst hp
  have D' := D.stk (wfs_t D.sk)
  refine lv_if_ge S.ex S.co hd ht (fun q => kt ?_ p l e R s m args below meth c Qw A ρ0 n0 S H locs ρ arr D') (fun q => kf ?_ p l e R s m args below meth c Qw A ρ0 n0 S H locs ρ arr D')
  · exact (i32_le (by decide) ha).mp q
  · exact fun h => q ((i32_le (by decide) ha).mpr h)
theorem r_icmp_ge {a b off : Int} {tgt : Nat} (hd : decode M.2.1 pc = .ok (.if_icmp .ge off, 3)) (ht : (pc : Int) + off = (tgt : Int)) (hp : pc + 3 = pc') (ha : R32 a) (hb : R32 b) (kt : b ≤ a → AJ X d M mc ms Q k n tgt ls st Z g) (kf : ¬ (b ≤ a) → AJ X d M mc ms Q k n pc' ls st Z g) : AJ X d M mc ms Q k n pc ls (vi b :: vi a :: st) Z g := by
  intro p l e R s m args below meth c Qw A ρ0 n0 S H locs ρ arr D
  subst hp
  have D' := D.stk (wfs_t (wfs_t D.sk))
  refine lv_icmp_ge S.ex S.co hd ht (fun q => kt ?_ p l e R s m args below meth c Qw A ρ0 n0 S H locs ρ arr D') (fun q => kf ?_ p l e R s m args below meth c Qw A ρ0 n0 S H locs ρ arr D')
  · exact (i32_le hb ha).mp q
  · exact fun h => q ((i32_le hb ha).mpr h)
theorem r_if_gt {a off : Int} {tgt : Nat} (hd : decode M.2.1 pc = .ok (.ifCond .gt off, 3)) (ht : (pc : Int) + off = (tgt : Int)) (hp : pc + 3 = pc') (ha : R32 a) (kt : 0 < a → AJ X d M mc ms Q k n tgt ls st Z g) (kf : ¬ (0 < a) → AJ X d M mc ms Q k n pc' ls st Z g) : AJ X d M mc ms Q k n pc ls (vi a :: st) Z g := by
  intro p l e R s m args below meth c Qw A ρ0 n0 S H locs ρ arr D
  subst hp
  have D' := D.stk (wfs_t D.sk)
  refine lv_if_gt S.ex S.co hd ht (fun q => kt ?_ p l e R s m args below meth c Qw A ρ0 n0 S H locs ρ arr D') (fun q => kf ?_ p l e R s m args below meth c Qw A ρ0 n0 S H locs ρ arr D')
  · exact (i32_lt (by decide) ha).mp q
  · exact fun h => q ((i32_lt (by decide) ha).mpr h)
theorem r_icmp_gt {a b off : Int} {tgt : Nat} (hd : decode M.2.1 pc = .ok (.if_icmp .gt off, 3)) (ht : (pc : Int) + off = (tgt : Int)) (hp : pc + 3 = pc') (ha : R32 a) (hb : R32 b) (kt : b < a → AJ X d M mc ms Q k n tgt ls st Z g) (kf : ¬ (b < a) → AJ X d M mc ms Q k n pc' ls st Z g) : AJ X d M mc ms Q k n pc ls (vi b :: vi a :: st) Z g := by
  intro p l e R s m args below meth c Qw A ρ0 n0 S H locs ρ arr D
  subst hp
  have D' := D.stk (wfs_t (wfs_t D.sk))
  refine lv_icmp_gt S.ex S.co hd ht (fun q => kt ?_ p l e R s m args below meth c Qw A ρ0 n0 S H locs ρ arr D') (fun q => kf ?_ p l e R s m args below meth c Qw A ρ0 n0 S H locs ρ arr D')
  · exact (i32_lt hb ha).mp q
  · exact fun h => q ((i32_lt hb ha).mpr h)
theorem r_if_le {a off : Int} {tgt : Nat} (hd : decode M.2.1 pc = .ok (.ifCond .le off, 3)) (ht : (pc : Int) + off = (tgt : Int)) (hp : pc + 3 = pc') (ha : R32 a) (kt : a ≤ 0 → AJ X d M mc ms Q k n tgt ls st Z g) (kf : ¬ (a ≤ 0) → AJ X d M mc ms Q k n pc' ls st Z g) : AJ X d M mc ms Q k n pc ls (vi a :: st) Z g := by
  intro p l e R s m args below meth c Qw A ρ0 n0 S H locs ρ arr D
  subst hp
  have D' := D.stk (wfs_t D.sk)
  refine lv_if_le S.ex S.co hd ht (fun q => kt ?_ p l e R s m args below meth c Qw A ρ0 n0 S H locs ρ arr D') (fun q => kf ?_ p l e R s m args below meth c Qw A ρ0 n0 S H locs ρ arr D')
  · exact (i32_le ha (by decide)).mp q
  · exact fun h => q ((i32_le ha (by decide)).mpr h)
theorem r_icmp_le {a b off : Int} {tgt : Nat} (hd : decode M.2.1 pc = .ok (.if_icmp .le off, 3)) (ht : (pc : Int) + off = (tgt : Int)) (hp : pc + 3 = pc') (ha : R32 a) (hb : R32 b) (kt : a ≤ b → AJ X d M mc ms Q k n tgt ls st Z g) (kf : ¬ (a ≤ b) → AJ X d M mc ms Q k n pc' ls st Z g) : AJ X d M mc ms Q k n pc ls (vi b :: vi a :: st) Z g := by
  intro p l e R s m args below meth c Qw A ρ0 n0 S H locs ρ arr D
  subst hp
  have D' := D.stk (wfs_t (wfs_t D.sk))
  refine lv_icmp_le S.ex S.co hd ht (fun q => kt ?_ p l e R s m args below meth c Qw A ρ0 n0 S H locs ρ arr D') (fun q => kf ?_ p l e R s m args below meth c Qw A ρ0 n0 S H locs ρ arr D')
  · exact (i32_le ha hb).mp q
  · exact fun h => q ((i32_le ha hb).mpr h)
end Rules
