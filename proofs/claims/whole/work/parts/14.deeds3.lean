theorem l_sew {X : CX} {d : Nat} {K : Mem → Prop} {i a f w : Nat} (hL : isL i a f w) (x0 : Int) {y : Nat} : ∀ (k p : Nat) (g : Mem), p - y = k → y ≤ p → p ≤ 6 → AJ X (d) mX2_sewOn 0 0 (QV Z0 K) 0 0 40 [some (vr i), some (vi x0), some (vi (y : Int)), some (vi (y : Int))] [] Z0 (shr_ g a y p) → AJ X (d) mX2_sewOn 0 0 (QV Z0 K) 0 0 15 [some (vr i), some (vi x0), some (vi (y : Int)), some (vi (p : Int))] [] Z0 g := by
  intro k
  induction k with
  | zero =>
    intro p g hk h1 h2 h
    have e : (y : Int) = (p : Int) := by omega
    refine r_iload_n (pc' := 16) dX2_sewOn_15 rfl rfl ?_
    refine r_iload_n (pc' := 17) dX2_sewOn_16 rfl rfl ?_
    refine r_icmp_le (tgt := 40) (pc' := 20) dX2_sewOn_17 rfl rfl (by omega) (by omega) (fun c17 => ?_) (fun c17 => ?_)
    · rw [shr_end (by omega)] at h
      rw [← e]
      exact h
    · exact absurd c17 (by omega)
  | succ k ih =>
    intro p g hk h1 h2 h
    refine r_iload_n (pc' := 16) dX2_sewOn_15 rfl rfl ?_
    refine r_iload_n (pc' := 17) dX2_sewOn_16 rfl rfl ?_
    refine r_icmp_le (tgt := 40) (pc' := 20) dX2_sewOn_17 rfl rfl (by omega) (by omega) (fun c17 => ?_) (fun c17 => ?_)
    · exact absurd c17 (by omega)
    · refine r_aload_n (pc' := 21) dX2_sewOn_20 rfl rfl ?_
      refine r_getr (pc' := 24) dX2_sewOn_21 rfl fX2_9 hL.1 rfl ?_
      refine r_iload_n (pc' := 25) dX2_sewOn_24 rfl rfl ?_
      refine r_aload_n (pc' := 26) dX2_sewOn_25 rfl rfl ?_
      refine r_getr (pc' := 29) dX2_sewOn_26 rfl fX2_9 hL.1 rfl ?_
      refine r_iload_n (pc' := 30) dX2_sewOn_29 rfl rfl ?_
      refine r_iconst (pc' := 31) dX2_sewOn_30 rfl ?_
      refine r_isub (pc' := 32) dX2_sewOn_31 rfl ?_
      refine r_iaload (pc' := 33) dX2_sewOn_32 rfl hL.2.1 (by decide) (by omega) (by omega) rfl ?_
      refine r_iastore (pc' := 34) dX2_sewOn_33 rfl hL.2.1 (by decide) (by omega) (by omega) rfl ?_
      refine r_iinc (pc' := 37) dX2_sewOn_34 rfl rfl rfl ?_
      refine r_goto (tgt := 15) dX2_sewOn_37 rfl ?_
      rw [show (p : Int) + -1 = ((p - 1 : Nat) : Int) by omega]
      refine ih (p - 1) _ (by omega) (by omega) (by omega) ?_
      rw [show ((p - 1 : Nat) : Int) = (p : Int) - 1 by omega, shr_step (by omega)]
      exact h
theorem a_sewOn {X : CX} {d : Nat} {g : Mem} {K : Mem → Prop} {i a f w F : Nat} {v : LV} (hL : isL i a f w) (hC : LC g i a f w v) (hW : LW F v) (hd : isD a f w) {x y : Nat} (hx : x < 7) (h7 : Ln v < 7) (h2 : y ≤ Ln v) (h : ∀ g', LC g' i a f w (sewV v x y) → Fr [i, a, f, w] g g' → K g') : EV X (d) mX2_sewOn [vr i, vi (x : Int), vi (y : Int)] Z0 g K := by
  show AJ X (d) mX2_sewOn 0 0 (QV Z0 K) 0 0 0 [some (vr i), some (vi (x : Int)), some (vi (y : Int)), none] [] Z0 g
  obtain ⟨hc, ho, hf, hw, ht, hi, hy⟩ := id hC
  obtain ⟨w0, w1, w2, w3, w4, w5, w6, w7⟩ := id hW
  obtain ⟨n1, n2, n3⟩ := isL_ne hL
  obtain ⟨n4, n5, n6⟩ := id hd
  refine r_aload_n (pc' := 1) dX2_sewOn_0 rfl rfl ?_
  refine r_getf (pc' := 4) (kI := 3) dX2_sewOn_1 rfl fX2_21 hL.1 rfl rfl hc ?_
  refine r_bipush (pc' := 6) dX2_sewOn_4 rfl (by decide) ?_
  refine r_icmp_lt (tgt := 10) (pc' := 9) dX2_sewOn_6 rfl rfl (by omega) (by omega) (fun c6 => ?_) (fun c6 => ?_)
  · refine r_aload_n (pc' := 11) dX2_sewOn_10 rfl rfl ?_
    refine r_getf (pc' := 14) (kI := 3) dX2_sewOn_11 rfl fX2_21 hL.1 rfl rfl hc ?_
    refine r_istore_n (pc' := 15) dX2_sewOn_14 rfl rfl ?_
    refine l_sew hL x (Ln v - y) (Ln v) g rfl h2 (by omega) ?_
    refine r_aload_n (pc' := 41) dX2_sewOn_40 rfl rfl ?_
    refine r_getr (pc' := 44) dX2_sewOn_41 rfl fX2_9 hL.1 rfl ?_
    refine r_iload_n (pc' := 45) dX2_sewOn_44 rfl rfl ?_
    refine r_iload_n (pc' := 46) dX2_sewOn_45 rfl rfl ?_
    refine r_iastore (pc' := 47) dX2_sewOn_46 rfl hL.2.1 (by decide) (by omega) (by omega) rfl ?_
    refine r_aload_n (pc' := 48) dX2_sewOn_47 rfl rfl ?_
    refine r_dup (pc' := 49) dX2_sewOn_48 rfl rfl ?_
    refine r_getf (pc' := 52) (kI := 3) (x := (Ln v : Int)) dX2_sewOn_49 rfl fX2_21 hL.1 rfl rfl (by rw [mu_ne n1, shr_ne n1]; exact hc) ?_
    refine r_iconst (pc' := 53) dX2_sewOn_52 rfl ?_
    refine r_iadd (pc' := 54) dX2_sewOn_53 rfl ?_
    refine r_putf (pc' := 57) (kI := 3) dX2_sewOn_54 rfl fX2_21 hL.1 rfl (Or.inl rfl) rfl rfl ?_
    refine r_aload_n (pc' := 58) dX2_sewOn_57 rfl rfl ?_
    refine r_getr (pc' := 61) dX2_sewOn_58 rfl fX2_15 hL.1 rfl ?_
    refine r_iload_n (pc' := 62) dX2_sewOn_61 rfl rfl ?_
    refine r_iconst (pc' := 63) dX2_sewOn_62 rfl ?_
    refine r_iastore (pc' := 64) dX2_sewOn_63 rfl hL.2.2.1 (by decide) (by omega) (by omega) rfl ?_
    refine r_aload_n (pc' := 65) dX2_sewOn_64 rfl rfl ?_
    refine r_getr (pc' := 68) dX2_sewOn_65 rfl fX2_18 hL.1 rfl ?_
    refine r_iload_n (pc' := 69) dX2_sewOn_68 rfl rfl ?_
    refine r_dup2 (pc' := 70) dX2_sewOn_69 rfl rfl rfl ?_
    refine r_iaload (pc' := 71) (x := (Lw v x)) dX2_sewOn_70 rfl hL.2.2.2 (by decide) (by omega) (by omega) (by rw [mu_ne n6.symm, mu_ne n3.symm, mu_ne n5.symm, shr_ne n5.symm]; exact hw x hx) ?_
    refine r_iconst (pc' := 72) dX2_sewOn_71 rfl ?_
    refine r_iadd (pc' := 73) dX2_sewOn_72 rfl ?_
    refine r_iastore (pc' := 74) dX2_sewOn_73 rfl hL.2.2.2 (by decide) (by omega) (by omega) rfl ?_
    refine r_retn dX2_sewOn_74 rfl ?_
    refine h _ ?_ (fun j hj => ?_)
    · refine ⟨?_, fun q hq => ?_, fun q hq => ?_, fun q hq => ?_, ?_, ?_, ?_⟩
      · rw [mu_ne n3, mu_ne n2, mu_at]
        rfl
      · have hq1 : q < Ln v + 1 := hq
        rw [mu_ne n5, mu_ne n4, mu_ne n1.symm]
        show mu (shr_ g a y (Ln v)) a y x a q = ((if q < y then Lo v q else if q = y then x else Lo v (q - 1) : Nat) : Int)
        by_cases q1 : q < y
        · rw [mu_at' (by omega), if_pos q1]
          unfold shr_
          rw [if_neg (by omega)]
          exact ho q (by omega)
        · rw [if_neg q1]
          by_cases q2 : q = y
          · subst q2
            rw [mu_at, if_pos rfl]
          · rw [mu_at' (by omega), if_neg q2]
            unfold shr_
            rw [if_pos ⟨rfl, by omega, by omega⟩, show (q : Int) - 1 = ((q - 1 : Nat) : Int) by omega]
            exact ho (q - 1) (by omega)
      · rw [mu_ne n6]
        show mu _ f x 0 f q = if q = x then 0 else Lf v q
        by_cases qx : q = x
        · subst qx
          rw [mu_at, if_pos rfl]
        · rw [mu_at' (by omega), if_neg qx, mu_ne n2.symm, mu_ne n4.symm, shr_ne n4.symm]
          exact hf q hq
      · show mu _ w x (Lw v x + 1) w q = if q = x then Lw v q + 1 else Lw v q
        by_cases qx : q = x
        · subst qx
          rw [mu_at, if_pos rfl]
        · rw [mu_at' (by omega), if_neg qx, mu_ne n6.symm, mu_ne n3.symm, mu_ne n5.symm, shr_ne n5.symm]
          exact hw q hq
      · rw [mu_ne n3, mu_ne n2, mu_at' (by decide), mu_ne n1, shr_ne n1]; exact ht
      · rw [mu_ne n3, mu_ne n2, mu_at' (by decide), mu_ne n1, shr_ne n1]; exact hi
      · rw [mu_ne n3, mu_ne n2, mu_at' (by decide), mu_ne n1, shr_ne n1]; exact hy
    · simp only [List.mem_cons, List.not_mem_nil, or_false, not_or] at hj
      rw [mu_ne hj.2.2.2, mu_ne hj.2.2.1, mu_ne hj.1, mu_ne hj.2.1, shr_ne hj.2.1]
  · exact absurd (show (Ln v : Int) < 7 by omega) c6
theorem cpy_at {g : Mem} {b a : Nat} {n q : Int} (h0 : 0 ≤ q) (h1 : q < n) : mcpy g b a 0 0 n a q = g b q := by
  unfold mcpy
  rw [if_pos ⟨rfl, by omega, by omega⟩, show (0 : Int) + (q - 0) = q by omega]
theorem a_copyL {X : CX} {d : Nat} {g : Mem} {K : Mem → Prop} {i a f w i2 a2 f2 w2 F : Nat} {v : LV} (hL : isL i a f w) (hM : isL i2 a2 f2 w2) (hC : LC g i2 a2 f2 w2 v) (hW : LW F v) (hnd : [i, a, f, w, i2, a2, f2, w2].Nodup) (h : ∀ g', LC g' i a f w v → Fr [i, a, f, w] g g' → K g') : EV X (d + 1) mX2_copyFrom [vr i, vr i2] Z0 g K := by
  show AJ X (d + 1) mX2_copyFrom 0 0 (QV Z0 K) 0 0 0 [some (vr i), some (vr i2)] [] Z0 g
  obtain ⟨hc, ho, hf, hw, ht, hi, hy⟩ := id hC
  obtain ⟨w0, w1, w2_, w3, w4, w5, w6, w7⟩ := id hW
  simp only [List.nodup_cons, List.mem_cons, List.not_mem_nil, or_false, not_or] at hnd
  obtain ⟨⟨x1, x2, x3, x4, x5, x6, x7⟩, ⟨x8, x9, x10, x11, x12, x13⟩, ⟨x14, x15, x16, x17, x18⟩, ⟨x19, x20, x21, x22⟩, ⟨x23, x24, x25⟩, ⟨x26, x27⟩, x28, -⟩ := hnd
  refine r_aload_n (pc' := 1) dX2_copyFrom_0 rfl rfl ?_
  refine r_getr (pc' := 4) dX2_copyFrom_1 rfl fX2_9 hM.1 rfl ?_
  refine r_iconst (pc' := 5) dX2_copyFrom_4 rfl ?_
  refine r_aload_n (pc' := 6) dX2_copyFrom_5 rfl rfl ?_
  refine r_getr (pc' := 9) dX2_copyFrom_6 rfl fX2_9 hL.1 rfl ?_
  refine r_iconst (pc' := 10) dX2_copyFrom_9 rfl ?_
  refine r_bipush (pc' := 12) dX2_copyFrom_10 rfl (by decide) ?_
  refine r_copy (pc' := 15) dX2_copyFrom_12 rfl ⟨lX2_48, acN, acS, acI⟩ hM.2.1 hL.2.1 (by omega) (by omega) (by omega) (by omega) (by omega) (by decide) (by decide) rfl rfl ?_
  refine r_aload_n (pc' := 16) dX2_copyFrom_15 rfl rfl ?_
  refine r_getr (pc' := 19) dX2_copyFrom_16 rfl fX2_15 hM.1 rfl ?_
  refine r_iconst (pc' := 20) dX2_copyFrom_19 rfl ?_
  refine r_aload_n (pc' := 21) dX2_copyFrom_20 rfl rfl ?_
  refine r_getr (pc' := 24) dX2_copyFrom_21 rfl fX2_15 hL.1 rfl ?_
  refine r_iconst (pc' := 25) dX2_copyFrom_24 rfl ?_
  refine r_bipush (pc' := 27) dX2_copyFrom_25 rfl (by decide) ?_
  refine r_copy (pc' := 30) dX2_copyFrom_27 rfl ⟨lX2_48, acN, acS, acI⟩ hM.2.2.1 hL.2.2.1 (by omega) (by omega) (by omega) (by omega) (by omega) (by decide) (by decide) rfl rfl ?_
  refine r_aload_n (pc' := 31) dX2_copyFrom_30 rfl rfl ?_
  refine r_getr (pc' := 34) dX2_copyFrom_31 rfl fX2_18 hM.1 rfl ?_
  refine r_iconst (pc' := 35) dX2_copyFrom_34 rfl ?_
  refine r_aload_n (pc' := 36) dX2_copyFrom_35 rfl rfl ?_
  refine r_getr (pc' := 39) dX2_copyFrom_36 rfl fX2_18 hL.1 rfl ?_
  refine r_iconst (pc' := 40) dX2_copyFrom_39 rfl ?_
  refine r_bipush (pc' := 42) dX2_copyFrom_40 rfl (by decide) ?_
  refine r_copy (pc' := 45) dX2_copyFrom_42 rfl ⟨lX2_48, acN, acS, acI⟩ hM.2.2.2 hL.2.2.2 (by omega) (by omega) (by omega) (by omega) (by omega) (by decide) (by decide) rfl rfl ?_
  refine r_aload_n (pc' := 46) dX2_copyFrom_45 rfl rfl ?_
  refine r_aload_n (pc' := 47) dX2_copyFrom_46 rfl rfl ?_
  refine r_getf (pc' := 50) (kI := 3) (x := (Ln v : Int)) dX2_copyFrom_47 rfl fX2_21 hM.1 rfl rfl (by rw [cpy_ne (Ne.symm x19), cpy_ne (Ne.symm x15), cpy_ne (Ne.symm x10)]; exact hc) ?_
  refine r_putf (pc' := 53) (kI := 3) dX2_copyFrom_50 rfl fX2_21 hL.1 rfl (Or.inl rfl) rfl rfl ?_
  refine r_aload_n (pc' := 54) dX2_copyFrom_53 rfl rfl ?_
  refine r_aload_n (pc' := 55) dX2_copyFrom_54 rfl rfl ?_
  refine r_getf (pc' := 58) (kI := 4) (x := (Lt v : Int)) dX2_copyFrom_55 rfl fX2_25 hM.1 rfl rfl (by rw [mu_ne (Ne.symm x4), cpy_ne (Ne.symm x19), cpy_ne (Ne.symm x15), cpy_ne (Ne.symm x10)]; exact ht) ?_
  refine r_putf (pc' := 61) (kI := 4) dX2_copyFrom_58 rfl fX2_25 hL.1 rfl (Or.inl rfl) rfl rfl ?_
  refine r_aload_n (pc' := 62) dX2_copyFrom_61 rfl rfl ?_
  refine r_aload_n (pc' := 63) dX2_copyFrom_62 rfl rfl ?_
  refine r_getf (pc' := 66) (kI := 5) (x := (Li v : Int)) dX2_copyFrom_63 rfl fX2_28 hM.1 rfl rfl (by rw [mu_ne (Ne.symm x4), mu_ne (Ne.symm x4), cpy_ne (Ne.symm x19), cpy_ne (Ne.symm x15), cpy_ne (Ne.symm x10)]; exact hi) ?_
  refine r_putf (pc' := 69) (kI := 5) dX2_copyFrom_66 rfl fX2_28 hL.1 rfl (Or.inl rfl) rfl rfl ?_
  refine r_aload_n (pc' := 70) dX2_copyFrom_69 rfl rfl ?_
  refine r_aload_n (pc' := 71) dX2_copyFrom_70 rfl rfl ?_
  refine r_getf (pc' := 74) (kI := 6) (x := (Ly v : Int)) dX2_copyFrom_71 rfl fX2_31 hM.1 rfl rfl (by rw [mu_ne (Ne.symm x4), mu_ne (Ne.symm x4), mu_ne (Ne.symm x4), cpy_ne (Ne.symm x19), cpy_ne (Ne.symm x15), cpy_ne (Ne.symm x10)]; exact hy) ?_
  refine r_putf (pc' := 77) (kI := 6) dX2_copyFrom_74 rfl fX2_31 hL.1 rfl (Or.inl rfl) rfl rfl ?_
  refine r_retn dX2_copyFrom_77 rfl ?_
  refine h _ ?_ (fun j hj => ?_)
  · refine ⟨?_, fun q hq => ?_, fun q hq => ?_, fun q hq => ?_, ?_, ?_, ?_⟩
    · rw [mu_at' (by decide), mu_at' (by decide), mu_at' (by decide), mu_at]
    · have hq1 : q < Ln v := hq
      rw [mu_ne (Ne.symm x1), mu_ne (Ne.symm x1), mu_ne (Ne.symm x1), mu_ne (Ne.symm x1), cpy_ne x9, cpy_ne x8]
      unfold mcpy
      rw [if_pos ⟨rfl, by omega, by omega⟩, show (0 : Int) + ((q : Int) - 0) = q by omega]
      exact ho q hq1
    · rw [mu_ne (Ne.symm x2), mu_ne (Ne.symm x2), mu_ne (Ne.symm x2), mu_ne (Ne.symm x2), cpy_ne x14]
      show mcpy _ f2 f 0 0 7 f q = _
      unfold mcpy
      rw [if_pos ⟨rfl, by omega, by omega⟩, show (0 : Int) + ((q : Int) - 0) = q by omega]
      rw [if_neg (fun hh => x12 hh.1.symm)]
      exact hf q hq
    · rw [mu_ne (Ne.symm x3), mu_ne (Ne.symm x3), mu_ne (Ne.symm x3), mu_ne (Ne.symm x3)]
      show mcpy _ w2 w 0 0 7 w q = _
      have e : mcpy (mcpy g a2 a 0 0 7) f2 f 0 0 7 w2 = g w2 := by rw [cpy_ne (Ne.symm x18), cpy_ne (Ne.symm x13)]
      rw [cpy_at (by omega) (by omega), e]
      exact hw q hq
    · rw [mu_at' (by decide), mu_at' (by decide), mu_at]
    · rw [mu_at' (by decide), mu_at]
    · rw [mu_at]
  · simp only [List.mem_cons, List.not_mem_nil, or_false, not_or] at hj
    rw [mu_ne hj.1, mu_ne hj.1, mu_ne hj.1, mu_ne hj.1, cpy_ne hj.2.2.2, cpy_ne hj.2.2.1, cpy_ne hj.2.1]
def idF (g : Mem) (a : Nat) (p n : Int) : Mem := fun j q => if j = a ∧ p ≤ q ∧ q < n then q else g j q
theorem id_step {g : Mem} {a : Nat} {p n : Int} (h : p < n) : idF (mu g a p p) a (p + 1) n = idF g a p n := by
  funext j q
  unfold idF mu
  by_cases hj : j = a
  · subst hj
    simp only [true_and]
    repeat' split
    all_goals first | rfl | (exfalso; omega) | omega
  · simp only [hj, false_and, if_false]
theorem id_end {g : Mem} {a : Nat} {p n : Int} (h : n ≤ p) : idF g a p n = g := by
  funext j q
  unfold idF
  rw [if_neg (by omega)]
theorem id_ne {g : Mem} {a j : Nat} {p n : Int} (h : j ≠ a) : idF g a p n j = g j := by funext q; simp [idF, h]
theorem l_hang {X : CX} {d : Nat} {K : Mem → Prop} {i a f w j0 : Nat} (hL : isL i a f w) {n : Nat} (hn : n ≤ 7) : ∀ (k p : Nat) (g : Mem), p + k = n → g i 3 = n → AJ X (d) mX2_hangAll 0 0 (QV Z0 K) 0 0 47 [some (vr i), some (vr j0), some (vi (n : Int))] [] Z0 (idF g a p n) → AJ X (d) mX2_hangAll 0 0 (QV Z0 K) 0 0 26 [some (vr i), some (vr j0), some (vi (p : Int))] [] Z0 g := by
  obtain ⟨n1, n2, n3⟩ := isL_ne hL
  intro k
  induction k with
  | zero =>
    intro p g hk hc h
    have e : (n : Int) = (p : Int) := by omega
    refine r_iload_n (pc' := 27) dX2_hangAll_26 rfl rfl ?_
    refine r_aload_n (pc' := 28) dX2_hangAll_27 rfl rfl ?_
    refine r_getf (pc' := 31) (kI := 3) dX2_hangAll_28 rfl fX2_21 hL.1 rfl rfl hc ?_
    refine r_icmp_ge (tgt := 47) (pc' := 34) dX2_hangAll_31 rfl rfl (by omega) (by omega) (fun c31 => ?_) (fun c31 => ?_)
    · rw [id_end (by omega), e] at h
      exact h
    · exact absurd c31 (by omega)
  | succ k ih =>
    intro p g hk hc h
    refine r_iload_n (pc' := 27) dX2_hangAll_26 rfl rfl ?_
    refine r_aload_n (pc' := 28) dX2_hangAll_27 rfl rfl ?_
    refine r_getf (pc' := 31) (kI := 3) dX2_hangAll_28 rfl fX2_21 hL.1 rfl rfl hc ?_
    refine r_icmp_ge (tgt := 47) (pc' := 34) dX2_hangAll_31 rfl rfl (by omega) (by omega) (fun c31 => ?_) (fun c31 => ?_)
    · exact absurd c31 (by omega)
    · refine r_aload_n (pc' := 35) dX2_hangAll_34 rfl rfl ?_
      refine r_getr (pc' := 38) dX2_hangAll_35 rfl fX2_9 hL.1 rfl ?_
      refine r_iload_n (pc' := 39) dX2_hangAll_38 rfl rfl ?_
      refine r_iload_n (pc' := 40) dX2_hangAll_39 rfl rfl ?_
      refine r_iastore (pc' := 41) dX2_hangAll_40 rfl hL.2.1 (by decide) (by omega) (by omega) rfl ?_
      refine r_iinc (pc' := 44) dX2_hangAll_41 rfl rfl rfl ?_
      refine r_goto (tgt := 26) dX2_hangAll_44 rfl ?_
      exact ih (p + 1) _ (by omega) (by rw [mu_ne n1]; exact hc) (by rw [show (((p + 1 : Nat)) : Int) = (p : Int) + 1 from rfl, id_step (by omega)]; exact h)
theorem a_hang {X : CX} {d : Nat} {g : Mem} {K : Mem → Prop} {i a f w : Nat} (hL : isL i a f w) (hd : isD a f w) {j pa pb pc pe pf ph : Nat} {u : PV} (hP : isP j pa pb pc pe pf ph) (hQ : PC_ g j pa pb pc pe pf ph u) (hU : PW u) (hnj : j ∉ [i, a, f, w]) (h : ∀ g', LC g' i a f w (hangV u) → Fr [i, a, f, w] g g' → K g') : EV X (d + 1) mX2_hangAll [vr i, vr j] Z0 g K := by
  show AJ X (d + 1) mX2_hangAll 0 0 (QV Z0 K) 0 0 0 [some (vr i), some (vr j), none] [] Z0 g
  obtain ⟨p6, p7, p8, p9, p10, pk, pg, px, py⟩ := id hQ
  obtain ⟨u0, u1, u2, u3, u4, u5, u6, u7⟩ := id hU
  obtain ⟨n1, n2, n3⟩ := isL_ne hL
  obtain ⟨n4, n5, n6⟩ := id hd
  simp only [List.mem_cons, List.not_mem_nil, or_false, not_or] at hnj
  obtain ⟨m1, m2, m3, m4⟩ := hnj
  refine r_aload_n (pc' := 1) dX2_hangAll_0 rfl rfl ?_
  refine r_getr (pc' := 4) dX2_hangAll_1 rfl fX2_15 hL.1 rfl ?_
  refine r_iconst (pc' := 5) dX2_hangAll_4 rfl ?_
  refine r_sv2 (pc' := 8) dX2_hangAll_5 rfl qJ7_fill lX2_34 rfl rfl rfl (Nat.zero_le _) (Nat.zero_le _) (a_fill hL.2.2.1 (by decide) 0 ?_)
  refine r_aload_n (pc' := 9) dX2_hangAll_8 rfl rfl ?_
  refine r_getr (pc' := 12) dX2_hangAll_9 rfl fX2_18 hL.1 rfl ?_
  refine r_iconst (pc' := 13) dX2_hangAll_12 rfl ?_
  refine r_sv2 (pc' := 16) dX2_hangAll_13 rfl qJ7_fill lX2_34 rfl rfl rfl (Nat.zero_le _) (Nat.zero_le _) (a_fill hL.2.2.2 (by decide) 0 ?_)
  refine r_aload_n (pc' := 17) dX2_hangAll_16 rfl rfl ?_
  refine r_aload_n (pc' := 18) dX2_hangAll_17 rfl rfl ?_
  refine r_getf (pc' := 21) (kI := 8) (x := (Pf u : Int)) dX2_hangAll_18 rfl fX2_40 hP.1 rfl rfl (by rw [fil_ne m4, fil_ne m3]; exact p8) ?_
  refine r_putf (pc' := 24) (kI := 3) dX2_hangAll_21 rfl fX2_21 hL.1 rfl (Or.inl rfl) rfl rfl ?_
  refine r_iconst (pc' := 25) dX2_hangAll_24 rfl ?_
  refine r_istore_n (pc' := 26) dX2_hangAll_25 rfl rfl ?_
  refine l_hang hL u2 (Pf u) 0 _ (by omega) (by rw [mu_at]) ?_
  refine r_aload_n (pc' := 48) dX2_hangAll_47 rfl rfl ?_
  refine r_iconst (pc' := 49) dX2_hangAll_48 rfl ?_
  refine r_putf (pc' := 52) (kI := 4) dX2_hangAll_49 rfl fX2_25 hL.1 rfl (Or.inl rfl) rfl rfl ?_
  refine r_aload_n (pc' := 53) dX2_hangAll_52 rfl rfl ?_
  refine r_aload_n (pc' := 54) dX2_hangAll_53 rfl rfl ?_
  refine r_getf (pc' := 57) (kI := 7) (x := (Pi u : Int)) dX2_hangAll_54 rfl fX2_45 hP.1 rfl rfl (by rw [mu_ne m1, id_ne m2, mu_ne m1, fil_ne m4, fil_ne m3]; exact p7) ?_
  refine r_putf (pc' := 60) (kI := 5) dX2_hangAll_57 rfl fX2_28 hL.1 rfl (Or.inl rfl) rfl rfl ?_
  refine r_aload_n (pc' := 61) dX2_hangAll_60 rfl rfl ?_
  refine r_iconst (pc' := 62) dX2_hangAll_61 rfl ?_
  refine r_putf (pc' := 65) (kI := 6) dX2_hangAll_62 rfl fX2_31 hL.1 rfl (Or.inl rfl) rfl rfl ?_
  refine r_retn dX2_hangAll_65 rfl ?_
  refine h _ ?_ (fun j hj => ?_)
  · refine ⟨?_, fun q hq => ?_, fun q hq => ?_, fun q hq => ?_, ?_, ?_, ?_⟩
    · rw [mu_at' (by decide), mu_at' (by decide), mu_at' (by decide), id_ne n1, mu_at]; rfl
    · have hq1 : q < Pf u := hq
      rw [mu_ne n1.symm, mu_ne n1.symm, mu_ne n1.symm]
      unfold idF
      rw [if_pos ⟨rfl, by omega, by omega⟩]
      rfl
    · rw [mu_ne n2.symm, mu_ne n2.symm, mu_ne n2.symm, id_ne n4.symm, mu_ne n2.symm, fil_ne n6]
      unfold filF
      rw [if_pos ⟨rfl, by omega, by omega⟩]
      rfl
    · rw [mu_ne n3.symm, mu_ne n3.symm, mu_ne n3.symm, id_ne n5.symm, mu_ne n3.symm]
      unfold filF
      rw [if_pos ⟨rfl, by omega, by omega⟩]
      rfl
    · rw [mu_at' (by decide), mu_at' (by decide), mu_at]; rfl
    · rw [mu_at' (by decide), mu_at]; rfl
    · rw [mu_at]; rfl
  · simp only [List.mem_cons, List.not_mem_nil, or_false, not_or] at hj
    rw [mu_ne hj.1, mu_ne hj.1, mu_ne hj.1, id_ne hj.2.1, mu_ne hj.1, fil_ne hj.2.2.2, fil_ne hj.2.2.1]
