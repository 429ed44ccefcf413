def turnV (v : LV) (k : Nat) : LV := (Ln v, fun p => if p < k then Lo v (k - 1 - p) else Lo v p, Lf v, Lw v, Lt v, Li v, Ly v)
def cutV (v : LV) (p : Nat) : LV := (Ln v, fun q => Lo v ((q + p) % Ln v), Lf v, Lw v, Lt v, Li v, Ly v)
def dropV (v : LV) (p : Nat) : LV := (Ln v - 1, fun q => if p ≤ q then Lo v (q + 1) else Lo v q, Lf v, Lw v, difN (Lt v) (2 ^ Lo v p), Li v, Ly v)
def sewV (v : LV) (x p : Nat) : LV := (Ln v + 1, fun q => if q < p then Lo v q else if q = p then x else Lo v (q - 1), fun k => if k = x then 0 else Lf v k, fun k => if k = x then Lw v k + 1 else Lw v k, Lt v, Li v, Ly v)
def hangV (u : PV) : LV := (Pf u, fun p => p, fun _ => 0, fun _ => 0, 0, Pi u, 0)
theorem LC.fr {g g' : Mem} {i a f w : Nat} {v : LV} (h : LC g i a f w v) (h1 : g' i = g i) (h2 : g' a = g a) (h3 : g' f = g f) (h4 : g' w = g w) : LC g' i a f w v := by
  unfold LC
  rw [h1, h2, h3, h4]
  exact h
theorem mu_ne {g : Mem} {i j : Nat} {k v : Int} (h : j ≠ i) : mu g i k v j = g j := mu_off h
theorem mu_at {g : Mem} {i : Nat} {k v : Int} : mu g i k v i k = v := by simp [mu]
theorem mu_at' {g : Mem} {i : Nat} {k q v : Int} (h : q ≠ k) : mu g i k v i q = g i q := by simp [mu, h]
theorem rv_ne {g : Mem} {a j : Nat} {x y : Int} (h : j ≠ a) : rv g a x y j = g j := by funext q; simp [rv, h]
theorem shl_ne {g : Mem} {a j : Nat} {x y : Int} (h : j ≠ a) : shl_ g a x y j = g j := by funext q; simp [shl_, h]
theorem shr_ne {g : Mem} {a j : Nat} {x y : Int} (h : j ≠ a) : shr_ g a x y j = g j := by funext q; simp [shr_, h]
theorem fil_ne {g : Mem} {a j : Nat} {p n z : Int} (h : j ≠ a) : filF g a p n z j = g j := by funext q; simp [filF, h]
theorem cpy_ne {g : Mem} {b a j : Nat} {x y n : Int} (h : j ≠ a) : mcpy g b a x y n j = g j := by funext q; simp [mcpy, h]
theorem a_turnF {X : CX} {d : Nat} {g : Mem} {K : Mem → Prop} {i a f w F : Nat} {v : LV} (hL : isL i a f w) (hC : LC g i a f w v) (hW : LW F v) (hd : isD a f w) {k : Nat} (h1 : 1 ≤ k) (h2 : k ≤ Ln v) (h : ∀ g', LC g' i a f w (turnV v k) → Fr [a] g g' → K g') : EV X (d + 1) mX2_turnFront [vr i, vi (k : Int)] Z0 g K := by
  show AJ X (d + 1) mX2_turnFront 0 0 (QV Z0 K) 0 0 0 [some (vr i), some (vi (k : Int))] [] Z0 g
  obtain ⟨hc, ho, hf, hw, ht, hi, hy⟩ := id hC
  obtain ⟨w0, w1, w2, w3, w4, w5, w6, w7⟩ := id hW
  obtain ⟨n1, n2, n3⟩ := isL_ne hL
  obtain ⟨n4, n5, n6⟩ := id hd
  refine r_aload_n (pc' := 1) dX2_turnFront_0 rfl rfl ?_
  refine r_iconst (pc' := 2) dX2_turnFront_1 rfl ?_
  refine r_iload_n (pc' := 3) dX2_turnFront_2 rfl rfl ?_
  refine r_iconst (pc' := 4) dX2_turnFront_3 rfl ?_
  refine r_isub (pc' := 5) dX2_turnFront_4 rfl ?_
  refine r_vv2 (pc' := 8) dX2_turnFront_5 rfl qX2_swapEnds lX2_68 hL.1 rfl rfl rfl rfl (Nat.zero_le _) (Nat.zero_le _) (a_swap hL 0 _ (by omega) (by omega) (by omega) (by omega) ?_)
  refine r_retn dX2_turnFront_8 rfl ?_
  refine h _ ?_ (fun j hj => rv_ne (by simpa using hj))
  refine ⟨by rw [rv_ne n1]; exact hc, fun p hp => ?_, fun q hq => by rw [rv_ne n4.symm]; exact hf q hq, fun q hq => by rw [rv_ne n5.symm]; exact hw q hq, by rw [rv_ne n1]; exact ht, by rw [rv_ne n1]; exact hi, by rw [rv_ne n1]; exact hy⟩
  show rv g a 0 ((k : Int) - 1) a p = ((if p < k then Lo v (k - 1 - p) else Lo v p : Nat) : Int)
  have hpn : p < Ln v := hp
  unfold rv
  by_cases hpk : p < k
  · rw [if_pos ⟨rfl, by omega, by omega⟩, if_pos hpk, show 0 + ((k : Int) - 1) - (p : Int) = ((k - 1 - p : Nat) : Int) by omega]
    exact ho _ (by omega)
  · rw [if_neg (by omega), if_neg hpk]
    exact ho p hpn
theorem a_cutAt {X : CX} {d : Nat} {g : Mem} {K : Mem → Prop} {i a f w F : Nat} {v : LV} (hL : isL i a f w) (hC : LC g i a f w v) (hW : LW F v) (hd : isD a f w) {p : Nat} (h2 : p < Ln v) (h : ∀ g', LC g' i a f w (cutV v p) → Fr [a] g g' → K g') : EV X (d + 1) mX2_cutAt [vr i, vi (p : Int)] Z0 g K := by
  show AJ X (d + 1) mX2_cutAt 0 0 (QV Z0 K) 0 0 0 [some (vr i), some (vi (p : Int))] [] Z0 g
  obtain ⟨hc, ho, hf, hw, ht, hi, hy⟩ := id hC
  obtain ⟨w0, w1, w2, w3, w4, w5, w6, w7⟩ := id hW
  obtain ⟨n1, n2, n3⟩ := isL_ne hL
  obtain ⟨n4, n5, n6⟩ := id hd
  refine r_aload_n (pc' := 1) dX2_cutAt_0 rfl rfl ?_
  refine r_iconst (pc' := 2) dX2_cutAt_1 rfl ?_
  refine r_iload_n (pc' := 3) dX2_cutAt_2 rfl rfl ?_
  refine r_iconst (pc' := 4) dX2_cutAt_3 rfl ?_
  refine r_isub (pc' := 5) dX2_cutAt_4 rfl ?_
  refine r_vv2 (pc' := 8) dX2_cutAt_5 rfl qX2_swapEnds lX2_68 hL.1 rfl rfl rfl rfl (Nat.zero_le _) (Nat.zero_le _) (a_swap hL 0 _ (by omega) (by omega) (by omega) (by omega) ?_)
  refine r_aload_n (pc' := 9) dX2_cutAt_8 rfl rfl ?_
  refine r_iload_n (pc' := 10) dX2_cutAt_9 rfl rfl ?_
  refine r_aload_n (pc' := 11) dX2_cutAt_10 rfl rfl ?_
  refine r_getf (pc' := 14) (kI := 3) (x := (Ln v : Int)) dX2_cutAt_11 rfl fX2_21 hL.1 rfl rfl (by rw [rv_ne n1]; exact hc) ?_
  refine r_iconst (pc' := 15) dX2_cutAt_14 rfl ?_
  refine r_isub (pc' := 16) dX2_cutAt_15 rfl ?_
  refine r_vv2 (pc' := 19) dX2_cutAt_16 rfl qX2_swapEnds lX2_68 hL.1 rfl rfl rfl rfl (Nat.zero_le _) (Nat.zero_le _) (a_swap hL _ _ (by omega) (by omega) (by omega) (by omega) ?_)
  refine r_aload_n (pc' := 20) dX2_cutAt_19 rfl rfl ?_
  refine r_iconst (pc' := 21) dX2_cutAt_20 rfl ?_
  refine r_aload_n (pc' := 22) dX2_cutAt_21 rfl rfl ?_
  refine r_getf (pc' := 25) (kI := 3) (x := (Ln v : Int)) dX2_cutAt_22 rfl fX2_21 hL.1 rfl rfl (by rw [rv_ne n1, rv_ne n1]; exact hc) ?_
  refine r_iconst (pc' := 26) dX2_cutAt_25 rfl ?_
  refine r_isub (pc' := 27) dX2_cutAt_26 rfl ?_
  refine r_vv2 (pc' := 30) dX2_cutAt_27 rfl qX2_swapEnds lX2_68 hL.1 rfl rfl rfl rfl (Nat.zero_le _) (Nat.zero_le _) (a_swap hL _ _ (by omega) (by omega) (by omega) (by omega) ?_)
  refine r_retn dX2_cutAt_30 rfl ?_
  refine h _ ?_ (fun j hj => by rw [rv_ne (by simpa using hj), rv_ne (by simpa using hj), rv_ne (by simpa using hj)])
  refine ⟨by rw [rv_ne n1, rv_ne n1, rv_ne n1]; exact hc, fun q hq => ?_, fun q hq => by rw [rv_ne n4.symm, rv_ne n4.symm, rv_ne n4.symm]; exact hf q hq, fun q hq => by rw [rv_ne n5.symm, rv_ne n5.symm, rv_ne n5.symm]; exact hw q hq, by rw [rv_ne n1, rv_ne n1, rv_ne n1]; exact ht, by rw [rv_ne n1, rv_ne n1, rv_ne n1]; exact hi, by rw [rv_ne n1, rv_ne n1, rv_ne n1]; exact hy⟩
  have hqn : q < Ln v := hq
  show rv (rv (rv g a 0 ((p : Int) - 1)) a p ((Ln v : Int) - 1)) a 0 ((Ln v : Int) - 1) a q = ((Lo v ((q + p) % Ln v) : Nat) : Int)
  by_cases hs : q + p < Ln v
  · rw [Nat.mod_eq_of_lt hs, ← ho (q + p) hs]
    unfold rv
    simp only [true_and]
    repeat' split
    all_goals first | (exfalso; omega) | (congr 1; omega)
  · rw [Nat.mod_eq_sub_mod (by omega), Nat.mod_eq_of_lt (by omega), ← ho (q + p - Ln v) (by omega)]
    unfold rv
    simp only [true_and]
    repeat' split
    all_goals first | (exfalso; omega) | (congr 1; omega)
theorem l_take {X : CX} {d : Nat} {K : Mem → Prop} {i a f w : Nat} (hL : isL i a f w) {n : Nat} (hn : n ≤ 7) (y0 : Int) : ∀ (k p : Nat) (g : Mem), n - p = k → 1 ≤ p → p ≤ n → g i 3 = n → K (mu (shl_ g a ((p : Int) - 1) ((n : Int) - 1)) i 3 ((n : Int) - 1)) → AJ X (d) mX2_takeOff 0 0 (QV Z0 K) 0 0 36 [some (vr i), some (vi y0), some (vi (p : Int))] [] Z0 g := by
  obtain ⟨n1, n2, n3⟩ := isL_ne hL
  intro k
  induction k with
  | zero =>
    intro p g hk h1 h2 hc h
    refine r_iload_n (pc' := 37) dX2_takeOff_36 rfl rfl ?_
    refine r_aload_n (pc' := 38) dX2_takeOff_37 rfl rfl ?_
    refine r_getf (pc' := 41) (kI := 3) dX2_takeOff_38 rfl fX2_21 hL.1 rfl rfl hc ?_
    refine r_icmp_ge (tgt := 64) (pc' := 44) dX2_takeOff_41 rfl rfl (by omega) (by omega) (fun c41 => ?_) (fun c41 => ?_)
    · refine r_aload_n (pc' := 65) dX2_takeOff_64 rfl rfl ?_
      refine r_dup (pc' := 66) dX2_takeOff_65 rfl rfl ?_
      refine r_getf (pc' := 69) (kI := 3) dX2_takeOff_66 rfl fX2_21 hL.1 rfl rfl hc ?_
      refine r_iconst (pc' := 70) dX2_takeOff_69 rfl ?_
      refine r_isub (pc' := 71) dX2_takeOff_70 rfl ?_
      refine r_putf (pc' := 74) (kI := 3) dX2_takeOff_71 rfl fX2_21 hL.1 rfl (Or.inl rfl) rfl rfl ?_
      refine r_retn dX2_takeOff_74 rfl ?_
      rw [shl_end (by omega)] at h
      exact h
    · exact absurd c41 (by omega)
  | succ k ih =>
    intro p g hk h1 h2 hc h
    refine r_iload_n (pc' := 37) dX2_takeOff_36 rfl rfl ?_
    refine r_aload_n (pc' := 38) dX2_takeOff_37 rfl rfl ?_
    refine r_getf (pc' := 41) (kI := 3) dX2_takeOff_38 rfl fX2_21 hL.1 rfl rfl hc ?_
    refine r_icmp_ge (tgt := 64) (pc' := 44) dX2_takeOff_41 rfl rfl (by omega) (by omega) (fun c41 => ?_) (fun c41 => ?_)
    · exact absurd c41 (by omega)
    · refine r_aload_n (pc' := 45) dX2_takeOff_44 rfl rfl ?_
      refine r_getr (pc' := 48) dX2_takeOff_45 rfl fX2_9 hL.1 rfl ?_
      refine r_iload_n (pc' := 49) dX2_takeOff_48 rfl rfl ?_
      refine r_iconst (pc' := 50) dX2_takeOff_49 rfl ?_
      refine r_isub (pc' := 51) dX2_takeOff_50 rfl ?_
      refine r_aload_n (pc' := 52) dX2_takeOff_51 rfl rfl ?_
      refine r_getr (pc' := 55) dX2_takeOff_52 rfl fX2_9 hL.1 rfl ?_
      refine r_iload_n (pc' := 56) dX2_takeOff_55 rfl rfl ?_
      refine r_iaload (pc' := 57) dX2_takeOff_56 rfl hL.2.1 (by decide) (by omega) (by omega) rfl ?_
      refine r_iastore (pc' := 58) dX2_takeOff_57 rfl hL.2.1 (by decide) (by omega) (by omega) rfl ?_
      refine r_iinc (pc' := 61) dX2_takeOff_58 rfl rfl rfl ?_
      refine r_goto (tgt := 36) dX2_takeOff_61 rfl ?_
      exact ih (p + 1) _ (by omega) (by omega) (by omega) (by rw [mu_ne n1]; exact hc) (by rw [show (((p + 1 : Nat)) : Int) - 1 = p by omega, shl_step (by omega)]; exact h)
theorem a_takeOff {X : CX} {d : Nat} {g : Mem} {K : Mem → Prop} {i a f w F : Nat} {v : LV} (hL : isL i a f w) (hC : LC g i a f w v) (hW : LW F v) (hd : isD a f w) {y : Nat} (h2 : y < Ln v) (h : ∀ g', LC g' i a f w (dropV v y) → Fr [i, a] g g' → K g') : EV X (d) mX2_takeOff [vr i, vi (y : Int)] Z0 g K := by
  show AJ X (d) mX2_takeOff 0 0 (QV Z0 K) 0 0 0 [some (vr i), some (vi (y : Int)), none] [] Z0 g
  obtain ⟨hc, ho, hf, hw, ht, hi, hy⟩ := id hC
  obtain ⟨w0, w1, w2, w3, w4, w5, w6, w7⟩ := id hW
  obtain ⟨n1, n2, n3⟩ := isL_ne hL
  obtain ⟨n4, n5, n6⟩ := id hd
  have wy := w2 y h2
  have e : b_and (Lt v : Int) (b_xor (b_shl 1 (Lo v y : Int)) (-1)) = ((difN (Lt v) (2 ^ Lo v y) : Nat) : Int) := by rw [shl1 (by omega)]; exact dif_n w4
  refine r_iload_n (pc' := 1) dX2_takeOff_0 rfl rfl ?_
  refine r_if_lt (tgt := 12) (pc' := 4) dX2_takeOff_1 rfl rfl (by omega) (fun c1 => ?_) (fun c1 => ?_)
  · exact absurd c1 (by omega)
  · refine r_iload_n (pc' := 5) dX2_takeOff_4 rfl rfl ?_
    refine r_aload_n (pc' := 6) dX2_takeOff_5 rfl rfl ?_
    refine r_getf (pc' := 9) (kI := 3) dX2_takeOff_6 rfl fX2_21 hL.1 rfl rfl hc ?_
    refine r_icmp_lt (tgt := 13) (pc' := 12) dX2_takeOff_9 rfl rfl (by omega) (by omega) (fun c9 => ?_) (fun c9 => ?_)
    · refine r_aload_n (pc' := 14) dX2_takeOff_13 rfl rfl ?_
      refine r_dup (pc' := 15) dX2_takeOff_14 rfl rfl ?_
      refine r_getf (pc' := 18) (kI := 4) dX2_takeOff_15 rfl fX2_25 hL.1 rfl rfl ht ?_
      refine r_iconst (pc' := 19) dX2_takeOff_18 rfl ?_
      refine r_aload_n (pc' := 20) dX2_takeOff_19 rfl rfl ?_
      refine r_getr (pc' := 23) dX2_takeOff_20 rfl fX2_9 hL.1 rfl ?_
      refine r_iload_n (pc' := 24) dX2_takeOff_23 rfl rfl ?_
      refine r_iaload (pc' := 25) dX2_takeOff_24 rfl hL.2.1 (by decide) (by omega) (by omega) (ho y h2) ?_
      refine r_ishl (pc' := 26) dX2_takeOff_25 rfl ?_
      refine r_iconst (pc' := 27) dX2_takeOff_26 rfl ?_
      refine r_ixor (pc' := 28) dX2_takeOff_27 rfl ?_
      refine r_iand (pc' := 29) dX2_takeOff_28 rfl ?_
      rw [e]
      refine r_putf (pc' := 32) (kI := 4) dX2_takeOff_29 rfl fX2_25 hL.1 rfl (Or.inl rfl) rfl rfl ?_
      refine r_iload_n (pc' := 33) dX2_takeOff_32 rfl rfl ?_
      refine r_iconst (pc' := 34) dX2_takeOff_33 rfl ?_
      refine r_iadd (pc' := 35) dX2_takeOff_34 rfl ?_
      refine r_istore_n (pc' := 36) dX2_takeOff_35 rfl rfl ?_
      refine l_take hL w1 y (Ln v - (y + 1)) (y + 1) _ rfl (by omega) (by omega) (by rw [mu_at' (by decide)]; exact hc) ?_
      rw [show (((y + 1 : Nat)) : Int) - 1 = y by omega]
      refine h _ ?_ (fun j hj => ?_)
      · refine ⟨?_, fun q hq => ?_, fun q hq => ?_, fun q hq => ?_, ?_, ?_, ?_⟩
        · rw [mu_at]
          show (Ln v : Int) - 1 = ((Ln v - 1 : Nat) : Int)
          omega
        · have hq1 : q < Ln v - 1 := hq
          rw [mu_ne n1.symm]
          show shl_ _ a _ _ a q = ((if y ≤ q then Lo v (q + 1) else Lo v q : Nat) : Int)
          unfold shl_
          by_cases hyq : y ≤ q
          · rw [if_pos ⟨rfl, by omega, by omega⟩, if_pos hyq, mu_ne n1.symm]
            exact ho (q + 1) (by omega)
          · rw [if_neg (by omega), if_neg hyq, mu_ne n1.symm]
            exact ho q (by omega)
        · rw [mu_ne n2.symm, shl_ne n4.symm, mu_ne n2.symm]; exact hf q hq
        · rw [mu_ne n3.symm, shl_ne n5.symm, mu_ne n3.symm]; exact hw q hq
        · rw [mu_at' (by decide), shl_ne n1, mu_at]; rfl
        · rw [mu_at' (by decide), shl_ne n1, mu_at' (by decide)]; exact hi
        · rw [mu_at' (by decide), shl_ne n1, mu_at' (by decide)]; exact hy
      · simp only [List.mem_cons, List.not_mem_nil, or_false, not_or] at hj
        rw [mu_ne hj.1, shl_ne hj.2, mu_ne hj.1]
    · exact absurd (show (y : Int) < Ln v by omega) c9
