theorem zl : ∀ k, k < 30 → ([some 23, some 27, some 31, some 35, some 39, some 43, some 47, some 51, some 55, some 59, some 63, some 67, some 71, some 75, some 79, some 83, some 87, some 91, some 95, some 99, some 103, some 107, some 111, some 115, some 119, some 123, some 127, some 131, some 135, some 139] : List (Option Nat))[k]? = some (some (23 + 4 * k))
  | 0, _ => rfl
  | 1, _ => rfl
  | 2, _ => rfl
  | 3, _ => rfl
  | 4, _ => rfl
  | 5, _ => rfl
  | 6, _ => rfl
  | 7, _ => rfl
  | 8, _ => rfl
  | 9, _ => rfl
  | 10, _ => rfl
  | 11, _ => rfl
  | 12, _ => rfl
  | 13, _ => rfl
  | 14, _ => rfl
  | 15, _ => rfl
  | 16, _ => rfl
  | 17, _ => rfl
  | 18, _ => rfl
  | 19, _ => rfl
  | 20, _ => rfl
  | 21, _ => rfl
  | 22, _ => rfl
  | 23, _ => rfl
  | 24, _ => rfl
  | 25, _ => rfl
  | 26, _ => rfl
  | 27, _ => rfl
  | 28, _ => rfl
  | 29, _ => rfl
  | k + 30, h => absurd h (by omega)
theorem isDk (k : Nat) : isD (24 + 4 * k) (25 + 4 * k) (26 + 4 * k) := ⟨by omega, by omega, by omega⟩
/-- cells of what can be undone -/
def pastB (j : Nat) : Prop := j = 21 ∨ (23 ≤ j ∧ j < 143)
def LCk (g : Mem) (k : Nat) (v : LV) : Prop := LC g (23 + 4 * k) (24 + 4 * k) (25 + 4 * k) (26 + 4 * k) v
/-- the latest kn lines, the oldest first -/
def PS (g : Mem) (F kn top : Nat) (L : Nat → LV) : Prop := g 21 2 = kn ∧ kn ≤ 30 ∧ g 21 1 = top ∧ top < 30 ∧ ∀ j, j < kn → LCk g ((top + 30 - kn + j) % 30) (L j) ∧ LW F (L j)
def pN (kn : Nat) : Nat := min (kn + 1) 30
def pL (kn : Nat) (L : Nat → LV) (v : LV) : Nat → LV := fun j => if kn < 30 then (if j < kn then L j else v) else (if j < 29 then L (j + 1) else v)
theorem LCk.fr {g g' : Mem} {k : Nat} {v : LV} (h : LCk g k v) (hf : ∀ j, 23 + 4 * k ≤ j → j < 27 + 4 * k → g' j = g j) : LCk g' k v := LC.fr h (hf _ (by omega) (by omega)) (hf _ (by omega) (by omega)) (hf _ (by omega) (by omega)) (hf _ (by omega) (by omega))
theorem PS.fr {g g' : Mem} {F kn top : Nat} {L : Nat → LV} (h : PS g F kn top L) (hf : ∀ j, pastB j → g' j = g j) : PS g' F kn top L := by
  obtain ⟨h1, h2, h3, h4, h5⟩ := h
  refine ⟨by rw [hf 21 (Or.inl rfl)]; exact h1, h2, by rw [hf 21 (Or.inl rfl)]; exact h3, h4, fun j hj => ⟨(h5 j hj).1.fr (fun q h1 h2 => hf q (Or.inr ⟨by omega, ?_⟩)), (h5 j hj).2⟩⟩
  have := Nat.mod_lt (top + 30 - kn + j) (show 0 < 30 by decide)
  omega
theorem nd8 (k : Nat) : [23 + 4 * k, 24 + 4 * k, 25 + 4 * k, 26 + 4 * k, 17, 18, 19, 20].Nodup := by
  simp only [List.nodup_cons, List.mem_cons, List.not_mem_nil, or_false, not_or, List.nodup_nil, and_true, not_false_eq_true]
  omega
theorem nd8' (k : Nat) : [17, 18, 19, 20, 23 + 4 * k, 24 + 4 * k, 25 + 4 * k, 26 + 4 * k].Nodup := by
  simp only [List.nodup_cons, List.mem_cons, List.not_mem_nil, or_false, not_or, List.nodup_nil, and_true, not_false_eq_true]
  omega
theorem a_remember {X : CX} {d : Nat} {g : Mem} {K : Mem → Prop} {u : PV} {v : LV} (hB : CB g u v) {kn top : Nat} {L : Nat → LV} (hp : PS g (Pf u) kn top L) (h : ∀ g' : Mem, PS g' (Pf u) (pN kn) ((top + 1) % 30) (pL kn L v) → (∀ j, ¬ pastB j → g' j = g j) → K g') : EV X (d + 2) mX4_remember [vr 21, vr 17] Z0 g K := by
  show AJ X (d + 2) mX4_remember 0 0 (QV Z0 K) 0 0 0 [some (vr 21), some (vr 17)] [] Z0 g
  obtain ⟨hQ, hU, hC, hW⟩ := id hB
  obtain ⟨s1, s2, s3, ht0, s5⟩ := id hp
  refine r_aload_n (pc' := 1) dX4_remember_0 rfl rfl ?_
  refine r_getr (pc' := 4) dX4_remember_1 rfl fX4_11 z21 rfl ?_
  refine r_aload_n (pc' := 5) dX4_remember_4 rfl rfl ?_
  refine r_getf (pc' := 8) (kI := 1) dX4_remember_5 rfl fX4_17 z21 rfl rfl s3 ?_
  refine r_aaload (pc' := 9) dX4_remember_8 rfl z22 (fun _ => rfl) (by decide) (by omega) (zl top ht0) ?_
  refine r_aload_n (pc' := 10) dX4_remember_9 rfl rfl ?_
  refine r_vv1 (pc' := 13) dX4_remember_10 rfl qX2_copyFrom lX4_25 (isLk top ht0).1 rfl rfl rfl rfl (Nat.zero_le _) (Nat.zero_le _) (a_copyL (isLk top ht0) isL17 hC hW (nd8 top) (fun g1 hC1 f1 => ?_))
  have f21 : g1 21 = g 21 := f1 21 (by simp only [List.mem_cons, List.not_mem_nil, or_false, not_or]; omega)
  refine r_aload_n (pc' := 14) dX4_remember_13 rfl rfl ?_
  refine r_aload_n (pc' := 15) dX4_remember_14 rfl rfl ?_
  refine r_getf (pc' := 18) (kI := 1) (x := (top : Int)) dX4_remember_15 rfl fX4_17 z21 rfl rfl (by rw [f21]; exact s3) ?_
  refine r_iconst (pc' := 19) dX4_remember_18 rfl ?_
  refine r_iadd (pc' := 20) dX4_remember_19 rfl ?_
  refine r_bipush (pc' := 22) dX4_remember_20 rfl (by decide) ?_
  refine r_irem (pc' := 23) dX4_remember_22 rfl (by omega) (by omega) (by omega) ?_
  refine r_putf (pc' := 26) (kI := 1) dX4_remember_23 rfl fX4_17 z21 rfl (Or.inl rfl) rfl rfl ?_
  refine r_aload_n (pc' := 27) dX4_remember_26 rfl rfl ?_
  refine r_aload_n (pc' := 28) dX4_remember_27 rfl rfl ?_
  refine r_getf (pc' := 31) (kI := 2) (x := (kn : Int)) dX4_remember_28 rfl fX4_21 z21 rfl rfl (by rw [mu_at' (by decide), f21]; exact s1) ?_
  refine r_iconst (pc' := 32) dX4_remember_31 rfl ?_
  refine r_iadd (pc' := 33) dX4_remember_32 rfl ?_
  refine r_bipush (pc' := 35) dX4_remember_33 rfl (by decide) ?_
  refine r_si2 (pc' := 38) dX4_remember_35 rfl qJ9_min lX4_29 rfl rfl rfl (Nat.zero_le _) (Nat.zero_le _) (a_min _ _ (by omega) (by omega) ?_)
  refine r_putf (pc' := 41) (kI := 2) dX4_remember_38 rfl fX4_21 z21 rfl (Or.inl rfl) rfl rfl ?_
  refine r_retn dX4_remember_41 rfl ?_
  have e1 : ((top : Int) + 1).tmod 30 = (((top + 1) % 30 : Nat) : Int) := tm_n (top + 1) 30
  have e2 : min ((kn : Int) + 1) 30 = ((pN kn : Nat) : Int) := by unfold pN; omega
  rw [e1, e2]
  refine h _ ?_ (fun j hj => ?_)
  · refine ⟨by rw [mu_at], by unfold pN; omega, by rw [mu_at' (by decide), mu_at], Nat.mod_lt _ (by decide), fun j hj => ?_⟩
    have hj2 : j < min (kn + 1) 30 := hj
    unfold pL pN
    by_cases hk : kn < 30
    · rw [if_pos hk]
      by_cases hjk : j < kn
      · rw [if_pos hjk]
        obtain ⟨q1, q2⟩ := s5 j hjk
        refine ⟨?_, q2⟩
        rw [show ((top + 1) % 30 + 30 - min (kn + 1) 30 + j) % 30 = (top + 30 - kn + j) % 30 by omega]
        refine q1.fr (fun x hx1 hx2 => ?_)
        rw [mu_ne (by omega), mu_ne (by omega), f1 x (by simp only [List.mem_cons, List.not_mem_nil, or_false, not_or]; omega)]
      · rw [if_neg hjk]
        refine ⟨?_, hW⟩
        rw [show ((top + 1) % 30 + 30 - min (kn + 1) 30 + j) % 30 = top by omega]
        refine LCk.fr (g := g1) hC1 (fun x hx1 hx2 => ?_)
        rw [mu_ne (by omega), mu_ne (by omega)]
    · rw [if_neg hk]
      by_cases hjk : j < 29
      · rw [if_pos hjk]
        obtain ⟨q1, q2⟩ := s5 (j + 1) (by omega)
        refine ⟨?_, q2⟩
        rw [show ((top + 1) % 30 + 30 - min (kn + 1) 30 + j) % 30 = (top + 30 - kn + (j + 1)) % 30 by omega]
        refine q1.fr (fun x hx1 hx2 => ?_)
        rw [mu_ne (by omega), mu_ne (by omega), f1 x (by simp only [List.mem_cons, List.not_mem_nil, or_false, not_or]; omega)]
      · rw [if_neg hjk]
        refine ⟨?_, hW⟩
        rw [show ((top + 1) % 30 + 30 - min (kn + 1) 30 + j) % 30 = top by omega]
        refine LCk.fr (g := g1) hC1 (fun x hx1 hx2 => ?_)
        rw [mu_ne (by omega), mu_ne (by omega)]
  · unfold pastB at hj
    rw [mu_ne (by omega), mu_ne (by omega), f1 j (by simp only [List.mem_cons, List.not_mem_nil, or_false, not_or]; omega)]
theorem a_forget {X : CX} {d : Nat} {g : Mem} {K : Mem → Prop} {F kn top : Nat} {L : Nat → LV} (hp : PS g F kn top L) (h : ∀ g' : Mem, (∀ L', PS g' F 0 top L') → (∀ j, j ≠ 21 → g' j = g j) → K g') : EV X (d) mX4_forget [vr 21] Z0 g K := by
  show AJ X (d) mX4_forget 0 0 (QV Z0 K) 0 0 0 [some (vr 21)] [] Z0 g
  refine r_aload_n (pc' := 1) dX4_forget_0 rfl rfl ?_
  refine r_iconst (pc' := 2) dX4_forget_1 rfl ?_
  refine r_putf (pc' := 5) (kI := 2) dX4_forget_2 rfl fX4_21 z21 rfl (Or.inl rfl) rfl rfl ?_
  refine r_retn dX4_forget_5 rfl ?_
  exact h _ (fun L' => ⟨by rw [mu_at]; rfl, by decide, by rw [mu_at' (by decide)]; exact hp.2.2.1, hp.2.2.2.1, fun j hj => absurd hj (by omega)⟩) (fun j hj => mu_ne hj)
theorem a_bringBack {X : CX} {d : Nat} {g : Mem} {K : Mem → Prop} {u : PV} {v : LV} (hB : CB g u v) {kn top : Nat} {L : Nat → LV} (hp : PS g (Pf u) kn top L) {n : Nat} (h1 : 1 ≤ n) (h2 : n ≤ kn) (h : ∀ g' : Mem, PS g' (Pf u) (kn - n) ((top + 30 - n) % 30) L → LC g' 17 18 19 20 (L (kn - n)) → LW (Pf u) (L (kn - n)) → (∀ j, j ≠ 21 → j ≠ 17 → j ≠ 18 → j ≠ 19 → j ≠ 20 → g' j = g j) → K g') : EV X (d + 2) mX4_bringBack [vr 21, vi (n : Int), vr 17] Z0 g K := by
  show AJ X (d + 2) mX4_bringBack 0 0 (QV Z0 K) 0 0 0 [some (vr 21), some (vi (n : Int)), some (vr 17)] [] Z0 g
  obtain ⟨hQ, hU, hC, hW⟩ := id hB
  obtain ⟨s1, s2, s3, ht0, s5⟩ := id hp
  have em : ((top : Int) - (n : Int)) % 30 = (((top + 30 - n) % 30 : Nat) : Int) := by omega
  have hl := Nat.mod_lt (top + 30 - n) (show 0 < 30 by decide)
  obtain ⟨q1, q2⟩ := s5 (kn - n) (by omega)
  rw [show (top + 30 - kn + (kn - n)) % 30 = (top + 30 - n) % 30 by omega] at q1
  refine r_aload_n (pc' := 1) dX4_bringBack_0 rfl rfl ?_
  refine r_aload_n (pc' := 2) dX4_bringBack_1 rfl rfl ?_
  refine r_getf (pc' := 5) (kI := 1) dX4_bringBack_2 rfl fX4_17 z21 rfl rfl s3 ?_
  refine r_iload_n (pc' := 6) dX4_bringBack_5 rfl rfl ?_
  refine r_isub (pc' := 7) dX4_bringBack_6 rfl ?_
  refine r_bipush (pc' := 9) dX4_bringBack_7 rfl (by decide) ?_
  refine r_si2 (pc' := 12) dX4_bringBack_9 rfl qJ9_floorMod lX4_35 rfl rfl rfl (Nat.zero_le _) (Nat.zero_le _) (a_fmod _ (by omega) (by omega) ?_)
  rw [em]
  refine r_putf (pc' := 15) (kI := 1) dX4_bringBack_12 rfl fX4_17 z21 rfl (Or.inl rfl) rfl rfl ?_
  refine r_aload_n (pc' := 16) dX4_bringBack_15 rfl rfl ?_
  refine r_dup (pc' := 17) dX4_bringBack_16 rfl rfl ?_
  refine r_getf (pc' := 20) (kI := 2) (x := (kn : Int)) dX4_bringBack_17 rfl fX4_21 z21 rfl rfl (by rw [mu_at' (by decide)]; exact s1) ?_
  refine r_iload_n (pc' := 21) dX4_bringBack_20 rfl rfl ?_
  refine r_isub (pc' := 22) dX4_bringBack_21 rfl ?_
  refine r_putf (pc' := 25) (kI := 2) dX4_bringBack_22 rfl fX4_21 z21 rfl (Or.inl rfl) rfl rfl ?_
  refine r_aload_n (pc' := 26) dX4_bringBack_25 rfl rfl ?_
  refine r_aload_n (pc' := 27) dX4_bringBack_26 rfl rfl ?_
  refine r_getr (pc' := 30) dX4_bringBack_27 rfl fX4_11 z21 rfl ?_
  refine r_aload_n (pc' := 31) dX4_bringBack_30 rfl rfl ?_
  refine r_getf (pc' := 34) (kI := 1) (x := (((top + 30 - n) % 30 : Nat) : Int)) dX4_bringBack_31 rfl fX4_17 z21 rfl rfl (by rw [mu_at' (by decide), mu_at]) ?_
  refine r_aaload (pc' := 35) dX4_bringBack_34 rfl z22 (fun _ => rfl) (by decide) (by omega) (zl _ hl) ?_
  refine r_vv1 (pc' := 38) dX4_bringBack_35 rfl qX2_copyFrom lX4_25 isL17.1 rfl rfl rfl rfl (Nat.zero_le _) (Nat.zero_le _) (a_copyL isL17 (isLk _ hl) (LCk.fr q1 (fun x hx1 hx2 => by rw [mu_ne (by omega), mu_ne (by omega)])) q2 (nd8' _) (fun g1 hC1 f1 => ?_))
  refine r_retn dX4_bringBack_38 rfl ?_
  have f21 : g1 21 = _ := f1 21 (by decide)
  refine h g1 ?_ hC1 q2 (fun j a1 a2 a3 a4 a5 => ?_)
  · refine ⟨by rw [f21, mu_at]; omega, by omega, by rw [f21, mu_at' (by decide), mu_at], hl, fun j hj => ?_⟩
    obtain ⟨r1, r2⟩ := s5 j (by omega)
    refine ⟨?_, r2⟩
    rw [show ((top + 30 - n) % 30 + 30 - (kn - n) + j) % 30 = (top + 30 - kn + j) % 30 by omega]
    refine r1.fr (fun x hx1 hx2 => ?_)
    rw [f1 x (by simp only [List.mem_cons, List.not_mem_nil, or_false, not_or]; omega), mu_ne (by omega), mu_ne (by omega)]
  · rw [f1 j (by simp only [List.mem_cons, List.not_mem_nil, or_false, not_or]; omega), mu_ne a1, mu_ne a1]
