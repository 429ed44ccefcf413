def Fr (S : List Nat) (g g' : Mem) : Prop := ∀ j, j ∉ S → g' j = g j
theorem Fr.rf (S : List Nat) (g : Mem) : Fr S g g := fun _ _ => rfl
theorem Fr.tr {S : List Nat} {g g' g'' : Mem} (h : Fr S g g') (h' : Fr S g' g'') : Fr S g g'' := fun j hj => (h' j hj).trans (h j hj)
theorem Fr.sub {S S' : List Nat} {g g' : Mem} (h : Fr S g g') (hs : ∀ j, j ∈ S → j ∈ S') : Fr S' g g' := fun j hj => h j (fun q => hj (hs j q))
theorem isL_ne {i a f w : Nat} (h : isL i a f w) : i ≠ a ∧ i ≠ f ∧ i ≠ w := by
  obtain ⟨h1, h2, h3, h4⟩ := h
  refine ⟨?_, ?_, ?_⟩ <;> (rintro rfl; simp_all)
def isD (a f w : Nat) : Prop := a ≠ f ∧ a ≠ w ∧ f ≠ w
/-- a stretch of a row, the other way round -/
def rv (g : Mem) (a : Nat) (x y : Int) : Mem := fun j q => if j = a ∧ x ≤ q ∧ q ≤ y then g a (x + y - q) else g j q
/-- places lo to hi less 1 take what is behind them; lo + 1 to hi what is ahead -/
def shl_ (g : Mem) (a : Nat) (lo hi : Int) : Mem := fun j q => if j = a ∧ lo ≤ q ∧ q < hi then g a (q + 1) else g j q
def shr_ (g : Mem) (a : Nat) (lo hi : Int) : Mem := fun j q => if j = a ∧ lo < q ∧ q ≤ hi then g a (q - 1) else g j q
theorem rv_step {g : Mem} {a : Nat} {x y : Int} (h : x < y) : rv (mu (mu g a x (g a y)) a y (g a x)) a (x + 1) (y - 1) = rv g a x y := by
  funext j q
  unfold rv mu
  by_cases hj : j = a
  · subst hj
    simp only [true_and]
    repeat' split
    all_goals first | rfl | (exfalso; omega) | (congr 1; omega)
  · simp only [hj, false_and, if_false]
theorem rv_end {g : Mem} {a : Nat} {x y : Int} (h : y ≤ x) : rv g a x y = g := by
  funext j q
  unfold rv
  by_cases hj : j = a
  · subst hj
    simp only [true_and]
    repeat' split
    all_goals first | rfl | (exfalso; omega) | (congr 1; omega)
  · simp only [hj, false_and, if_false]
theorem shl_step {g : Mem} {a : Nat} {p hi : Int} (h : p - 1 < hi) : shl_ (mu g a (p - 1) (g a p)) a p hi = shl_ g a (p - 1) hi := by
  funext j q
  unfold shl_ mu
  by_cases hj : j = a
  · subst hj
    simp only [true_and]
    repeat' split
    all_goals first | rfl | (exfalso; omega) | (congr 1; omega)
  · simp only [hj, false_and, if_false]
theorem shl_end {g : Mem} {a : Nat} {lo hi : Int} (h : hi ≤ lo) : shl_ g a lo hi = g := by
  funext j q
  unfold shl_
  by_cases hj : j = a
  · subst hj
    simp only [true_and]
    repeat' split
    all_goals first | rfl | (exfalso; omega) | (congr 1; omega)
  · simp only [hj, false_and, if_false]
theorem shr_step {g : Mem} {a : Nat} {lo p : Int} (h : lo < p) : shr_ (mu g a p (g a (p - 1))) a lo (p - 1) = shr_ g a lo p := by
  funext j q
  unfold shr_ mu
  by_cases hj : j = a
  · subst hj
    simp only [true_and]
    repeat' split
    all_goals first | rfl | (exfalso; omega) | (congr 1; omega)
  · simp only [hj, false_and, if_false]
theorem shr_end {g : Mem} {a : Nat} {lo hi : Int} (h : hi ≤ lo) : shr_ g a lo hi = g := by
  funext j q
  unfold shr_
  by_cases hj : j = a
  · subst hj
    simp only [true_and]
    repeat' split
    all_goals first | rfl | (exfalso; omega) | (congr 1; omega)
  · simp only [hj, false_and, if_false]
def filF (g : Mem) (a : Nat) (p n z : Int) : Mem := fun j q => if j = a ∧ p ≤ q ∧ q < n then z else g j q
theorem fil_step {g : Mem} {a : Nat} {p n z : Int} (h : p < n) : filF (mu g a p z) a (p + 1) n z = filF g a p n z := by
  funext j q
  unfold filF mu
  by_cases hj : j = a
  · subst hj
    simp only [true_and]
    repeat' split
    all_goals first | rfl | (exfalso; omega) | (congr 1; omega)
  · simp only [hj, false_and, if_false]
theorem fil_end {g : Mem} {a : Nat} {p n z : Int} (h : n ≤ p) : filF g a p n z = g := by
  funext j q
  unfold filF
  by_cases hj : j = a
  · subst hj
    simp only [true_and]
    repeat' split
    all_goals first | rfl | (exfalso; omega) | (congr 1; omega)
  · simp only [hj, false_and, if_false]
theorem l_fill {X : CX} {d : Nat} {K : Mem → Prop} {a len : Nat} (ha : Z0[a]? = some (.inl (0, len))) (hl : len < 1000) (z : Int) : ∀ (k p : Nat) (g : Mem), p + k = len → K (filF g a p len z) → AJ X (d) mJ7_fill 0 0 (QV Z0 K) 0 0 5 [some (vr a), some (vi z), some (vi (p : Int)), some (vi (len : Int))] [] Z0 g := by
  intro k
  induction k with
  | zero =>
    intro p g hp h
    refine r_iload_n (pc' := 6) dJ7_fill_53178_5 rfl rfl ?_
    refine r_iload_n (pc' := 7) dJ7_fill_53178_6 rfl rfl ?_
    refine r_icmp_ge (tgt := 20) (pc' := 10) dJ7_fill_53178_7 rfl rfl (by omega) (by omega) (fun c7 => ?_) (fun c7 => ?_)
    · refine r_retn dJ7_fill_53178_20 rfl ?_
      rw [fil_end (by omega)] at h
      exact h
    · exact absurd c7 (by omega)
  | succ k ih =>
    intro p g hp h
    refine r_iload_n (pc' := 6) dJ7_fill_53178_5 rfl rfl ?_
    refine r_iload_n (pc' := 7) dJ7_fill_53178_6 rfl rfl ?_
    refine r_icmp_ge (tgt := 20) (pc' := 10) dJ7_fill_53178_7 rfl rfl (by omega) (by omega) (fun c7 => ?_) (fun c7 => ?_)
    · exact absurd c7 (by omega)
    · refine r_aload_n (pc' := 11) dJ7_fill_53178_10 rfl rfl ?_
      refine r_iload_n (pc' := 12) dJ7_fill_53178_11 rfl rfl ?_
      refine r_iload_n (pc' := 13) dJ7_fill_53178_12 rfl rfl ?_
      refine r_iastore (pc' := 14) dJ7_fill_53178_13 rfl ha (by omega) (by omega) (by omega) rfl ?_
      refine r_iinc (pc' := 17) dJ7_fill_53178_14 rfl rfl rfl ?_
      refine r_goto (tgt := 5) dJ7_fill_53178_17 rfl ?_
      exact ih (p + 1) _ (by omega) (by rw [show (((p + 1 : Nat)) : Int) = (p : Int) + 1 from rfl, fil_step (by omega)]; exact h)
theorem a_fill {X : CX} {d : Nat} {g : Mem} {K : Mem → Prop} {a len : Nat} (ha : Z0[a]? = some (.inl (0, len))) (hl : len < 1000) (z : Int) (h : K (filF g a 0 len z)) : EV X (d) mJ7_fill [vr a, vi z] Z0 g K := by
  show AJ X (d) mJ7_fill 0 0 (QV Z0 K) 0 0 0 [some (vr a), some (vi z), none, none] [] Z0 g
  refine r_iconst (pc' := 1) dJ7_fill_53178_0 rfl ?_
  refine r_istore_n (pc' := 2) dJ7_fill_53178_1 rfl rfl ?_
  refine r_aload_n (pc' := 3) dJ7_fill_53178_2 rfl rfl ?_
  refine r_alen (pc' := 4) dJ7_fill_53178_3 rfl ha (by decide) ?_
  refine r_istore_n (pc' := 5) dJ7_fill_53178_4 rfl rfl ?_
  exact l_fill ha hl z len 0 g (by omega) h
theorem l_swap {X : CX} {d : Nat} {K : Mem → Prop} {i a f w : Nat} (hL : isL i a f w) (x0 y0 : Int) : ∀ (k : Nat) (x y : Int) (g : Mem) (z : Option VV), 0 ≤ x → x ≤ 7 → -1 ≤ y → y < 7 → y - x < k → K (rv g a x y) → AJ X (d) mX2_swapEnds 0 0 (QV Z0 K) 0 0 5 [some (vr i), some (vi x0), some (vi y0), some (vi x), some (vi y), z] [] Z0 g := by
  intro k
  induction k with
  | zero =>
    intro x y g z h1 h2 h3 h4 h5 h
    refine r_iload_n (pc' := 6) dX2_swapEnds_5 rfl rfl ?_
    refine r_iload (pc' := 8) dX2_swapEnds_6 rfl rfl ?_
    refine r_icmp_ge (tgt := 50) (pc' := 11) dX2_swapEnds_8 rfl rfl (by omega) (by omega) (fun c8 => ?_) (fun c8 => ?_)
    · refine r_retn dX2_swapEnds_50 rfl ?_
      rw [rv_end (by omega)] at h
      exact h
    · exact absurd c8 (by omega)
  | succ k ih =>
    intro x y g z h1 h2 h3 h4 h5 h
    refine r_iload_n (pc' := 6) dX2_swapEnds_5 rfl rfl ?_
    refine r_iload (pc' := 8) dX2_swapEnds_6 rfl rfl ?_
    refine r_icmp_ge (tgt := 50) (pc' := 11) dX2_swapEnds_8 rfl rfl (by omega) (by omega) (fun c8 => ?_) (fun c8 => ?_)
    · refine r_retn dX2_swapEnds_50 rfl ?_
      rw [rv_end (by omega)] at h
      exact h
    · refine r_aload_n (pc' := 12) dX2_swapEnds_11 rfl rfl ?_
      refine r_getr (pc' := 15) dX2_swapEnds_12 rfl fX2_9 hL.1 rfl ?_
      refine r_iload_n (pc' := 16) dX2_swapEnds_15 rfl rfl ?_
      refine r_iaload (pc' := 17) dX2_swapEnds_16 rfl hL.2.1 (by decide) (by omega) (by omega) rfl ?_
      refine r_istore (pc' := 19) dX2_swapEnds_17 rfl rfl ?_
      refine r_aload_n (pc' := 20) dX2_swapEnds_19 rfl rfl ?_
      refine r_getr (pc' := 23) dX2_swapEnds_20 rfl fX2_9 hL.1 rfl ?_
      refine r_iload_n (pc' := 24) dX2_swapEnds_23 rfl rfl ?_
      refine r_aload_n (pc' := 25) dX2_swapEnds_24 rfl rfl ?_
      refine r_getr (pc' := 28) dX2_swapEnds_25 rfl fX2_9 hL.1 rfl ?_
      refine r_iload (pc' := 30) dX2_swapEnds_28 rfl rfl ?_
      refine r_iaload (pc' := 31) dX2_swapEnds_30 rfl hL.2.1 (by decide) (by omega) (by omega) rfl ?_
      refine r_iastore (pc' := 32) dX2_swapEnds_31 rfl hL.2.1 (by decide) (by omega) (by omega) rfl ?_
      refine r_aload_n (pc' := 33) dX2_swapEnds_32 rfl rfl ?_
      refine r_getr (pc' := 36) dX2_swapEnds_33 rfl fX2_9 hL.1 rfl ?_
      refine r_iload (pc' := 38) dX2_swapEnds_36 rfl rfl ?_
      refine r_iload (pc' := 40) dX2_swapEnds_38 rfl rfl ?_
      refine r_iastore (pc' := 41) dX2_swapEnds_40 rfl hL.2.1 (by decide) (by omega) (by omega) rfl ?_
      refine r_iinc (pc' := 44) dX2_swapEnds_41 rfl rfl rfl ?_
      refine r_iinc (pc' := 47) dX2_swapEnds_44 rfl rfl rfl ?_
      refine r_goto (tgt := 5) dX2_swapEnds_47 rfl ?_
      refine ih (x + 1) (y + -1) _ _ (by omega) (by omega) (by omega) (by omega) (by omega) ?_
      rw [show y + -1 = y - 1 by omega, rv_step (by omega)]
      exact h
theorem a_swap {X : CX} {d : Nat} {g : Mem} {K : Mem → Prop} {i a f w : Nat} (hL : isL i a f w) (x y : Int) (h1 : 0 ≤ x) (h2 : x ≤ 7) (h3 : -1 ≤ y) (h4 : y < 7) (h : K (rv g a x y)) : EV X (d) mX2_swapEnds [vr i, vi x, vi y] Z0 g K := by
  show AJ X (d) mX2_swapEnds 0 0 (QV Z0 K) 0 0 0 [some (vr i), some (vi x), some (vi y), none, none, none] [] Z0 g
  refine r_iload_n (pc' := 1) dX2_swapEnds_0 rfl rfl ?_
  refine r_istore_n (pc' := 2) dX2_swapEnds_1 rfl rfl ?_
  refine r_iload_n (pc' := 3) dX2_swapEnds_2 rfl rfl ?_
  refine r_istore (pc' := 5) dX2_swapEnds_3 rfl rfl ?_
  exact l_swap hL x y 9 x y g none h1 h2 h3 h4 (by omega) h
