theorem bitI_R (s b : Int) : R32 (b_and (b_shr s b) 1) := i32_R _
/-- the set of the first n of a row -/
def orTo (o : Int → Int) : Nat → Int
  | 0 => 0
  | n + 1 => b_or (orTo o n) (b_shl 1 (o n))
/-- the first place of f among the first n, from p on -/
def plc (o : Int → Int) (f : Int) : Nat → Nat → Int
  | 0, _ => -1
  | k + 1, p => if o p = f then p else plc o f k (p + 1)
theorem a_hasBit {X : CX} {d : Nat} {g : Mem} {K : Int → Mem → Prop} (s b : Int) (h : K (bitI s b) g) : EI X (d) mX10_hasBit [vi s, vi b] Z0 g K := by
  show AJ X (d) mX10_hasBit 0 0 (QI Z0 K) 0 0 0 [some (vi s), some (vi b)] [] Z0 g
  refine r_iload_n (pc' := 1) dX10_hasBit_0 rfl rfl ?_
  refine r_iload_n (pc' := 2) dX10_hasBit_1 rfl rfl ?_
  refine r_ishr (pc' := 3) dX10_hasBit_2 rfl ?_
  refine r_iconst (pc' := 4) dX10_hasBit_3 rfl ?_
  refine r_iand (pc' := 5) dX10_hasBit_4 rfl ?_
  refine r_if_eq (tgt := 12) (pc' := 8) dX10_hasBit_5 rfl rfl (bitI_R _ _) (fun c5 => ?_) (fun c5 => ?_)
  · refine r_iconst (pc' := 13) dX10_hasBit_12 rfl ?_
    refine r_reti dX10_hasBit_13 rfl (Or.inr ⟨rfl, by first | exact Or.inl rfl | exact Or.inr rfl | omega⟩) ?_
    rcases bitI_01 s b with e | e
    · first | (rw [e] at h; exact h) | exact absurd e c5
    · first | (rw [e] at h; exact h) | exact absurd (e.symm.trans c5) (by decide)
  · refine r_iconst (pc' := 9) dX10_hasBit_8 rfl ?_
    refine r_goto (tgt := 13) dX10_hasBit_9 rfl ?_
    refine r_reti dX10_hasBit_13 rfl (Or.inr ⟨rfl, by first | exact Or.inl rfl | exact Or.inr rfl | omega⟩) ?_
    rcases bitI_01 s b with e | e
    · first | (rw [e] at h; exact h) | exact absurd e c5
    · first | (rw [e] at h; exact h) | exact absurd (e.symm.trans c5) (by decide)
theorem a_flagAt {X : CX} {d : Nat} {g : Mem} {K : Int → Mem → Prop} {i o f w : Nat} (hL : isL i o f w) (p : Int) (hp : R32 p) (hc : g i 3 ≤ 7 ∧ 0 ≤ g i 3) (h : K (if 0 ≤ p ∧ p < g i 3 then g o p else -1) g) : EI X (d) mX2_flagAt [vr i, vi p] Z0 g K := by
  show AJ X (d) mX2_flagAt 0 0 (QI Z0 K) 0 0 0 [some (vr i), some (vi p)] [] Z0 g
  refine r_iload_n (pc' := 1) dX2_flagAt_0 rfl rfl ?_
  refine r_if_lt (tgt := 21) (pc' := 4) dX2_flagAt_1 rfl rfl (by omega) (fun c1 => ?_) (fun c1 => ?_)
  · refine r_iconst (pc' := 22) dX2_flagAt_21 rfl ?_
    refine r_reti dX2_flagAt_22 rfl (Or.inl rfl) ?_
    first | (rw [if_pos ⟨by omega, by omega⟩] at h; exact h) | (rw [if_neg (by omega)] at h; exact h)
  · refine r_iload_n (pc' := 5) dX2_flagAt_4 rfl rfl ?_
    refine r_aload_n (pc' := 6) dX2_flagAt_5 rfl rfl ?_
    refine r_getf (pc' := 9) (kI := 3) dX2_flagAt_6 rfl fX2_21 hL.1 rfl rfl rfl ?_
    refine r_icmp_ge (tgt := 21) (pc' := 12) dX2_flagAt_9 rfl rfl (by omega) (by omega) (fun c9 => ?_) (fun c9 => ?_)
    · refine r_iconst (pc' := 22) dX2_flagAt_21 rfl ?_
      refine r_reti dX2_flagAt_22 rfl (Or.inl rfl) ?_
      first | (rw [if_pos ⟨by omega, by omega⟩] at h; exact h) | (rw [if_neg (by omega)] at h; exact h)
    · refine r_aload_n (pc' := 13) dX2_flagAt_12 rfl rfl ?_
      refine r_getr (pc' := 16) dX2_flagAt_13 rfl fX2_9 hL.1 rfl ?_
      refine r_iload_n (pc' := 17) dX2_flagAt_16 rfl rfl ?_
      refine r_iaload (pc' := 18) dX2_flagAt_17 rfl hL.2.1 (by decide) (by omega) (by omega) rfl ?_
      refine r_goto (tgt := 22) dX2_flagAt_18 rfl ?_
      refine r_reti dX2_flagAt_22 rfl (Or.inl rfl) ?_
      first | (rw [if_pos ⟨by omega, by omega⟩] at h; exact h) | (rw [if_neg (by omega)] at h; exact h)
theorem l_placeOf {X : CX} {d : Nat} {g : Mem} {K : Int → Mem → Prop} {i o f w : Nat} (hL : isL i o f w) (x : Int) (hx : R32 x) (n : Nat) (hn : n ≤ 7) (hc : g i 3 = n) (ho : ∀ p : Nat, p < n → R32 (g o p)) : ∀ (k p : Nat), p + k = n → K (plc (g o) x k p) g → AJ X (d) mX2_placeOf 0 0 (QI Z0 K) 0 0 2 [some (vr i), some (vi x), some (vi (p : Int))] [] Z0 g := by
  intro k
  induction k with
  | zero =>
    intro p hp h
    refine r_iload_n (pc' := 3) dX2_placeOf_2 rfl rfl ?_
    refine r_aload_n (pc' := 4) dX2_placeOf_3 rfl rfl ?_
    refine r_getf (pc' := 7) (kI := 3) dX2_placeOf_4 rfl fX2_21 hL.1 rfl rfl rfl ?_
    refine r_icmp_ge (tgt := 28) (pc' := 10) dX2_placeOf_7 rfl rfl (by omega) (by omega) (fun c7 => ?_) (fun c7 => ?_)
    · refine r_iconst (pc' := 29) dX2_placeOf_28 rfl ?_
      refine r_reti dX2_placeOf_29 rfl (Or.inl rfl) ?_
      sorry
    · exact absurd c7 (by omega)
  | succ k ih =>
    intro p hp h
    have hop := ho p (by omega)
    refine r_iload_n (pc' := 3) dX2_placeOf_2 rfl rfl ?_
    refine r_aload_n (pc' := 4) dX2_placeOf_3 rfl rfl ?_
    refine r_getf (pc' := 7) (kI := 3) dX2_placeOf_4 rfl fX2_21 hL.1 rfl rfl rfl ?_
    refine r_icmp_ge (tgt := 28) (pc' := 10) dX2_placeOf_7 rfl rfl (by omega) (by omega) (fun c7 => ?_) (fun c7 => ?_)
    · exact absurd c7 (by omega)
    · refine r_aload_n (pc' := 11) dX2_placeOf_10 rfl rfl ?_
      refine r_getr (pc' := 14) dX2_placeOf_11 rfl fX2_9 hL.1 rfl ?_
      refine r_iload_n (pc' := 15) dX2_placeOf_14 rfl rfl ?_
      refine r_iaload (pc' := 16) dX2_placeOf_15 rfl hL.2.1 (by decide) (by omega) (by omega) rfl ?_
      refine r_iload_n (pc' := 17) dX2_placeOf_16 rfl rfl ?_
      refine r_icmp_ne (tgt := 22) (pc' := 20) dX2_placeOf_17 rfl rfl (by omega) (by omega) (fun c17 => ?_) (fun c17 => ?_)
      · refine r_iinc (pc' := 25) dX2_placeOf_22 rfl rfl rfl ?_
        refine r_goto (tgt := 2) dX2_placeOf_25 rfl ?_
        exact ih (p + 1) (by omega) (by rw [plc, if_neg c17] at h; exact h)
      · refine r_iload_n (pc' := 21) dX2_placeOf_20 rfl rfl ?_
        refine r_reti dX2_placeOf_21 rfl (Or.inl rfl) ?_
        exact (by rw [plc, if_pos (by omega)] at h; exact h)
