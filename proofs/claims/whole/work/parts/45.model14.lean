/-- the reference reads: text of N letters T, at p -/
def MRd (g : Mem) (N : Nat) (T : Nat → Int) (p : Nat) : Prop := g 166 1 = N ∧ N ≤ 240 ∧ (∀ k : Nat, k < N → g 167 k = T k ∧ 0 ≤ T k ∧ T k ≤ 255) ∧ g 166 14 = p ∧ p ≤ N
/-- only pos and wrong change -/
def FrP (g g' : Mem) : Prop := (∀ j, j ≠ 166 → g' j = g j) ∧ ∀ k : Int, k ≠ 14 → k ≠ 16 → g' 166 k = g 166 k
theorem FrP.rf (g : Mem) : FrP g g := ⟨fun _ _ => rfl, fun _ _ _ => rfl⟩
theorem FrP.tr {g g' g'' : Mem} (h : FrP g g') (h' : FrP g' g'') : FrP g g'' := ⟨fun j hj => (h'.1 j hj).trans (h.1 j hj), fun k a b => (h'.2 k a b).trans (h.2 k a b)⟩
theorem FrP.pos (g : Mem) (x : Int) : FrP g (mu g 166 14 x) := ⟨fun j hj => mu_ne hj, fun k a _ => mu_at' a⟩
theorem FrP.wrong (g : Mem) (x : Int) : FrP g (mu g 166 16 x) := ⟨fun j hj => mu_ne hj, fun k _ b => mu_at' b⟩
theorem MRd.pos {g : Mem} {N : Nat} {T : Nat → Int} {p : Nat} (h : MRd g N T p) {q : Nat} {x : Int} (hx : x = q) (hq : q ≤ N) : MRd (mu g 166 14 x) N T q := by
  obtain ⟨h1, h2, h3, h4, h5⟩ := h
  exact ⟨by rw [mu_at' (by decide)]; exact h1, h2, fun k hk => by rw [mu_ne (by decide)]; exact h3 k hk, by rw [mu_at]; exact hx, hq⟩
theorem MRd.wrong {g : Mem} {N : Nat} {T : Nat → Int} {p : Nat} (h : MRd g N T p) (x : Int) : MRd (mu g 166 16 x) N T p := by
  obtain ⟨h1, h2, h3, h4, h5⟩ := h
  exact ⟨by rw [mu_at' (by decide)]; exact h1, h2, fun k hk => by rw [mu_ne (by decide)]; exact h3 k hk, by rw [mu_at' (by decide)]; exact h4, h5⟩
theorem m_next' {X : CX} {d : Nat} {K : Int → Mem → Prop} {N : Nat} {T : Nat → Int} : ∀ (k p : Nat) (g : Mem), N - p = k → MRd g N T p → (∀ g' : Mem, MRd g' N T (skF T k p) → FrP g g' → K (hereT N T (skF T k p)) g') → AJ X (d) mX11_next0 0 0 (QI Z0 K) 0 0 0 [some (vr 166)] [] Z0 g := by
  intro k
  induction k with
  | zero =>
    intro p g hk hR h
    obtain ⟨r1, r2, r3, r4, r5⟩ := id hR
    have e : hereT N T (skF T 0 p) = -1 := by unfold hereT; rw [if_neg (by show ¬ p < N; omega)]
    have h9 := h g hR (FrP.rf g)
    rw [e] at h9
    refine r_aload_n (pc' := 1) dX11_next0_0 rfl rfl ?_
    refine r_getf (pc' := 4) (kI := 14) dX11_next0_1 rfl fX11_76 z166 rfl rfl r4 ?_
    refine r_aload_n (pc' := 5) dX11_next0_4 rfl rfl ?_
    refine r_getf (pc' := 8) (kI := 1) dX11_next0_5 rfl fX11_72 z166 rfl rfl r1 ?_
    refine r_icmp_ge (tgt := 38) (pc' := 11) dX11_next0_8 rfl rfl (by omega) (by omega) (fun c8 => ?_) (fun c8 => ?_)
    · refine r_aload_n (pc' := 39) dX11_next0_38 rfl rfl ?_
      refine r_getf (pc' := 42) (kI := 14) dX11_next0_39 rfl fX11_76 z166 rfl rfl r4 ?_
      refine r_aload_n (pc' := 43) dX11_next0_42 rfl rfl ?_
      refine r_getf (pc' := 46) (kI := 1) dX11_next0_43 rfl fX11_72 z166 rfl rfl r1 ?_
      refine r_icmp_ge (tgt := 61) (pc' := 49) dX11_next0_46 rfl rfl (by omega) (by omega) (fun c46 => ?_) (fun c46 => ?_)
      · refine r_iconst (pc' := 62) dX11_next0_61 rfl ?_
        refine r_reti dX11_next0_62 rfl (Or.inl rfl) ?_
        exact h9
      · exact absurd c46 (by omega)
    · exact absurd c8 (by omega)
  | succ k ih =>
    intro p g hk hR h
    obtain ⟨r1, r2, r3, r4, r5⟩ := id hR
    obtain ⟨q1, q2, q3⟩ := r3 p (by omega)
    unfold skF at h
    refine r_aload_n (pc' := 1) dX11_next0_0 rfl rfl ?_
    refine r_getf (pc' := 4) (kI := 14) dX11_next0_1 rfl fX11_76 z166 rfl rfl r4 ?_
    refine r_aload_n (pc' := 5) dX11_next0_4 rfl rfl ?_
    refine r_getf (pc' := 8) (kI := 1) dX11_next0_5 rfl fX11_72 z166 rfl rfl r1 ?_
    refine r_icmp_ge (tgt := 38) (pc' := 11) dX11_next0_8 rfl rfl (by omega) (by omega) (fun c8 => ?_) (fun c8 => ?_)
    · exact absurd c8 (by omega)
    · refine r_aload_n (pc' := 12) dX11_next0_11 rfl rfl ?_
      refine r_getr (pc' := 15) dX11_next0_12 rfl fX11_7 z166 rfl ?_
      refine r_aload_n (pc' := 16) dX11_next0_15 rfl rfl ?_
      refine r_getf (pc' := 19) (kI := 14) dX11_next0_16 rfl fX11_76 z166 rfl rfl r4 ?_
      refine r_iaload (pc' := 20) dX11_next0_19 rfl z167 (by decide) (by omega) (by omega) q1 ?_
      refine r_bipush (pc' := 22) dX11_next0_20 rfl (by decide) ?_
      refine r_icmp_ne (tgt := 38) (pc' := 25) dX11_next0_22 rfl rfl (by omega) (by omega) (fun c22 => ?_) (fun c22 => ?_)
      · refine r_aload_n (pc' := 39) dX11_next0_38 rfl rfl ?_
        refine r_getf (pc' := 42) (kI := 14) dX11_next0_39 rfl fX11_76 z166 rfl rfl r4 ?_
        refine r_aload_n (pc' := 43) dX11_next0_42 rfl rfl ?_
        refine r_getf (pc' := 46) (kI := 1) dX11_next0_43 rfl fX11_72 z166 rfl rfl r1 ?_
        refine r_icmp_ge (tgt := 61) (pc' := 49) dX11_next0_46 rfl rfl (by omega) (by omega) (fun c46 => ?_) (fun c46 => ?_)
        · exact absurd c46 (by omega)
        · refine r_aload_n (pc' := 50) dX11_next0_49 rfl rfl ?_
          refine r_getr (pc' := 53) dX11_next0_50 rfl fX11_7 z166 rfl ?_
          refine r_aload_n (pc' := 54) dX11_next0_53 rfl rfl ?_
          refine r_getf (pc' := 57) (kI := 14) dX11_next0_54 rfl fX11_76 z166 rfl rfl r4 ?_
          refine r_iaload (pc' := 58) dX11_next0_57 rfl z167 (by decide) (by omega) (by omega) q1 ?_
          refine r_goto (tgt := 62) dX11_next0_58 rfl ?_
          refine r_reti dX11_next0_62 rfl (Or.inl rfl) ?_
          first
            | (exfalso; omega)
            | (rw [if_neg (by assumption)] at h
               have h9 := h g hR (FrP.rf g)
               have e : hereT N T p = T p := by unfold hereT; rw [if_pos (by omega)]
               rw [e] at h9
               exact h9)
      · refine r_aload_n (pc' := 26) dX11_next0_25 rfl rfl ?_
        refine r_dup (pc' := 27) dX11_next0_26 rfl rfl ?_
        refine r_getf (pc' := 30) (kI := 14) dX11_next0_27 rfl fX11_76 z166 rfl rfl r4 ?_
        refine r_iconst (pc' := 31) dX11_next0_30 rfl ?_
        refine r_iadd (pc' := 32) dX11_next0_31 rfl ?_
        refine r_putf (pc' := 35) (kI := 14) dX11_next0_32 rfl fX11_76 z166 rfl (Or.inl rfl) rfl rfl ?_
        refine r_goto (tgt := 0) dX11_next0_35 rfl ?_
        first
          | (exfalso; omega)
          | (rw [if_pos (by assumption)] at h; exact ih (p + 1) _ (by omega) (hR.pos (by omega) (by omega)) (fun g' a b => h g' a ((FrP.pos _ _).tr b)))
theorem m_next0 {X : CX} {d : Nat} {g : Mem} {K : Int → Mem → Prop} {N : Nat} {T : Nat → Int} {p : Nat} (hR : MRd g N T p) (h : ∀ g' : Mem, MRd g' N T (skT N T p) → FrP g g' → K (hereT N T (skT N T p)) g') : EI X d mX11_next0 [vr 166] Z0 g K := m_next' (N - p) p g rfl hR h
theorem m_fig {X : CX} {d : Nat} {g : Mem} {K : Int → Mem → Prop} (x : Int) (hx : R32 x) (h : K (b01 (figB x)) g) : EI X (d + 1) mX11_isFigure [vi x] Z0 g K := by
  show AJ X (d + 1) mX11_isFigure 0 0 (QI Z0 K) 0 0 0 [some (vi x)] [] Z0 g
  refine r_iload_n (pc' := 1) dX11_isFigure_0 rfl rfl ?_
  refine r_bipush (pc' := 3) dX11_isFigure_1 rfl (by decide) ?_
  refine r_bipush (pc' := 5) dX11_isFigure_3 rfl (by decide) ?_
  refine r_si3 (pc' := 8) dX11_isFigure_5 rfl qX11_in lX11_67 rfl rfl rfl (Nat.zero_le _) (Nat.zero_le _) (m_in x 48 57 (by omega) (by omega) (by omega) ?_)
  refine r_reti dX11_isFigure_8 rfl (Or.inr ⟨rfl, b01_01 _⟩) ?_
  exact h
theorem m_faulty {X : CX} {d : Nat} {g : Mem} {K : Int → Mem → Prop} (x : Int) (h : K 0 (mu g 166 16 x)) : EI X (d) mX11_faulty [vr 166, vi x] Z0 g K := by
  show AJ X (d) mX11_faulty 0 0 (QI Z0 K) 0 0 0 [some (vr 166), some (vi x)] [] Z0 g
  refine r_aload_n (pc' := 1) dX11_faulty_0 rfl rfl ?_
  refine r_iload_n (pc' := 2) dX11_faulty_1 rfl rfl ?_
  refine r_putf (pc' := 5) (kI := 16) dX11_faulty_2 rfl fX11_79 z166 rfl (Or.inl rfl) rfl rfl ?_
  refine r_iconst (pc' := 6) dX11_faulty_5 rfl ?_
  refine r_reti dX11_faulty_6 rfl (Or.inr ⟨rfl, by first | exact Or.inl rfl | exact Or.inr rfl | omega⟩) ?_
  exact h
theorem hereT_M {g : Mem} {N : Nat} {T : Nat → Int} {p : Nat} (h : MRd g N T p) (q : Nat) : R32 (hereT N T q) ∧ -1 ≤ hereT N T q ∧ hereT N T q ≤ 255 := by
  unfold hereT
  split
  · have := h.2.2.1 q (by assumption)
    omega
  · decide
theorem m_ends {X : CX} {d : Nat} {g : Mem} {K : Int → Mem → Prop} {N : Nat} {T : Nat → Int} {p : Nat} (hR : MRd g N T p) (h1 : hereT N T (skT N T p) = 59 → ∀ g' : Mem, MRd g' N T (skT N T p + 1) → FrP g g' → K 1 g') (h0 : hereT N T (skT N T p) ≠ 59 → ∀ g' : Mem, MRd g' N T (skT N T p) → g' 166 16 = 1 → FrP g g' → K 0 g') : EI X (d + 1) mX11_ends [vr 166] Z0 g K := by
  show AJ X (d + 1) mX11_ends 0 0 (QI Z0 K) 0 0 0 [some (vr 166)] [] Z0 g
  refine r_aload_n (pc' := 1) dX11_ends_0 rfl rfl ?_
  refine r_vi0 (pc' := 4) dX11_ends_1 rfl qX11_next0 lX11_82 z166 rfl rfl rfl (Nat.zero_le _) (Nat.zero_le _) (m_next0 hR (fun g1 hR1 fr1 => ?_))
  have hq := hR1.2.2.2.2
  refine r_bipush (pc' := 6) dX11_ends_4 rfl (by decide) ?_
  refine r_icmp_eq (tgt := 15) (pc' := 9) dX11_ends_6 rfl rfl (hereT_M hR1 _).1 (by decide) (fun c6 => ?_) (fun c6 => ?_)
  · refine r_aload_n (pc' := 16) dX11_ends_15 rfl rfl ?_
    refine r_dup (pc' := 17) dX11_ends_16 rfl rfl ?_
    refine r_getf (pc' := 20) (kI := 14) dX11_ends_17 rfl fX11_76 z166 rfl rfl hR1.2.2.2.1 ?_
    refine r_iconst (pc' := 21) dX11_ends_20 rfl ?_
    refine r_iadd (pc' := 22) dX11_ends_21 rfl ?_
    refine r_putf (pc' := 25) (kI := 14) dX11_ends_22 rfl fX11_76 z166 rfl (Or.inl rfl) rfl rfl ?_
    refine r_iconst (pc' := 26) dX11_ends_25 rfl ?_
    refine r_reti dX11_ends_26 rfl (Or.inr ⟨rfl, by first | exact Or.inl rfl | exact Or.inr rfl | omega⟩) ?_
    have hlt : skT N T p < N := by
      unfold hereT at c6
      by_cases hc : skT N T p < N
      · exact hc
      · rw [if_neg hc] at c6; exact absurd c6 (by decide)
    exact h1 c6 _ (hR1.pos (by omega) (by omega)) (fr1.tr (FrP.pos _ _))
  · refine r_aload_n (pc' := 10) dX11_ends_9 rfl rfl ?_
    refine r_iconst (pc' := 11) dX11_ends_10 rfl ?_
    refine r_vi1 (pc' := 14) dX11_ends_11 rfl qX11_faulty lX11_90 z166 rfl rfl rfl rfl (Nat.zero_le _) (Nat.zero_le _) (m_faulty 1 ?_)
    refine r_reti dX11_ends_14 rfl (Or.inr ⟨rfl, by first | exact Or.inl rfl | exact Or.inr rfl | omega⟩) ?_
    exact h0 c6 _ (hR1.wrong 1) mu_at (fr1.tr (FrP.wrong _ _))
