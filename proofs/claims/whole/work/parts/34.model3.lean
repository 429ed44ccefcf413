theorem lm_far {X : CX} {d : Nat} {g : Mem} {K : Int → Mem → Prop} {u : PV} {v : LV} (hB : MB g u v)  (s : Int) (hs0 : 0 ≤ s) (hs1 : s ≤ 99) : ∀ (k p : Nat) (best : Int), p + k = Ln v → K (faF (farC u v s) k p best) g → AJ X (d + 2) mX11_farthest 0 0 (QI Z0 K) 0 0 17 [some (vr 166), some (vi s), some (vi best), some (vi (p : Int))] [] Z0 g := by
  obtain ⟨hQ, hU, hC, hW⟩ := id hB
  obtain ⟨hy, hi, hc, ht, ho, hf, hw_⟩ := id hC
  obtain ⟨w0, w1, w2, w3, w4, w5, w6, w7⟩ := id hW
  obtain ⟨p6, p7, p8, p9, p10, pk, pg, px, py⟩ := id hQ
  obtain ⟨u0, u1, u2, u3, u4, u5, u6, u7⟩ := id hU
  intro k
  induction k with
  | zero =>
    intro p best hp h
    refine r_iload_n (pc' := 18) dX11_farthest_17 rfl rfl ?_
    refine r_aload_n (pc' := 19) dX11_farthest_18 rfl rfl ?_
    refine r_getr (pc' := 22) dX11_farthest_19 rfl fX11_19 z166 rfl ?_
    refine r_iconst (pc' := 23) dX11_farthest_22 rfl ?_
    refine r_iaload (pc' := 24) dX11_farthest_23 rfl z170 (by decide) (by omega) (by omega) hc ?_
    refine r_icmp_ge (tgt := 48) (pc' := 27) dX11_farthest_24 rfl rfl (by omega) (by omega) (fun c24 => ?_) (fun c24 => ?_)
    · refine r_iload_n (pc' := 49) dX11_farthest_48 rfl rfl ?_
      refine r_reti dX11_farthest_49 rfl (Or.inl rfl) ?_
      exact h
    · exact absurd c24 (by omega)
  | succ k ih =>
    intro p best hp h
    have hb := plF_b (u := u) (o := Lo v) (wet := Lt v) (min (Ln v) p) 0 s
    rw [show faF (farC u v s) (k + 1) p best = faF (farC u v s) k (p + 1) (if decide (0 < max 0 (plF (Lo v) (Ph u) (Lt v) (min (Ln v) p) 0 s)) = true then (p : Int) else best) from rfl] at h
    refine r_iload_n (pc' := 18) dX11_farthest_17 rfl rfl ?_
    refine r_aload_n (pc' := 19) dX11_farthest_18 rfl rfl ?_
    refine r_getr (pc' := 22) dX11_farthest_19 rfl fX11_19 z166 rfl ?_
    refine r_iconst (pc' := 23) dX11_farthest_22 rfl ?_
    refine r_iaload (pc' := 24) dX11_farthest_23 rfl z170 (by decide) (by omega) (by omega) hc ?_
    refine r_icmp_ge (tgt := 48) (pc' := 27) dX11_farthest_24 rfl rfl (by omega) (by omega) (fun c24 => ?_) (fun c24 => ?_)
    · exact absurd c24 (by omega)
    · refine r_aload_n (pc' := 28) dX11_farthest_27 rfl rfl ?_
      refine r_iload_n (pc' := 29) dX11_farthest_28 rfl rfl ?_
      refine r_iload_n (pc' := 30) dX11_farthest_29 rfl rfl ?_
      refine r_vi2 (pc' := 33) dX11_farthest_30 rfl qX11_feltAt lX11_215 z166 rfl rfl rfl rfl (Nat.zero_le _) (Nat.zero_le _) (m_felt hB (by omega) (by omega) (y := p) (by omega) ?_)
      refine r_if_le (tgt := 40) (pc' := 36) dX11_farthest_33 rfl rfl (by omega) (fun c33 => ?_) (fun c33 => ?_)
      · refine r_iload_n (pc' := 41) dX11_farthest_40 rfl rfl ?_
        refine r_istore_n (pc' := 42) dX11_farthest_41 rfl rfl ?_
        refine r_iinc (pc' := 45) dX11_farthest_42 rfl rfl rfl ?_
        refine r_goto (tgt := 17) dX11_farthest_45 rfl ?_
        first | (rw [decide_eq_true (by omega), if_pos rfl] at h; exact ih (p + 1) _ (by omega) h) | (rw [decide_eq_false (by omega), if_neg (by decide)] at h; exact ih (p + 1) _ (by omega) h)
      · refine r_iload_n (pc' := 37) dX11_farthest_36 rfl rfl ?_
        refine r_goto (tgt := 41) dX11_farthest_37 rfl ?_
        refine r_istore_n (pc' := 42) dX11_farthest_41 rfl rfl ?_
        refine r_iinc (pc' := 45) dX11_farthest_42 rfl rfl rfl ?_
        refine r_goto (tgt := 17) dX11_farthest_45 rfl ?_
        first | (rw [decide_eq_true (by omega), if_pos rfl] at h; exact ih (p + 1) _ (by omega) h) | (rw [decide_eq_false (by omega), if_neg (by decide)] at h; exact ih (p + 1) _ (by omega) h)
theorem M_farthest {X : CX} {d : Nat} {g : Mem} {K : Int → Mem → Prop} {tN : Nat} {tX : Nat → Int} {flt : Int} {u : PV} {v : LV} {kn : Nat} {kL : Nat → LV} {im : Nat → Bool × Int × LV} {sd : Int} {ln : Nat} {la : Nat → Nat} {lr : Nat → Bool} {bn : Nat} {bp : Nat → Nat} {bf : Nat → Int} (hM : MS g tN tX flt u v kn kL im sd ln la lr bn bp bf) (hS : WS tN tX flt u v kn kL im sd ln la lr bn bp bf) (s : Int) (hs : R32 s) (h : ∀ g' : Mem, MS g' tN tX flt u v kn kL im sd ln la lr bn bp bf → FrM g g' → K (E_far u v s) g') : EI X (d + 2) mX11_farthest [vr 166, vi s] Z0 g K := by
  show AJ X (d + 2) mX11_farthest 0 0 (QI Z0 K) 0 0 0 [some (vr 166), some (vi s), none, none] [] Z0 g
  obtain ⟨⟨m1, m2⟩, m3, m4, m5, ⟨m6, m7⟩, m8, m9, ⟨m10, m11⟩, ⟨m12, m13⟩⟩ := id hM
  obtain ⟨⟨s1, s2⟩, s3, s4, s5, ⟨s6, s7⟩, s8, ⟨s9, s10⟩, ⟨s11, s12⟩, ⟨s13, s14⟩⟩ := id hS
  have hB : MB g u v := ⟨m4, s4, m5, s5⟩
  obtain ⟨hQ, hU, hC, hW⟩ := id hB
  obtain ⟨hy, hi, hc, ht, ho, hf, hw_⟩ := id hC
  obtain ⟨w0, w1, w2, w3, w4, w5, w6, w7⟩ := id hW
  obtain ⟨p6, p7, p8, p9, p10, pk, pg, px, py⟩ := id hQ
  obtain ⟨u0, u1, u2, u3, u4, u5, u6, u7⟩ := id hU
  have h9 := h g hM (FrM.rf g)
  unfold E_far at h9
  refine r_iload_n (pc' := 1) dX11_farthest_0 rfl rfl ?_
  refine r_iconst (pc' := 2) dX11_farthest_1 rfl ?_
  refine r_bipush (pc' := 4) dX11_farthest_2 rfl (by decide) ?_
  refine r_si3 (pc' := 7) dX11_farthest_4 rfl qX11_in lX11_67 rfl rfl rfl (Nat.zero_le _) (Nat.zero_le _) (m_in s 0 99 (by omega) (by omega) (by omega) ?_)
  refine r_if_ne (tgt := 13) (pc' := 10) dX11_farthest_7 rfl rfl (b01_R _) (fun c7 => ?_) (fun c7 => ?_)
  · have hd7 := of_decide_eq_true (b01_ne c7)
    refine r_iconst (pc' := 14) dX11_farthest_13 rfl ?_
    refine r_istore_n (pc' := 15) dX11_farthest_14 rfl rfl ?_
    refine r_iconst (pc' := 16) dX11_farthest_15 rfl ?_
    refine r_istore_n (pc' := 17) dX11_farthest_16 rfl rfl ?_
    rw [if_pos hd7] at h9
    exact lm_far hB s (by omega) (by omega) (Ln v) 0 (-1) (by omega) h9
  · have hd7 := of_decide_eq_false (b01_eq c7)
    refine r_ldc (z := -1000000002) (pc' := 12) dX11_farthest_10 rfl kX11_71 ?_
    refine r_reti dX11_farthest_12 rfl (Or.inl rfl) ?_
    rw [if_neg hd7] at h9
    exact h9
theorem lm_calm {X : CX} {d : Nat} {g : Mem} {K : Int → Mem → Prop}   (n q : Int) (hn0 : 0 ≤ n) (hn : n ≤ 60) (hq0 : 0 ≤ q) (hq : q ≤ 100) : ∀ (k i : Nat) (x : Int), (i : Int) + k = n → 0 ≤ x → x ≤ 1000000000 → K (clF q k x) g → AJ X (d) mX11_calm 0 0 (QI Z0 K) 0 0 30 [some (vr 166), some (vi n), some (vi q), some (vl x), none, some (vi (i : Int))] [] Z0 g := by
  intro k
  induction k with
  | zero =>
    intro i x hp h0 h1 h
    refine r_iload (pc' := 32) dX11_calm_30 rfl rfl ?_
    refine r_iload_n (pc' := 33) dX11_calm_32 rfl rfl ?_
    refine r_icmp_ge (tgt := 51) (pc' := 36) dX11_calm_33 rfl rfl (by omega) (by omega) (fun c33 => ?_) (fun c33 => ?_)
    · refine r_lload_n (pc' := 52) dX11_calm_51 rfl rfl ?_
      refine r_l2i (pc' := 53) dX11_calm_52 rfl ?_
      refine r_reti dX11_calm_53 rfl (Or.inl rfl) ?_
      exact h
    · exact absurd c33 (by omega)
  | succ k ih =>
    intro i x hp h0 h1 h
    obtain ⟨b1, b2, b3, b4⟩ := clm_b h0 h1 hq0 hq
    unfold clF at h
    refine r_iload (pc' := 32) dX11_calm_30 rfl rfl ?_
    refine r_iload_n (pc' := 33) dX11_calm_32 rfl rfl ?_
    refine r_icmp_ge (tgt := 51) (pc' := 36) dX11_calm_33 rfl rfl (by omega) (by omega) (fun c33 => ?_) (fun c33 => ?_)
    · exact absurd c33 (by omega)
    · refine r_lload_n (pc' := 37) dX11_calm_36 rfl rfl ?_
      refine r_iload_n (pc' := 38) dX11_calm_37 rfl rfl ?_
      refine r_i2l (pc' := 39) dX11_calm_38 rfl (by omega) ?_
      refine r_lmul (pc' := 40) dX11_calm_39 rfl ?_
      refine r_ldc2_w (z := 100) (pc' := 43) dX11_calm_40 rfl kX11_227 ?_
      refine r_ldiv (pc' := 44) dX11_calm_43 rfl (by omega) (by omega) (by omega) ?_
      refine r_lstore_n (pc' := 45) dX11_calm_44 rfl rfl rfl ?_
      refine r_iinc (pc' := 48) dX11_calm_45 rfl rfl rfl ?_
      refine r_goto (tgt := 30) dX11_calm_48 rfl ?_
      exact ih (i + 1) _ (by omega) b3 b4 h
theorem M_calm {X : CX} {d : Nat} {g : Mem} {K : Int → Mem → Prop} {tN : Nat} {tX : Nat → Int} {flt : Int} {u : PV} {v : LV} {kn : Nat} {kL : Nat → LV} {im : Nat → Bool × Int × LV} {sd : Int} {ln : Nat} {la : Nat → Nat} {lr : Nat → Bool} {bn : Nat} {bp : Nat → Nat} {bf : Nat → Int} (hM : MS g tN tX flt u v kn kL im sd ln la lr bn bp bf) (hS : WS tN tX flt u v kn kL im sd ln la lr bn bp bf) (n q : Int) (hn : R32 n) (hq : R32 q) (h : ∀ g' : Mem, MS g' tN tX flt u v kn kL im sd ln la lr bn bp bf → FrM g g' → K (E_calm n q) g') : EI X (d + 1) mX11_calm [vr 166, vi n, vi q] Z0 g K := by
  show AJ X (d + 1) mX11_calm 0 0 (QI Z0 K) 0 0 0 [some (vr 166), some (vi n), some (vi q), none, none, none] [] Z0 g
  have h9 := h g hM (FrM.rf g)
  unfold E_calm at h9
  refine r_iload_n (pc' := 1) dX11_calm_0 rfl rfl ?_
  refine r_iconst (pc' := 2) dX11_calm_1 rfl ?_
  refine r_bipush (pc' := 4) dX11_calm_2 rfl (by decide) ?_
  refine r_si3 (pc' := 7) dX11_calm_4 rfl qX11_in lX11_67 rfl rfl rfl (Nat.zero_le _) (Nat.zero_le _) (m_in n 0 60 (by omega) (by omega) (by omega) ?_)
  refine r_if_eq (tgt := 20) (pc' := 10) dX11_calm_7 rfl rfl (b01_R _) (fun c7 => ?_) (fun c7 => ?_)
  · have hd7 := of_decide_eq_false (b01_eq c7)
    refine r_ldc (z := -1000000002) (pc' := 22) dX11_calm_20 rfl kX11_71 ?_
    refine r_reti dX11_calm_22 rfl (Or.inl rfl) ?_
    rw [if_neg (by omega)] at h9
    exact h9
  · have hd7 := of_decide_eq_true (b01_ne c7)
    refine r_iload_n (pc' := 11) dX11_calm_10 rfl rfl ?_
    refine r_iconst (pc' := 12) dX11_calm_11 rfl ?_
    refine r_bipush (pc' := 14) dX11_calm_12 rfl (by decide) ?_
    refine r_si3 (pc' := 17) dX11_calm_14 rfl qX11_in lX11_67 rfl rfl rfl (Nat.zero_le _) (Nat.zero_le _) (m_in q 0 100 (by omega) (by omega) (by omega) ?_)
    refine r_if_ne (tgt := 23) (pc' := 20) dX11_calm_17 rfl rfl (b01_R _) (fun c17 => ?_) (fun c17 => ?_)
    · have hd17 := of_decide_eq_true (b01_ne c17)
      refine r_ldc2_w (z := 1000000000) (pc' := 26) dX11_calm_23 rfl kX11_225 ?_
      refine r_lstore_n (pc' := 27) dX11_calm_26 rfl rfl rfl ?_
      refine r_iconst (pc' := 28) dX11_calm_27 rfl ?_
      refine r_istore (pc' := 30) dX11_calm_28 rfl rfl ?_
      rw [if_pos (by omega)] at h9
      exact lm_calm n q (by omega) (by omega) (by omega) (by omega) n.toNat 0 1000000000 (by omega) (by decide) (by decide) h9
    · have hd17 := of_decide_eq_false (b01_eq c17)
      refine r_ldc (z := -1000000002) (pc' := 22) dX11_calm_20 rfl kX11_71 ?_
      refine r_reti dX11_calm_22 rfl (Or.inl rfl) ?_
      rw [if_neg (by omega)] at h9
      exact h9
theorem lm_judge {X : CX} {d : Nat} {g : Mem} {K : Int → Mem → Prop} {u : PV} {v : LV} (hB : MB g u v)  {n : Nat} {p : Nat → Nat} {f : Nat → Int} (hn20 : n ≤ 20) (k1 : g 166 13 = n) (k3 : ∀ i : Nat, i < n → g 175 (2 * i) = p i ∧ g 175 (2 * i + 1) = f i) (k4 : ∀ i, i < n → p i ≤ 6 ∧ R32 (f i)) : ∀ (k i : Nat) (z2 z3 : Option VV), i + k = n → K (wrF v p f k i) g → AJ X (d) mX11_judge 0 0 (QI Z0 K) 0 0 2 [some (vr 166), some (vi (i : Int)), z2, z3] [] Z0 g := by
  obtain ⟨hQ, hU, hC, hW⟩ := id hB
  obtain ⟨hy, hi, hc, ht, ho, hf_, hw_⟩ := id hC
  obtain ⟨w0, w1, w2, w3, w4, w5, w6, w7⟩ := id hW
  obtain ⟨p6, p7, p8, p9, p10, pk, pg, px, py⟩ := id hQ
  obtain ⟨u0, u1, u2, u3, u4, u5, u6, u7⟩ := id hU
  intro k
  induction k with
  | zero =>
    intro i z2 z3 hp h
    refine r_iload_n (pc' := 3) dX11_judge_2 rfl rfl ?_
    refine r_aload_n (pc' := 4) dX11_judge_3 rfl rfl ?_
    refine r_getf (pc' := 7) (kI := 13) dX11_judge_4 rfl fX11_115 z166 rfl rfl k1 ?_
    refine r_icmp_ge (tgt := 64) (pc' := 10) dX11_judge_7 rfl rfl (by omega) (by omega) (fun c7 => ?_) (fun c7 => ?_)
    · refine r_iconst (pc' := 65) dX11_judge_64 rfl ?_
      refine r_reti dX11_judge_65 rfl (Or.inl rfl) ?_
      exact h
    · exact absurd c7 (by omega)
  | succ k ih =>
    intro i z2 z3 hp h
    obtain ⟨q1, q2⟩ := k3 i (by omega)
    obtain ⟨q3, q4⟩ := k4 i (by omega)
    have hr := atN_R hW (p i)
    unfold wrF at h
    refine r_iload_n (pc' := 3) dX11_judge_2 rfl rfl ?_
    refine r_aload_n (pc' := 4) dX11_judge_3 rfl rfl ?_
    refine r_getf (pc' := 7) (kI := 13) dX11_judge_4 rfl fX11_115 z166 rfl rfl k1 ?_
    refine r_icmp_ge (tgt := 64) (pc' := 10) dX11_judge_7 rfl rfl (by omega) (by omega) (fun c7 => ?_) (fun c7 => ?_)
    · exact absurd c7 (by omega)
    · refine r_aload_n (pc' := 11) dX11_judge_10 rfl rfl ?_
      refine r_getr (pc' := 14) dX11_judge_11 rfl fX11_35 z166 rfl ?_
      refine r_iconst (pc' := 15) dX11_judge_14 rfl ?_
      refine r_iload_n (pc' := 16) dX11_judge_15 rfl rfl ?_
      refine r_imul (pc' := 17) dX11_judge_16 rfl ?_
      refine r_iaload (pc' := 18) dX11_judge_17 rfl z175 (by decide) (by omega) (by omega) q1 ?_
      refine r_istore_n (pc' := 19) dX11_judge_18 rfl rfl ?_
      refine r_iload_n (pc' := 20) dX11_judge_19 rfl rfl ?_
      refine r_aload_n (pc' := 21) dX11_judge_20 rfl rfl ?_
      refine r_getr (pc' := 24) dX11_judge_21 rfl fX11_19 z166 rfl ?_
      refine r_iconst (pc' := 25) dX11_judge_24 rfl ?_
      refine r_iaload (pc' := 26) dX11_judge_25 rfl z170 (by decide) (by omega) (by omega) hc ?_
      refine r_icmp_ge (tgt := 40) (pc' := 29) dX11_judge_26 rfl rfl (by omega) (by omega) (fun c26 => ?_) (fun c26 => ?_)
      · have ea : (-1 : Int) = atN v (p i) := by unfold atN; rw [if_neg (by omega)]
        refine r_iconst (pc' := 41) dX11_judge_40 rfl ?_
        try rw [ea]
        refine r_istore_n (pc' := 42) dX11_judge_41 rfl rfl ?_
        refine r_iload_n (pc' := 43) dX11_judge_42 rfl rfl ?_
        refine r_aload_n (pc' := 44) dX11_judge_43 rfl rfl ?_
        refine r_getr (pc' := 47) dX11_judge_44 rfl fX11_35 z166 rfl ?_
        refine r_iconst (pc' := 48) dX11_judge_47 rfl ?_
        refine r_iload_n (pc' := 49) dX11_judge_48 rfl rfl ?_
        refine r_imul (pc' := 50) dX11_judge_49 rfl ?_
        refine r_iconst (pc' := 51) dX11_judge_50 rfl ?_
        refine r_iadd (pc' := 52) dX11_judge_51 rfl ?_
        refine r_iaload (pc' := 53) dX11_judge_52 rfl z175 (by decide) (by omega) (by omega) q2 ?_
        refine r_icmp_eq (tgt := 58) (pc' := 56) dX11_judge_53 rfl rfl hr q4 (fun c53 => ?_) (fun c53 => ?_)
        · refine r_iinc (pc' := 61) dX11_judge_58 rfl rfl rfl ?_
          refine r_goto (tgt := 2) dX11_judge_61 rfl ?_
          rw [if_pos c53] at h
          exact ih (i + 1) _ _ (by omega) h
        · refine r_iload_n (pc' := 57) dX11_judge_56 rfl rfl ?_
          refine r_reti dX11_judge_57 rfl (Or.inl rfl) ?_
          rw [if_neg c53] at h
          exact h
      · refine r_aload_n (pc' := 30) dX11_judge_29 rfl rfl ?_
        refine r_getr (pc' := 33) dX11_judge_30 rfl fX11_19 z166 rfl ?_
        refine r_iconst (pc' := 34) dX11_judge_33 rfl ?_
        refine r_iload_n (pc' := 35) dX11_judge_34 rfl rfl ?_
        refine r_iadd (pc' := 36) dX11_judge_35 rfl ?_
        refine r_iaload (pc' := 37) (x := atN v (p i)) dX11_judge_36 rfl z170 (by decide) (by omega) (by omega) (by unfold atN; rw [if_pos (by omega)]; exact ho (p i) (by omega)) ?_
        refine r_goto (tgt := 41) dX11_judge_37 rfl ?_
        try rw [ea]
        refine r_istore_n (pc' := 42) dX11_judge_41 rfl rfl ?_
        refine r_iload_n (pc' := 43) dX11_judge_42 rfl rfl ?_
        refine r_aload_n (pc' := 44) dX11_judge_43 rfl rfl ?_
        refine r_getr (pc' := 47) dX11_judge_44 rfl fX11_35 z166 rfl ?_
        refine r_iconst (pc' := 48) dX11_judge_47 rfl ?_
        refine r_iload_n (pc' := 49) dX11_judge_48 rfl rfl ?_
        refine r_imul (pc' := 50) dX11_judge_49 rfl ?_
        refine r_iconst (pc' := 51) dX11_judge_50 rfl ?_
        refine r_iadd (pc' := 52) dX11_judge_51 rfl ?_
        refine r_iaload (pc' := 53) dX11_judge_52 rfl z175 (by decide) (by omega) (by omega) q2 ?_
        refine r_icmp_eq (tgt := 58) (pc' := 56) dX11_judge_53 rfl rfl hr q4 (fun c53 => ?_) (fun c53 => ?_)
        · refine r_iinc (pc' := 61) dX11_judge_58 rfl rfl rfl ?_
          refine r_goto (tgt := 2) dX11_judge_61 rfl ?_
          rw [if_pos c53] at h
          exact ih (i + 1) _ _ (by omega) h
        · refine r_iload_n (pc' := 57) dX11_judge_56 rfl rfl ?_
          refine r_reti dX11_judge_57 rfl (Or.inl rfl) ?_
          rw [if_neg c53] at h
          exact h
theorem M_judge {X : CX} {d : Nat} {g : Mem} {K : Int → Mem → Prop} {tN : Nat} {tX : Nat → Int} {flt : Int} {u : PV} {v : LV} {kn : Nat} {kL : Nat → LV} {im : Nat → Bool × Int × LV} {sd : Int} {ln : Nat} {la : Nat → Nat} {lr : Nat → Bool} {bn : Nat} {bp : Nat → Nat} {bf : Nat → Int} (hM : MS g tN tX flt u v kn kL im sd ln la lr bn bp bf) (hS : WS tN tX flt u v kn kL im sd ln la lr bn bp bf) (h : ∀ g' : Mem, MS g' tN tX flt u v kn kL im sd ln la lr bn bp bf → FrM g g' → K (wrF v bp bf bn 0) g') : EI X (d) mX11_judge [vr 166] Z0 g K := by
  show AJ X (d) mX11_judge 0 0 (QI Z0 K) 0 0 0 [some (vr 166), none, none, none] [] Z0 g
  obtain ⟨⟨m1, m2⟩, m3, m4, m5, ⟨m6, m7⟩, m8, m9, ⟨m10, m11⟩, ⟨m12, m13⟩⟩ := id hM
  obtain ⟨⟨s1, s2⟩, s3, s4, s5, ⟨s6, s7⟩, s8, ⟨s9, s10⟩, ⟨s11, s12⟩, ⟨s13, s14⟩⟩ := id hS
  have hB : MB g u v := ⟨m4, s4, m5, s5⟩
  obtain ⟨hQ, hU, hC, hW⟩ := id hB
  obtain ⟨hy, hi, hc, ht, ho, hf, hw_⟩ := id hC
  obtain ⟨w0, w1, w2, w3, w4, w5, w6, w7⟩ := id hW
  obtain ⟨p6, p7, p8, p9, p10, pk, pg, px, py⟩ := id hQ
  obtain ⟨u0, u1, u2, u3, u4, u5, u6, u7⟩ := id hU
  refine r_iconst (pc' := 1) dX11_judge_0 rfl ?_
  refine r_istore_n (pc' := 2) dX11_judge_1 rfl rfl ?_
  exact lm_judge hB s13 m12 m13 s14 bn 0 none none (by omega) (h g hM (FrM.rf g))
theorem lm_long {X : CX} {d : Nat} {g : Mem} {K : Int → Mem → Prop} {u : PV} {v : LV} (hB : MB g u v)  {w : Nat} (hw1 : w < Pw u) : ∀ (k n : Nat), n + k = Pl u w → K (Pl u w) g → AJ X (d) mX11_longOf 0 0 (QI Z0 K) 0 0 2 [some (vr 166), some (vi (w : Int)), some (vi (n : Int))] [] Z0 g := by
  obtain ⟨hQ, hU, hC, hW⟩ := id hB
  obtain ⟨hy, hi, hc, ht, ho, hf, hw_⟩ := id hC
  obtain ⟨w0, w1, w2, w3, w4, w5, w6, w7⟩ := id hW
  obtain ⟨p6, p7, p8, p9, p10, pk, pg, px, py⟩ := id hQ
  obtain ⟨u0, u1, u2, u3, u4, u5, u6, u7⟩ := id hU
  intro k
  induction k with
  | zero =>
    intro n hn h
    have e := u6 w hw1
    have en : n = Pl u w := by omega
    have q := fun h4 => px w hw1 n h4
    refine r_iload_n (pc' := 3) dX11_longOf_2 rfl rfl ?_
    refine r_iconst (pc' := 4) dX11_longOf_3 rfl ?_
    refine r_icmp_ge (tgt := 31) (pc' := 7) dX11_longOf_4 rfl rfl (by omega) (by omega) (fun c4 => ?_) (fun c4 => ?_)
    · refine r_iload_n (pc' := 32) dX11_longOf_31 rfl rfl ?_
      refine r_reti dX11_longOf_32 rfl (Or.inl rfl) ?_
      rw [en]
      exact h
    · refine r_aload_n (pc' := 8) dX11_longOf_7 rfl rfl ?_
      refine r_getr (pc' := 11) dX11_longOf_8 rfl fX11_13 z166 rfl ?_
      refine r_bipush (pc' := 13) dX11_longOf_11 rfl (by decide) ?_
      refine r_iconst (pc' := 14) dX11_longOf_13 rfl ?_
      refine r_iload_n (pc' := 15) dX11_longOf_14 rfl rfl ?_
      refine r_imul (pc' := 16) dX11_longOf_15 rfl ?_
      refine r_iadd (pc' := 17) dX11_longOf_16 rfl ?_
      refine r_iload_n (pc' := 18) dX11_longOf_17 rfl rfl ?_
      refine r_iadd (pc' := 19) dX11_longOf_18 rfl ?_
      refine r_iaload (pc' := 20) (x := 9) dX11_longOf_19 rfl z168 (by decide) (by omega) (by omega) (by rw [show (19 + 4 * (w : Int) + (n : Int)) = 19 + 4 * w + n from rfl]; exact (q (by omega)).trans (if_neg (by omega))) ?_
      refine r_bipush (pc' := 22) dX11_longOf_20 rfl (by decide) ?_
      refine r_icmp_ge (tgt := 31) (pc' := 25) dX11_longOf_22 rfl rfl (by omega) (by omega) (fun c22 => ?_) (fun c22 => ?_)
      · refine r_iload_n (pc' := 32) dX11_longOf_31 rfl rfl ?_
        refine r_reti dX11_longOf_32 rfl (Or.inl rfl) ?_
        rw [en]
        exact h
      · refine r_iinc (pc' := 28) dX11_longOf_25 rfl rfl rfl ?_
        refine r_goto (tgt := 2) dX11_longOf_28 rfl ?_
        exact absurd c22 (by omega)
  | succ k ih =>
    intro n hn h
    have e := u6 w hw1
    have e5 := e.2.2 n (by omega)
    have q := (px w hw1 n (by omega)).trans (if_pos (by omega))
    refine r_iload_n (pc' := 3) dX11_longOf_2 rfl rfl ?_
    refine r_iconst (pc' := 4) dX11_longOf_3 rfl ?_
    refine r_icmp_ge (tgt := 31) (pc' := 7) dX11_longOf_4 rfl rfl (by omega) (by omega) (fun c4 => ?_) (fun c4 => ?_)
    · exact absurd c4 (by omega)
    · refine r_aload_n (pc' := 8) dX11_longOf_7 rfl rfl ?_
      refine r_getr (pc' := 11) dX11_longOf_8 rfl fX11_13 z166 rfl ?_
      refine r_bipush (pc' := 13) dX11_longOf_11 rfl (by decide) ?_
      refine r_iconst (pc' := 14) dX11_longOf_13 rfl ?_
      refine r_iload_n (pc' := 15) dX11_longOf_14 rfl rfl ?_
      refine r_imul (pc' := 16) dX11_longOf_15 rfl ?_
      refine r_iadd (pc' := 17) dX11_longOf_16 rfl ?_
      refine r_iload_n (pc' := 18) dX11_longOf_17 rfl rfl ?_
      refine r_iadd (pc' := 19) dX11_longOf_18 rfl ?_
      refine r_iaload (pc' := 20) dX11_longOf_19 rfl z168 (by decide) (by omega) (by omega) q ?_
      refine r_bipush (pc' := 22) dX11_longOf_20 rfl (by decide) ?_
      refine r_icmp_ge (tgt := 31) (pc' := 25) dX11_longOf_22 rfl rfl (by omega) (by omega) (fun c22 => ?_) (fun c22 => ?_)
      · exact absurd c22 (by omega)
      · refine r_iinc (pc' := 28) dX11_longOf_25 rfl rfl rfl ?_
        refine r_goto (tgt := 2) dX11_longOf_28 rfl ?_
        exact ih (n + 1) (by omega) h
theorem m_long {X : CX} {d : Nat} {g : Mem} {K : Int → Mem → Prop} {u : PV} {v : LV} (hB : MB g u v) {w : Nat} (hw1 : w < Pw u) (h : K (Pl u w) g) : EI X (d) mX11_longOf [vr 166, vi (w : Int)] Z0 g K := by
  show AJ X (d) mX11_longOf 0 0 (QI Z0 K) 0 0 0 [some (vr 166), some (vi (w : Int)), none] [] Z0 g
  refine r_iconst (pc' := 1) dX11_longOf_0 rfl ?_
  refine r_istore_n (pc' := 2) dX11_longOf_1 rfl rfl ?_
  exact lm_long hB hw1 (Pl u w) 0 (by omega) h
theorem m_longI {X : CX} {d : Nat} {g : Mem} {K : Int → Mem → Prop} {u : PV} {v : LV} (hB : MB g u v) {w : Int} (h0 : 0 ≤ w) (hw1 : w < Pw u) (h : K (Pl u w.toNat) g) : EI X d mX11_longOf [vr 166, vi w] Z0 g K := by
  have e := m_long (X := X) (d := d) (K := K) hB (w := w.toNat) (by omega) h
  rw [show ((w.toNat : Nat) : Int) = w by omega] at e
  exact e
theorem M_word {X : CX} {d : Nat} {g : Mem} {K : Int → Mem → Prop} {tN : Nat} {tX : Nat → Int} {flt : Int} {u : PV} {v : LV} {kn : Nat} {kL : Nat → LV} {im : Nat → Bool × Int × LV} {sd : Int} {ln : Nat} {la : Nat → Nat} {lr : Nat → Bool} {bn : Nat} {bp : Nat → Nat} {bf : Nat → Int} (hM : MS g tN tX flt u v kn kL im sd ln la lr bn bp bf) (hS : WS tN tX flt u v kn kL im sd ln la lr bn bp bf) (x k : Int) (hx0 : R32 x) (hk0 : R32 k) (h : ∀ g' : Mem, MS g' tN tX flt u v kn kL im sd ln la lr bn bp bf → FrM g g' → K (E_word u x k) g') : EI X (d + 1) mX11_word [vr 166, vi x, vi k] Z0 g K := by
  show AJ X (d + 1) mX11_word 0 0 (QI Z0 K) 0 0 0 [some (vr 166), some (vi x), some (vi k)] [] Z0 g
  obtain ⟨⟨m1, m2⟩, m3, m4, m5, ⟨m6, m7⟩, m8, m9, ⟨m10, m11⟩, ⟨m12, m13⟩⟩ := id hM
  obtain ⟨⟨s1, s2⟩, s3, s4, s5, ⟨s6, s7⟩, s8, ⟨s9, s10⟩, ⟨s11, s12⟩, ⟨s13, s14⟩⟩ := id hS
  have hB : MB g u v := ⟨m4, s4, m5, s5⟩
  obtain ⟨hQ, hU, hC, hW⟩ := id hB
  obtain ⟨hy, hi, hc, ht, ho, hf, hw_⟩ := id hC
  obtain ⟨w0, w1, w2, w3, w4, w5, w6, w7⟩ := id hW
  obtain ⟨p6, p7, p8, p9, p10, pk, pg, px, py⟩ := id hQ
  obtain ⟨u0, u1, u2, u3, u4, u5, u6, u7⟩ := id hU
  have h9 := h g hM (FrM.rf g)
  unfold E_word at h9
  refine r_iload_n (pc' := 1) dX11_word_0 rfl rfl ?_
  refine r_iconst (pc' := 2) dX11_word_1 rfl ?_
  refine r_aload_n (pc' := 3) dX11_word_2 rfl rfl ?_
  refine r_getr (pc' := 6) dX11_word_3 rfl fX11_13 z166 rfl ?_
  refine r_iconst (pc' := 7) dX11_word_6 rfl ?_
  refine r_iaload (pc' := 8) dX11_word_7 rfl z168 (by decide) (by omega) (by omega) p9 ?_
  refine r_iconst (pc' := 9) dX11_word_8 rfl ?_
  refine r_isub (pc' := 10) dX11_word_9 rfl ?_
  refine r_si3 (pc' := 13) dX11_word_10 rfl qX11_in lX11_67 rfl rfl rfl (Nat.zero_le _) (Nat.zero_le _) (m_in x 0 ((Pw u : Int) - 1) (by omega) (by omega) (by omega) ?_)
  refine r_if_ne (tgt := 19) (pc' := 16) dX11_word_13 rfl rfl (b01_R _) (fun c13 => ?_) (fun c13 => ?_)
  · have hd13 := of_decide_eq_true (b01_ne c13)
    refine r_iload_n (pc' := 20) dX11_word_19 rfl rfl ?_
    refine r_iconst (pc' := 21) dX11_word_20 rfl ?_
    refine r_iconst (pc' := 22) dX11_word_21 rfl ?_
    refine r_si3 (pc' := 25) dX11_word_22 rfl qX11_in lX11_67 rfl rfl rfl (Nat.zero_le _) (Nat.zero_le _) (m_in k 0 3 (by omega) (by omega) (by omega) ?_)
    refine r_if_ne (tgt := 33) (pc' := 28) dX11_word_25 rfl rfl (b01_R _) (fun c25 => ?_) (fun c25 => ?_)
    · have hd25 := of_decide_eq_true (b01_ne c25)
      refine r_iload_n (pc' := 34) dX11_word_33 rfl rfl ?_
      refine r_aload_n (pc' := 35) dX11_word_34 rfl rfl ?_
      refine r_iload_n (pc' := 36) dX11_word_35 rfl rfl ?_
      refine r_vi1 (pc' := 39) dX11_word_36 rfl qX11_longOf lX11_125 z166 rfl rfl rfl rfl (Nat.zero_le _) (Nat.zero_le _) (m_longI hB (by omega) (by omega) ?_)
      have x2 := u6 x.toNat (by omega)
      refine r_icmp_ge (tgt := 58) (pc' := 42) dX11_word_39 rfl rfl (by omega) (by omega) (fun c39 => ?_) (fun c39 => ?_)
      · refine r_iconst (pc' := 59) dX11_word_58 rfl ?_
        refine r_reti dX11_word_59 rfl (Or.inl rfl) ?_
        first | (rw [if_pos (by omega), if_neg (by omega)] at h9; exact h9) | (rw [if_pos (by omega), if_pos (by omega), if_pos (by omega)] at h9; exact h9) | (rw [if_pos (by omega), if_pos (by omega), if_neg (by omega)] at h9; exact h9)
      · refine r_aload_n (pc' := 43) dX11_word_42 rfl rfl ?_
        refine r_getr (pc' := 46) dX11_word_43 rfl fX11_13 z166 rfl ?_
        refine r_bipush (pc' := 48) dX11_word_46 rfl (by decide) ?_
        refine r_iconst (pc' := 49) dX11_word_48 rfl ?_
        refine r_iload_n (pc' := 50) dX11_word_49 rfl rfl ?_
        refine r_imul (pc' := 51) dX11_word_50 rfl ?_
        refine r_iadd (pc' := 52) dX11_word_51 rfl ?_
        refine r_iload_n (pc' := 53) dX11_word_52 rfl rfl ?_
        refine r_iadd (pc' := 54) dX11_word_53 rfl ?_
        refine r_iaload (pc' := 55) (x := (Px u x.toNat k.toNat : Int)) dX11_word_54 rfl z168 (by decide) (by omega) (by omega) (by have q := (px x.toNat (by omega) k.toNat (by omega)).trans (if_pos (by omega)); rw [show ((x.toNat : Nat) : Int) = x by omega, show ((k.toNat : Nat) : Int) = k by omega] at q; exact q) ?_
        refine r_goto (tgt := 59) dX11_word_55 rfl ?_
        refine r_reti dX11_word_59 rfl (Or.inl rfl) ?_
        first | (rw [if_pos (by omega), if_neg (by omega)] at h9; exact h9) | (rw [if_pos (by omega), if_pos (by omega), if_pos (by omega)] at h9; exact h9) | (rw [if_pos (by omega), if_pos (by omega), if_neg (by omega)] at h9; exact h9)
    · have hd25 := of_decide_eq_false (b01_eq c25)
      refine r_ldc (z := -1000000002) (pc' := 30) dX11_word_28 rfl kX11_71 ?_
      refine r_goto (tgt := 59) dX11_word_30 rfl ?_
      refine r_reti dX11_word_59 rfl (Or.inl rfl) ?_
      first | (rw [if_pos (by omega), if_neg (by omega)] at h9; exact h9) | (rw [if_pos (by omega), if_pos (by omega), if_pos (by omega)] at h9; exact h9) | (rw [if_pos (by omega), if_pos (by omega), if_neg (by omega)] at h9; exact h9)
  · have hd13 := of_decide_eq_false (b01_eq c13)
    refine r_ldc (z := -1000000001) (pc' := 18) dX11_word_16 rfl kX11_156 ?_
    refine r_reti dX11_word_18 rfl (Or.inl rfl) ?_
    rw [if_neg (by omega)] at h9
    exact h9
