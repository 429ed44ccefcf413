theorem lm_keep {X : CX} {d : Nat} {g : Mem} {K : Int → Mem → Prop} {x : Int} (hx0 : 0 ≤ x) (hx1 : x ≤ 1) (hk : ∀ y : Option VV, AJ X (d + 1) mX11_keep 0 0 (QI Z0 K) 0 0 43 [some (vr 166), some (vi x), y] [] Z0 (cpB g 170 172 0 (26 * x) 25)) : ∀ (k i : Nat), i + k = 25 → AJ X (d + 1) mX11_keep 0 0 (QI Z0 K) 0 0 14 [some (vr 166), some (vi x), some (vi (i : Int))] [] Z0 (cpB g 170 172 0 (26 * x) i) := by
  intro k
  induction k with
  | zero =>
    intro i hi
    have e : i = 25 := by omega
    subst e
    refine r_iload_n (pc' := 15) dX11_keep_14 rfl rfl ?_
    refine r_bipush (pc' := 17) dX11_keep_15 rfl (by decide) ?_
    refine r_icmp_ge (tgt := 43) (pc' := 20) dX11_keep_17 rfl rfl (by omega) (by omega) (fun c17 => ?_) (fun c17 => ?_)
    · exact hk _
    · exact absurd c17 (by omega)
  | succ k ih =>
    intro i hi
    refine r_iload_n (pc' := 15) dX11_keep_14 rfl rfl ?_
    refine r_bipush (pc' := 17) dX11_keep_15 rfl (by decide) ?_
    refine r_icmp_ge (tgt := 43) (pc' := 20) dX11_keep_17 rfl rfl (by omega) (by omega) (fun c17 => ?_) (fun c17 => ?_)
    · exact absurd c17 (by omega)
    · refine r_aload_n (pc' := 21) dX11_keep_20 rfl rfl ?_
      refine r_getr (pc' := 24) dX11_keep_21 rfl fX11_25 z166 rfl ?_
      refine r_bipush (pc' := 26) dX11_keep_24 rfl (by decide) ?_
      refine r_iload_n (pc' := 27) dX11_keep_26 rfl rfl ?_
      refine r_imul (pc' := 28) dX11_keep_27 rfl ?_
      refine r_iload_n (pc' := 29) dX11_keep_28 rfl rfl ?_
      refine r_iadd (pc' := 30) dX11_keep_29 rfl ?_
      refine r_aload_n (pc' := 31) dX11_keep_30 rfl rfl ?_
      refine r_getr (pc' := 34) dX11_keep_31 rfl fX11_19 z166 rfl ?_
      refine r_iload_n (pc' := 35) dX11_keep_34 rfl rfl ?_
      refine r_iaload (pc' := 36) (x := g 170 (0 + (i : Int))) dX11_keep_35 rfl z170 (by decide) (by omega) (by omega) (by rw [cpB_off (by decide), Int.zero_add]) ?_
      refine r_iastore (pc' := 37) (g' := (cpB g 170 172 0 (26 * x) (i + 1))) dX11_keep_36 rfl z172 (by decide) (by omega) (by omega) (cpB_succ rfl rfl) ?_
      refine r_iinc (pc' := 40) dX11_keep_37 rfl rfl rfl ?_
      refine r_goto (tgt := 14) dX11_keep_40 rfl ?_
      exact ih (i + 1) (by omega)
theorem M_keep {X : CX} {d : Nat} {g : Mem} {K : Int → Mem → Prop} {tN : Nat} {tX : Nat → Int} {flt : Int} {u : PV} {v : LV} {kn : Nat} {kL : Nat → LV} {im : Nat → Bool × Int × LV} {sd : Int} {ln : Nat} {la : Nat → Nat} {lr : Nat → Bool} {bn : Nat} {bp : Nat → Nat} {bf : Nat → Int} (hM : MS g tN tX flt u v kn kL im sd ln la lr bn bp bf) (hS : WS tN tX flt u v kn kL im sd ln la lr bn bp bf) (i : Int) (hi0 : R32 i) (h : ∀ g' : Mem, MS g' tN tX flt u v (if 0 ≤ i ∧ i < 2 then 0 else kn) kL (if 0 ≤ i ∧ i < 2 then (fun j => if j = i.toNat then (true, sd, v) else im j) else im) sd ln la lr bn bp bf → FrM g g' → K (if 0 ≤ i ∧ i < 2 then 1 else -1000000001) g') : EI X (d + 1) mX11_keep [vr 166, vi i] Z0 g K := by
  show AJ X (d + 1) mX11_keep 0 0 (QI Z0 K) 0 0 0 [some (vr 166), some (vi i), none] [] Z0 g
  obtain ⟨⟨m1, m2⟩, m3, m4, m5, ⟨m6, m7⟩, m8, m9, ⟨m10, m11⟩, ⟨m12, m13⟩⟩ := id hM
  obtain ⟨⟨s1, s2⟩, s3, s4, s5, ⟨s6, s7⟩, s8, ⟨s9, s10⟩, ⟨s11, s12⟩, ⟨s13, s14⟩⟩ := id hS
  have hB : MB g u v := ⟨m4, s4, m5, s5⟩
  obtain ⟨hQ, hU, hC, hW⟩ := id hB
  obtain ⟨hy, hi_, hc, ht, ho, hf, hw_⟩ := id hC
  obtain ⟨w0, w1, w2, w3, w4, w5, w6, w7⟩ := id hW
  obtain ⟨p6, p7, p8, p9, p10, pk, pg, px, py⟩ := id hQ
  obtain ⟨u0, u1, u2, u3, u4, u5, u6, u7⟩ := id hU
  refine r_iload_n (pc' := 1) dX11_keep_0 rfl rfl ?_
  refine r_iconst (pc' := 2) dX11_keep_1 rfl ?_
  refine r_iconst (pc' := 3) dX11_keep_2 rfl ?_
  refine r_si3 (pc' := 6) dX11_keep_3 rfl qX11_in lX11_67 rfl rfl rfl (Nat.zero_le _) (Nat.zero_le _) (m_in i 0 1 (by omega) (by omega) (by omega) ?_)
  refine r_if_ne (tgt := 12) (pc' := 9) dX11_keep_6 rfl rfl (b01_R _) (fun c6 => ?_) (fun c6 => ?_)
  · have hd6 := of_decide_eq_true (b01_ne c6)
    refine r_iconst (pc' := 13) dX11_keep_12 rfl ?_
    refine r_istore_n (pc' := 14) dX11_keep_13 rfl rfl ?_
    have tl : ∀ y : Option VV, AJ X (d + 1) mX11_keep 0 0 (QI Z0 K) 0 0 43 [some (vr 166), some (vi i), y] [] Z0 (cpB g 170 172 0 (26 * i) 25) := fun y => by
      refine r_aload_n (pc' := 44) dX11_keep_43 rfl rfl ?_
      refine r_getr (pc' := 47) dX11_keep_44 rfl fX11_25 z166 rfl ?_
      refine r_bipush (pc' := 49) dX11_keep_47 rfl (by decide) ?_
      refine r_iload_n (pc' := 50) dX11_keep_49 rfl rfl ?_
      refine r_imul (pc' := 51) dX11_keep_50 rfl ?_
      refine r_bipush (pc' := 53) dX11_keep_51 rfl (by decide) ?_
      refine r_iadd (pc' := 54) dX11_keep_53 rfl ?_
      refine r_aload_n (pc' := 55) dX11_keep_54 rfl rfl ?_
      refine r_getf (pc' := 58) (kI := 9) (x := sd) dX11_keep_55 rfl fX11_180 z166 rfl rfl (by rw [cpB_off (by decide)]; exact m9) ?_
      refine r_iastore (pc' := 59) dX11_keep_58 rfl z172 (by decide) (by omega) (by omega) rfl ?_
      refine r_aload_n (pc' := 60) dX11_keep_59 rfl rfl ?_
      refine r_getr (pc' := 63) dX11_keep_60 rfl fX11_28 z166 rfl ?_
      refine r_iload_n (pc' := 64) dX11_keep_63 rfl rfl ?_
      refine r_iconst (pc' := 65) dX11_keep_64 rfl ?_
      refine r_bastore (pc' := 66) dX11_keep_65 rfl z173 (by decide) (by omega) (by omega) (Or.inr rfl) rfl ?_
      refine r_aload_n (pc' := 67) dX11_keep_66 rfl rfl ?_
      refine r_iconst (pc' := 68) dX11_keep_67 rfl ?_
      refine r_putf (pc' := 71) (kI := 6) dX11_keep_68 rfl fX11_109 z166 rfl (Or.inl rfl) rfl rfl ?_
      refine r_iconst (pc' := 72) dX11_keep_71 rfl ?_
      refine r_reti dX11_keep_72 rfl (Or.inl rfl) ?_
      have hok : 0 ≤ i ∧ i < 2 := by omega
      have q : ∀ j, j ≠ 166 → j ≠ 172 → j ≠ 173 → (mu (mu (mu (cpB g 170 172 0 (26 * i) 25) 172 (26 * i + 25) sd) 173 i 1) 166 6 0) j = g j := fun j a b c => by rw [mu_ne a, mu_ne c, mu_ne b, cpB_off b]
      have r : ∀ k, k ≠ 6 → (mu (mu (mu (cpB g 170 172 0 (26 * i) 25) 172 (26 * i + 25) sd) 173 i 1) 166 6 0) 166 k = g 166 k := fun k a => by rw [mu_at' a, mu_ne (by decide), mu_ne (by decide), cpB_off (by decide)]
      have h173 : ∀ t : Int, (mu (mu (mu (cpB g 170 172 0 (26 * i) 25) 172 (26 * i + 25) sd) 173 i 1) 166 6 0) 173 t = if t = i then 1 else g 173 t := fun t => by
        rw [mu_ne (by decide)]
        by_cases e : t = i
        · rw [if_pos e, e, mu_at]
        · rw [if_neg e, mu_at' e, mu_ne (by decide), cpB_off (by decide)]
      have h172 : (mu (mu (mu (cpB g 170 172 0 (26 * i) 25) 172 (26 * i + 25) sd) 173 i 1) 166 6 0) 172 = mu (cpB g 170 172 0 (26 * i) 25) 172 (26 * i + 25) sd 172 := by rw [mu_ne (by decide), mu_ne (by decide)]
      have hmi : MIm (mu (mu (mu (cpB g 170 172 0 (26 * i) 25) 172 (26 * i + 25) sd) 173 i 1) 166 6 0) (fun j => if j = i.toNat then (true, sd, v) else im j) := by
        intro j hj
        dsimp only
        rw [h173]
        by_cases e : j = i.toNat
        · rw [if_pos e, if_pos (show ((j : Nat) : Int) = i by omega)]
          refine ⟨rfl, fun _ => ⟨?_, ?_⟩⟩
          · refine m5.lm.cp s5 (fun q a b => ?_)
            rw [h172, mu_at' (by omega), cpB_at (by omega) (by omega)]
            congr 1; omega
          · rw [h172, show (26 * ((j : Nat) : Int) + 25) = 26 * i + 25 by omega, mu_at]
        · rw [if_neg e, if_neg (show ¬ ((j : Nat) : Int) = i by omega)]
          obtain ⟨q1, q2⟩ := m8 j hj
          refine ⟨q1, fun hk => ⟨?_, ?_⟩⟩
          · refine (q2 hk).1.cp (s8 j hj hk).2.2 (fun q a b => ?_)
            rw [h172, mu_at' (by omega), cpB_out (by omega)]
          · rw [h172, mu_at' (by omega), cpB_out (by omega)]; exact (q2 hk).2
      have h9 := h _ (by simp only [if_pos hok]; exact ⟨⟨(r 1 (by decide)).trans m1, fun k hk => (congrFun (q 167 (by decide) (by decide) (by decide)) _).trans (m2 k hk)⟩, (r 15 (by decide)).trans m3, m4.fr (q 168 (by decide) (by decide) (by decide)), m5.fr (q 170 (by decide) (by decide) (by decide)), ⟨by rw [mu_at]; rfl, fun j hj => absurd hj (Nat.not_lt_zero j)⟩, hmi, (r 9 (by decide)).trans m9, ⟨(r 11 (by decide)).trans m10, fun i hi => by rw [q 174 (by decide) (by decide) (by decide)]; exact m11 i hi⟩, ⟨(r 13 (by decide)).trans m12, fun i hi => by rw [q 175 (by decide) (by decide) (by decide)]; exact m13 i hi⟩⟩) ⟨fun j hj => q j (by omega) (by omega) (by omega), q 178 (by decide) (by decide) (by decide), r 20 (by decide)⟩
      rw [if_pos hok] at h9
      exact h9
    have e0 := lm_keep (X := X) (d := d) (K := K) (g := g) (x := i) (by omega) (by omega) tl (25) 0 (by omega)
    rw [cpB_0] at e0
    exact e0
  · have hd6 := of_decide_eq_false (b01_eq c6)
    refine r_ldc (z := -1000000001) (pc' := 11) dX11_keep_9 rfl kX11_156 ?_
    refine r_reti dX11_keep_11 rfl (Or.inl rfl) ?_
    have hno : ¬ (0 ≤ i ∧ i < 2) := by omega
    have h9 := h g (by simp only [if_neg hno]; exact hM) (FrM.rf g)
    rw [if_neg hno] at h9
    exact h9
theorem lm_goBack {X : CX} {d : Nat} {g : Mem} {K : Int → Mem → Prop} {x : Int} (hx0 : 0 ≤ x) (hx1 : x ≤ 1) (hk : ∀ y : Option VV, AJ X (d + 1) mX11_goBack 0 0 (QI Z0 K) 0 0 55 [some (vr 166), some (vi x), y] [] Z0 (cpB g 172 170 (26 * x) 0 25)) : ∀ (k i : Nat), i + k = 25 → AJ X (d + 1) mX11_goBack 0 0 (QI Z0 K) 0 0 26 [some (vr 166), some (vi x), some (vi (i : Int))] [] Z0 (cpB g 172 170 (26 * x) 0 i) := by
  intro k
  induction k with
  | zero =>
    intro i hi
    have e : i = 25 := by omega
    subst e
    refine r_iload_n (pc' := 27) dX11_goBack_26 rfl rfl ?_
    refine r_bipush (pc' := 29) dX11_goBack_27 rfl (by decide) ?_
    refine r_icmp_ge (tgt := 55) (pc' := 32) dX11_goBack_29 rfl rfl (by omega) (by omega) (fun c29 => ?_) (fun c29 => ?_)
    · exact hk _
    · exact absurd c29 (by omega)
  | succ k ih =>
    intro i hi
    refine r_iload_n (pc' := 27) dX11_goBack_26 rfl rfl ?_
    refine r_bipush (pc' := 29) dX11_goBack_27 rfl (by decide) ?_
    refine r_icmp_ge (tgt := 55) (pc' := 32) dX11_goBack_29 rfl rfl (by omega) (by omega) (fun c29 => ?_) (fun c29 => ?_)
    · exact absurd c29 (by omega)
    · refine r_aload_n (pc' := 33) dX11_goBack_32 rfl rfl ?_
      refine r_getr (pc' := 36) dX11_goBack_33 rfl fX11_19 z166 rfl ?_
      refine r_iload_n (pc' := 37) dX11_goBack_36 rfl rfl ?_
      refine r_aload_n (pc' := 38) dX11_goBack_37 rfl rfl ?_
      refine r_getr (pc' := 41) dX11_goBack_38 rfl fX11_25 z166 rfl ?_
      refine r_bipush (pc' := 43) dX11_goBack_41 rfl (by decide) ?_
      refine r_iload_n (pc' := 44) dX11_goBack_43 rfl rfl ?_
      refine r_imul (pc' := 45) dX11_goBack_44 rfl ?_
      refine r_iload_n (pc' := 46) dX11_goBack_45 rfl rfl ?_
      refine r_iadd (pc' := 47) dX11_goBack_46 rfl ?_
      refine r_iaload (pc' := 48) (x := g 172 (26 * x + (i : Int))) dX11_goBack_47 rfl z172 (by decide) (by omega) (by omega) (by rw [cpB_off (by decide)]) ?_
      refine r_iastore (pc' := 49) (g' := (cpB g 172 170 (26 * x) 0 (i + 1))) dX11_goBack_48 rfl z170 (by decide) (by omega) (by omega) (cpB_succ (by omega) rfl) ?_
      refine r_iinc (pc' := 52) dX11_goBack_49 rfl rfl rfl ?_
      refine r_goto (tgt := 26) dX11_goBack_52 rfl ?_
      exact ih (i + 1) (by omega)
theorem M_goBack {X : CX} {d : Nat} {g : Mem} {K : Int → Mem → Prop} {tN : Nat} {tX : Nat → Int} {flt : Int} {u : PV} {v : LV} {kn : Nat} {kL : Nat → LV} {im : Nat → Bool × Int × LV} {sd : Int} {ln : Nat} {la : Nat → Nat} {lr : Nat → Bool} {bn : Nat} {bp : Nat → Nat} {bf : Nat → Int} (hM : MS g tN tX flt u v kn kL im sd ln la lr bn bp bf) (hS : WS tN tX flt u v kn kL im sd ln la lr bn bp bf) (i : Int) (hi0 : R32 i) (h : ∀ g' : Mem, MS g' tN tX flt u (if (0 ≤ i ∧ i < 2) ∧ (im i.toNat).1 = true then (im i.toNat).2.2 else v) (if (0 ≤ i ∧ i < 2) ∧ (im i.toNat).1 = true then 0 else kn) kL im (if (0 ≤ i ∧ i < 2) ∧ (im i.toNat).1 = true then (im i.toNat).2.1 else sd) ln la lr bn bp bf → FrM g g' → K (E_goBack im i) g') : EI X (d + 1) mX11_goBack [vr 166, vi i] Z0 g K := by
  show AJ X (d + 1) mX11_goBack 0 0 (QI Z0 K) 0 0 0 [some (vr 166), some (vi i), none] [] Z0 g
  obtain ⟨⟨m1, m2⟩, m3, m4, m5, ⟨m6, m7⟩, m8, m9, ⟨m10, m11⟩, ⟨m12, m13⟩⟩ := id hM
  obtain ⟨⟨s1, s2⟩, s3, s4, s5, ⟨s6, s7⟩, s8, ⟨s9, s10⟩, ⟨s11, s12⟩, ⟨s13, s14⟩⟩ := id hS
  have hB : MB g u v := ⟨m4, s4, m5, s5⟩
  obtain ⟨hQ, hU, hC, hW⟩ := id hB
  obtain ⟨hy, hi_, hc, ht, ho, hf, hw_⟩ := id hC
  obtain ⟨w0, w1, w2, w3, w4, w5, w6, w7⟩ := id hW
  obtain ⟨p6, p7, p8, p9, p10, pk, pg, px, py⟩ := id hQ
  obtain ⟨u0, u1, u2, u3, u4, u5, u6, u7⟩ := id hU
  refine r_iload_n (pc' := 1) dX11_goBack_0 rfl rfl ?_
  refine r_iconst (pc' := 2) dX11_goBack_1 rfl ?_
  refine r_iconst (pc' := 3) dX11_goBack_2 rfl ?_
  refine r_si3 (pc' := 6) dX11_goBack_3 rfl qX11_in lX11_67 rfl rfl rfl (Nat.zero_le _) (Nat.zero_le _) (m_in i 0 1 (by omega) (by omega) (by omega) ?_)
  refine r_if_ne (tgt := 12) (pc' := 9) dX11_goBack_6 rfl rfl (b01_R _) (fun c6 => ?_) (fun c6 => ?_)
  · have hd6 := of_decide_eq_true (b01_ne c6)
    obtain ⟨q1, q2⟩ := m8 i.toNat (by omega)
    rw [show ((i.toNat : Nat) : Int) = i by omega] at q1
    refine r_aload_n (pc' := 13) dX11_goBack_12 rfl rfl ?_
    refine r_getr (pc' := 16) dX11_goBack_13 rfl fX11_28 z166 rfl ?_
    refine r_iload_n (pc' := 17) dX11_goBack_16 rfl rfl ?_
    refine r_baload (pc' := 18) dX11_goBack_17 rfl z173 (by decide) (by omega) (by omega) q1 ?_
    refine r_if_ne (tgt := 24) (pc' := 21) dX11_goBack_18 rfl rfl (b01_R _) (fun c18 => ?_) (fun c18 => ?_)
    · have hk : (im i.toNat).1 = true := b01_ne c18
      refine r_iconst (pc' := 25) dX11_goBack_24 rfl ?_
      refine r_istore_n (pc' := 26) dX11_goBack_25 rfl rfl ?_
      have tl : ∀ y : Option VV, AJ X (d + 1) mX11_goBack 0 0 (QI Z0 K) 0 0 55 [some (vr 166), some (vi i), y] [] Z0 (cpB g 172 170 (26 * i) 0 25) := fun y => by
        refine r_aload_n (pc' := 56) dX11_goBack_55 rfl rfl ?_
        refine r_aload_n (pc' := 57) dX11_goBack_56 rfl rfl ?_
        refine r_getr (pc' := 60) dX11_goBack_57 rfl fX11_25 z166 rfl ?_
        refine r_bipush (pc' := 62) dX11_goBack_60 rfl (by decide) ?_
        refine r_iload_n (pc' := 63) dX11_goBack_62 rfl rfl ?_
        refine r_imul (pc' := 64) dX11_goBack_63 rfl ?_
        refine r_bipush (pc' := 66) dX11_goBack_64 rfl (by decide) ?_
        refine r_iadd (pc' := 67) dX11_goBack_66 rfl ?_
        refine r_iaload (pc' := 68) (x := (im i.toNat).2.1) dX11_goBack_67 rfl z172 (by decide) (by omega) (by omega) (by rw [cpB_off (by decide)]; have q3 := (q2 hk).2; rw [show ((i.toNat : Nat) : Int) = i by omega] at q3; exact q3) ?_
        refine r_putf (pc' := 71) (kI := 9) dX11_goBack_68 rfl fX11_180 z166 rfl (Or.inl rfl) rfl rfl ?_
        refine r_aload_n (pc' := 72) dX11_goBack_71 rfl rfl ?_
        refine r_iconst (pc' := 73) dX11_goBack_72 rfl ?_
        refine r_putf (pc' := 76) (kI := 6) dX11_goBack_73 rfl fX11_109 z166 rfl (Or.inl rfl) rfl rfl ?_
        refine r_iconst (pc' := 77) dX11_goBack_76 rfl ?_
        refine r_reti dX11_goBack_77 rfl (Or.inl rfl) ?_
        have hok : (0 ≤ i ∧ i < 2) ∧ (im i.toNat).1 = true := ⟨by omega, hk⟩
        have q : ∀ j, j ≠ 166 → j ≠ 170 → (mu (mu (cpB g 172 170 (26 * i) 0 25) 166 9 (im i.toNat).2.1) 166 6 0) j = g j := fun j a b => by rw [mu_ne a, mu_ne a, cpB_off b]
        have r : ∀ k, k ≠ 6 → k ≠ 9 → (mu (mu (cpB g 172 170 (26 * i) 0 25) 166 9 (im i.toNat).2.1) 166 6 0) 166 k = g 166 k := fun k a b => by rw [mu_at' a, mu_at' b, cpB_off (by decide)]
        have hls : LSr (mu (mu (cpB g 172 170 (26 * i) 0 25) 166 9 (im i.toNat).2.1) 166 6 0) (im i.toNat).2.2 := LM.ls ((q2 hk).1.cp (s8 i.toNat (by omega) hk).2.2 (fun q a b => by rw [mu_ne (by decide), mu_ne (by decide), cpB_at (by omega) (by omega)]; congr 1; omega))
        have h9 := h _ (by simp only [if_pos hok]; exact ⟨⟨(r 1 (by decide) (by decide)).trans m1, fun k hk => (congrFun (q 167 (by decide) (by decide)) _).trans (m2 k hk)⟩, (r 15 (by decide) (by decide)).trans m3, m4.fr (q 168 (by decide) (by decide)), hls, ⟨by rw [mu_at]; rfl, fun j hj => absurd hj (Nat.not_lt_zero j)⟩, MIm.fr m8 (q 172 (by decide) (by decide)) (q 173 (by decide) (by decide)), by rw [mu_at' (by decide), mu_at], ⟨(r 11 (by decide) (by decide)).trans m10, fun i hi => by rw [q 174 (by decide) (by decide)]; exact m11 i hi⟩, ⟨(r 13 (by decide) (by decide)).trans m12, fun i hi => by rw [q 175 (by decide) (by decide)]; exact m13 i hi⟩⟩) ⟨fun j hj => q j (by omega) (by omega), q 178 (by decide) (by decide), r 20 (by decide) (by decide)⟩
        unfold E_goBack at h9
        rw [if_pos (by omega), if_pos hk] at h9
        exact h9
      have e0 := lm_goBack (X := X) (d := d) (K := K) (g := g) (x := i) (by omega) (by omega) tl (25) 0 (by omega)
      rw [cpB_0] at e0
      exact e0
    · refine r_ldc (z := -1000000003) (pc' := 23) dX11_goBack_21 rfl kX11_170 ?_
      refine r_reti dX11_goBack_23 rfl (Or.inl rfl) ?_
      have hf0 := b01_eq c18
      have hno : ¬ ((0 ≤ i ∧ i < 2) ∧ (im i.toNat).1 = true) := by intro q; exact absurd (hf0.symm.trans q.2) (by decide)
      have h9 := h g (by simp only [if_neg hno]; exact hM) (FrM.rf g)
      unfold E_goBack at h9
      rw [if_pos (by omega), if_neg (by intro q; exact absurd (hf0.symm.trans q) (by decide))] at h9
      exact h9
  · have hd6 := of_decide_eq_false (b01_eq c6)
    refine r_ldc (z := -1000000001) (pc' := 11) dX11_goBack_9 rfl kX11_156 ?_
    refine r_reti dX11_goBack_11 rfl (Or.inl rfl) ?_
    have hno : ¬ ((0 ≤ i ∧ i < 2) ∧ (im i.toNat).1 = true) := by intro q; omega
    have h9 := h g (by simp only [if_neg hno]; exact hM) (FrM.rf g)
    unfold E_goBack at h9
    rw [if_neg (by omega)] at h9
    exact h9
