theorem LC.mus {g g' : Mem} {i a f w : Nat} {v : LV} (h : LC g i a f w v) (h1 : g' i 3 = g i 3) (h4 : g' i 4 = g i 4) (h5 : g' i 5 = g i 5) (h6 : g' i 6 = g i 6) (ha : g' a = g a) (hf : g' f = g f) (hw : g' w = g w) : LC g' i a f w v := by
  unfold LC
  rw [h1, h4, h5, h6, ha, hf, hw]
  exact h
theorem C_keep {X : CX} {d : Nat} {g : Mem} {K : Int → Mem → Prop} {tN : Nat} {tX : Nat → Int} {flt : Int} {u : PV} {v : LV} {kn : Nat} {kL : Nat → LV} {im : Nat → Bool × Int × LV} {sd : Int} {ln : Nat} {la : Nat → Nat} {lr : Nat → Bool} {bn : Nat} {bp : Nat → Nat} {bf : Nat → Int} (hS : CS g tN tX flt u v kn kL im sd ln la lr bn bp bf) (i : Int) (hi0 : R32 i) (h : ∀ g' : Mem, CS g' tN tX flt u v (if 0 ≤ i ∧ i < 2 then 0 else kn) kL (if 0 ≤ i ∧ i < 2 then (fun j => if j = i.toNat then (true, sd, v) else im j) else im) sd ln la lr bn bp bf → FrC g g' → K (if 0 ≤ i ∧ i < 2 then 1 else -1000000001) g') : EI X (d + 2) mX10_keep [vr 0, vi i] Z0 g K := by
  show AJ X (d + 2) mX10_keep 0 0 (QI Z0 K) 0 0 0 [some (vr 0), some (vi i)] [] Z0 g
  obtain ⟨⟨t1, t2, t3⟩, ⟨f1, f2⟩, hB, ⟨top, hP⟩, hI, ⟨sd1, sd2, sd3⟩, hK, hN⟩ := id hS
  obtain ⟨hQ, hU, hC, hW⟩ := id hB
  obtain ⟨hc, ho, hf, hw_, ht, hi, hy⟩ := id hC
  obtain ⟨w0, w1, w2, w3, w4, w5, w6, w7⟩ := id hW
  obtain ⟨p6, p7, p8, p9, p10, pk, pg, px, py⟩ := id hQ
  obtain ⟨u0, u1, u2, u3, u4, u5, u6, u7⟩ := id hU
  refine r_iload_n (pc' := 1) dX10_keep_0 rfl rfl ?_
  refine r_if_lt (tgt := 9) (pc' := 4) dX10_keep_1 rfl rfl (by omega) (fun c1 => ?_) (fun c1 => ?_)
  · refine r_ldc (z := -1000000001) (pc' := 11) dX10_keep_9 rfl kX10_177 ?_
    refine r_reti dX10_keep_11 rfl (Or.inl rfl) ?_
    have hno : ¬ (0 ≤ i ∧ i < 2) := by omega
    have h9 := h g (by simp only [if_neg hno]; exact hS) (FrC.rf g)
    rw [if_neg hno] at h9
    exact h9
  · refine r_iload_n (pc' := 5) dX10_keep_4 rfl rfl ?_
    refine r_iconst (pc' := 6) dX10_keep_5 rfl ?_
    refine r_icmp_lt (tgt := 12) (pc' := 9) dX10_keep_6 rfl rfl (by omega) (by omega) (fun c6 => ?_) (fun c6 => ?_)
    · have hi2 : i = 0 ∨ i = 1 := by omega
      rcases hi2 with rfl | rfl
      · refine r_aload_n (pc' := 13) dX10_keep_12 rfl rfl ?_
        refine r_getr (pc' := 16) dX10_keep_13 rfl fX10_43 z0 rfl ?_
        refine r_iload_n (pc' := 17) dX10_keep_16 rfl rfl ?_
        refine r_aaload (pc' := 18) dX10_keep_17 rfl z143 (fun _ => rfl) (by decide) (by omega) rfl ?_
        refine r_iconst (pc' := 19) dX10_keep_18 rfl ?_
        refine r_putf (pc' := 22) (kI := 2) dX10_keep_19 rfl fX10_115 z144 rfl (Or.inr ⟨rfl, Or.inr rfl⟩) rfl rfl ?_
        refine r_aload_n (pc' := 23) dX10_keep_22 rfl rfl ?_
        refine r_getr (pc' := 26) dX10_keep_23 rfl fX10_43 z0 rfl ?_
        refine r_iload_n (pc' := 27) dX10_keep_26 rfl rfl ?_
        refine r_aaload (pc' := 28) dX10_keep_27 rfl z143 (fun _ => rfl) (by decide) (by omega) rfl ?_
        refine r_aload_n (pc' := 29) dX10_keep_28 rfl rfl ?_
        refine r_getf (pc' := 32) (kI := 11) (x := sd) dX10_keep_29 rfl fX10_82 z0 rfl rfl (by rw [mu_ne (by decide)]; exact sd1) ?_
        refine r_putf (pc' := 35) (kI := 1) dX10_keep_32 rfl fX10_305 z144 rfl (Or.inl rfl) rfl rfl ?_
        refine r_aload_n (pc' := 36) dX10_keep_35 rfl rfl ?_
        refine r_getr (pc' := 39) dX10_keep_36 rfl fX10_43 z0 rfl ?_
        refine r_iload_n (pc' := 40) dX10_keep_39 rfl rfl ?_
        refine r_aaload (pc' := 41) dX10_keep_40 rfl z143 (fun _ => rfl) (by decide) (by omega) rfl ?_
        refine r_getr (pc' := 44) dX10_keep_41 rfl fX10_308 z144 rfl ?_
        refine r_aload_n (pc' := 45) dX10_keep_44 rfl rfl ?_
        refine r_getr (pc' := 48) dX10_keep_45 rfl fX10_29 z0 rfl ?_
        refine r_vv1 (pc' := 51) dX10_keep_48 rfl qX2_copyFrom lX10_311 isL145.1 rfl rfl rfl rfl (Nat.zero_le _) (Nat.zero_le _) (a_copyL isL145 isL17 (hC.fr (by rw [mu_ne (by decide), mu_ne (by decide)]) (by rw [mu_ne (by decide), mu_ne (by decide)]) (by rw [mu_ne (by decide), mu_ne (by decide)]) (by rw [mu_ne (by decide), mu_ne (by decide)])) hW (by decide) (fun g1 hC1 fr1 => ?_))
        refine r_aload_n (pc' := 52) dX10_keep_51 rfl rfl ?_
        refine r_getr (pc' := 55) dX10_keep_52 rfl fX10_36 z0 rfl ?_
        refine r_vv0 (pc' := 58) dX10_keep_55 rfl qX4_forget lX10_108 z21 rfl rfl rfl (Nat.zero_le _) (Nat.zero_le _) (a_forget (hP.fr (g' := g1) (fun j hj => by unfold pastB at hj; rw [fr1 j (by simp only [List.mem_cons, List.not_mem_nil, or_false, not_or]; omega), mu_ne (by omega), mu_ne (by omega)])) (fun g2 hP2 fr2 => ?_))
        refine r_iconst (pc' := 59) dX10_keep_58 rfl ?_
        refine r_reti dX10_keep_59 rfl (Or.inl rfl) ?_
        have hok : (0 : Int) ≤ 0 ∧ (0 : Int) < 2 := by decide
        have hx : ∀ j, j ≠ 21 → ¬ (j = 144 ∨ j = 145 ∨ j = 146 ∨ j = 147 ∨ j = 148) → g2 j = g j := fun j a b => by rw [fr2 j a, fr1 j (by simp only [List.mem_cons, List.not_mem_nil, or_false, not_or]; omega), mu_ne (by omega), mu_ne (by omega)]
        have hb1 : g2 144 = mu (mu g 144 2 1) 144 1 sd 144 := by rw [fr2 144 (by decide), fr1 144 (by decide)]
        have hc2 : LC g2 145 146 147 148 v := hC1.fr (fr2 _ (by decide)) (fr2 _ (by decide)) (fr2 _ (by decide)) (fr2 _ (by decide))
        have hps : PS g2 (Pf u) 0 top kL := hP2 kL
        have him : IMs g2 (Pf u) (fun j => if j = (0 : Int).toNat then (true, sd, v) else im j) := by
          intro i hi
          by_cases h0 : i = 0
          · subst h0
            exact ⟨by rw [hb1, mu_at' (by decide), mu_at]; rfl, fun _ => ⟨by rw [hb1, mu_at]; rfl, sd2, sd3, hc2, hW⟩⟩
          · have h1 : i = 1 := by omega
            subst h1
            obtain ⟨q1, q2⟩ := hI 1 hi
            refine ⟨by rw [hx _ (by decide) (by decide)]; exact q1, fun hk => ?_⟩
            obtain ⟨r1, r2, r3, r4, r5⟩ := q2 hk
            exact ⟨by rw [hx _ (by decide) (by decide)]; exact r1, r2, r3, r4.fr (hx _ (by decide) (by decide)) (hx _ (by decide) (by decide)) (hx _ (by decide) (by decide)) (hx _ (by decide) (by decide)), r5⟩
        have h9 := h g2 (by simp only [if_pos hok]; exact ⟨TX.fr ⟨t1, t2, t3⟩ (hx 1 (by omega) (by omega)) (hx 2 (by omega) (by omega)), ⟨by rw [hx 1 (by omega) (by omega)]; exact f1, f2⟩, hB.fr2 (fun j a1 a2 => hx j (by omega) (by omega)), ⟨top, hps⟩, him, ⟨by rw [hx 0 (by omega) (by omega)]; exact sd1, sd2, sd3⟩, hK.fr (hx 160 (by omega) (by omega)) (hx 161 (by omega) (by omega)) (hx 162 (by omega) (by omega)), hN.fr (hx 163 (by omega) (by omega)) (hx 164 (by omega) (by omega)) (hx 165 (by omega) (by omega))⟩) (fun j hj => hx j (by omega) (by omega))
        rw [if_pos hok] at h9
        exact h9
      · refine r_aload_n (pc' := 13) dX10_keep_12 rfl rfl ?_
        refine r_getr (pc' := 16) dX10_keep_13 rfl fX10_43 z0 rfl ?_
        refine r_iload_n (pc' := 17) dX10_keep_16 rfl rfl ?_
        refine r_aaload (pc' := 18) dX10_keep_17 rfl z143 (fun _ => rfl) (by decide) (by omega) rfl ?_
        refine r_iconst (pc' := 19) dX10_keep_18 rfl ?_
        refine r_putf (pc' := 22) (kI := 2) dX10_keep_19 rfl fX10_115 z149 rfl (Or.inr ⟨rfl, Or.inr rfl⟩) rfl rfl ?_
        refine r_aload_n (pc' := 23) dX10_keep_22 rfl rfl ?_
        refine r_getr (pc' := 26) dX10_keep_23 rfl fX10_43 z0 rfl ?_
        refine r_iload_n (pc' := 27) dX10_keep_26 rfl rfl ?_
        refine r_aaload (pc' := 28) dX10_keep_27 rfl z143 (fun _ => rfl) (by decide) (by omega) rfl ?_
        refine r_aload_n (pc' := 29) dX10_keep_28 rfl rfl ?_
        refine r_getf (pc' := 32) (kI := 11) (x := sd) dX10_keep_29 rfl fX10_82 z0 rfl rfl (by rw [mu_ne (by decide)]; exact sd1) ?_
        refine r_putf (pc' := 35) (kI := 1) dX10_keep_32 rfl fX10_305 z149 rfl (Or.inl rfl) rfl rfl ?_
        refine r_aload_n (pc' := 36) dX10_keep_35 rfl rfl ?_
        refine r_getr (pc' := 39) dX10_keep_36 rfl fX10_43 z0 rfl ?_
        refine r_iload_n (pc' := 40) dX10_keep_39 rfl rfl ?_
        refine r_aaload (pc' := 41) dX10_keep_40 rfl z143 (fun _ => rfl) (by decide) (by omega) rfl ?_
        refine r_getr (pc' := 44) dX10_keep_41 rfl fX10_308 z149 rfl ?_
        refine r_aload_n (pc' := 45) dX10_keep_44 rfl rfl ?_
        refine r_getr (pc' := 48) dX10_keep_45 rfl fX10_29 z0 rfl ?_
        refine r_vv1 (pc' := 51) dX10_keep_48 rfl qX2_copyFrom lX10_311 isL150.1 rfl rfl rfl rfl (Nat.zero_le _) (Nat.zero_le _) (a_copyL isL150 isL17 (hC.fr (by rw [mu_ne (by decide), mu_ne (by decide)]) (by rw [mu_ne (by decide), mu_ne (by decide)]) (by rw [mu_ne (by decide), mu_ne (by decide)]) (by rw [mu_ne (by decide), mu_ne (by decide)])) hW (by decide) (fun g1 hC1 fr1 => ?_))
        refine r_aload_n (pc' := 52) dX10_keep_51 rfl rfl ?_
        refine r_getr (pc' := 55) dX10_keep_52 rfl fX10_36 z0 rfl ?_
        refine r_vv0 (pc' := 58) dX10_keep_55 rfl qX4_forget lX10_108 z21 rfl rfl rfl (Nat.zero_le _) (Nat.zero_le _) (a_forget (hP.fr (g' := g1) (fun j hj => by unfold pastB at hj; rw [fr1 j (by simp only [List.mem_cons, List.not_mem_nil, or_false, not_or]; omega), mu_ne (by omega), mu_ne (by omega)])) (fun g2 hP2 fr2 => ?_))
        refine r_iconst (pc' := 59) dX10_keep_58 rfl ?_
        refine r_reti dX10_keep_59 rfl (Or.inl rfl) ?_
        have hok : (0 : Int) ≤ 1 ∧ (1 : Int) < 2 := by decide
        have hx : ∀ j, j ≠ 21 → ¬ (j = 149 ∨ j = 150 ∨ j = 151 ∨ j = 152 ∨ j = 153) → g2 j = g j := fun j a b => by rw [fr2 j a, fr1 j (by simp only [List.mem_cons, List.not_mem_nil, or_false, not_or]; omega), mu_ne (by omega), mu_ne (by omega)]
        have hb1 : g2 149 = mu (mu g 149 2 1) 149 1 sd 149 := by rw [fr2 149 (by decide), fr1 149 (by decide)]
        have hc2 : LC g2 150 151 152 153 v := hC1.fr (fr2 _ (by decide)) (fr2 _ (by decide)) (fr2 _ (by decide)) (fr2 _ (by decide))
        have hps : PS g2 (Pf u) 0 top kL := hP2 kL
        have him : IMs g2 (Pf u) (fun j => if j = (1 : Int).toNat then (true, sd, v) else im j) := by
          intro i hi
          by_cases h0 : i = 1
          · subst h0
            exact ⟨by rw [hb1, mu_at' (by decide), mu_at]; rfl, fun _ => ⟨by rw [hb1, mu_at]; rfl, sd2, sd3, hc2, hW⟩⟩
          · have h1 : i = 0 := by omega
            subst h1
            obtain ⟨q1, q2⟩ := hI 0 hi
            refine ⟨by rw [hx _ (by decide) (by decide)]; exact q1, fun hk => ?_⟩
            obtain ⟨r1, r2, r3, r4, r5⟩ := q2 hk
            exact ⟨by rw [hx _ (by decide) (by decide)]; exact r1, r2, r3, r4.fr (hx _ (by decide) (by decide)) (hx _ (by decide) (by decide)) (hx _ (by decide) (by decide)) (hx _ (by decide) (by decide)), r5⟩
        have h9 := h g2 (by simp only [if_pos hok]; exact ⟨TX.fr ⟨t1, t2, t3⟩ (hx 1 (by omega) (by omega)) (hx 2 (by omega) (by omega)), ⟨by rw [hx 1 (by omega) (by omega)]; exact f1, f2⟩, hB.fr2 (fun j a1 a2 => hx j (by omega) (by omega)), ⟨top, hps⟩, him, ⟨by rw [hx 0 (by omega) (by omega)]; exact sd1, sd2, sd3⟩, hK.fr (hx 160 (by omega) (by omega)) (hx 161 (by omega) (by omega)) (hx 162 (by omega) (by omega)), hN.fr (hx 163 (by omega) (by omega)) (hx 164 (by omega) (by omega)) (hx 165 (by omega) (by omega))⟩) (fun j hj => hx j (by omega) (by omega))
        rw [if_pos hok] at h9
        exact h9
    · refine r_ldc (z := -1000000001) (pc' := 11) dX10_keep_9 rfl kX10_177 ?_
      refine r_reti dX10_keep_11 rfl (Or.inl rfl) ?_
      have hno : ¬ (0 ≤ i ∧ i < 2) := by omega
      have h9 := h g (by simp only [if_neg hno]; exact hS) (FrC.rf g)
      rw [if_neg hno] at h9
      exact h9
def E_goBack (im : Nat → Bool × Int × LV) (i : Int) : Int := if 0 ≤ i ∧ i < 2 then (if (im i.toNat).1 = true then 1 else -1000000003) else -1000000001
theorem C_goBack {X : CX} {d : Nat} {g : Mem} {K : Int → Mem → Prop} {tN : Nat} {tX : Nat → Int} {flt : Int} {u : PV} {v : LV} {kn : Nat} {kL : Nat → LV} {im : Nat → Bool × Int × LV} {sd : Int} {ln : Nat} {la : Nat → Nat} {lr : Nat → Bool} {bn : Nat} {bp : Nat → Nat} {bf : Nat → Int} (hS : CS g tN tX flt u v kn kL im sd ln la lr bn bp bf) (i : Int) (hi0 : R32 i) (h : ∀ g' : Mem, CS g' tN tX flt u (if (0 ≤ i ∧ i < 2) ∧ (im i.toNat).1 = true then (im i.toNat).2.2 else v) (if (0 ≤ i ∧ i < 2) ∧ (im i.toNat).1 = true then 0 else kn) kL im (if (0 ≤ i ∧ i < 2) ∧ (im i.toNat).1 = true then (im i.toNat).2.1 else sd) ln la lr bn bp bf → FrC g g' → K (E_goBack im i) g') : EI X (d + 2) mX10_goBack [vr 0, vi i] Z0 g K := by
  show AJ X (d + 2) mX10_goBack 0 0 (QI Z0 K) 0 0 0 [some (vr 0), some (vi i)] [] Z0 g
  obtain ⟨⟨t1, t2, t3⟩, ⟨f1, f2⟩, hB, ⟨top, hP⟩, hI, ⟨sd1, sd2, sd3⟩, hK, hN⟩ := id hS
  obtain ⟨hQ, hU, hC, hW⟩ := id hB
  obtain ⟨hc, ho, hf, hw_, ht, hi, hy⟩ := id hC
  obtain ⟨w0, w1, w2, w3, w4, w5, w6, w7⟩ := id hW
  obtain ⟨p6, p7, p8, p9, p10, pk, pg, px, py⟩ := id hQ
  obtain ⟨u0, u1, u2, u3, u4, u5, u6, u7⟩ := id hU
  refine r_iload_n (pc' := 1) dX10_goBack_0 rfl rfl ?_
  refine r_if_lt (tgt := 9) (pc' := 4) dX10_goBack_1 rfl rfl (by omega) (fun c1 => ?_) (fun c1 => ?_)
  · refine r_ldc (z := -1000000001) (pc' := 11) dX10_goBack_9 rfl kX10_177 ?_
    refine r_reti dX10_goBack_11 rfl (Or.inl rfl) ?_
    have hno : ¬ ((0 ≤ i ∧ i < 2) ∧ (im i.toNat).1 = true) := by intro q; omega
    have h9 := h g (by simp only [if_neg hno]; exact hS) (FrC.rf g)
    unfold E_goBack at h9
    rw [if_neg (by omega)] at h9
    exact h9
  · refine r_iload_n (pc' := 5) dX10_goBack_4 rfl rfl ?_
    refine r_iconst (pc' := 6) dX10_goBack_5 rfl ?_
    refine r_icmp_lt (tgt := 12) (pc' := 9) dX10_goBack_6 rfl rfl (by omega) (by omega) (fun c6 => ?_) (fun c6 => ?_)
    · have hi2 : i = 0 ∨ i = 1 := by omega
      rcases hi2 with rfl | rfl
      · obtain ⟨q1, q2⟩ := hI 0 (by decide)
        refine r_aload_n (pc' := 13) dX10_goBack_12 rfl rfl ?_
        refine r_getr (pc' := 16) dX10_goBack_13 rfl fX10_43 z0 rfl ?_
        refine r_iload_n (pc' := 17) dX10_goBack_16 rfl rfl ?_
        refine r_aaload (pc' := 18) dX10_goBack_17 rfl z143 (fun _ => rfl) (by decide) (by omega) rfl ?_
        refine r_getf (pc' := 21) (kI := 2) dX10_goBack_18 rfl fX10_115 z144 rfl rfl q1 ?_
        refine r_if_ne (tgt := 27) (pc' := 24) dX10_goBack_21 rfl rfl (b01_R _) (fun c21 => ?_) (fun c21 => ?_)
        · have hk : (im 0).1 = true := b01_ne c21
          obtain ⟨r1, r2, r3, r4, r5⟩ := q2 hk
          refine r_aload_n (pc' := 28) dX10_goBack_27 rfl rfl ?_
          refine r_aload_n (pc' := 29) dX10_goBack_28 rfl rfl ?_
          refine r_getr (pc' := 32) dX10_goBack_29 rfl fX10_43 z0 rfl ?_
          refine r_iload_n (pc' := 33) dX10_goBack_32 rfl rfl ?_
          refine r_aaload (pc' := 34) dX10_goBack_33 rfl z143 (fun _ => rfl) (by decide) (by omega) rfl ?_
          refine r_getf (pc' := 37) (kI := 1) dX10_goBack_34 rfl fX10_305 z144 rfl rfl r1 ?_
          refine r_putf (pc' := 40) (kI := 11) dX10_goBack_37 rfl fX10_82 z0 rfl (Or.inl rfl) rfl rfl ?_
          refine r_aload_n (pc' := 41) dX10_goBack_40 rfl rfl ?_
          refine r_getr (pc' := 44) dX10_goBack_41 rfl fX10_29 z0 rfl ?_
          refine r_aload_n (pc' := 45) dX10_goBack_44 rfl rfl ?_
          refine r_getr (pc' := 48) dX10_goBack_45 rfl fX10_43 z0 rfl ?_
          refine r_iload_n (pc' := 49) dX10_goBack_48 rfl rfl ?_
          refine r_aaload (pc' := 50) dX10_goBack_49 rfl z143 (fun _ => rfl) (by decide) (by omega) rfl ?_
          refine r_getr (pc' := 53) dX10_goBack_50 rfl fX10_308 z144 rfl ?_
          refine r_vv1 (pc' := 56) dX10_goBack_53 rfl qX2_copyFrom lX10_311 isL17.1 rfl rfl rfl rfl (Nat.zero_le _) (Nat.zero_le _) (a_copyL isL17 isL145 (r4.fr (by rw [mu_ne (by decide)]) (by rw [mu_ne (by decide)]) (by rw [mu_ne (by decide)]) (by rw [mu_ne (by decide)])) r5 (by decide) (fun g1 hC1 fr1 => ?_))
          refine r_aload_n (pc' := 57) dX10_goBack_56 rfl rfl ?_
          refine r_getr (pc' := 60) dX10_goBack_57 rfl fX10_36 z0 rfl ?_
          refine r_vv0 (pc' := 63) dX10_goBack_60 rfl qX4_forget lX10_108 z21 rfl rfl rfl (Nat.zero_le _) (Nat.zero_le _) (a_forget (hP.fr (g' := g1) (fun j hj => by unfold pastB at hj; rw [fr1 j (by simp only [List.mem_cons, List.not_mem_nil, or_false, not_or]; omega), mu_ne (by omega)])) (fun g2 hP2 fr2 => ?_))
          refine r_iconst (pc' := 64) dX10_goBack_63 rfl ?_
          refine r_reti dX10_goBack_64 rfl (Or.inl rfl) ?_
          have hok : ((0 : Int) ≤ 0 ∧ (0 : Int) < 2) ∧ (im ((0 : Int).toNat)).1 = true := ⟨by decide, hk⟩
          have hx : ∀ j, j ≠ 0 → j ≠ 21 → ¬ (17 ≤ j ∧ j ≤ 20) → g2 j = g j := fun j a c b => by rw [fr2 j c, fr1 j (by simp only [List.mem_cons, List.not_mem_nil, or_false, not_or]; omega), mu_ne a]
          have hl := hC1.fr (fr2 17 (by decide)) (fr2 18 (by decide)) (fr2 19 (by decide)) (fr2 20 (by decide))
          have hps : PS g2 (Pf u) 0 top kL := hP2 kL
          have h0 : g2 0 11 = (im 0).2.1 := by rw [fr2 0 (by decide), fr1 0 (by decide), mu_at]
          have hQ2 : PC_ g2 10 11 12 13 14 15 16 u := by
            unfold PC_
            rw [hx 10 (by decide) (by decide) (by decide), hx 11 (by decide) (by decide) (by decide), hx 12 (by decide) (by decide) (by decide), hx 13 (by decide) (by decide) (by decide), hx 14 (by decide) (by decide) (by decide), hx 15 (by decide) (by decide) (by decide), hx 16 (by decide) (by decide) (by decide)]
            exact hQ
          have h9 := h g2 (by simp only [if_pos hok]; exact ⟨TX.fr ⟨t1, t2, t3⟩ (hx 1 (by omega) (by omega) (by omega)) (hx 2 (by omega) (by omega) (by omega)), ⟨by rw [hx 1 (by omega) (by omega) (by omega)]; exact f1, f2⟩, ⟨hQ2, hU, hl, r5⟩, ⟨top, hps⟩, IMs.fr hI (fun j a1 a2 => hx j (by omega) (by omega) (by omega)), ⟨h0, r2, r3⟩, hK.fr (hx 160 (by omega) (by omega) (by omega)) (hx 161 (by omega) (by omega) (by omega)) (hx 162 (by omega) (by omega) (by omega)), hN.fr (hx 163 (by omega) (by omega) (by omega)) (hx 164 (by omega) (by omega) (by omega)) (hx 165 (by omega) (by omega) (by omega))⟩) (fun j hj => hx j (by omega) (by omega) (by omega))
          unfold E_goBack at h9
          rw [if_pos (by decide), if_pos hok.2] at h9
          exact h9
        · refine r_ldc (z := -1000000003) (pc' := 26) dX10_goBack_24 rfl kX10_227 ?_
          refine r_reti dX10_goBack_26 rfl (Or.inl rfl) ?_
          have hf := b01_eq c21
          have hno : ¬ (((0 : Int) ≤ 0 ∧ (0 : Int) < 2) ∧ (im ((0 : Int).toNat)).1 = true) := by intro q; exact absurd (hf.symm.trans q.2) (by decide)
          have h9 := h g (by simp only [if_neg hno]; exact hS) (FrC.rf g)
          unfold E_goBack at h9
          rw [if_pos (by decide), if_neg (by intro q; exact absurd (hf.symm.trans q) (by decide))] at h9
          exact h9
      · obtain ⟨q1, q2⟩ := hI 1 (by decide)
        refine r_aload_n (pc' := 13) dX10_goBack_12 rfl rfl ?_
        refine r_getr (pc' := 16) dX10_goBack_13 rfl fX10_43 z0 rfl ?_
        refine r_iload_n (pc' := 17) dX10_goBack_16 rfl rfl ?_
        refine r_aaload (pc' := 18) dX10_goBack_17 rfl z143 (fun _ => rfl) (by decide) (by omega) rfl ?_
        refine r_getf (pc' := 21) (kI := 2) dX10_goBack_18 rfl fX10_115 z149 rfl rfl q1 ?_
        refine r_if_ne (tgt := 27) (pc' := 24) dX10_goBack_21 rfl rfl (b01_R _) (fun c21 => ?_) (fun c21 => ?_)
        · have hk : (im 1).1 = true := b01_ne c21
          obtain ⟨r1, r2, r3, r4, r5⟩ := q2 hk
          refine r_aload_n (pc' := 28) dX10_goBack_27 rfl rfl ?_
          refine r_aload_n (pc' := 29) dX10_goBack_28 rfl rfl ?_
          refine r_getr (pc' := 32) dX10_goBack_29 rfl fX10_43 z0 rfl ?_
          refine r_iload_n (pc' := 33) dX10_goBack_32 rfl rfl ?_
          refine r_aaload (pc' := 34) dX10_goBack_33 rfl z143 (fun _ => rfl) (by decide) (by omega) rfl ?_
          refine r_getf (pc' := 37) (kI := 1) dX10_goBack_34 rfl fX10_305 z149 rfl rfl r1 ?_
          refine r_putf (pc' := 40) (kI := 11) dX10_goBack_37 rfl fX10_82 z0 rfl (Or.inl rfl) rfl rfl ?_
          refine r_aload_n (pc' := 41) dX10_goBack_40 rfl rfl ?_
          refine r_getr (pc' := 44) dX10_goBack_41 rfl fX10_29 z0 rfl ?_
          refine r_aload_n (pc' := 45) dX10_goBack_44 rfl rfl ?_
          refine r_getr (pc' := 48) dX10_goBack_45 rfl fX10_43 z0 rfl ?_
          refine r_iload_n (pc' := 49) dX10_goBack_48 rfl rfl ?_
          refine r_aaload (pc' := 50) dX10_goBack_49 rfl z143 (fun _ => rfl) (by decide) (by omega) rfl ?_
          refine r_getr (pc' := 53) dX10_goBack_50 rfl fX10_308 z149 rfl ?_
          refine r_vv1 (pc' := 56) dX10_goBack_53 rfl qX2_copyFrom lX10_311 isL17.1 rfl rfl rfl rfl (Nat.zero_le _) (Nat.zero_le _) (a_copyL isL17 isL150 (r4.fr (by rw [mu_ne (by decide)]) (by rw [mu_ne (by decide)]) (by rw [mu_ne (by decide)]) (by rw [mu_ne (by decide)])) r5 (by decide) (fun g1 hC1 fr1 => ?_))
          refine r_aload_n (pc' := 57) dX10_goBack_56 rfl rfl ?_
          refine r_getr (pc' := 60) dX10_goBack_57 rfl fX10_36 z0 rfl ?_
          refine r_vv0 (pc' := 63) dX10_goBack_60 rfl qX4_forget lX10_108 z21 rfl rfl rfl (Nat.zero_le _) (Nat.zero_le _) (a_forget (hP.fr (g' := g1) (fun j hj => by unfold pastB at hj; rw [fr1 j (by simp only [List.mem_cons, List.not_mem_nil, or_false, not_or]; omega), mu_ne (by omega)])) (fun g2 hP2 fr2 => ?_))
          refine r_iconst (pc' := 64) dX10_goBack_63 rfl ?_
          refine r_reti dX10_goBack_64 rfl (Or.inl rfl) ?_
          have hok : ((0 : Int) ≤ 1 ∧ (1 : Int) < 2) ∧ (im ((1 : Int).toNat)).1 = true := ⟨by decide, hk⟩
          have hx : ∀ j, j ≠ 0 → j ≠ 21 → ¬ (17 ≤ j ∧ j ≤ 20) → g2 j = g j := fun j a c b => by rw [fr2 j c, fr1 j (by simp only [List.mem_cons, List.not_mem_nil, or_false, not_or]; omega), mu_ne a]
          have hl := hC1.fr (fr2 17 (by decide)) (fr2 18 (by decide)) (fr2 19 (by decide)) (fr2 20 (by decide))
          have hps : PS g2 (Pf u) 0 top kL := hP2 kL
          have h0 : g2 0 11 = (im 1).2.1 := by rw [fr2 0 (by decide), fr1 0 (by decide), mu_at]
          have hQ2 : PC_ g2 10 11 12 13 14 15 16 u := by
            unfold PC_
            rw [hx 10 (by decide) (by decide) (by decide), hx 11 (by decide) (by decide) (by decide), hx 12 (by decide) (by decide) (by decide), hx 13 (by decide) (by decide) (by decide), hx 14 (by decide) (by decide) (by decide), hx 15 (by decide) (by decide) (by decide), hx 16 (by decide) (by decide) (by decide)]
            exact hQ
          have h9 := h g2 (by simp only [if_pos hok]; exact ⟨TX.fr ⟨t1, t2, t3⟩ (hx 1 (by omega) (by omega) (by omega)) (hx 2 (by omega) (by omega) (by omega)), ⟨by rw [hx 1 (by omega) (by omega) (by omega)]; exact f1, f2⟩, ⟨hQ2, hU, hl, r5⟩, ⟨top, hps⟩, IMs.fr hI (fun j a1 a2 => hx j (by omega) (by omega) (by omega)), ⟨h0, r2, r3⟩, hK.fr (hx 160 (by omega) (by omega) (by omega)) (hx 161 (by omega) (by omega) (by omega)) (hx 162 (by omega) (by omega) (by omega)), hN.fr (hx 163 (by omega) (by omega) (by omega)) (hx 164 (by omega) (by omega) (by omega)) (hx 165 (by omega) (by omega) (by omega))⟩) (fun j hj => hx j (by omega) (by omega) (by omega))
          unfold E_goBack at h9
          rw [if_pos (by decide), if_pos hok.2] at h9
          exact h9
        · refine r_ldc (z := -1000000003) (pc' := 26) dX10_goBack_24 rfl kX10_227 ?_
          refine r_reti dX10_goBack_26 rfl (Or.inl rfl) ?_
          have hf := b01_eq c21
          have hno : ¬ (((0 : Int) ≤ 1 ∧ (1 : Int) < 2) ∧ (im ((1 : Int).toNat)).1 = true) := by intro q; exact absurd (hf.symm.trans q.2) (by decide)
          have h9 := h g (by simp only [if_neg hno]; exact hS) (FrC.rf g)
          unfold E_goBack at h9
          rw [if_pos (by decide), if_neg (by intro q; exact absurd (hf.symm.trans q) (by decide))] at h9
          exact h9
    · refine r_ldc (z := -1000000001) (pc' := 11) dX10_goBack_9 rfl kX10_177 ?_
      refine r_reti dX10_goBack_11 rfl (Or.inl rfl) ?_
      have hno : ¬ ((0 ≤ i ∧ i < 2) ∧ (im i.toNat).1 = true) := by intro q; omega
      have h9 := h g (by simp only [if_neg hno]; exact hS) (FrC.rf g)
      unfold E_goBack at h9
      rw [if_neg (by omega)] at h9
      exact h9
theorem C_rain {X : CX} {d : Nat} {g : Mem} {K : Int → Mem → Prop} {tN : Nat} {tX : Nat → Int} {flt : Int} {u : PV} {v : LV} {kn : Nat} {kL : Nat → LV} {im : Nat → Bool × Int × LV} {sd : Int} {ln : Nat} {la : Nat → Nat} {lr : Nat → Bool} {bn : Nat} {bp : Nat → Nat} {bf : Nat → Int} (hS : CS g tN tX flt u v kn kL im sd ln la lr bn bp bf) (y : Bool) (h : ∀ g' : Mem, CS g' tN tX flt u (if Pp u ≠ 0 then wetV v (if y then onN v else 0) else v) (if Pp u ≠ 0 then pN kn else kn) (if Pp u ≠ 0 then pL kn kL v else kL) im sd ln la lr bn bp bf → FrC g g' → K (if Pp u ≠ 0 then (popN (Lt v) : Int) else -1000000003) g') : EI X (d + 3) mX10_rain [vr 0, vi (b01 y)] Z0 g K := by
  show AJ X (d + 3) mX10_rain 0 0 (QI Z0 K) 0 0 0 [some (vr 0), some (vi (b01 y)), none] [] Z0 g
  obtain ⟨⟨t1, t2, t3⟩, ⟨f1, f2⟩, hB, ⟨top, hP⟩, hI, ⟨sd1, sd2, sd3⟩, hK, hN⟩ := id hS
  obtain ⟨hQ, hU, hC, hW⟩ := id hB
  obtain ⟨hc, ho, hf, hw_, ht, hi, hy⟩ := id hC
  obtain ⟨w0, w1, w2, w3, w4, w5, w6, w7⟩ := id hW
  obtain ⟨p6, p7, p8, p9, p10, pk, pg, px, py⟩ := id hQ
  obtain ⟨u0, u1, u2, u3, u4, u5, u6, u7⟩ := id hU
  have onl := onN_lt hW
  refine r_aload_n (pc' := 1) dX10_rain_0 rfl rfl ?_
  refine r_getr (pc' := 4) dX10_rain_1 rfl fX10_23 z0 rfl ?_
  refine r_getf (pc' := 7) (kI := 6) dX10_rain_4 rfl fX10_125 isP10.1 rfl rfl p6 ?_
  refine r_if_ne (tgt := 13) (pc' := 10) dX10_rain_7 rfl rfl (by omega) (fun c7 => ?_) (fun c7 => ?_)
  · refine r_aload_n (pc' := 14) dX10_rain_13 rfl rfl ?_
    refine r_getr (pc' := 17) dX10_rain_14 rfl fX10_29 z0 rfl ?_
    refine r_getf (pc' := 20) (kI := 4) dX10_rain_17 rfl fX10_149 isL17.1 rfl rfl ht ?_
    refine r_si1 (pc' := 23) dX10_rain_20 rfl qJ6_bitCount lX10_235 rfl rfl rfl (Nat.zero_le _) (Nat.zero_le _) (a_bitCount w4 ?_)
    refine r_istore_n (pc' := 24) dX10_rain_23 rfl rfl ?_
    refine r_aload_n (pc' := 25) dX10_rain_24 rfl rfl ?_
    refine r_getr (pc' := 28) dX10_rain_25 rfl fX10_36 z0 rfl ?_
    refine r_aload_n (pc' := 29) dX10_rain_28 rfl rfl ?_
    refine r_getr (pc' := 32) dX10_rain_29 rfl fX10_29 z0 rfl ?_
    refine r_vv1 (pc' := 35) dX10_rain_32 rfl qX4_remember lX10_216 z21 rfl rfl rfl rfl (Nat.zero_le _) (Nat.zero_le _) (a_remember hB hP (fun g1 hP1 fr1 => ?_))
    have hl1 : ∀ j, j < 21 ∨ 143 ≤ j → g1 j = g j := fun j hj => fr1 j (by unfold pastB; omega)
    have hC1 := LC.fr hC (hl1 17 (by omega)) (hl1 18 (by omega)) (hl1 19 (by omega)) (hl1 20 (by omega))
    refine r_aload_n (pc' := 36) dX10_rain_35 rfl rfl ?_
    refine r_getr (pc' := 39) dX10_rain_36 rfl fX10_29 z0 rfl ?_
    refine r_iload_n (pc' := 40) dX10_rain_39 rfl rfl ?_
    refine r_if_eq (tgt := 53) (pc' := 43) dX10_rain_40 rfl rfl (b01_R _) (fun c40 => ?_) (fun c40 => ?_)
    · have hy1 := b01_eq c40
      subst hy1
      refine r_iconst (pc' := 54) dX10_rain_53 rfl ?_
      refine r_putf (pc' := 57) (kI := 4) dX10_rain_54 rfl fX10_149 isL17.1 rfl (Or.inl rfl) rfl rfl ?_
      refine r_iload_n (pc' := 58) dX10_rain_57 rfl rfl ?_
      refine r_reti dX10_rain_58 rfl (Or.inl rfl) ?_
      first
        | (have hok : Pp u ≠ 0 := by omega
           have hfr : ∀ j, j ≠ 17 → mu g1 17 4 ((onN v : Int)) j = g1 j := fun j a => mu_ne a
           have hlc : LC (mu g1 17 4 ((onN v : Int))) 17 18 19 20 (wetV v (if true then onN v else 0)) := by
             obtain ⟨a1, a2, a3, a4, a5, a6, a7⟩ := hC1
             refine ⟨?_, fun p hp => by rw [hfr 18 (by decide)]; exact a2 p hp, fun p hp => by rw [hfr 19 (by decide)]; exact a3 p hp, fun p hp => by rw [hfr 20 (by decide)]; exact a4 p hp, ?_, ?_, ?_⟩
             all_goals first | (rw [mu_at]; rfl) | (rw [mu_at' (by decide)]; assumption)
           have hcs : CS (mu g1 17 4 ((onN v : Int))) tN tX flt u (wetV v (if true then onN v else 0)) (pN kn) (pL kn kL v) im sd ln la lr bn bp bf := hS.deed (hP1.fr (fun j hj => hfr j (by unfold pastB at hj; omega))) hlc (LW_wet hW onl) (fun j h0 h1 h2 h3 h4 => (hfr j h1).trans (fr1 j h0))
           have h9 := h _ (by simp only [if_pos hok]; exact hcs) (fun j hj => (hfr j (by omega)).trans (hl1 j (by omega)))
           rw [if_pos hok] at h9
           exact h9)
        | (have hok : Pp u ≠ 0 := by omega
           have hfr : ∀ j, j ≠ 17 → mu g1 17 4 (0) j = g1 j := fun j a => mu_ne a
           have hlc : LC (mu g1 17 4 (0)) 17 18 19 20 (wetV v (if false then onN v else 0)) := by
             obtain ⟨a1, a2, a3, a4, a5, a6, a7⟩ := hC1
             refine ⟨?_, fun p hp => by rw [hfr 18 (by decide)]; exact a2 p hp, fun p hp => by rw [hfr 19 (by decide)]; exact a3 p hp, fun p hp => by rw [hfr 20 (by decide)]; exact a4 p hp, ?_, ?_, ?_⟩
             all_goals first | (rw [mu_at]; rfl) | (rw [mu_at' (by decide)]; assumption)
           have hcs : CS (mu g1 17 4 (0)) tN tX flt u (wetV v (if false then onN v else 0)) (pN kn) (pL kn kL v) im sd ln la lr bn bp bf := hS.deed (hP1.fr (fun j hj => hfr j (by unfold pastB at hj; omega))) hlc (LW_wet hW (s := 0) (by decide)) (fun j h0 h1 h2 h3 h4 => (hfr j h1).trans (fr1 j h0))
           have h9 := h _ (by simp only [if_pos hok]; exact hcs) (fun j hj => (hfr j (by omega)).trans (hl1 j (by omega)))
           rw [if_pos hok] at h9
           exact h9)
    · have hy1 := b01_ne c40
      subst hy1
      refine r_aload_n (pc' := 44) dX10_rain_43 rfl rfl ?_
      refine r_getr (pc' := 47) dX10_rain_44 rfl fX10_29 z0 rfl ?_
      refine r_vi0 (pc' := 50) dX10_rain_47 rfl qX2_onSet lX10_141 isL17.1 rfl rfl rfl (Nat.zero_le _) (Nat.zero_le _) (a_onSet isL17 hC1 hW ?_)
      refine r_goto (tgt := 54) dX10_rain_50 rfl ?_
      refine r_putf (pc' := 57) (kI := 4) dX10_rain_54 rfl fX10_149 isL17.1 rfl (Or.inl rfl) rfl rfl ?_
      refine r_iload_n (pc' := 58) dX10_rain_57 rfl rfl ?_
      refine r_reti dX10_rain_58 rfl (Or.inl rfl) ?_
      first
        | (have hok : Pp u ≠ 0 := by omega
           have hfr : ∀ j, j ≠ 17 → mu g1 17 4 ((onN v : Int)) j = g1 j := fun j a => mu_ne a
           have hlc : LC (mu g1 17 4 ((onN v : Int))) 17 18 19 20 (wetV v (if true then onN v else 0)) := by
             obtain ⟨a1, a2, a3, a4, a5, a6, a7⟩ := hC1
             refine ⟨?_, fun p hp => by rw [hfr 18 (by decide)]; exact a2 p hp, fun p hp => by rw [hfr 19 (by decide)]; exact a3 p hp, fun p hp => by rw [hfr 20 (by decide)]; exact a4 p hp, ?_, ?_, ?_⟩
             all_goals first | (rw [mu_at]; rfl) | (rw [mu_at' (by decide)]; assumption)
           have hcs : CS (mu g1 17 4 ((onN v : Int))) tN tX flt u (wetV v (if true then onN v else 0)) (pN kn) (pL kn kL v) im sd ln la lr bn bp bf := hS.deed (hP1.fr (fun j hj => hfr j (by unfold pastB at hj; omega))) hlc (LW_wet hW onl) (fun j h0 h1 h2 h3 h4 => (hfr j h1).trans (fr1 j h0))
           have h9 := h _ (by simp only [if_pos hok]; exact hcs) (fun j hj => (hfr j (by omega)).trans (hl1 j (by omega)))
           rw [if_pos hok] at h9
           exact h9)
        | (have hok : Pp u ≠ 0 := by omega
           have hfr : ∀ j, j ≠ 17 → mu g1 17 4 (0) j = g1 j := fun j a => mu_ne a
           have hlc : LC (mu g1 17 4 (0)) 17 18 19 20 (wetV v (if false then onN v else 0)) := by
             obtain ⟨a1, a2, a3, a4, a5, a6, a7⟩ := hC1
             refine ⟨?_, fun p hp => by rw [hfr 18 (by decide)]; exact a2 p hp, fun p hp => by rw [hfr 19 (by decide)]; exact a3 p hp, fun p hp => by rw [hfr 20 (by decide)]; exact a4 p hp, ?_, ?_, ?_⟩
             all_goals first | (rw [mu_at]; rfl) | (rw [mu_at' (by decide)]; assumption)
           have hcs : CS (mu g1 17 4 (0)) tN tX flt u (wetV v (if false then onN v else 0)) (pN kn) (pL kn kL v) im sd ln la lr bn bp bf := hS.deed (hP1.fr (fun j hj => hfr j (by unfold pastB at hj; omega))) hlc (LW_wet hW (s := 0) (by decide)) (fun j h0 h1 h2 h3 h4 => (hfr j h1).trans (fr1 j h0))
           have h9 := h _ (by simp only [if_pos hok]; exact hcs) (fun j hj => (hfr j (by omega)).trans (hl1 j (by omega)))
           rw [if_pos hok] at h9
           exact h9)
  · refine r_ldc (z := -1000000003) (pc' := 12) dX10_rain_10 rfl kX10_227 ?_
    refine r_reti dX10_rain_12 rfl (Or.inl rfl) ?_
    have hno : ¬ (Pp u ≠ 0) := by omega
    have h9 := h g (by simp only [if_neg hno]; exact hS) (FrC.rf g)
    rw [if_neg hno] at h9
    exact h9
def E_wind (u : PV) (v : LV) (x : Int) : Int := if 0 ≤ x ∧ x ≤ 9 then (if Pp u ≠ 0 then (Li v : Int) else -1000000003) else -1000000002
theorem C_wind {X : CX} {d : Nat} {g : Mem} {K : Int → Mem → Prop} {tN : Nat} {tX : Nat → Int} {flt : Int} {u : PV} {v : LV} {kn : Nat} {kL : Nat → LV} {im : Nat → Bool × Int × LV} {sd : Int} {ln : Nat} {la : Nat → Nat} {lr : Nat → Bool} {bn : Nat} {bp : Nat → Nat} {bf : Nat → Int} (hS : CS g tN tX flt u v kn kL im sd ln la lr bn bp bf) (x : Int) (hx : R32 x) (h : ∀ g' : Mem, CS g' tN tX flt u (if (0 ≤ x ∧ x ≤ 9) ∧ Pp u ≠ 0 then winV v x.toNat else v) (if (0 ≤ x ∧ x ≤ 9) ∧ Pp u ≠ 0 then pN kn else kn) (if (0 ≤ x ∧ x ≤ 9) ∧ Pp u ≠ 0 then pL kn kL v else kL) im sd ln la lr bn bp bf → FrC g g' → K (E_wind u v x) g') : EI X (d + 3) mX10_wind [vr 0, vi x] Z0 g K := by
  show AJ X (d + 3) mX10_wind 0 0 (QI Z0 K) 0 0 0 [some (vr 0), some (vi x), none] [] Z0 g
  obtain ⟨⟨t1, t2, t3⟩, ⟨f1, f2⟩, hB, ⟨top, hP⟩, hI, ⟨sd1, sd2, sd3⟩, hK, hN⟩ := id hS
  obtain ⟨hQ, hU, hC, hW⟩ := id hB
  obtain ⟨hc, ho, hf, hw_, ht, hi, hy⟩ := id hC
  obtain ⟨w0, w1, w2, w3, w4, w5, w6, w7⟩ := id hW
  obtain ⟨p6, p7, p8, p9, p10, pk, pg, px, py⟩ := id hQ
  obtain ⟨u0, u1, u2, u3, u4, u5, u6, u7⟩ := id hU
  refine r_iload_n (pc' := 1) dX10_wind_0 rfl rfl ?_
  refine r_if_lt (tgt := 10) (pc' := 4) dX10_wind_1 rfl rfl (by omega) (fun c1 => ?_) (fun c1 => ?_)
  · refine r_ldc (z := -1000000002) (pc' := 12) dX10_wind_10 rfl kX10_86 ?_
    refine r_reti dX10_wind_12 rfl (Or.inl rfl) ?_
    have hno : ¬ ((0 ≤ x ∧ x ≤ 9) ∧ Pp u ≠ 0) := by omega
    have h9 := h g (by simp only [if_neg hno]; exact hS) (FrC.rf g)
    unfold E_wind at h9
    rw [if_neg (by omega)] at h9
    exact h9
  · refine r_iload_n (pc' := 5) dX10_wind_4 rfl rfl ?_
    refine r_bipush (pc' := 7) dX10_wind_5 rfl (by decide) ?_
    refine r_icmp_le (tgt := 13) (pc' := 10) dX10_wind_7 rfl rfl (by omega) (by omega) (fun c7 => ?_) (fun c7 => ?_)
    · refine r_aload_n (pc' := 14) dX10_wind_13 rfl rfl ?_
      refine r_getr (pc' := 17) dX10_wind_14 rfl fX10_23 z0 rfl ?_
      refine r_getf (pc' := 20) (kI := 6) dX10_wind_17 rfl fX10_125 isP10.1 rfl rfl p6 ?_
      refine r_if_ne (tgt := 26) (pc' := 23) dX10_wind_20 rfl rfl (by omega) (fun c20 => ?_) (fun c20 => ?_)
      · refine r_aload_n (pc' := 27) dX10_wind_26 rfl rfl ?_
        refine r_getr (pc' := 30) dX10_wind_27 rfl fX10_29 z0 rfl ?_
        refine r_getf (pc' := 33) (kI := 5) dX10_wind_30 rfl fX10_137 isL17.1 rfl rfl hi ?_
        refine r_istore_n (pc' := 34) dX10_wind_33 rfl rfl ?_
        refine r_aload_n (pc' := 35) dX10_wind_34 rfl rfl ?_
        refine r_getr (pc' := 38) dX10_wind_35 rfl fX10_36 z0 rfl ?_
        refine r_aload_n (pc' := 39) dX10_wind_38 rfl rfl ?_
        refine r_getr (pc' := 42) dX10_wind_39 rfl fX10_29 z0 rfl ?_
        refine r_vv1 (pc' := 45) dX10_wind_42 rfl qX4_remember lX10_216 z21 rfl rfl rfl rfl (Nat.zero_le _) (Nat.zero_le _) (a_remember hB hP (fun g1 hP1 fr1 => ?_))
        have hl1 : ∀ j, j < 21 ∨ 143 ≤ j → g1 j = g j := fun j hj => fr1 j (by unfold pastB; omega)
        have hC1 := LC.fr hC (hl1 17 (by omega)) (hl1 18 (by omega)) (hl1 19 (by omega)) (hl1 20 (by omega))
        refine r_aload_n (pc' := 46) dX10_wind_45 rfl rfl ?_
        refine r_getr (pc' := 49) dX10_wind_46 rfl fX10_29 z0 rfl ?_
        refine r_iload_n (pc' := 50) dX10_wind_49 rfl rfl ?_
        refine r_putf (pc' := 53) (kI := 5) dX10_wind_50 rfl fX10_137 isL17.1 rfl (Or.inl rfl) rfl rfl ?_
        refine r_iload_n (pc' := 54) dX10_wind_53 rfl rfl ?_
        refine r_reti dX10_wind_54 rfl (Or.inl rfl) ?_
        have hok : (0 ≤ x ∧ x ≤ 9) ∧ Pp u ≠ 0 := by omega
        have hfr : ∀ j, j ≠ 17 → mu g1 17 5 (x) j = g1 j := fun j a => mu_ne a
        have hlc : LC (mu g1 17 5 (x)) 17 18 19 20 (winV v x.toNat) := by
          obtain ⟨a1, a2, a3, a4, a5, a6, a7⟩ := hC1
          refine ⟨?_, fun p hp => by rw [hfr 18 (by decide)]; exact a2 p hp, fun p hp => by rw [hfr 19 (by decide)]; exact a3 p hp, fun p hp => by rw [hfr 20 (by decide)]; exact a4 p hp, ?_, ?_, ?_⟩
          all_goals first | (rw [mu_at]; show x = ((x.toNat : Nat) : Int); omega) | (rw [mu_at' (by decide)]; assumption)
        have hcs : CS (mu g1 17 5 (x)) tN tX flt u (winV v x.toNat) (pN kn) (pL kn kL v) im sd ln la lr bn bp bf := hS.deed (hP1.fr (fun j hj => hfr j (by unfold pastB at hj; omega))) hlc (LW_win hW (by omega)) (fun j h0 h1 h2 h3 h4 => (hfr j h1).trans (fr1 j h0))
        have h9 := h _ (by simp only [if_pos hok]; exact hcs) (fun j hj => (hfr j (by omega)).trans (hl1 j (by omega)))
        unfold E_wind at h9
        rw [if_pos (by omega), if_pos (by omega)] at h9
        exact h9
      · refine r_ldc (z := -1000000003) (pc' := 25) dX10_wind_23 rfl kX10_227 ?_
        refine r_reti dX10_wind_25 rfl (Or.inl rfl) ?_
        have hno : ¬ ((0 ≤ x ∧ x ≤ 9) ∧ Pp u ≠ 0) := by omega
        have h9 := h g (by simp only [if_neg hno]; exact hS) (FrC.rf g)
        unfold E_wind at h9
        rw [if_pos (by omega), if_neg (by omega)] at h9
        exact h9
    · refine r_ldc (z := -1000000002) (pc' := 12) dX10_wind_10 rfl kX10_86 ?_
      refine r_reti dX10_wind_12 rfl (Or.inl rfl) ?_
      have hno : ¬ ((0 ≤ x ∧ x ≤ 9) ∧ Pp u ≠ 0) := by omega
      have h9 := h g (by simp only [if_neg hno]; exact hS) (FrC.rf g)
      unfold E_wind at h9
      rw [if_neg (by omega)] at h9
      exact h9
def E_undo (kn : Nat) (kL : Nat → LV) (n : Int) : Int := if 1 ≤ n ∧ n ≤ 30 then (if n ≤ kn then (Ly (kL (kn - n.toNat)) : Int) else -1000000003) else -1000000002
theorem C_undo {X : CX} {d : Nat} {g : Mem} {K : Int → Mem → Prop} {tN : Nat} {tX : Nat → Int} {flt : Int} {u : PV} {v : LV} {kn : Nat} {kL : Nat → LV} {im : Nat → Bool × Int × LV} {sd : Int} {ln : Nat} {la : Nat → Nat} {lr : Nat → Bool} {bn : Nat} {bp : Nat → Nat} {bf : Nat → Int} (hS : CS g tN tX flt u v kn kL im sd ln la lr bn bp bf) (n : Int) (hn : R32 n) (h : ∀ g' : Mem, CS g' tN tX flt u (if (1 ≤ n ∧ n ≤ 30) ∧ n ≤ kn then kL (kn - n.toNat) else v) (if (1 ≤ n ∧ n ≤ 30) ∧ n ≤ kn then kn - n.toNat else kn) kL im sd ln la lr bn bp bf → FrC g g' → K (E_undo kn kL n) g') : EI X (d + 3) mX10_undo [vr 0, vi n] Z0 g K := by
  show AJ X (d + 3) mX10_undo 0 0 (QI Z0 K) 0 0 0 [some (vr 0), some (vi n)] [] Z0 g
  obtain ⟨⟨t1, t2, t3⟩, ⟨f1, f2⟩, hB, ⟨top, hP⟩, hI, ⟨sd1, sd2, sd3⟩, hK, hN⟩ := id hS
  obtain ⟨hQ, hU, hC, hW⟩ := id hB
  obtain ⟨hc, ho, hf, hw_, ht, hi, hy⟩ := id hC
  obtain ⟨w0, w1, w2, w3, w4, w5, w6, w7⟩ := id hW
  obtain ⟨p6, p7, p8, p9, p10, pk, pg, px, py⟩ := id hQ
  obtain ⟨u0, u1, u2, u3, u4, u5, u6, u7⟩ := id hU
  have hk30 := hP.2.1
  refine r_iload_n (pc' := 1) dX10_undo_0 rfl rfl ?_
  refine r_iconst (pc' := 2) dX10_undo_1 rfl ?_
  refine r_icmp_lt (tgt := 11) (pc' := 5) dX10_undo_2 rfl rfl (by omega) (by omega) (fun c2 => ?_) (fun c2 => ?_)
  · refine r_ldc (z := -1000000002) (pc' := 13) dX10_undo_11 rfl kX10_86 ?_
    refine r_reti dX10_undo_13 rfl (Or.inl rfl) ?_
    have hno : ¬ ((1 ≤ n ∧ n ≤ 30) ∧ n ≤ kn) := by omega
    have h9 := h g (by simp only [if_neg hno]; exact hS) (FrC.rf g)
    unfold E_undo at h9
    rw [if_neg (by omega)] at h9
    exact h9
  · refine r_iload_n (pc' := 6) dX10_undo_5 rfl rfl ?_
    refine r_bipush (pc' := 8) dX10_undo_6 rfl (by decide) ?_
    refine r_icmp_le (tgt := 14) (pc' := 11) dX10_undo_8 rfl rfl (by omega) (by omega) (fun c8 => ?_) (fun c8 => ?_)
    · refine r_iload_n (pc' := 15) dX10_undo_14 rfl rfl ?_
      refine r_aload_n (pc' := 16) dX10_undo_15 rfl rfl ?_
      refine r_getr (pc' := 19) dX10_undo_16 rfl fX10_36 z0 rfl ?_
      refine r_getf (pc' := 22) (kI := 2) dX10_undo_19 rfl fX10_172 z21 rfl rfl hP.1 ?_
      refine r_icmp_le (tgt := 28) (pc' := 25) dX10_undo_22 rfl rfl (by omega) (by omega) (fun c22 => ?_) (fun c22 => ?_)
      · refine r_aload_n (pc' := 29) dX10_undo_28 rfl rfl ?_
        refine r_getr (pc' := 32) dX10_undo_29 rfl fX10_36 z0 rfl ?_
        refine r_iload_n (pc' := 33) dX10_undo_32 rfl rfl ?_
        refine r_aload_n (pc' := 34) dX10_undo_33 rfl rfl ?_
        refine r_getr (pc' := 37) dX10_undo_34 rfl fX10_29 z0 rfl ?_
        refine r_vv2 (pc' := 40) dX10_undo_37 rfl qX4_bringBack lX10_249 z21 rfl rfl rfl rfl (Nat.zero_le _) (Nat.zero_le _) (a_bringBackI hB hP (n := n) (by omega) (by omega) (fun g1 hP1 hC1 hW1 fr1 => ?_))
        refine r_aload_n (pc' := 41) dX10_undo_40 rfl rfl ?_
        refine r_getr (pc' := 44) dX10_undo_41 rfl fX10_29 z0 rfl ?_
        refine r_getf (pc' := 47) (kI := 6) dX10_undo_44 rfl fX10_134 isL17.1 rfl rfl hC1.2.2.2.2.2.2 ?_
        refine r_reti dX10_undo_47 rfl (Or.inl rfl) ?_
        have hok : (1 ≤ n ∧ n ≤ 30) ∧ n ≤ kn := by omega
        have h9 := h g1 (by simp only [if_pos hok]; exact hS.deed hP1 hC1 hW1 (fun j h0 h1 h2 h3 h4 => fr1 j (by intro e; exact h0 (Or.inl e)) h1 h2 h3 h4)) (fun j hj => fr1 j (by omega) (by omega) (by omega) (by omega) (by omega))
        unfold E_undo at h9
        rw [if_pos (by omega), if_pos (by omega)] at h9
        exact h9
      · refine r_ldc (z := -1000000003) (pc' := 27) dX10_undo_25 rfl kX10_227 ?_
        refine r_reti dX10_undo_27 rfl (Or.inl rfl) ?_
        have hno : ¬ ((1 ≤ n ∧ n ≤ 30) ∧ n ≤ kn) := by omega
        have h9 := h g (by simp only [if_neg hno]; exact hS) (FrC.rf g)
        unfold E_undo at h9
        rw [if_pos (by omega), if_neg (by omega)] at h9
        exact h9
    · refine r_ldc (z := -1000000002) (pc' := 13) dX10_undo_11 rfl kX10_86 ?_
      refine r_reti dX10_undo_13 rfl (Or.inl rfl) ?_
      have hno : ¬ ((1 ≤ n ∧ n ≤ 30) ∧ n ≤ kn) := by omega
      have h9 := h g (by simp only [if_neg hno]; exact hS) (FrC.rf g)
      unfold E_undo at h9
      rw [if_neg (by omega)] at h9
      exact h9
def E_yr (u : PV) (v : LV) (n : Int) : Int := if 1 ≤ n ∧ n ≤ 20 then (if Pp u ≠ 0 then (if Ly v ≤ 9000 then 0 else -1000000004) else -1000000003) else -1000000002
theorem a_yr {X : CX} {d : Nat} {g : Mem} {K : Int → Mem → Prop} {tN : Nat} {tX : Nat → Int} {flt : Int} {u : PV} {v : LV} {kn : Nat} {kL : Nat → LV} {im : Nat → Bool × Int × LV} {sd : Int} {ln : Nat} {la : Nat → Nat} {lr : Nat → Bool} {bn : Nat} {bp : Nat → Nat} {bf : Nat → Int} (hS : CS g tN tX flt u v kn kL im sd ln la lr bn bp bf) (n : Int) (hn : R32 n) (h : K (E_yr u v n) g) : EI X (d) mX10_yearsRefused [vr 0, vi n] Z0 g K := by
  show AJ X (d) mX10_yearsRefused 0 0 (QI Z0 K) 0 0 0 [some (vr 0), some (vi n)] [] Z0 g
  obtain ⟨⟨t1, t2, t3⟩, ⟨f1, f2⟩, hB, ⟨top, hP⟩, hI, ⟨sd1, sd2, sd3⟩, hK, hN⟩ := id hS
  obtain ⟨hQ, hU, hC, hW⟩ := id hB
  obtain ⟨hc, ho, hf, hw_, ht, hi, hy⟩ := id hC
  obtain ⟨w0, w1, w2, w3, w4, w5, w6, w7⟩ := id hW
  obtain ⟨p6, p7, p8, p9, p10, pk, pg, px, py⟩ := id hQ
  obtain ⟨u0, u1, u2, u3, u4, u5, u6, u7⟩ := id hU
  unfold E_yr at h
  refine r_iload_n (pc' := 1) dX10_yearsRefused_0 rfl rfl ?_
  refine r_iconst (pc' := 2) dX10_yearsRefused_1 rfl ?_
  refine r_icmp_lt (tgt := 11) (pc' := 5) dX10_yearsRefused_2 rfl rfl (by omega) (by omega) (fun c2 => ?_) (fun c2 => ?_)
  · refine r_ldc (z := -1000000002) (pc' := 13) dX10_yearsRefused_11 rfl kX10_86 ?_
    refine r_reti dX10_yearsRefused_13 rfl (Or.inl rfl) ?_
    rw [if_neg (by omega)] at h
    exact h
  · refine r_iload_n (pc' := 6) dX10_yearsRefused_5 rfl rfl ?_
    refine r_bipush (pc' := 8) dX10_yearsRefused_6 rfl (by decide) ?_
    refine r_icmp_le (tgt := 14) (pc' := 11) dX10_yearsRefused_8 rfl rfl (by omega) (by omega) (fun c8 => ?_) (fun c8 => ?_)
    · refine r_aload_n (pc' := 15) dX10_yearsRefused_14 rfl rfl ?_
      refine r_getr (pc' := 18) dX10_yearsRefused_15 rfl fX10_23 z0 rfl ?_
      refine r_getf (pc' := 21) (kI := 6) dX10_yearsRefused_18 rfl fX10_125 isP10.1 rfl rfl p6 ?_
      refine r_if_ne (tgt := 27) (pc' := 24) dX10_yearsRefused_21 rfl rfl (by omega) (fun c21 => ?_) (fun c21 => ?_)
      · refine r_aload_n (pc' := 28) dX10_yearsRefused_27 rfl rfl ?_
        refine r_getr (pc' := 31) dX10_yearsRefused_28 rfl fX10_29 z0 rfl ?_
        refine r_getf (pc' := 34) (kI := 6) dX10_yearsRefused_31 rfl fX10_134 isL17.1 rfl rfl hy ?_
        refine r_sipush (pc' := 37) dX10_yearsRefused_34 rfl (by decide) ?_
        refine r_icmp_le (tgt := 45) (pc' := 40) dX10_yearsRefused_37 rfl rfl (by omega) (by omega) (fun c37 => ?_) (fun c37 => ?_)
        · refine r_iconst (pc' := 46) dX10_yearsRefused_45 rfl ?_
          refine r_reti dX10_yearsRefused_46 rfl (Or.inl rfl) ?_
          first | (rw [if_pos (by omega), if_pos (by omega), if_pos (by omega)] at h; exact h) | (rw [if_pos (by omega), if_pos (by omega), if_neg (by omega)] at h; exact h)
        · refine r_ldc (z := -1000000004) (pc' := 42) dX10_yearsRefused_40 rfl kX10_90 ?_
          refine r_goto (tgt := 46) dX10_yearsRefused_42 rfl ?_
          refine r_reti dX10_yearsRefused_46 rfl (Or.inl rfl) ?_
          first | (rw [if_pos (by omega), if_pos (by omega), if_pos (by omega)] at h; exact h) | (rw [if_pos (by omega), if_pos (by omega), if_neg (by omega)] at h; exact h)
      · refine r_ldc (z := -1000000003) (pc' := 26) dX10_yearsRefused_24 rfl kX10_227 ?_
        refine r_reti dX10_yearsRefused_26 rfl (Or.inl rfl) ?_
        rw [if_pos (by omega), if_neg (by omega)] at h
        exact h
    · refine r_ldc (z := -1000000002) (pc' := 13) dX10_yearsRefused_11 rfl kX10_86 ?_
      refine r_reti dX10_yearsRefused_13 rfl (Or.inl rfl) ?_
      rw [if_neg (by omega)] at h
      exact h
