theorem LW_hang {u : PV} (h : PW u) : LW (Pf u) (hangV u) := ⟨h.2.2.1, h.2.2.1, fun p hp => hp, fun p q _ _ e => e, by show (0 : Nat) < 128; decide, fun k _ => ⟨Int.le_refl 0, by show (0 : Int) ≤ 99; decide⟩, h.2.1, Nat.zero_le _⟩
def E_cord (tN : Nat) (tX : Nat → Int) : Int := if (rdA tN tX).2.2.1 = 0 then (Pf (rdA tN tX).1 : Int) else -10 - ((rdA tN tX).2.2.1 : Int)
theorem a_forget2 {X : CX} {d : Nat} {g : Mem} {K : Mem → Prop} {F F' kn top : Nat} {L : Nat → LV} (hp : PS g F' kn top L) (h : ∀ g' : Mem, (∀ L', PS g' F 0 top L') → (∀ j, j ≠ 21 → g' j = g j) → K g') : EV X (d) mX4_forget [vr 21] Z0 g K :=
  a_forget hp (fun g' a b => h g' (fun L' => ⟨(a L').1, (a L').2.1, (a L').2.2.1, (a L').2.2.2.1, fun j hj => absurd hj (Nat.not_lt_zero j)⟩) b)
theorem C_cord {X : CX} {d : Nat} {g : Mem} {K : Int → Mem → Prop} {tN : Nat} {tX : Nat → Int} {flt : Int} {u : PV} {v : LV} {kn : Nat} {kL : Nat → LV} {im : Nat → Bool × Int × LV} {sd : Int} {ln : Nat} {la : Nat → Nat} {lr : Nat → Bool} {bn : Nat} {bp : Nat → Nat} {bf : Nat → Int} (hS : CS g tN tX flt u v kn kL im sd ln la lr bn bp bf) (h : ∀ g' : Mem, CS g' 0 tX ((rdA tN tX).2.2.2) (if (rdA tN tX).2.2.1 = 0 then (rdA tN tX).1 else u) (if (rdA tN tX).2.2.1 = 0 then hangV (rdA tN tX).1 else v) (if (rdA tN tX).2.2.1 = 0 then 0 else kn) kL (if (rdA tN tX).2.2.1 = 0 then (fun j => (false, (im j).2)) else im) sd (if (rdA tN tX).2.2.1 = 0 then 0 else ln) la lr (if (rdA tN tX).2.2.1 = 0 then 0 else bn) bp bf → FrC g g' → K (E_cord tN tX) g') : EI X (d + 6) mX10_cord [vr 0] Z0 g K := by
  show AJ X (d + 6) mX10_cord 0 0 (QI Z0 K) 0 0 0 [some (vr 0), none] [] Z0 g
  obtain ⟨⟨t1, t2, t3⟩, ⟨f1, f2⟩, hB, ⟨top, hP⟩, hI, ⟨sd1, sd2, sd3⟩, hK, hN⟩ := id hS
  obtain ⟨hQ, hU, hC, hW⟩ := id hB
  obtain ⟨hc, ho, hf, hw_, ht, hi, hy⟩ := id hC
  obtain ⟨w0, w1, w2, w3, w4, w5, w6, w7⟩ := id hW
  obtain ⟨p6, p7, p8, p9, p10, pk, pg, px, py⟩ := id hQ
  obtain ⟨u0, u1, u2, u3, u4, u5, u6, u7⟩ := id hU
  refine r_aload_n (pc' := 1) dX10_cord_0 rfl rfl ?_
  refine r_getr (pc' := 4) dX10_cord_1 rfl fX10_10 z0 rfl ?_
  refine r_aload_n (pc' := 5) dX10_cord_4 rfl rfl ?_
  refine r_getr (pc' := 8) dX10_cord_5 rfl fX10_19 z0 rfl ?_
  refine r_vv1 (pc' := 11) dX10_cord_8 rfl qX6_readInto lX10_95 z1 rfl rfl rfl rfl (Nat.zero_le _) (Nat.zero_le _) (a_into (N := tN) (T := tX) ⟨t1, t2, t3⟩ (fun g1 hR1 hQ1 hU1 fr1 => ?_))
  obtain ⟨a1, a2, a3, a4, a5, a6, a7, a8, a9⟩ := hR1
  refine r_aload_n (pc' := 12) dX10_cord_11 rfl rfl ?_
  refine r_getr (pc' := 15) dX10_cord_12 rfl fX10_10 z0 rfl ?_
  refine r_iconst (pc' := 16) dX10_cord_15 rfl ?_
  refine r_putf (pc' := 19) (kI := 1) dX10_cord_16 rfl fX10_87 z1 rfl (Or.inl rfl) rfl rfl ?_
  refine r_aload_n (pc' := 20) dX10_cord_19 rfl rfl ?_
  refine r_getr (pc' := 23) dX10_cord_20 rfl fX10_10 z0 rfl ?_
  refine r_getf (pc' := 26) (kI := 2) (x := ((rdA tN tX).2.2.1 : Int)) dX10_cord_23 rfl fX10_99 z1 rfl rfl (by rw [mu_at' (by decide)]; exact a6) ?_
  refine r_if_eq (tgt := 40) (pc' := 29) dX10_cord_26 rfl rfl (by omega) (fun c26 => ?_) (fun c26 => ?_)
  · have hok : (rdA tN tX).2.2.1 = 0 := by omega
    refine r_aload_n (pc' := 41) dX10_cord_40 rfl rfl ?_
    refine r_getr (pc' := 44) dX10_cord_41 rfl fX10_23 z0 rfl ?_
    refine r_aload_n (pc' := 45) dX10_cord_44 rfl rfl ?_
    refine r_getr (pc' := 48) dX10_cord_45 rfl fX10_19 z0 rfl ?_
    refine r_vv1 (pc' := 51) dX10_cord_48 rfl qX5_copyFrom lX10_102 isP10.1 rfl rfl rfl rfl (Nat.zero_le _) (Nat.zero_le _) (a_copyP (g := mu g1 1 1 0) (PD.fr hQ1 (Fr1 _ _ _)) hU1 (fun g3 hQ3 fr3 => ?_))
    refine r_aload_n (pc' := 52) dX10_cord_51 rfl rfl ?_
    refine r_getr (pc' := 55) dX10_cord_52 rfl fX10_29 z0 rfl ?_
    refine r_aload_n (pc' := 56) dX10_cord_55 rfl rfl ?_
    refine r_getr (pc' := 59) dX10_cord_56 rfl fX10_23 z0 rfl ?_
    refine r_vv1 (pc' := 62) dX10_cord_59 rfl qX2_hangAll lX10_105 isL17.1 rfl rfl rfl rfl (Nat.zero_le _) (Nat.zero_le _) (a_hang isL17 isD17 isP10 hQ3 hU1 (by decide) (fun g4 hC4 fr4 => ?_))
    refine r_aload_n (pc' := 63) dX10_cord_62 rfl rfl ?_
    refine r_getr (pc' := 66) dX10_cord_63 rfl fX10_36 z0 rfl ?_
    refine r_vv0 (pc' := 69) dX10_cord_66 rfl qX4_forget lX10_108 z21 rfl rfl rfl (Nat.zero_le _) (Nat.zero_le _) (a_forget2 (F := Pf (rdA tN tX).1) (hP.fr (g' := g4) (fun j hj => by unfold pastB at hj; rw [fr4 j (by simp only [List.mem_cons, List.not_mem_nil, or_false, not_or]; omega), fr3 j (by simp only [List.mem_cons, List.not_mem_nil, or_false, not_or]; omega), mu_ne (by omega), fr1 j (by simp only [List.mem_cons, List.not_mem_nil, or_false, not_or]; omega)])) (fun g5 hP5 fr5 => ?_))
    refine r_aload_n (pc' := 70) dX10_cord_69 rfl rfl ?_
    refine r_getr (pc' := 73) dX10_cord_70 rfl fX10_71 z0 rfl ?_
    refine r_iconst (pc' := 74) dX10_cord_73 rfl ?_
    refine r_putf (pc' := 77) (kI := 2) dX10_cord_74 rfl fX10_111 z160 rfl (Or.inl rfl) rfl rfl ?_
    refine r_aload_n (pc' := 78) dX10_cord_77 rfl rfl ?_
    refine r_getr (pc' := 81) dX10_cord_78 rfl fX10_78 z0 rfl ?_
    refine r_iconst (pc' := 82) dX10_cord_81 rfl ?_
    refine r_putf (pc' := 85) (kI := 2) dX10_cord_82 rfl fX10_114 z163 rfl (Or.inl rfl) rfl rfl ?_
    refine r_iconst (pc' := 86) dX10_cord_85 rfl ?_
    refine r_istore_n (pc' := 87) dX10_cord_86 rfl rfl ?_
    refine r_iload_n (pc' := 88) dX10_cord_87 rfl rfl ?_
    refine r_iconst (pc' := 89) dX10_cord_88 rfl ?_
    refine r_icmp_ge (tgt := 108) (pc' := 92) dX10_cord_89 rfl rfl (by omega) (by omega) (fun c89 => ?_) (fun c89 => ?_)
    · exact absurd c89 (by decide)
    · refine r_aload_n (pc' := 93) dX10_cord_92 rfl rfl ?_
      refine r_getr (pc' := 96) dX10_cord_93 rfl fX10_43 z0 rfl ?_
      refine r_iload_n (pc' := 97) dX10_cord_96 rfl rfl ?_
      refine r_aaload (pc' := 98) dX10_cord_97 rfl z143 (fun _ => rfl) (by decide) (by omega) rfl ?_
      refine r_iconst (pc' := 99) dX10_cord_98 rfl ?_
      refine r_putf (pc' := 102) (kI := 2) dX10_cord_99 rfl fX10_115 z144 rfl (Or.inr ⟨rfl, Or.inl rfl⟩) rfl rfl ?_
      refine r_iinc (pc' := 105) dX10_cord_102 rfl rfl rfl ?_
      refine r_goto (tgt := 87) dX10_cord_105 rfl ?_
      refine r_iload_n (pc' := 88) dX10_cord_87 rfl rfl ?_
      refine r_iconst (pc' := 89) dX10_cord_88 rfl ?_
      refine r_icmp_ge (tgt := 108) (pc' := 92) dX10_cord_89 rfl rfl (by omega) (by omega) (fun c89 => ?_) (fun c89 => ?_)
      · exact absurd c89 (by decide)
      · refine r_aload_n (pc' := 93) dX10_cord_92 rfl rfl ?_
        refine r_getr (pc' := 96) dX10_cord_93 rfl fX10_43 z0 rfl ?_
        refine r_iload_n (pc' := 97) dX10_cord_96 rfl rfl ?_
        refine r_aaload (pc' := 98) dX10_cord_97 rfl z143 (fun _ => rfl) (by decide) (by omega) rfl ?_
        refine r_iconst (pc' := 99) dX10_cord_98 rfl ?_
        refine r_putf (pc' := 102) (kI := 2) dX10_cord_99 rfl fX10_115 z149 rfl (Or.inr ⟨rfl, Or.inl rfl⟩) rfl rfl ?_
        refine r_iinc (pc' := 105) dX10_cord_102 rfl rfl rfl ?_
        refine r_goto (tgt := 87) dX10_cord_105 rfl ?_
        refine r_iload_n (pc' := 88) dX10_cord_87 rfl rfl ?_
        refine r_iconst (pc' := 89) dX10_cord_88 rfl ?_
        refine r_icmp_ge (tgt := 108) (pc' := 92) dX10_cord_89 rfl rfl (by omega) (by omega) (fun c89 => ?_) (fun c89 => ?_)
        · refine r_aload_n (pc' := 109) dX10_cord_108 rfl rfl ?_
          refine r_getr (pc' := 112) dX10_cord_109 rfl fX10_23 z0 rfl ?_
          refine r_getf (pc' := 115) (kI := 8) (x := (Pf (rdA tN tX).1 : Int)) dX10_cord_112 rfl fX10_119 isP10.1 rfl rfl (by rw [mu_ne (by decide), mu_ne (by decide), mu_ne (by decide), mu_ne (by decide), fr5 10 (by decide), fr4 10 (by decide)]; exact hQ3.2.2.1) ?_
          refine r_reti dX10_cord_115 rfl (Or.inl rfl) ?_
          have hfr : ∀ j, j ∉ [1, 3, 4, 5, 6, 7, 8, 9] → j ∉ [10, 11, 12, 13, 14, 15, 16] → j ∉ [17, 18, 19, 20] → j ≠ 21 → j ≠ 160 → j ≠ 163 → j ≠ 144 → j ≠ 149 → mu (mu (mu (mu g5 160 2 0) 163 2 0) 144 2 0) 149 2 0 j = g j := fun j a b c d e f i k => by
            have hj1 : j ≠ 1 := fun e => a (by rw [e]; decide)
            rw [mu_ne k, mu_ne i, mu_ne f, mu_ne e, fr5 j d, fr4 j c, fr3 j b, mu_ne hj1]; exact fr1 j a
          have g15 : ∀ j, j ≠ 160 → j ≠ 163 → j ≠ 144 → j ≠ 149 → mu (mu (mu (mu g5 160 2 0) 163 2 0) 144 2 0) 149 2 0 j = g5 j := fun j e f i k => by rw [mu_ne k, mu_ne i, mu_ne f, mu_ne e]
          have c1 : (mu (mu (mu (mu g5 160 2 0) 163 2 0) 144 2 0) 149 2 0) 1 = mu g1 1 1 0 1 := by rw [g15 1 (by decide) (by decide) (by decide) (by decide), fr5 1 (by decide), fr4 1 (by decide), fr3 1 (by decide)]
          have hQ7 : PC_ (mu (mu (mu (mu g5 160 2 0) 163 2 0) 144 2 0) 149 2 0) 10 11 12 13 14 15 16 (rdA tN tX).1 := by
            have e : ∀ j, 10 ≤ j → j ≤ 16 → (mu (mu (mu (mu g5 160 2 0) 163 2 0) 144 2 0) 149 2 0) j = g3 j := fun j x y => by rw [g15 j (by omega) (by omega) (by omega) (by omega), fr5 j (by omega), fr4 j (by simp only [List.mem_cons, List.not_mem_nil, or_false, not_or]; omega)]
            unfold PC_
            rw [e 10 (by omega) (by omega), e 11 (by omega) (by omega), e 12 (by omega) (by omega), e 13 (by omega) (by omega), e 14 (by omega) (by omega), e 15 (by omega) (by omega), e 16 (by omega) (by omega)]
            exact hQ3
          have hC7 : LC (mu (mu (mu (mu g5 160 2 0) 163 2 0) 144 2 0) 149 2 0) 17 18 19 20 (hangV (rdA tN tX).1) := hC4.fr (by rw [g15 17 (by decide) (by decide) (by decide) (by decide), fr5 17 (by decide)]) (by rw [g15 18 (by decide) (by decide) (by decide) (by decide), fr5 18 (by decide)]) (by rw [g15 19 (by decide) (by decide) (by decide) (by decide), fr5 19 (by decide)]) (by rw [g15 20 (by decide) (by decide) (by decide) (by decide), fr5 20 (by decide)])
          have hP7 : PS (mu (mu (mu (mu g5 160 2 0) 163 2 0) 144 2 0) 149 2 0) (Pf (rdA tN tX).1) 0 top kL := by
            have q := hP5 kL
            exact ⟨by rw [g15 21 (by decide) (by decide) (by decide) (by decide)]; exact q.1, by decide, by rw [g15 21 (by decide) (by decide) (by decide) (by decide)]; exact q.2.2.1, q.2.2.2.1, fun j hj => absurd hj (Nat.not_lt_zero j)⟩
          have hI7 : IMs (mu (mu (mu (mu g5 160 2 0) 163 2 0) 144 2 0) 149 2 0) (Pf (rdA tN tX).1) (fun j => (false, (im j).2)) := by
            intro i hi
            refine ⟨?_, fun hk => absurd hk (by show ¬ (false = true); decide)⟩
            have hi2 : i = 0 ∨ i = 1 := by omega
            rcases hi2 with rfl | rfl
            · rw [mu_ne (by decide), mu_at]; rfl
            · rw [mu_at]; rfl
          have h9 := h _ (by simp only [if_pos hok]; exact ⟨⟨by rw [c1, mu_at]; rfl, by decide, fun k hk => absurd hk (Nat.not_lt_zero k)⟩, ⟨by rw [c1, mu_at' (by decide)]; exact a8, a9⟩, ⟨hQ7, hU1, hC7, LW_hang hU1⟩, ⟨top, hP7⟩, hI7, ⟨by rw [hfr 0 (by simp only [List.mem_cons, List.not_mem_nil, or_false, not_or]; omega) (by simp only [List.mem_cons, List.not_mem_nil, or_false, not_or]; omega) (by simp only [List.mem_cons, List.not_mem_nil, or_false, not_or]; omega) (by omega) (by omega) (by omega) (by omega) (by omega)]; exact sd1, sd2, sd3⟩, ⟨by rw [mu_ne (by decide), mu_ne (by decide), mu_ne (by decide), mu_at]; rfl, by decide, fun i hi => absurd hi (Nat.not_lt_zero i)⟩, ⟨by rw [mu_ne (by decide), mu_ne (by decide), mu_at]; rfl, by decide, fun i hi => absurd hi (Nat.not_lt_zero i)⟩⟩) (fun j hj => hfr j (by simp only [List.mem_cons, List.not_mem_nil, or_false, not_or]; omega) (by simp only [List.mem_cons, List.not_mem_nil, or_false, not_or]; omega) (by simp only [List.mem_cons, List.not_mem_nil, or_false, not_or]; omega) (by omega) (by omega) (by omega) (by omega) (by omega))
          unfold E_cord at h9
          rw [if_pos hok] at h9
          exact h9
        · exact absurd c89 (by decide)
  · refine r_bipush (pc' := 31) dX10_cord_29 rfl (by decide) ?_
    refine r_aload_n (pc' := 32) dX10_cord_31 rfl rfl ?_
    refine r_getr (pc' := 35) dX10_cord_32 rfl fX10_10 z0 rfl ?_
    refine r_getf (pc' := 38) (kI := 2) (x := ((rdA tN tX).2.2.1 : Int)) dX10_cord_35 rfl fX10_99 z1 rfl rfl (by rw [mu_at' (by decide)]; exact a6) ?_
    refine r_isub (pc' := 39) dX10_cord_38 rfl ?_
    refine r_reti dX10_cord_39 rfl (Or.inl rfl) ?_
    have hno : ¬ ((rdA tN tX).2.2.1 = 0) := by omega
    have hfr : ∀ j, j ∉ [1, 3, 4, 5, 6, 7, 8, 9] → mu g1 1 1 0 j = g j := fun j hj => by
      have hj1 : j ≠ 1 := fun e => hj (by rw [e]; decide)
      rw [mu_ne hj1]; exact fr1 j hj
    have h9 := h _ (by simp only [if_neg hno]; exact ⟨⟨by rw [mu_at]; rfl, by decide, fun k hk => absurd hk (Nat.not_lt_zero k)⟩, ⟨by rw [mu_at' (by decide)]; exact a8, a9⟩, hB.fr2 (fun j a1 a2 => hfr j (by simp only [List.mem_cons, List.not_mem_nil, or_false, not_or]; omega)), ⟨top, hP.fr (fun j hj => by unfold pastB at hj; exact hfr j (by simp only [List.mem_cons, List.not_mem_nil, or_false, not_or]; omega))⟩, IMs.fr hI (fun j a1 a2 => hfr j (by simp only [List.mem_cons, List.not_mem_nil, or_false, not_or]; omega)), ⟨by rw [hfr 0 (by simp only [List.mem_cons, List.not_mem_nil, or_false, not_or]; omega)]; exact sd1, sd2, sd3⟩, hK.fr (hfr 160 (by simp only [List.mem_cons, List.not_mem_nil, or_false, not_or]; omega)) (hfr 161 (by simp only [List.mem_cons, List.not_mem_nil, or_false, not_or]; omega)) (hfr 162 (by simp only [List.mem_cons, List.not_mem_nil, or_false, not_or]; omega)), hN.fr (hfr 163 (by simp only [List.mem_cons, List.not_mem_nil, or_false, not_or]; omega)) (hfr 164 (by simp only [List.mem_cons, List.not_mem_nil, or_false, not_or]; omega)) (hfr 165 (by simp only [List.mem_cons, List.not_mem_nil, or_false, not_or]; omega))⟩) (fun j hj => hfr j (by simp only [List.mem_cons, List.not_mem_nil, or_false, not_or]; omega))
    unfold E_cord at h9
    rw [if_neg hno] at h9
    exact h9
