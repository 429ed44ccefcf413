theorem lm_cord1 {X : CX} {d : Nat} {g : Mem} {K : Int → Mem → Prop} {x : Int} (hk : ∀ y : Option VV, AJ X (d + 6) mX11_cord 0 0 (QI Z0 K) 0 0 64 [some (vr 166), some (vi x), y] [] Z0 (cpB g 169 168 0 0 53)) : ∀ (k i : Nat), i + k = 53 → AJ X (d + 6) mX11_cord 0 0 (QI Z0 K) 0 0 40 [some (vr 166), some (vi x), some (vi (i : Int))] [] Z0 (cpB g 169 168 0 0 i) := by
  intro k
  induction k with
  | zero =>
    intro i hi
    have e : i = 53 := by omega
    subst e
    refine r_iload_n (pc' := 41) dX11_cord_40 rfl rfl ?_
    refine r_bipush (pc' := 43) dX11_cord_41 rfl (by decide) ?_
    refine r_icmp_ge (tgt := 64) (pc' := 46) dX11_cord_43 rfl rfl (by omega) (by omega) (fun c43 => ?_) (fun c43 => ?_)
    · exact hk _
    · exact absurd c43 (by omega)
  | succ k ih =>
    intro i hi
    refine r_iload_n (pc' := 41) dX11_cord_40 rfl rfl ?_
    refine r_bipush (pc' := 43) dX11_cord_41 rfl (by decide) ?_
    refine r_icmp_ge (tgt := 64) (pc' := 46) dX11_cord_43 rfl rfl (by omega) (by omega) (fun c43 => ?_) (fun c43 => ?_)
    · exact absurd c43 (by omega)
    · refine r_aload_n (pc' := 47) dX11_cord_46 rfl rfl ?_
      refine r_getr (pc' := 50) dX11_cord_47 rfl fX11_13 z166 rfl ?_
      refine r_iload_n (pc' := 51) dX11_cord_50 rfl rfl ?_
      refine r_aload_n (pc' := 52) dX11_cord_51 rfl rfl ?_
      refine r_getr (pc' := 55) dX11_cord_52 rfl fX11_16 z166 rfl ?_
      refine r_iload_n (pc' := 56) dX11_cord_55 rfl rfl ?_
      refine r_iaload (pc' := 57) (x := g 169 (0 + (i : Int))) dX11_cord_56 rfl z169 (by decide) (by omega) (by omega) (by rw [cpB_off (by decide), Int.zero_add]) ?_
      refine r_iastore (pc' := 58) (g' := (cpB g 169 168 0 0 (i + 1))) dX11_cord_57 rfl z168 (by decide) (by omega) (by omega) (cpB_succ (by omega) rfl) ?_
      refine r_iinc (pc' := 61) dX11_cord_58 rfl rfl rfl ?_
      refine r_goto (tgt := 40) dX11_cord_61 rfl ?_
      exact ih (i + 1) (by omega)
theorem lm_cord2 {X : CX} {d : Nat} {g : Mem} {K : Int → Mem → Prop} {x : Int} (hk : ∀ y : Option VV, AJ X (d + 6) mX11_cord 0 0 (QI Z0 K) 0 0 101 [some (vr 166), some (vi x), y] [] Z0 (fnB g 170 hgφ 25)) : ∀ (k i : Nat), i + k = 25 → AJ X (d + 6) mX11_cord 0 0 (QI Z0 K) 0 0 66 [some (vr 166), some (vi x), some (vi (i : Int))] [] Z0 (fnB g 170 hgφ i) := by
  intro k
  induction k with
  | zero =>
    intro i hi
    have e : i = 25 := by omega
    subst e
    refine r_iload_n (pc' := 67) dX11_cord_66 rfl rfl ?_
    refine r_bipush (pc' := 69) dX11_cord_67 rfl (by decide) ?_
    refine r_icmp_ge (tgt := 101) (pc' := 72) dX11_cord_69 rfl rfl (by omega) (by omega) (fun c69 => ?_) (fun c69 => ?_)
    · exact hk _
    · exact absurd c69 (by omega)
  | succ k ih =>
    intro i hi
    refine r_iload_n (pc' := 67) dX11_cord_66 rfl rfl ?_
    refine r_bipush (pc' := 69) dX11_cord_67 rfl (by decide) ?_
    refine r_icmp_ge (tgt := 101) (pc' := 72) dX11_cord_69 rfl rfl (by omega) (by omega) (fun c69 => ?_) (fun c69 => ?_)
    · exact absurd c69 (by omega)
    · refine r_aload_n (pc' := 73) dX11_cord_72 rfl rfl ?_
      refine r_getr (pc' := 76) dX11_cord_73 rfl fX11_19 z166 rfl ?_
      refine r_iload_n (pc' := 77) dX11_cord_76 rfl rfl ?_
      refine r_iload_n (pc' := 78) dX11_cord_77 rfl rfl ?_
      refine r_iconst (pc' := 79) dX11_cord_78 rfl ?_
      refine r_bipush (pc' := 81) dX11_cord_79 rfl (by decide) ?_
      refine r_si3 (pc' := 84) dX11_cord_81 rfl qX11_in lX11_67 rfl rfl rfl (Nat.zero_le _) (Nat.zero_le _) (m_in (i : Int) 4 10 (by omega) (by omega) (by omega) ?_)
      refine r_if_eq (tgt := 93) (pc' := 87) dX11_cord_84 rfl rfl (b01_R _) (fun c84 => ?_) (fun c84 => ?_)
      · have hd := of_decide_eq_false (b01_eq c84)
        refine r_iconst (pc' := 94) dX11_cord_93 rfl ?_
        refine r_iastore (pc' := 95) (g' := (fnB g 170 hgφ (i + 1))) dX11_cord_94 rfl z170 (by decide) (by omega) (by omega) (fnB_succ rfl (by unfold hgφ; first | rw [if_pos hd] | rw [if_neg hd])) ?_
        refine r_iinc (pc' := 98) dX11_cord_95 rfl rfl rfl ?_
        refine r_goto (tgt := 66) dX11_cord_98 rfl ?_
        exact ih (i + 1) (by omega)
      · have hd := of_decide_eq_true (b01_ne c84)
        refine r_iload_n (pc' := 88) dX11_cord_87 rfl rfl ?_
        refine r_iconst (pc' := 89) dX11_cord_88 rfl ?_
        refine r_isub (pc' := 90) dX11_cord_89 rfl ?_
        refine r_goto (tgt := 94) dX11_cord_90 rfl ?_
        refine r_iastore (pc' := 95) (g' := (fnB g 170 hgφ (i + 1))) dX11_cord_94 rfl z170 (by decide) (by omega) (by omega) (fnB_succ rfl (by unfold hgφ; first | rw [if_pos hd] | rw [if_neg hd])) ?_
        refine r_iinc (pc' := 98) dX11_cord_95 rfl rfl rfl ?_
        refine r_goto (tgt := 66) dX11_cord_98 rfl ?_
        exact ih (i + 1) (by omega)
theorem M_cord {X : CX} {d : Nat} {g : Mem} {K : Int → Mem → Prop} {tN : Nat} {tX : Nat → Int} {flt : Int} {u : PV} {v : LV} {kn : Nat} {kL : Nat → LV} {im : Nat → Bool × Int × LV} {sd : Int} {ln : Nat} {la : Nat → Nat} {lr : Nat → Bool} {bn : Nat} {bp : Nat → Nat} {bf : Nat → Int} (hM : MS g tN tX flt u v kn kL im sd ln la lr bn bp bf) (hS : WS tN tX flt u v kn kL im sd ln la lr bn bp bf) (h : ∀ g' : Mem, MS g' 0 tX ((rdA tN tX).2.2.2) (if (rdA tN tX).2.2.1 = 0 then (rdA tN tX).1 else u) (if (rdA tN tX).2.2.1 = 0 then hangV (rdA tN tX).1 else v) (if (rdA tN tX).2.2.1 = 0 then 0 else kn) kL (if (rdA tN tX).2.2.1 = 0 then (fun j => (false, (im j).2)) else im) sd (if (rdA tN tX).2.2.1 = 0 then 0 else ln) la lr (if (rdA tN tX).2.2.1 = 0 then 0 else bn) bp bf → FrM g g' → K (E_cord tN tX) g') : EI X (d + 6) mX11_cord [vr 166] Z0 g K := by
  show AJ X (d + 6) mX11_cord 0 0 (QI Z0 K) 0 0 0 [some (vr 166), none, none] [] Z0 g
  obtain ⟨⟨m1, m2⟩, m3, m4, m5, ⟨m6, m7⟩, m8, m9, ⟨m10, m11⟩, ⟨m12, m13⟩⟩ := id hM
  obtain ⟨⟨s1, s2⟩, s3, s4, s5, ⟨s6, s7⟩, s8, ⟨s9, s10⟩, ⟨s11, s12⟩, ⟨s13, s14⟩⟩ := id hS
  have hB : MB g u v := ⟨m4, s4, m5, s5⟩
  obtain ⟨hQ, hU, hC, hW⟩ := id hB
  obtain ⟨hy, hi, hc, ht, ho, hf, hw_⟩ := id hC
  obtain ⟨w0, w1, w2, w3, w4, w5, w6, w7⟩ := id hW
  obtain ⟨p6, p7, p8, p9, p10, pk, pg, px, py⟩ := id hQ
  obtain ⟨u0, u1, u2, u3, u4, u5, u6, u7⟩ := id hU
  refine r_aload_n (pc' := 1) dX11_cord_0 rfl rfl ?_
  refine r_vi0 (pc' := 4) dX11_cord_1 rfl qX11_reads lX11_106 z166 rfl rfl rfl (Nat.zero_le _) (Nat.zero_le _) (m_reads ⟨m1, s1, fun k hk => ⟨m2 k hk, s2 k hk⟩⟩ ?_)
  refine ⟨fun a g1 b c fr1 => ?_, fun a q b g1 c e fr1 => ?_⟩
  · obtain ⟨d0, d4, d1, d2, d3, dk, dh, dw, dq⟩ := id c.1
    obtain ⟨v0, v1, v2, v3, v4, v5, v6, v7⟩ := rdI_p (N := tN) (T := tX) 240 u00 (skT tN tX 0) (0, -1) PW_00
    have v2 : Pf (rdA tN tX).1 ≤ 7 := v2
    have v3 : Pw (rdA tN tX).1 ≤ 6 := v3
    have v4 : Pq (rdA tN tX).1 ≤ 5 := v4
    refine r_istore_n (pc' := 5) dX11_cord_4 rfl rfl ?_
    refine r_aload_n (pc' := 6) dX11_cord_5 rfl rfl ?_
    refine r_iconst (pc' := 7) dX11_cord_6 rfl ?_
    refine r_putf (pc' := 10) (kI := 1) dX11_cord_7 rfl fX11_72 z166 rfl (Or.inl rfl) rfl rfl ?_
    refine r_aload_n (pc' := 11) dX11_cord_10 rfl rfl ?_
    refine r_iload_n (pc' := 12) dX11_cord_11 rfl rfl ?_
    refine r_if_eq (tgt := 19) (pc' := 15) dX11_cord_12 rfl rfl (by decide) (fun c12 => ?_) (fun c12 => ?_)
    · exact absurd c12 (by decide)
    · refine r_iconst (pc' := 16) dX11_cord_15 rfl ?_
      refine r_goto (tgt := 23) dX11_cord_16 rfl ?_
      refine r_putf (pc' := 26) (kI := 15) dX11_cord_23 rfl fX11_38 z166 rfl (Or.inl rfl) rfl rfl ?_
      refine r_iload_n (pc' := 27) dX11_cord_26 rfl rfl ?_
      refine r_if_ne (tgt := 38) (pc' := 30) dX11_cord_27 rfl rfl (by decide) (fun c27 => ?_) (fun c27 => ?_)
      · refine r_iconst (pc' := 39) dX11_cord_38 rfl ?_
        refine r_istore_n (pc' := 40) dX11_cord_39 rfl rfl ?_
        have tl : ∀ y : Option VV, AJ X (d + 6) mX11_cord 0 0 (QI Z0 K) 0 0 64 [some (vr 166), some (vi 1), y] [] Z0 (cpB (mu (mu g1 166 1 0) 166 15 (-1)) 169 168 0 0 53) := fun y => by
          refine r_iconst (pc' := 65) dX11_cord_64 rfl ?_
          refine r_istore_n (pc' := 66) dX11_cord_65 rfl rfl ?_
          have tl : ∀ y : Option VV, AJ X (d + 6) mX11_cord 0 0 (QI Z0 K) 0 0 101 [some (vr 166), some (vi 1), y] [] Z0 (fnB (cpB (mu (mu g1 166 1 0) 166 15 (-1)) 169 168 0 0 53) 170 hgφ 25) := fun y => by
            refine r_aload_n (pc' := 102) dX11_cord_101 rfl rfl ?_
            refine r_getr (pc' := 105) dX11_cord_102 rfl fX11_19 z166 rfl ?_
            refine r_iconst (pc' := 106) dX11_cord_105 rfl ?_
            refine r_aload_n (pc' := 107) dX11_cord_106 rfl rfl ?_
            refine r_getr (pc' := 110) dX11_cord_107 rfl fX11_13 z166 rfl ?_
            refine r_iconst (pc' := 111) dX11_cord_110 rfl ?_
            refine r_iaload (pc' := 112) (x := (Pi (rdA tN tX).1 : Int)) dX11_cord_111 rfl z168 (by decide) (by omega) (by omega) (by rw [fnB_off (by decide), cpB_at (by omega) (by omega), mu_ne (by decide), mu_ne (by decide)]; exact d4) ?_
            refine r_iastore (pc' := 113) dX11_cord_112 rfl z170 (by decide) (by omega) (by omega) rfl ?_
            refine r_aload_n (pc' := 114) dX11_cord_113 rfl rfl ?_
            refine r_getr (pc' := 117) dX11_cord_114 rfl fX11_19 z166 rfl ?_
            refine r_iconst (pc' := 118) dX11_cord_117 rfl ?_
            refine r_aload_n (pc' := 119) dX11_cord_118 rfl rfl ?_
            refine r_getr (pc' := 122) dX11_cord_119 rfl fX11_13 z166 rfl ?_
            refine r_iconst (pc' := 123) dX11_cord_122 rfl ?_
            refine r_iaload (pc' := 124) (x := (Pf (rdA tN tX).1 : Int)) dX11_cord_123 rfl z168 (by decide) (by omega) (by omega) (by rw [mu_ne (by decide), fnB_off (by decide), cpB_at (by omega) (by omega), mu_ne (by decide), mu_ne (by decide)]; exact d1) ?_
            refine r_iastore (pc' := 125) dX11_cord_124 rfl z170 (by decide) (by omega) (by omega) rfl ?_
            refine r_aload_n (pc' := 126) dX11_cord_125 rfl rfl ?_
            refine r_iconst (pc' := 127) dX11_cord_126 rfl ?_
            refine r_putf (pc' := 130) (kI := 6) dX11_cord_127 rfl fX11_109 z166 rfl (Or.inl rfl) rfl rfl ?_
            refine r_aload_n (pc' := 131) dX11_cord_130 rfl rfl ?_
            refine r_iconst (pc' := 132) dX11_cord_131 rfl ?_
            refine r_putf (pc' := 135) (kI := 11) dX11_cord_132 rfl fX11_112 z166 rfl (Or.inl rfl) rfl rfl ?_
            refine r_aload_n (pc' := 136) dX11_cord_135 rfl rfl ?_
            refine r_iconst (pc' := 137) dX11_cord_136 rfl ?_
            refine r_putf (pc' := 140) (kI := 13) dX11_cord_137 rfl fX11_115 z166 rfl (Or.inl rfl) rfl rfl ?_
            refine r_aload_n (pc' := 141) dX11_cord_140 rfl rfl ?_
            refine r_getr (pc' := 144) dX11_cord_141 rfl fX11_28 z166 rfl ?_
            refine r_iconst (pc' := 145) dX11_cord_144 rfl ?_
            refine r_iconst (pc' := 146) dX11_cord_145 rfl ?_
            refine r_bastore (pc' := 147) dX11_cord_146 rfl z173 (by decide) (by omega) (by omega) (Or.inl rfl) rfl ?_
            refine r_aload_n (pc' := 148) dX11_cord_147 rfl rfl ?_
            refine r_getr (pc' := 151) dX11_cord_148 rfl fX11_28 z166 rfl ?_
            refine r_iconst (pc' := 152) dX11_cord_151 rfl ?_
            refine r_iconst (pc' := 153) dX11_cord_152 rfl ?_
            refine r_bastore (pc' := 154) dX11_cord_153 rfl z173 (by decide) (by omega) (by omega) (Or.inl rfl) rfl ?_
            refine r_aload_n (pc' := 155) dX11_cord_154 rfl rfl ?_
            refine r_getr (pc' := 158) dX11_cord_155 rfl fX11_13 z166 rfl ?_
            refine r_iconst (pc' := 159) dX11_cord_158 rfl ?_
            refine r_iaload (pc' := 160) (x := (Pf (rdA tN tX).1 : Int)) dX11_cord_159 rfl z168 (by decide) (by omega) (by omega) (by rw [mu_ne (by decide), mu_ne (by decide), mu_ne (by decide), mu_ne (by decide), mu_ne (by decide), mu_ne (by decide), mu_ne (by decide), fnB_off (by decide), cpB_at (by omega) (by omega), mu_ne (by decide), mu_ne (by decide)]; exact d1) ?_
            refine r_reti dX11_cord_160 rfl (Or.inl rfl) ?_
            have r1t : (mu (mu (mu (mu (mu (mu (mu (fnB (cpB (mu (mu g1 166 1 0) 166 15 (-1)) 169 168 0 0 53) 170 hgφ 25) 170 1 (Pi (rdA tN tX).1 : Int)) 170 2 (Pf (rdA tN tX).1 : Int)) 166 6 0) 166 11 0) 166 13 0) 173 0 0) 173 1 0) 166 1 = 0 := by rw [mu_ne (by decide), mu_ne (by decide), mu_at' (by decide), mu_at' (by decide), mu_at' (by decide), mu_ne (by decide), mu_ne (by decide), fnB_off (by decide), cpB_off (by decide), mu_at' (by decide), mu_at]
            have r15 : (mu (mu (mu (mu (mu (mu (mu (fnB (cpB (mu (mu g1 166 1 0) 166 15 (-1)) 169 168 0 0 53) 170 hgφ 25) 170 1 (Pi (rdA tN tX).1 : Int)) 170 2 (Pf (rdA tN tX).1 : Int)) 166 6 0) 166 11 0) 166 13 0) 173 0 0) 173 1 0) 166 15 = -1 := by rw [mu_ne (by decide), mu_ne (by decide), mu_at' (by decide), mu_at' (by decide), mu_at' (by decide), mu_ne (by decide), mu_ne (by decide), fnB_off (by decide), cpB_off (by decide), mu_at]
            have r6t : (mu (mu (mu (mu (mu (mu (mu (fnB (cpB (mu (mu g1 166 1 0) 166 15 (-1)) 169 168 0 0 53) 170 hgφ 25) 170 1 (Pi (rdA tN tX).1 : Int)) 170 2 (Pf (rdA tN tX).1 : Int)) 166 6 0) 166 11 0) 166 13 0) 173 0 0) 173 1 0) 166 6 = 0 := by rw [mu_ne (by decide), mu_ne (by decide), mu_at' (by decide), mu_at' (by decide), mu_at]
            have r11t : (mu (mu (mu (mu (mu (mu (mu (fnB (cpB (mu (mu g1 166 1 0) 166 15 (-1)) 169 168 0 0 53) 170 hgφ 25) 170 1 (Pi (rdA tN tX).1 : Int)) 170 2 (Pf (rdA tN tX).1 : Int)) 166 6 0) 166 11 0) 166 13 0) 173 0 0) 173 1 0) 166 11 = 0 := by rw [mu_ne (by decide), mu_ne (by decide), mu_at' (by decide), mu_at]
            have r13t : (mu (mu (mu (mu (mu (mu (mu (fnB (cpB (mu (mu g1 166 1 0) 166 15 (-1)) 169 168 0 0 53) 170 hgφ 25) 170 1 (Pi (rdA tN tX).1 : Int)) 170 2 (Pf (rdA tN tX).1 : Int)) 166 6 0) 166 11 0) 166 13 0) 173 0 0) 173 1 0) 166 13 = 0 := by rw [mu_ne (by decide), mu_ne (by decide), mu_at]
            have q : ∀ j, j ≠ 166 → j ≠ 168 → j ≠ 169 → j ≠ 170 → j ≠ 173 → (mu (mu (mu (mu (mu (mu (mu (fnB (cpB (mu (mu g1 166 1 0) 166 15 (-1)) 169 168 0 0 53) 170 hgφ 25) 170 1 (Pi (rdA tN tX).1 : Int)) 170 2 (Pf (rdA tN tX).1 : Int)) 166 6 0) 166 11 0) 166 13 0) 173 0 0) 173 1 0) j = g j := fun j a b c d e => by rw [mu_ne e, mu_ne e, mu_ne a, mu_ne a, mu_ne a, mu_ne d, mu_ne d, fnB_off d, cpB_off b, mu_ne a, mu_ne a, fr1.1 j a c]
            have r : ∀ k, k ≠ 1 → k ≠ 6 → k ≠ 11 → k ≠ 13 → k ≠ 14 → k ≠ 15 → k ≠ 16 → (mu (mu (mu (mu (mu (mu (mu (fnB (cpB (mu (mu g1 166 1 0) 166 15 (-1)) 169 168 0 0 53) 170 hgφ 25) 170 1 (Pi (rdA tN tX).1 : Int)) 170 2 (Pf (rdA tN tX).1 : Int)) 166 6 0) 166 11 0) 166 13 0) 173 0 0) 173 1 0) 166 k = g 166 k := fun k a b c d e f z => by rw [mu_ne (by decide), mu_ne (by decide), mu_at' d, mu_at' c, mu_at' b, mu_ne (by decide), mu_ne (by decide), fnB_off (by decide), cpB_off (by decide), mu_at' f, mu_at' a, fr1.2 k e z]
            have h168 : ∀ t : Int, 0 ≤ t → t < 53 → (mu (mu (mu (mu (mu (mu (mu (fnB (cpB (mu (mu g1 166 1 0) 166 15 (-1)) 169 168 0 0 53) 170 hgφ 25) 170 1 (Pi (rdA tN tX).1 : Int)) 170 2 (Pf (rdA tN tX).1 : Int)) 166 6 0) 166 11 0) 166 13 0) 173 0 0) 173 1 0) 168 t = g1 169 t := fun t a b => by rw [mu_ne (by decide), mu_ne (by decide), mu_ne (by decide), mu_ne (by decide), mu_ne (by decide), mu_ne (by decide), mu_ne (by decide), fnB_off (by decide), cpB_at (by omega) (by omega), mu_ne (by decide), mu_ne (by decide), Int.zero_add, Int.sub_zero]
            have h170 : ∀ t : Int, t ≠ 1 → t ≠ 2 → 0 ≤ t → t < 25 → (mu (mu (mu (mu (mu (mu (mu (fnB (cpB (mu (mu g1 166 1 0) 166 15 (-1)) 169 168 0 0 53) 170 hgφ 25) 170 1 (Pi (rdA tN tX).1 : Int)) 170 2 (Pf (rdA tN tX).1 : Int)) 166 6 0) 166 11 0) 166 13 0) 173 0 0) 173 1 0) 170 t = hgφ t := fun t a b c d => by rw [mu_ne (by decide), mu_ne (by decide), mu_ne (by decide), mu_ne (by decide), mu_ne (by decide), mu_at' b, mu_at' a, fnB_at c (by omega)]
            have hpm : PM (mu (mu (mu (mu (mu (mu (mu (fnB (cpB (mu (mu g1 166 1 0) 166 15 (-1)) 169 168 0 0 53) 170 hgφ 25) 170 1 (Pi (rdA tN tX).1 : Int)) 170 2 (Pf (rdA tN tX).1 : Int)) 166 6 0) 166 11 0) 166 13 0) 173 0 0) 173 1 0) 168 (rdA tN tX).1 := by
              refine ⟨by rw [h168 _ (by decide) (by decide)]; exact d0, by rw [h168 _ (by decide) (by decide)]; exact d4, by rw [h168 _ (by decide) (by decide)]; exact d1, by rw [h168 _ (by decide) (by decide)]; exact d2, by rw [h168 _ (by decide) (by decide)]; exact d3, fun k hk => by rw [h168 _ (by omega) (by omega)]; exact dk k hk, fun k hk => by rw [h168 _ (by omega) (by omega)]; exact dh k hk, fun x hx k hk => by rw [h168 _ (by omega) (by omega)]; exact dw x hx k hk, fun k hk => by rw [h168 _ (by omega) (by omega), h168 _ (by omega) (by omega)]; exact dq k hk⟩
            have hls : LSr (mu (mu (mu (mu (mu (mu (mu (fnB (cpB (mu (mu g1 166 1 0) 166 15 (-1)) 169 168 0 0 53) 170 hgφ 25) 170 1 (Pi (rdA tN tX).1 : Int)) 170 2 (Pf (rdA tN tX).1 : Int)) 166 6 0) 166 11 0) 166 13 0) 173 0 0) 173 1 0) (hangV (rdA tN tX).1) := by
              refine ⟨by rw [h170 _ (by decide) (by decide) (by decide) (by decide)]; rfl, ?_, ?_, by rw [h170 _ (by decide) (by decide) (by decide) (by decide)]; rfl, fun p hp => ?_, fun k hk => ?_, fun k hk => ?_⟩
              · rw [mu_ne (by decide), mu_ne (by decide), mu_ne (by decide), mu_ne (by decide), mu_ne (by decide), mu_at' (by decide), mu_at]
                rfl
              · rw [mu_ne (by decide), mu_ne (by decide), mu_ne (by decide), mu_ne (by decide), mu_ne (by decide), mu_at]
                rfl
              · have hp : p < Pf (rdA tN tX).1 := hp
                rw [h170 _ (by omega) (by omega) (by omega) (by omega)]
                unfold hgφ
                rw [if_pos (by omega)]
                show (4 : Int) + (p : Int) - 4 = (p : Int)
                omega
              · rw [h170 _ (by omega) (by omega) (by omega) (by omega)]
                unfold hgφ
                rw [if_neg (by omega)]
                rfl
              · rw [h170 _ (by omega) (by omega) (by omega) (by omega)]
                unfold hgφ
                rw [if_neg (by omega)]
                rfl
            have him : MIm (mu (mu (mu (mu (mu (mu (mu (fnB (cpB (mu (mu g1 166 1 0) 166 15 (-1)) 169 168 0 0 53) 170 hgφ 25) 170 1 (Pi (rdA tN tX).1 : Int)) 170 2 (Pf (rdA tN tX).1 : Int)) 166 6 0) 166 11 0) 166 13 0) 173 0 0) 173 1 0) (fun j => (false, (im j).2)) := by
              intro j hj
              refine ⟨?_, fun z => absurd z (by show ¬ (false = true); decide)⟩
              show _ = b01 false
              rcases (by omega : j = 0 ∨ j = 1) with e | e
              · subst e
                exact (mu_at' (by decide)).trans mu_at
              · subst e
                exact mu_at
            have h9 := h (mu (mu (mu (mu (mu (mu (mu (fnB (cpB (mu (mu g1 166 1 0) 166 15 (-1)) 169 168 0 0 53) 170 hgφ 25) 170 1 (Pi (rdA tN tX).1 : Int)) 170 2 (Pf (rdA tN tX).1 : Int)) 166 6 0) 166 11 0) 166 13 0) 173 0 0) 173 1 0) (by simp only [if_pos a]; rw [show (rdA tN tX).2.2 = ((0, -1) : Nat × Int) from rdI_0 _ _ _ a]; exact ⟨⟨(r1t).trans rfl, fun k hk => absurd hk (Nat.not_lt_zero k)⟩, r15, hpm, hls, ⟨(r6t).trans rfl, fun j hj => absurd hj (Nat.not_lt_zero j)⟩, him, (r 9 (by decide) (by decide) (by decide) (by decide) (by decide) (by decide) (by decide)).trans m9, ⟨(r11t).trans rfl, fun i hi => absurd hi (Nat.not_lt_zero i)⟩, ⟨(r13t).trans rfl, fun i hi => absurd hi (Nat.not_lt_zero i)⟩⟩) ⟨fun j hj => q j (by omega) (by omega) (by omega) (by omega) (by omega), q 178 (by decide) (by decide) (by decide) (by decide) (by decide), r 20 (by decide) (by decide) (by decide) (by decide) (by decide) (by decide) (by decide)⟩
            unfold E_cord at h9
            rw [if_pos a] at h9
            exact h9
          have e0 := lm_cord2 (X := X) (d := d) (K := K) (g := (cpB (mu (mu g1 166 1 0) 166 15 (-1)) 169 168 0 0 53)) (x := 1) tl (25) 0 (by omega)
          rw [fnB_0] at e0
          exact e0
        have e0 := lm_cord1 (X := X) (d := d) (K := K) (g := (mu (mu g1 166 1 0) 166 15 (-1))) (x := 1) tl (53) 0 (by omega)
        rw [cpB_0] at e0
        exact e0
      · exact absurd c27 (by decide)
  · refine r_istore_n (pc' := 5) dX11_cord_4 rfl rfl ?_
    refine r_aload_n (pc' := 6) dX11_cord_5 rfl rfl ?_
    refine r_iconst (pc' := 7) dX11_cord_6 rfl ?_
    refine r_putf (pc' := 10) (kI := 1) dX11_cord_7 rfl fX11_72 z166 rfl (Or.inl rfl) rfl rfl ?_
    refine r_aload_n (pc' := 11) dX11_cord_10 rfl rfl ?_
    refine r_iload_n (pc' := 12) dX11_cord_11 rfl rfl ?_
    refine r_if_eq (tgt := 19) (pc' := 15) dX11_cord_12 rfl rfl (by decide) (fun c12 => ?_) (fun c12 => ?_)
    · refine r_aload_n (pc' := 20) dX11_cord_19 rfl rfl ?_
      refine r_getf (pc' := 23) (kI := 14) (x := (q : Int)) dX11_cord_20 rfl fX11_76 z166 rfl rfl (by rw [mu_at' (by decide)]; exact c.2.2.2.1) ?_
      refine r_putf (pc' := 26) (kI := 15) dX11_cord_23 rfl fX11_38 z166 rfl (Or.inl rfl) rfl rfl ?_
      refine r_iload_n (pc' := 27) dX11_cord_26 rfl rfl ?_
      refine r_if_ne (tgt := 38) (pc' := 30) dX11_cord_27 rfl rfl (by decide) (fun c27 => ?_) (fun c27 => ?_)
      · exact absurd rfl c27
      · refine r_bipush (pc' := 32) dX11_cord_30 rfl (by decide) ?_
        refine r_aload_n (pc' := 33) dX11_cord_32 rfl rfl ?_
        refine r_getf (pc' := 36) (kI := 16) (x := ((rdA tN tX).2.2.1 : Int)) dX11_cord_33 rfl fX11_79 z166 rfl rfl (by rw [mu_at' (by decide), mu_at' (by decide)]; exact e) ?_
        refine r_isub (pc' := 37) dX11_cord_36 rfl ?_
        refine r_reti dX11_cord_37 rfl (Or.inl rfl) ?_
        have qn : ∀ j, j ≠ 166 → j ≠ 169 → (mu (mu g1 166 1 0) 166 15 (q : Int)) j = g j := fun j x y => by rw [mu_ne x, mu_ne x, fr1.1 j x y]
        have rn : ∀ k, k ≠ 1 → k ≠ 15 → k ≠ 14 → k ≠ 16 → (mu (mu g1 166 1 0) 166 15 (q : Int)) 166 k = g 166 k := fun k x y s t => by rw [mu_at' y, mu_at' x, fr1.2 k s t]
        have h9 := h (mu (mu g1 166 1 0) 166 15 (q : Int)) (by simp only [if_neg a]; exact ⟨⟨by rw [mu_at' (by decide), mu_at]; rfl, fun k hk => absurd hk (Nat.not_lt_zero k)⟩, by rw [mu_at]; exact b, m4.fr (qn 168 (by decide) (by decide)), m5.fr (qn 170 (by decide) (by decide)), ⟨(rn 6 (by decide) (by decide) (by decide) (by decide)).trans m6, fun j hj => (m7 j hj).fr (qn 171 (by decide) (by decide))⟩, MIm.fr m8 (qn 172 (by decide) (by decide)) (qn 173 (by decide) (by decide)), (rn 9 (by decide) (by decide) (by decide) (by decide)).trans m9, ⟨(rn 11 (by decide) (by decide) (by decide) (by decide)).trans m10, fun i hi => by rw [qn 174 (by decide) (by decide)]; exact m11 i hi⟩, ⟨(rn 13 (by decide) (by decide) (by decide) (by decide)).trans m12, fun i hi => by rw [qn 175 (by decide) (by decide)]; exact m13 i hi⟩⟩) ⟨fun j hj => qn j (by omega) (by omega), qn 178 (by decide) (by decide), rn 20 (by decide) (by decide) (by decide) (by decide)⟩
        unfold E_cord at h9
        rw [if_neg a] at h9
        exact h9
    · exact absurd rfl c12
