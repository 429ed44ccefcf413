theorem WS.rem {tN : Nat} {tX : Nat → Int} {flt : Int} {u : PV} {v : LV} {kn : Nat} {kL : Nat → LV} {im : Nat → Bool × Int × LV} {sd : Int} {ln : Nat} {la : Nat → Nat} {lr : Nat → Bool} {bn : Nat} {bp : Nat → Nat} {bf : Nat → Int} {v' : LV} {sd' : Int} (h : WS tN tX flt u v kn kL im sd ln la lr bn bp bf) (hw : LW (Pf u) v') (h0 : 0 ≤ sd') (h1 : sd' < 2147483648) : WS tN tX flt u v' (pN kn) (pL kn kL v) im sd' ln la lr bn bp bf := by
  obtain ⟨⟨s1, s2⟩, s3, s4, s5, ⟨s6, s7⟩, s8, ⟨s9, s10⟩, ⟨s11, s12⟩, ⟨s13, s14⟩⟩ := h
  refine ⟨⟨s1, s2⟩, s3, s4, hw, ⟨by unfold pN; omega, fun j hj => ?_⟩, s8, ⟨h0, h1⟩, ⟨s11, s12⟩, ⟨s13, s14⟩⟩
  unfold pN at hj
  unfold pL
  by_cases e : kn < 30
  · rw [if_pos e]
    by_cases e1 : j < kn
    · rw [if_pos e1]; exact s7 j e1
    · rw [if_neg e1]; exact s5
  · rw [if_neg e]
    by_cases e1 : j < 29
    · rw [if_pos e1]; exact s7 (j + 1) (by omega)
    · rw [if_neg e1]; exact s5
theorem MS.sd {g : Mem} {tN : Nat} {tX : Nat → Int} {flt : Int} {u : PV} {v : LV} {kn : Nat} {kL : Nat → LV} {im : Nat → Bool × Int × LV} {sd : Int} {ln : Nat} {la : Nat → Nat} {lr : Nat → Bool} {bn : Nat} {bp : Nat → Nat} {bf : Nat → Int} {x : Int} (hM : MS g tN tX flt u v kn kL im sd ln la lr bn bp bf) : MS (mu g 166 9 x) tN tX flt u v kn kL im x ln la lr bn bp bf := by
  obtain ⟨⟨m1, m2⟩, m3, m4, m5, ⟨m6, m7⟩, m8, m9, ⟨m10, m11⟩, ⟨m12, m13⟩⟩ := id hM
  exact ⟨⟨(mu_at' (by decide)).trans m1, fun k hk => (congrFun (mu_ne (g := g) (k := 9) (v := x) (by decide)) _).trans (m2 k hk)⟩, (mu_at' (by decide)).trans m3, m4.fr (mu_ne (g := g) (k := 9) (v := x) (by decide)), m5.fr (mu_ne (g := g) (k := 9) (v := x) (by decide)), ⟨(mu_at' (by decide)).trans m6, fun j hj => (m7 j hj).fr (mu_ne (g := g) (k := 9) (v := x) (by decide))⟩, MIm.fr m8 (mu_ne (g := g) (k := 9) (v := x) (by decide)) (mu_ne (g := g) (k := 9) (v := x) (by decide)), mu_at, ⟨(mu_at' (by decide)).trans m10, fun i hi => by rw [mu_ne (by decide)]; exact m11 i hi⟩, ⟨(mu_at' (by decide)).trans m12, fun i hi => by rw [mu_ne (by decide)]; exact m13 i hi⟩⟩
theorem lm_years {X : CX} {d : Nat} {K : Int → Mem → Prop} {n : Int} (hn : n ≤ 20) : ∀ (k i : Nat) (g : Mem) {tN : Nat} {tX : Nat → Int} {flt : Int} {u : PV} {v : LV} {kn : Nat} {kL : Nat → LV} {im : Nat → Bool × Int × LV} {sd : Int} {ln : Nat} {la : Nat → Nat} {lr : Nat → Bool} {bn : Nat} {bp : Nat → Nat} {bf : Nat → Int} (hM : MS g tN tX flt u v kn kL im sd ln la lr bn bp bf) (hS : WS tN tX flt u v kn kL im sd ln la lr bn bp bf), (i : Int) + k = n → Ly v + k ≤ 9020 → (∀ g' : Mem, MS g' tN tX flt u ((yrI u k (kn, kL, v)).2.2) ((yrI u k (kn, kL, v)).1) ((yrI u k (kn, kL, v)).2.1) im sd ln la lr bn bp bf → FrM g g' → K ((Ln (yrI u k (kn, kL, v)).2.2 : Nat) : Int) g') → AJ X (d + 4) mX11_year 0 0 (QI Z0 K) 0 0 42 [some (vr 166), some (vi n), some (vi (i : Int))] [] Z0 g := by
  intro k
  induction k with
  | zero =>
    intro i g tN tX flt u v kn kL im sd ln la lr bn bp bf hM hS hi0 hy0 h
    obtain ⟨⟨m1, m2⟩, m3, m4, m5, ⟨m6, m7⟩, m8, m9, ⟨m10, m11⟩, ⟨m12, m13⟩⟩ := id hM
    obtain ⟨⟨s1, s2⟩, s3, s4, s5, ⟨s6, s7⟩, s8, ⟨s9, s10⟩, ⟨s11, s12⟩, ⟨s13, s14⟩⟩ := id hS
    have hB : MB g u v := ⟨m4, s4, m5, s5⟩
    obtain ⟨hQ, hU, hC, hW⟩ := id hB
    obtain ⟨hy, hi, hc, ht, ho, hf, hw_⟩ := id hC
    obtain ⟨w0, w1, w2, w3, w4, w5, w6, w7⟩ := id hW
    obtain ⟨p6, p7, p8, p9, p10, pk, pg, px, py⟩ := id hQ
    obtain ⟨u0, u1, u2, u3, u4, u5, u6, u7⟩ := id hU
    refine r_iload_n (pc' := 43) dX11_year_42 rfl rfl ?_
    refine r_iload_n (pc' := 44) dX11_year_43 rfl rfl ?_
    refine r_icmp_ge (tgt := 61) (pc' := 47) dX11_year_44 rfl rfl (by omega) (by omega) (fun c44 => ?_) (fun c44 => ?_)
    · refine r_aload_n (pc' := 62) dX11_year_61 rfl rfl ?_
      refine r_getr (pc' := 65) dX11_year_62 rfl fX11_19 z166 rfl ?_
      refine r_iconst (pc' := 66) dX11_year_65 rfl ?_
      refine r_iaload (pc' := 67) dX11_year_66 rfl z170 (by decide) (by omega) (by omega) hc ?_
      refine r_reti dX11_year_67 rfl (Or.inl rfl) ?_
      exact h g hM (FrM.rf g)
    · exact absurd c44 (by omega)
  | succ k ih =>
    intro i g tN tX flt u v kn kL im sd ln la lr bn bp bf hM hS hi0 hy0 h
    obtain ⟨⟨m1, m2⟩, m3, m4, m5, ⟨m6, m7⟩, m8, m9, ⟨m10, m11⟩, ⟨m12, m13⟩⟩ := id hM
    obtain ⟨⟨s1, s2⟩, s3, s4, s5, ⟨s6, s7⟩, s8, ⟨s9, s10⟩, ⟨s11, s12⟩, ⟨s13, s14⟩⟩ := id hS
    have hB : MB g u v := ⟨m4, s4, m5, s5⟩
    obtain ⟨hQ, hU, hC, hW⟩ := id hB
    obtain ⟨hy, hi, hc, ht, ho, hf, hw_⟩ := id hC
    obtain ⟨w0, w1, w2, w3, w4, w5, w6, w7⟩ := id hW
    obtain ⟨p6, p7, p8, p9, p10, pk, pg, px, py⟩ := id hQ
    obtain ⟨u0, u1, u2, u3, u4, u5, u6, u7⟩ := id hU
    refine r_iload_n (pc' := 43) dX11_year_42 rfl rfl ?_
    refine r_iload_n (pc' := 44) dX11_year_43 rfl rfl ?_
    refine r_icmp_ge (tgt := 61) (pc' := 47) dX11_year_44 rfl rfl (by omega) (by omega) (fun c44 => ?_) (fun c44 => ?_)
    · exact absurd c44 (by omega)
    · refine r_aload_n (pc' := 48) dX11_year_47 rfl rfl ?_
      refine r_vv0 (pc' := 51) dX11_year_48 rfl qX11_keeps lX11_163 z166 rfl rfl rfl (Nat.zero_le _) (Nat.zero_le _) (m_keeps hM hS (fun g1 hM1 fm1 => ?_))
      have hB1 : MB g1 u v := ⟨hM1.2.2.1, s4, hM1.2.2.2.1, s5⟩
      refine r_aload_n (pc' := 52) dX11_year_51 rfl rfl ?_
      refine r_vv0 (pc' := 55) dX11_year_52 rfl qX11_passes lX11_177 z166 rfl rfl rfl (Nat.zero_le _) (Nat.zero_le _) (m_passes hB1 (fun g2 hl2 fr2 => ?_))
      refine r_iinc (pc' := 58) dX11_year_55 rfl rfl rfl ?_
      refine r_goto (tgt := 42) dX11_year_58 rfl ?_
      have hM2 := hM1.line hl2 (fun j _ a _ => fr2 j a)
      have hyy : Ly (yearV u v) = Ly v + 1 := rfl
      exact ih (i + 1) g2 hM2 (hS.rem (LW_year hW (by omega)) s9 s10) (by omega) (by omega) (fun g' hs hf => h g' hs (fm1.tr ((FrM.line (fun j a _ => fr2 j a)).tr hf)))
theorem M_year {X : CX} {d : Nat} {g : Mem} {K : Int → Mem → Prop} {tN : Nat} {tX : Nat → Int} {flt : Int} {u : PV} {v : LV} {kn : Nat} {kL : Nat → LV} {im : Nat → Bool × Int × LV} {sd : Int} {ln : Nat} {la : Nat → Nat} {lr : Nat → Bool} {bn : Nat} {bp : Nat → Nat} {bf : Nat → Int} (hM : MS g tN tX flt u v kn kL im sd ln la lr bn bp bf) (hS : WS tN tX flt u v kn kL im sd ln la lr bn bp bf) (n : Int) (hn : R32 n) (h : ∀ g' : Mem, MS g' tN tX flt u (if E_yr u v n = 0 then (yrI u n.toNat (kn, kL, v)).2.2 else v) (if E_yr u v n = 0 then (yrI u n.toNat (kn, kL, v)).1 else kn) (if E_yr u v n = 0 then (yrI u n.toNat (kn, kL, v)).2.1 else kL) im sd ln la lr bn bp bf → FrM g g' → K (if E_yr u v n = 0 then ((Ln (yrI u n.toNat (kn, kL, v)).2.2 : Nat) : Int) else E_yr u v n) g') : EI X (d + 4) mX11_year [vr 166, vi n] Z0 g K := by
  show AJ X (d + 4) mX11_year 0 0 (QI Z0 K) 0 0 0 [some (vr 166), some (vi n), none] [] Z0 g
  obtain ⟨⟨m1, m2⟩, m3, m4, m5, ⟨m6, m7⟩, m8, m9, ⟨m10, m11⟩, ⟨m12, m13⟩⟩ := id hM
  obtain ⟨⟨s1, s2⟩, s3, s4, s5, ⟨s6, s7⟩, s8, ⟨s9, s10⟩, ⟨s11, s12⟩, ⟨s13, s14⟩⟩ := id hS
  have hB : MB g u v := ⟨m4, s4, m5, s5⟩
  obtain ⟨hQ, hU, hC, hW⟩ := id hB
  obtain ⟨hy, hi, hc, ht, ho, hf, hw_⟩ := id hC
  obtain ⟨w0, w1, w2, w3, w4, w5, w6, w7⟩ := id hW
  obtain ⟨p6, p7, p8, p9, p10, pk, pg, px, py⟩ := id hQ
  obtain ⟨u0, u1, u2, u3, u4, u5, u6, u7⟩ := id hU
  refine r_iload_n (pc' := 1) dX11_year_0 rfl rfl ?_
  refine r_iconst (pc' := 2) dX11_year_1 rfl ?_
  refine r_bipush (pc' := 4) dX11_year_2 rfl (by decide) ?_
  refine r_si3 (pc' := 7) dX11_year_4 rfl qX11_in lX11_67 rfl rfl rfl (Nat.zero_le _) (Nat.zero_le _) (m_in n 1 20 (by omega) (by omega) (by omega) ?_)
  refine r_if_ne (tgt := 13) (pc' := 10) dX11_year_7 rfl rfl (b01_R _) (fun c7 => ?_) (fun c7 => ?_)
  · have hd := of_decide_eq_true (b01_ne c7)
    refine r_aload_n (pc' := 14) dX11_year_13 rfl rfl ?_
    refine r_getr (pc' := 17) dX11_year_14 rfl fX11_13 z166 rfl ?_
    refine r_iconst (pc' := 18) dX11_year_17 rfl ?_
    refine r_iaload (pc' := 19) dX11_year_18 rfl z168 (by decide) (by omega) (by omega) p6 ?_
    refine r_if_ne (tgt := 25) (pc' := 22) dX11_year_19 rfl rfl (by omega) (fun c19 => ?_) (fun c19 => ?_)
    · refine r_aload_n (pc' := 26) dX11_year_25 rfl rfl ?_
      refine r_getr (pc' := 29) dX11_year_26 rfl fX11_19 z166 rfl ?_
      refine r_iconst (pc' := 30) dX11_year_29 rfl ?_
      refine r_iaload (pc' := 31) dX11_year_30 rfl z170 (by decide) (by omega) (by omega) hy ?_
      refine r_sipush (pc' := 34) dX11_year_31 rfl (by decide) ?_
      refine r_icmp_le (tgt := 40) (pc' := 37) dX11_year_34 rfl rfl (by omega) (by omega) (fun c34 => ?_) (fun c34 => ?_)
      · refine r_iconst (pc' := 41) dX11_year_40 rfl ?_
        refine r_istore_n (pc' := 42) dX11_year_41 rfl rfl ?_
        have c9 : E_yr u v n = 0 := by unfold E_yr; rw [if_pos (by omega), if_pos (by omega), if_pos (by omega)]
        simp only [if_pos c9] at h
        exact lm_years hd.2 n.toNat 0 g hM hS (by omega) (by omega) h
      · refine r_ldc (z := -1000000004) (pc' := 39) dX11_year_37 rfl kX11_75 ?_
        refine r_reti dX11_year_39 rfl (Or.inl rfl) ?_
        have hno : E_yr u v n = -1000000004 := by unfold E_yr; first | rw [if_neg (by omega)] | rw [if_pos (by omega), if_neg (by omega)] | rw [if_pos (by omega), if_pos (by omega), if_neg (by omega)]
        have hne : ¬ E_yr u v n = 0 := by rw [hno]; decide
        have h9 := h g (by simp only [if_neg hne]; exact hM) (FrM.rf g)
        rw [if_neg hne, hno] at h9
        exact h9
    · refine r_ldc (z := -1000000003) (pc' := 24) dX11_year_22 rfl kX11_170 ?_
      refine r_reti dX11_year_24 rfl (Or.inl rfl) ?_
      have hno : E_yr u v n = -1000000003 := by unfold E_yr; first | rw [if_neg (by omega)] | rw [if_pos (by omega), if_neg (by omega)] | rw [if_pos (by omega), if_pos (by omega), if_neg (by omega)]
      have hne : ¬ E_yr u v n = 0 := by rw [hno]; decide
      have h9 := h g (by simp only [if_neg hne]; exact hM) (FrM.rf g)
      rw [if_neg hne, hno] at h9
      exact h9
  · have hd := of_decide_eq_false (b01_eq c7)
    refine r_ldc (z := -1000000002) (pc' := 12) dX11_year_10 rfl kX11_71 ?_
    refine r_reti dX11_year_12 rfl (Or.inl rfl) ?_
    have hno : E_yr u v n = -1000000002 := by unfold E_yr; first | rw [if_neg (by omega)] | rw [if_pos (by omega), if_neg (by omega)] | rw [if_pos (by omega), if_pos (by omega), if_neg (by omega)]
    have hne : ¬ E_yr u v n = 0 := by rw [hno]; decide
    have h9 := h g (by simp only [if_neg hne]; exact hM) (FrM.rf g)
    rw [if_neg hne, hno] at h9
    exact h9
theorem lm_drift {X : CX} {d : Nat} {K : Int → Mem → Prop} {n : Int} (hn : n ≤ 20) : ∀ (k i : Nat) (g : Mem) {tN : Nat} {tX : Nat → Int} {flt : Int} {u : PV} {v : LV} {kn : Nat} {kL : Nat → LV} {im : Nat → Bool × Int × LV} {sd : Int} {ln : Nat} {la : Nat → Nat} {lr : Nat → Bool} {bn : Nat} {bp : Nat → Nat} {bf : Nat → Int} (hM : MS g tN tX flt u v kn kL im sd ln la lr bn bp bf) (hS : WS tN tX flt u v kn kL im sd ln la lr bn bp bf) (y : Option VV), (i : Int) + k = n → Ly v + k ≤ 9020 → (∀ g' : Mem, MS g' tN tX flt u ((dfI u k (kn, kL, v, sd)).2.2.1) ((dfI u k (kn, kL, v, sd)).1) ((dfI u k (kn, kL, v, sd)).2.1) im ((dfI u k (kn, kL, v, sd)).2.2.2) ln la lr bn bp bf → FrM g g' → K ((Ln (dfI u k (kn, kL, v, sd)).2.2.1 : Nat) : Int) g') → AJ X (d + 4) mX11_drift 0 0 (QI Z0 K) 0 0 42 [some (vr 166), some (vi n), some (vi (i : Int)), y] [] Z0 g := by
  intro k
  induction k with
  | zero =>
    intro i g tN tX flt u v kn kL im sd ln la lr bn bp bf hM hS y hi0 hy0 h
    obtain ⟨⟨m1, m2⟩, m3, m4, m5, ⟨m6, m7⟩, m8, m9, ⟨m10, m11⟩, ⟨m12, m13⟩⟩ := id hM
    obtain ⟨⟨s1, s2⟩, s3, s4, s5, ⟨s6, s7⟩, s8, ⟨s9, s10⟩, ⟨s11, s12⟩, ⟨s13, s14⟩⟩ := id hS
    have hB : MB g u v := ⟨m4, s4, m5, s5⟩
    obtain ⟨hQ, hU, hC, hW⟩ := id hB
    obtain ⟨hy, hi, hc, ht, ho, hf, hw_⟩ := id hC
    obtain ⟨w0, w1, w2, w3, w4, w5, w6, w7⟩ := id hW
    obtain ⟨p6, p7, p8, p9, p10, pk, pg, px, py⟩ := id hQ
    obtain ⟨u0, u1, u2, u3, u4, u5, u6, u7⟩ := id hU
    refine r_iload_n (pc' := 43) dX11_drift_42 rfl rfl ?_
    refine r_iload_n (pc' := 44) dX11_drift_43 rfl rfl ?_
    refine r_icmp_ge (tgt := 165) (pc' := 47) dX11_drift_44 rfl rfl (by omega) (by omega) (fun c44 => ?_) (fun c44 => ?_)
    · refine r_aload_n (pc' := 166) dX11_drift_165 rfl rfl ?_
      refine r_getr (pc' := 169) dX11_drift_166 rfl fX11_19 z166 rfl ?_
      refine r_iconst (pc' := 170) dX11_drift_169 rfl ?_
      refine r_iaload (pc' := 171) dX11_drift_170 rfl z170 (by decide) (by omega) (by omega) hc ?_
      refine r_reti dX11_drift_171 rfl (Or.inl rfl) ?_
      exact h g hM (FrM.rf g)
    · exact absurd c44 (by omega)
  | succ k ih =>
    intro i g tN tX flt u v kn kL im sd ln la lr bn bp bf hM hS y hi0 hy0 h
    obtain ⟨⟨m1, m2⟩, m3, m4, m5, ⟨m6, m7⟩, m8, m9, ⟨m10, m11⟩, ⟨m12, m13⟩⟩ := id hM
    obtain ⟨⟨s1, s2⟩, s3, s4, s5, ⟨s6, s7⟩, s8, ⟨s9, s10⟩, ⟨s11, s12⟩, ⟨s13, s14⟩⟩ := id hS
    have hB : MB g u v := ⟨m4, s4, m5, s5⟩
    obtain ⟨hQ, hU, hC, hW⟩ := id hB
    obtain ⟨hy, hi, hc, ht, ho, hf, hw_⟩ := id hC
    obtain ⟨w0, w1, w2, w3, w4, w5, w6, w7⟩ := id hW
    obtain ⟨p6, p7, p8, p9, p10, pk, pg, px, py⟩ := id hQ
    obtain ⟨u0, u1, u2, u3, u4, u5, u6, u7⟩ := id hU
    have hfin : ∀ (g1 : Mem) (v1 : LV) (sd1 : Int) (y : Option VV), MS g1 tN tX flt u v1 (pN kn) (pL kn kL v) im sd1 ln la lr bn bp bf → LW (Pf u) v1 → 0 ≤ sd1 → sd1 < 2147483648 → chS v sd = (v1, sd1) → FrM g g1 → AJ X (d + 4) mX11_drift 0 0 (QI Z0 K) 0 0 155 [some (vr 166), some (vi n), some (vi (i : Int)), y] [] Z0 g1 := by
      intro g1 v1 sd1 y hM1 hW1 hs0 hs1 hch fm1
      have hB1 : MB g1 u v1 := ⟨hM1.2.2.1, s4, hM1.2.2.2.1, hW1⟩
      have hy3 := chS_y v sd
      rw [hch] at hy3
      have hy3 : Ly v1 = Ly v := hy3
      refine r_aload_n (pc' := 156) dX11_drift_155 rfl rfl ?_
      refine r_vv0 (pc' := 159) dX11_drift_156 rfl qX11_passes lX11_177 z166 rfl rfl rfl (Nat.zero_le _) (Nat.zero_le _) (m_passes hB1 (fun g2 hl2 fr2 => ?_))
      refine r_iinc (pc' := 162) dX11_drift_159 rfl rfl rfl ?_
      refine r_goto (tgt := 42) dX11_drift_162 rfl ?_
      have hM2 := hM1.line hl2 (fun j _ a _ => fr2 j a)
      have hyy : Ly (yearV u v1) = Ly v1 + 1 := rfl
      refine ih (i + 1) g2 hM2 (hS.rem (LW_year hW1 (by omega)) hs0 hs1) _ (by omega) (by omega) (fun g' hs hf => ?_)
      have h9 := h g'
      rw [show dfI u (k + 1) (kn, kL, v, sd) = dfI u k (pN kn, pL kn kL v, yearV u (chS v sd).1, (chS v sd).2) from rfl, hch] at h9
      exact h9 hs (fm1.tr ((FrM.line (fun j a _ => fr2 j a)).tr hf))
    refine r_iload_n (pc' := 43) dX11_drift_42 rfl rfl ?_
    refine r_iload_n (pc' := 44) dX11_drift_43 rfl rfl ?_
    refine r_icmp_ge (tgt := 165) (pc' := 47) dX11_drift_44 rfl rfl (by omega) (by omega) (fun c44 => ?_) (fun c44 => ?_)
    · exact absurd c44 (by omega)
    · refine r_aload_n (pc' := 48) dX11_drift_47 rfl rfl ?_
      refine r_vv0 (pc' := 51) dX11_drift_48 rfl qX11_keeps lX11_163 z166 rfl rfl rfl (Nat.zero_le _) (Nat.zero_le _) (m_keeps hM hS (fun g1 hM1 fm1 => ?_))
      refine r_aload_n (pc' := 52) dX11_drift_51 rfl rfl ?_
      refine r_bipush (pc' := 54) dX11_drift_52 rfl (by decide) ?_
      refine r_vi1 (pc' := 57) dX11_drift_54 rfl qX11_draws lX11_186 z166 rfl rfl rfl rfl (Nat.zero_le _) (Nat.zero_le _) (m_draws (sd := sd) hM1.2.2.2.2.2.2.1 6 (by decide) (by decide) ?_)
      have hM2 := hM1.sd (x := drS sd)
      have fm2 : FrM g (mu g1 166 9 (drS sd)) := fm1.tr (FrM.fld (by decide))
      have d6 := drN_b sd (n := 6) (by decide)
      have hB2 : MB (mu g1 166 9 (drS sd)) u v := ⟨hM2.2.2.1, s4, hM2.2.2.2.1, s5⟩
      have hs9 := hM2.2.2.2.2.2.2.1
      have hc2 := hM2.2.2.2.1.2.2.1
      refine r_istore_n (pc' := 58) dX11_drift_57 rfl rfl ?_
      refine r_iload_n (pc' := 59) dX11_drift_58 rfl rfl ?_
      refine r_if_ne (tgt := 77) (pc' := 62) dX11_drift_59 rfl rfl (by omega) (fun c59 => ?_) (fun c59 => ?_)
      · refine r_iload_n (pc' := 78) dX11_drift_77 rfl rfl ?_
        refine r_iconst (pc' := 79) dX11_drift_78 rfl ?_
        refine r_icmp_ne (tgt := 95) (pc' := 82) dX11_drift_79 rfl rfl (by omega) (by omega) (fun c79 => ?_) (fun c79 => ?_)
        · refine r_iload_n (pc' := 96) dX11_drift_95 rfl rfl ?_
          refine r_iconst (pc' := 97) dX11_drift_96 rfl ?_
          refine r_icmp_ne (tgt := 127) (pc' := 100) dX11_drift_97 rfl rfl (by omega) (by omega) (fun c97 => ?_) (fun c97 => ?_)
          · refine r_iload_n (pc' := 128) dX11_drift_127 rfl rfl ?_
            refine r_iconst (pc' := 129) dX11_drift_128 rfl ?_
            refine r_icmp_ne (tgt := 155) (pc' := 132) dX11_drift_129 rfl rfl (by omega) (by omega) (fun c129 => ?_) (fun c129 => ?_)
            · first
                | (have cw := c0
                   refine hfin _ (winV v (drN (drS sd) 10).toNat) (drS (drS sd)) _ ?_ (LW_win hW (by omega)) (drS_b _).1 (drS_b _).2 (by unfold chS; rw [if_pos (by omega)]) (fm2.tr ((FrM.fld (by decide)).tr (FrM.row (by decide) (by decide))))
                   refine (hM2.sd (x := drS (drS sd))).line (v' := winV v (drN (drS sd) 10).toNat) ?_ (fun j _ a _ => mu_ne a)
                   obtain ⟨l0, l1, l2, l3, l4, l5, l6⟩ := id (hM2.sd (x := drS (drS sd))).2.2.2.1
                   refine ⟨by rw [mu_at' (by decide)]; exact l0, by rw [mu_at]; show drN (drS sd) 10 = (((drN (drS sd) 10).toNat : Nat) : Int); omega, by rw [mu_at' (by decide)]; exact l2, by rw [mu_at' (by decide)]; exact l3, fun q hq => by rw [mu_at' (by omega)]; exact l4 q hq, fun q hq => by rw [mu_at' (by omega)]; exact l5 q hq, fun q hq => by rw [mu_at' (by omega)]; exact l6 q hq⟩)
                | (have cw := c1
                   refine hfin _ (wetV v (onN v)) (drS sd) _ ?_ (LW_wet hW (onN_lt hW)) (drS_b _).1 (drS_b _).2 (by unfold chS; rw [if_neg (by omega), if_pos (by omega)]) (fm2.tr (FrM.row (by decide) (by decide)))
                   refine hM2.line (v' := wetV v (onN v)) ?_ (fun j _ a _ => mu_ne a)
                   obtain ⟨l0, l1, l2, l3, l4, l5, l6⟩ := id hM2.2.2.2.1
                   refine ⟨by rw [mu_at' (by decide)]; exact l0, by rw [mu_at' (by decide)]; exact l1, by rw [mu_at' (by decide)]; exact l2, by rw [mu_at]; rfl, fun q hq => by rw [mu_at' (by omega)]; exact l4 q hq, fun q hq => by rw [mu_at' (by omega)]; exact l5 q hq, fun q hq => by rw [mu_at' (by omega)]; exact l6 q hq⟩)
                | (have cw := c2
                   exact hfin _ (cutV v (drN (drS sd) (Ln v)).toNat) (drS (drS sd)) _ ((hM2.sd (x := drS (drS sd))).line hl3 (fun j _ a b => fr3 j a b)) (LW_cut hW (by omega)) (drS_b _).1 (drS_b _).2 (by unfold chS; rw [if_neg (by omega), if_neg (by omega), if_pos (by omega)]) (fm2.tr ((FrM.fld (by decide)).tr (FrM.line fr3))))
                | (have cw := c3
                   exact hfin _ (dropV v (drN (drS sd) (Ln v)).toNat) (drS (drS sd)) _ ((hM2.sd (x := drS (drS sd))).line hl3 (fun j _ a _ => fr3 j a)) (LW_drop hW (by omega)) (drS_b _).1 (drS_b _).2 (by unfold chS; rw [if_neg (by omega), if_neg (by omega), if_neg (by omega), if_pos (by omega)]) (fm2.tr ((FrM.fld (by decide)).tr (FrM.line (fun j a _ => fr3 j a)))))
                | (exact hfin _ v (drS sd) _ hM2 hW (drS_b _).1 (drS_b _).2 (by unfold chS; rw [if_neg (by omega), if_neg (by omega), if_neg (by omega), if_neg (by omega)]) fm2)
            · refine r_aload_n (pc' := 133) dX11_drift_132 rfl rfl ?_
              refine r_getr (pc' := 136) dX11_drift_133 rfl fX11_19 z166 rfl ?_
              refine r_iconst (pc' := 137) dX11_drift_136 rfl ?_
              refine r_iaload (pc' := 138) dX11_drift_137 rfl z170 (by decide) (by omega) (by omega) hc2 ?_
              refine r_if_le (tgt := 155) (pc' := 141) dX11_drift_138 rfl rfl (by omega) (fun c138 => ?_) (fun c138 => ?_)
              · first
                  | (have cw := c0
                     refine hfin _ (winV v (drN (drS sd) 10).toNat) (drS (drS sd)) _ ?_ (LW_win hW (by omega)) (drS_b _).1 (drS_b _).2 (by unfold chS; rw [if_pos (by omega)]) (fm2.tr ((FrM.fld (by decide)).tr (FrM.row (by decide) (by decide))))
                     refine (hM2.sd (x := drS (drS sd))).line (v' := winV v (drN (drS sd) 10).toNat) ?_ (fun j _ a _ => mu_ne a)
                     obtain ⟨l0, l1, l2, l3, l4, l5, l6⟩ := id (hM2.sd (x := drS (drS sd))).2.2.2.1
                     refine ⟨by rw [mu_at' (by decide)]; exact l0, by rw [mu_at]; show drN (drS sd) 10 = (((drN (drS sd) 10).toNat : Nat) : Int); omega, by rw [mu_at' (by decide)]; exact l2, by rw [mu_at' (by decide)]; exact l3, fun q hq => by rw [mu_at' (by omega)]; exact l4 q hq, fun q hq => by rw [mu_at' (by omega)]; exact l5 q hq, fun q hq => by rw [mu_at' (by omega)]; exact l6 q hq⟩)
                  | (have cw := c1
                     refine hfin _ (wetV v (onN v)) (drS sd) _ ?_ (LW_wet hW (onN_lt hW)) (drS_b _).1 (drS_b _).2 (by unfold chS; rw [if_neg (by omega), if_pos (by omega)]) (fm2.tr (FrM.row (by decide) (by decide)))
                     refine hM2.line (v' := wetV v (onN v)) ?_ (fun j _ a _ => mu_ne a)
                     obtain ⟨l0, l1, l2, l3, l4, l5, l6⟩ := id hM2.2.2.2.1
                     refine ⟨by rw [mu_at' (by decide)]; exact l0, by rw [mu_at' (by decide)]; exact l1, by rw [mu_at' (by decide)]; exact l2, by rw [mu_at]; rfl, fun q hq => by rw [mu_at' (by omega)]; exact l4 q hq, fun q hq => by rw [mu_at' (by omega)]; exact l5 q hq, fun q hq => by rw [mu_at' (by omega)]; exact l6 q hq⟩)
                  | (have cw := c2
                     exact hfin _ (cutV v (drN (drS sd) (Ln v)).toNat) (drS (drS sd)) _ ((hM2.sd (x := drS (drS sd))).line hl3 (fun j _ a b => fr3 j a b)) (LW_cut hW (by omega)) (drS_b _).1 (drS_b _).2 (by unfold chS; rw [if_neg (by omega), if_neg (by omega), if_pos (by omega)]) (fm2.tr ((FrM.fld (by decide)).tr (FrM.line fr3))))
                  | (have cw := c3
                     exact hfin _ (dropV v (drN (drS sd) (Ln v)).toNat) (drS (drS sd)) _ ((hM2.sd (x := drS (drS sd))).line hl3 (fun j _ a _ => fr3 j a)) (LW_drop hW (by omega)) (drS_b _).1 (drS_b _).2 (by unfold chS; rw [if_neg (by omega), if_neg (by omega), if_neg (by omega), if_pos (by omega)]) (fm2.tr ((FrM.fld (by decide)).tr (FrM.line (fun j a _ => fr3 j a)))))
                  | (exact hfin _ v (drS sd) _ hM2 hW (drS_b _).1 (drS_b _).2 (by unfold chS; rw [if_neg (by omega), if_neg (by omega), if_neg (by omega), if_neg (by omega)]) fm2)
              · have c3 := c138
                have dn := drN_b (drS sd) (n := (Ln v : Int)) (by omega)
                have hB3 : MB (mu (mu g1 166 9 (drS sd)) 166 9 (drS (drS sd))) u v := ⟨(hM2.sd (x := drS (drS sd))).2.2.1, s4, (hM2.sd (x := drS (drS sd))).2.2.2.1, s5⟩
                refine r_aload_n (pc' := 142) dX11_drift_141 rfl rfl ?_
                refine r_aload_n (pc' := 143) dX11_drift_142 rfl rfl ?_
                refine r_aload_n (pc' := 144) dX11_drift_143 rfl rfl ?_
                refine r_getr (pc' := 147) dX11_drift_144 rfl fX11_19 z166 rfl ?_
                refine r_iconst (pc' := 148) dX11_drift_147 rfl ?_
                refine r_iaload (pc' := 149) dX11_drift_148 rfl z170 (by decide) (by omega) (by omega) hc2 ?_
                refine r_vi1 (pc' := 152) dX11_drift_149 rfl qX11_draws lX11_186 z166 rfl rfl rfl rfl (Nat.zero_le _) (Nat.zero_le _) (m_draws (sd := drS sd) hs9 (Ln v : Int) (by omega) (by omega) ?_)
                refine r_vv1 (pc' := 155) dX11_drift_152 rfl qX11_eats lX11_171 z166 rfl rfl rfl rfl (Nat.zero_le _) (Nat.zero_le _) (m_eatsI hB3 (by omega) (by omega) (fun g3 hl3 fr3 => ?_))
                first
                  | (have cw := c0
                     refine hfin _ (winV v (drN (drS sd) 10).toNat) (drS (drS sd)) _ ?_ (LW_win hW (by omega)) (drS_b _).1 (drS_b _).2 (by unfold chS; rw [if_pos (by omega)]) (fm2.tr ((FrM.fld (by decide)).tr (FrM.row (by decide) (by decide))))
                     refine (hM2.sd (x := drS (drS sd))).line (v' := winV v (drN (drS sd) 10).toNat) ?_ (fun j _ a _ => mu_ne a)
                     obtain ⟨l0, l1, l2, l3, l4, l5, l6⟩ := id (hM2.sd (x := drS (drS sd))).2.2.2.1
                     refine ⟨by rw [mu_at' (by decide)]; exact l0, by rw [mu_at]; show drN (drS sd) 10 = (((drN (drS sd) 10).toNat : Nat) : Int); omega, by rw [mu_at' (by decide)]; exact l2, by rw [mu_at' (by decide)]; exact l3, fun q hq => by rw [mu_at' (by omega)]; exact l4 q hq, fun q hq => by rw [mu_at' (by omega)]; exact l5 q hq, fun q hq => by rw [mu_at' (by omega)]; exact l6 q hq⟩)
                  | (have cw := c1
                     refine hfin _ (wetV v (onN v)) (drS sd) _ ?_ (LW_wet hW (onN_lt hW)) (drS_b _).1 (drS_b _).2 (by unfold chS; rw [if_neg (by omega), if_pos (by omega)]) (fm2.tr (FrM.row (by decide) (by decide)))
                     refine hM2.line (v' := wetV v (onN v)) ?_ (fun j _ a _ => mu_ne a)
                     obtain ⟨l0, l1, l2, l3, l4, l5, l6⟩ := id hM2.2.2.2.1
                     refine ⟨by rw [mu_at' (by decide)]; exact l0, by rw [mu_at' (by decide)]; exact l1, by rw [mu_at' (by decide)]; exact l2, by rw [mu_at]; rfl, fun q hq => by rw [mu_at' (by omega)]; exact l4 q hq, fun q hq => by rw [mu_at' (by omega)]; exact l5 q hq, fun q hq => by rw [mu_at' (by omega)]; exact l6 q hq⟩)
                  | (have cw := c2
                     exact hfin _ (cutV v (drN (drS sd) (Ln v)).toNat) (drS (drS sd)) _ ((hM2.sd (x := drS (drS sd))).line hl3 (fun j _ a b => fr3 j a b)) (LW_cut hW (by omega)) (drS_b _).1 (drS_b _).2 (by unfold chS; rw [if_neg (by omega), if_neg (by omega), if_pos (by omega)]) (fm2.tr ((FrM.fld (by decide)).tr (FrM.line fr3))))
                  | (have cw := c3
                     exact hfin _ (dropV v (drN (drS sd) (Ln v)).toNat) (drS (drS sd)) _ ((hM2.sd (x := drS (drS sd))).line hl3 (fun j _ a _ => fr3 j a)) (LW_drop hW (by omega)) (drS_b _).1 (drS_b _).2 (by unfold chS; rw [if_neg (by omega), if_neg (by omega), if_neg (by omega), if_pos (by omega)]) (fm2.tr ((FrM.fld (by decide)).tr (FrM.line (fun j a _ => fr3 j a)))))
                  | (exact hfin _ v (drS sd) _ hM2 hW (drS_b _).1 (drS_b _).2 (by unfold chS; rw [if_neg (by omega), if_neg (by omega), if_neg (by omega), if_neg (by omega)]) fm2)
          · refine r_aload_n (pc' := 101) dX11_drift_100 rfl rfl ?_
            refine r_getr (pc' := 104) dX11_drift_101 rfl fX11_19 z166 rfl ?_
            refine r_iconst (pc' := 105) dX11_drift_104 rfl ?_
            refine r_iaload (pc' := 106) dX11_drift_105 rfl z170 (by decide) (by omega) (by omega) hc2 ?_
            refine r_iconst (pc' := 107) dX11_drift_106 rfl ?_
            refine r_icmp_le (tgt := 127) (pc' := 110) dX11_drift_107 rfl rfl (by omega) (by omega) (fun c107 => ?_) (fun c107 => ?_)
            · refine r_iload_n (pc' := 128) dX11_drift_127 rfl rfl ?_
              refine r_iconst (pc' := 129) dX11_drift_128 rfl ?_
              refine r_icmp_ne (tgt := 155) (pc' := 132) dX11_drift_129 rfl rfl (by omega) (by omega) (fun c129 => ?_) (fun c129 => ?_)
              · first
                  | (have cw := c0
                     refine hfin _ (winV v (drN (drS sd) 10).toNat) (drS (drS sd)) _ ?_ (LW_win hW (by omega)) (drS_b _).1 (drS_b _).2 (by unfold chS; rw [if_pos (by omega)]) (fm2.tr ((FrM.fld (by decide)).tr (FrM.row (by decide) (by decide))))
                     refine (hM2.sd (x := drS (drS sd))).line (v' := winV v (drN (drS sd) 10).toNat) ?_ (fun j _ a _ => mu_ne a)
                     obtain ⟨l0, l1, l2, l3, l4, l5, l6⟩ := id (hM2.sd (x := drS (drS sd))).2.2.2.1
                     refine ⟨by rw [mu_at' (by decide)]; exact l0, by rw [mu_at]; show drN (drS sd) 10 = (((drN (drS sd) 10).toNat : Nat) : Int); omega, by rw [mu_at' (by decide)]; exact l2, by rw [mu_at' (by decide)]; exact l3, fun q hq => by rw [mu_at' (by omega)]; exact l4 q hq, fun q hq => by rw [mu_at' (by omega)]; exact l5 q hq, fun q hq => by rw [mu_at' (by omega)]; exact l6 q hq⟩)
                  | (have cw := c1
                     refine hfin _ (wetV v (onN v)) (drS sd) _ ?_ (LW_wet hW (onN_lt hW)) (drS_b _).1 (drS_b _).2 (by unfold chS; rw [if_neg (by omega), if_pos (by omega)]) (fm2.tr (FrM.row (by decide) (by decide)))
                     refine hM2.line (v' := wetV v (onN v)) ?_ (fun j _ a _ => mu_ne a)
                     obtain ⟨l0, l1, l2, l3, l4, l5, l6⟩ := id hM2.2.2.2.1
                     refine ⟨by rw [mu_at' (by decide)]; exact l0, by rw [mu_at' (by decide)]; exact l1, by rw [mu_at' (by decide)]; exact l2, by rw [mu_at]; rfl, fun q hq => by rw [mu_at' (by omega)]; exact l4 q hq, fun q hq => by rw [mu_at' (by omega)]; exact l5 q hq, fun q hq => by rw [mu_at' (by omega)]; exact l6 q hq⟩)
                  | (have cw := c2
                     exact hfin _ (cutV v (drN (drS sd) (Ln v)).toNat) (drS (drS sd)) _ ((hM2.sd (x := drS (drS sd))).line hl3 (fun j _ a b => fr3 j a b)) (LW_cut hW (by omega)) (drS_b _).1 (drS_b _).2 (by unfold chS; rw [if_neg (by omega), if_neg (by omega), if_pos (by omega)]) (fm2.tr ((FrM.fld (by decide)).tr (FrM.line fr3))))
                  | (have cw := c3
                     exact hfin _ (dropV v (drN (drS sd) (Ln v)).toNat) (drS (drS sd)) _ ((hM2.sd (x := drS (drS sd))).line hl3 (fun j _ a _ => fr3 j a)) (LW_drop hW (by omega)) (drS_b _).1 (drS_b _).2 (by unfold chS; rw [if_neg (by omega), if_neg (by omega), if_neg (by omega), if_pos (by omega)]) (fm2.tr ((FrM.fld (by decide)).tr (FrM.line (fun j a _ => fr3 j a)))))
                  | (exact hfin _ v (drS sd) _ hM2 hW (drS_b _).1 (drS_b _).2 (by unfold chS; rw [if_neg (by omega), if_neg (by omega), if_neg (by omega), if_neg (by omega)]) fm2)
              · refine r_aload_n (pc' := 133) dX11_drift_132 rfl rfl ?_
                refine r_getr (pc' := 136) dX11_drift_133 rfl fX11_19 z166 rfl ?_
                refine r_iconst (pc' := 137) dX11_drift_136 rfl ?_
                refine r_iaload (pc' := 138) dX11_drift_137 rfl z170 (by decide) (by omega) (by omega) hc2 ?_
                refine r_if_le (tgt := 155) (pc' := 141) dX11_drift_138 rfl rfl (by omega) (fun c138 => ?_) (fun c138 => ?_)
                · first
                    | (have cw := c0
                       refine hfin _ (winV v (drN (drS sd) 10).toNat) (drS (drS sd)) _ ?_ (LW_win hW (by omega)) (drS_b _).1 (drS_b _).2 (by unfold chS; rw [if_pos (by omega)]) (fm2.tr ((FrM.fld (by decide)).tr (FrM.row (by decide) (by decide))))
                       refine (hM2.sd (x := drS (drS sd))).line (v' := winV v (drN (drS sd) 10).toNat) ?_ (fun j _ a _ => mu_ne a)
                       obtain ⟨l0, l1, l2, l3, l4, l5, l6⟩ := id (hM2.sd (x := drS (drS sd))).2.2.2.1
                       refine ⟨by rw [mu_at' (by decide)]; exact l0, by rw [mu_at]; show drN (drS sd) 10 = (((drN (drS sd) 10).toNat : Nat) : Int); omega, by rw [mu_at' (by decide)]; exact l2, by rw [mu_at' (by decide)]; exact l3, fun q hq => by rw [mu_at' (by omega)]; exact l4 q hq, fun q hq => by rw [mu_at' (by omega)]; exact l5 q hq, fun q hq => by rw [mu_at' (by omega)]; exact l6 q hq⟩)
                    | (have cw := c1
                       refine hfin _ (wetV v (onN v)) (drS sd) _ ?_ (LW_wet hW (onN_lt hW)) (drS_b _).1 (drS_b _).2 (by unfold chS; rw [if_neg (by omega), if_pos (by omega)]) (fm2.tr (FrM.row (by decide) (by decide)))
                       refine hM2.line (v' := wetV v (onN v)) ?_ (fun j _ a _ => mu_ne a)
                       obtain ⟨l0, l1, l2, l3, l4, l5, l6⟩ := id hM2.2.2.2.1
                       refine ⟨by rw [mu_at' (by decide)]; exact l0, by rw [mu_at' (by decide)]; exact l1, by rw [mu_at' (by decide)]; exact l2, by rw [mu_at]; rfl, fun q hq => by rw [mu_at' (by omega)]; exact l4 q hq, fun q hq => by rw [mu_at' (by omega)]; exact l5 q hq, fun q hq => by rw [mu_at' (by omega)]; exact l6 q hq⟩)
                    | (have cw := c2
                       exact hfin _ (cutV v (drN (drS sd) (Ln v)).toNat) (drS (drS sd)) _ ((hM2.sd (x := drS (drS sd))).line hl3 (fun j _ a b => fr3 j a b)) (LW_cut hW (by omega)) (drS_b _).1 (drS_b _).2 (by unfold chS; rw [if_neg (by omega), if_neg (by omega), if_pos (by omega)]) (fm2.tr ((FrM.fld (by decide)).tr (FrM.line fr3))))
                    | (have cw := c3
                       exact hfin _ (dropV v (drN (drS sd) (Ln v)).toNat) (drS (drS sd)) _ ((hM2.sd (x := drS (drS sd))).line hl3 (fun j _ a _ => fr3 j a)) (LW_drop hW (by omega)) (drS_b _).1 (drS_b _).2 (by unfold chS; rw [if_neg (by omega), if_neg (by omega), if_neg (by omega), if_pos (by omega)]) (fm2.tr ((FrM.fld (by decide)).tr (FrM.line (fun j a _ => fr3 j a)))))
                    | (exact hfin _ v (drS sd) _ hM2 hW (drS_b _).1 (drS_b _).2 (by unfold chS; rw [if_neg (by omega), if_neg (by omega), if_neg (by omega), if_neg (by omega)]) fm2)
                · have c3 := c138
                  have dn := drN_b (drS sd) (n := (Ln v : Int)) (by omega)
                  have hB3 : MB (mu (mu g1 166 9 (drS sd)) 166 9 (drS (drS sd))) u v := ⟨(hM2.sd (x := drS (drS sd))).2.2.1, s4, (hM2.sd (x := drS (drS sd))).2.2.2.1, s5⟩
                  refine r_aload_n (pc' := 142) dX11_drift_141 rfl rfl ?_
                  refine r_aload_n (pc' := 143) dX11_drift_142 rfl rfl ?_
                  refine r_aload_n (pc' := 144) dX11_drift_143 rfl rfl ?_
                  refine r_getr (pc' := 147) dX11_drift_144 rfl fX11_19 z166 rfl ?_
                  refine r_iconst (pc' := 148) dX11_drift_147 rfl ?_
                  refine r_iaload (pc' := 149) dX11_drift_148 rfl z170 (by decide) (by omega) (by omega) hc2 ?_
                  refine r_vi1 (pc' := 152) dX11_drift_149 rfl qX11_draws lX11_186 z166 rfl rfl rfl rfl (Nat.zero_le _) (Nat.zero_le _) (m_draws (sd := drS sd) hs9 (Ln v : Int) (by omega) (by omega) ?_)
                  refine r_vv1 (pc' := 155) dX11_drift_152 rfl qX11_eats lX11_171 z166 rfl rfl rfl rfl (Nat.zero_le _) (Nat.zero_le _) (m_eatsI hB3 (by omega) (by omega) (fun g3 hl3 fr3 => ?_))
                  first
                    | (have cw := c0
                       refine hfin _ (winV v (drN (drS sd) 10).toNat) (drS (drS sd)) _ ?_ (LW_win hW (by omega)) (drS_b _).1 (drS_b _).2 (by unfold chS; rw [if_pos (by omega)]) (fm2.tr ((FrM.fld (by decide)).tr (FrM.row (by decide) (by decide))))
                       refine (hM2.sd (x := drS (drS sd))).line (v' := winV v (drN (drS sd) 10).toNat) ?_ (fun j _ a _ => mu_ne a)
                       obtain ⟨l0, l1, l2, l3, l4, l5, l6⟩ := id (hM2.sd (x := drS (drS sd))).2.2.2.1
                       refine ⟨by rw [mu_at' (by decide)]; exact l0, by rw [mu_at]; show drN (drS sd) 10 = (((drN (drS sd) 10).toNat : Nat) : Int); omega, by rw [mu_at' (by decide)]; exact l2, by rw [mu_at' (by decide)]; exact l3, fun q hq => by rw [mu_at' (by omega)]; exact l4 q hq, fun q hq => by rw [mu_at' (by omega)]; exact l5 q hq, fun q hq => by rw [mu_at' (by omega)]; exact l6 q hq⟩)
                    | (have cw := c1
                       refine hfin _ (wetV v (onN v)) (drS sd) _ ?_ (LW_wet hW (onN_lt hW)) (drS_b _).1 (drS_b _).2 (by unfold chS; rw [if_neg (by omega), if_pos (by omega)]) (fm2.tr (FrM.row (by decide) (by decide)))
                       refine hM2.line (v' := wetV v (onN v)) ?_ (fun j _ a _ => mu_ne a)
                       obtain ⟨l0, l1, l2, l3, l4, l5, l6⟩ := id hM2.2.2.2.1
                       refine ⟨by rw [mu_at' (by decide)]; exact l0, by rw [mu_at' (by decide)]; exact l1, by rw [mu_at' (by decide)]; exact l2, by rw [mu_at]; rfl, fun q hq => by rw [mu_at' (by omega)]; exact l4 q hq, fun q hq => by rw [mu_at' (by omega)]; exact l5 q hq, fun q hq => by rw [mu_at' (by omega)]; exact l6 q hq⟩)
                    | (have cw := c2
                       exact hfin _ (cutV v (drN (drS sd) (Ln v)).toNat) (drS (drS sd)) _ ((hM2.sd (x := drS (drS sd))).line hl3 (fun j _ a b => fr3 j a b)) (LW_cut hW (by omega)) (drS_b _).1 (drS_b _).2 (by unfold chS; rw [if_neg (by omega), if_neg (by omega), if_pos (by omega)]) (fm2.tr ((FrM.fld (by decide)).tr (FrM.line fr3))))
                    | (have cw := c3
                       exact hfin _ (dropV v (drN (drS sd) (Ln v)).toNat) (drS (drS sd)) _ ((hM2.sd (x := drS (drS sd))).line hl3 (fun j _ a _ => fr3 j a)) (LW_drop hW (by omega)) (drS_b _).1 (drS_b _).2 (by unfold chS; rw [if_neg (by omega), if_neg (by omega), if_neg (by omega), if_pos (by omega)]) (fm2.tr ((FrM.fld (by decide)).tr (FrM.line (fun j a _ => fr3 j a)))))
                    | (exact hfin _ v (drS sd) _ hM2 hW (drS_b _).1 (drS_b _).2 (by unfold chS; rw [if_neg (by omega), if_neg (by omega), if_neg (by omega), if_neg (by omega)]) fm2)
            · have c2 := c107
              have dn := drN_b (drS sd) (n := (Ln v : Int)) (by omega)
              have hB3 : MB (mu (mu g1 166 9 (drS sd)) 166 9 (drS (drS sd))) u v := ⟨(hM2.sd (x := drS (drS sd))).2.2.1, s4, (hM2.sd (x := drS (drS sd))).2.2.2.1, s5⟩
              refine r_aload_n (pc' := 111) dX11_drift_110 rfl rfl ?_
              refine r_aload_n (pc' := 112) dX11_drift_111 rfl rfl ?_
              refine r_aload_n (pc' := 113) dX11_drift_112 rfl rfl ?_
              refine r_getr (pc' := 116) dX11_drift_113 rfl fX11_19 z166 rfl ?_
              refine r_iconst (pc' := 117) dX11_drift_116 rfl ?_
              refine r_iaload (pc' := 118) dX11_drift_117 rfl z170 (by decide) (by omega) (by omega) hc2 ?_
              refine r_vi1 (pc' := 121) dX11_drift_118 rfl qX11_draws lX11_186 z166 rfl rfl rfl rfl (Nat.zero_le _) (Nat.zero_le _) (m_draws (sd := drS sd) hs9 (Ln v : Int) (by omega) (by omega) ?_)
              refine r_vv1 (pc' := 124) dX11_drift_121 rfl qX11_cuts lX11_166 z166 rfl rfl rfl rfl (Nat.zero_le _) (Nat.zero_le _) (m_cutsI hB3 (by omega) (by omega) (fun g3 hl3 fr3 => ?_))
              refine r_goto (tgt := 155) dX11_drift_124 rfl ?_
              first
                | (have cw := c0
                   refine hfin _ (winV v (drN (drS sd) 10).toNat) (drS (drS sd)) _ ?_ (LW_win hW (by omega)) (drS_b _).1 (drS_b _).2 (by unfold chS; rw [if_pos (by omega)]) (fm2.tr ((FrM.fld (by decide)).tr (FrM.row (by decide) (by decide))))
                   refine (hM2.sd (x := drS (drS sd))).line (v' := winV v (drN (drS sd) 10).toNat) ?_ (fun j _ a _ => mu_ne a)
                   obtain ⟨l0, l1, l2, l3, l4, l5, l6⟩ := id (hM2.sd (x := drS (drS sd))).2.2.2.1
                   refine ⟨by rw [mu_at' (by decide)]; exact l0, by rw [mu_at]; show drN (drS sd) 10 = (((drN (drS sd) 10).toNat : Nat) : Int); omega, by rw [mu_at' (by decide)]; exact l2, by rw [mu_at' (by decide)]; exact l3, fun q hq => by rw [mu_at' (by omega)]; exact l4 q hq, fun q hq => by rw [mu_at' (by omega)]; exact l5 q hq, fun q hq => by rw [mu_at' (by omega)]; exact l6 q hq⟩)
                | (have cw := c1
                   refine hfin _ (wetV v (onN v)) (drS sd) _ ?_ (LW_wet hW (onN_lt hW)) (drS_b _).1 (drS_b _).2 (by unfold chS; rw [if_neg (by omega), if_pos (by omega)]) (fm2.tr (FrM.row (by decide) (by decide)))
                   refine hM2.line (v' := wetV v (onN v)) ?_ (fun j _ a _ => mu_ne a)
                   obtain ⟨l0, l1, l2, l3, l4, l5, l6⟩ := id hM2.2.2.2.1
                   refine ⟨by rw [mu_at' (by decide)]; exact l0, by rw [mu_at' (by decide)]; exact l1, by rw [mu_at' (by decide)]; exact l2, by rw [mu_at]; rfl, fun q hq => by rw [mu_at' (by omega)]; exact l4 q hq, fun q hq => by rw [mu_at' (by omega)]; exact l5 q hq, fun q hq => by rw [mu_at' (by omega)]; exact l6 q hq⟩)
                | (have cw := c2
                   exact hfin _ (cutV v (drN (drS sd) (Ln v)).toNat) (drS (drS sd)) _ ((hM2.sd (x := drS (drS sd))).line hl3 (fun j _ a b => fr3 j a b)) (LW_cut hW (by omega)) (drS_b _).1 (drS_b _).2 (by unfold chS; rw [if_neg (by omega), if_neg (by omega), if_pos (by omega)]) (fm2.tr ((FrM.fld (by decide)).tr (FrM.line fr3))))
                | (have cw := c3
                   exact hfin _ (dropV v (drN (drS sd) (Ln v)).toNat) (drS (drS sd)) _ ((hM2.sd (x := drS (drS sd))).line hl3 (fun j _ a _ => fr3 j a)) (LW_drop hW (by omega)) (drS_b _).1 (drS_b _).2 (by unfold chS; rw [if_neg (by omega), if_neg (by omega), if_neg (by omega), if_pos (by omega)]) (fm2.tr ((FrM.fld (by decide)).tr (FrM.line (fun j a _ => fr3 j a)))))
                | (exact hfin _ v (drS sd) _ hM2 hW (drS_b _).1 (drS_b _).2 (by unfold chS; rw [if_neg (by omega), if_neg (by omega), if_neg (by omega), if_neg (by omega)]) fm2)
        · have c1 := c79
          refine r_aload_n (pc' := 83) dX11_drift_82 rfl rfl ?_
          refine r_getr (pc' := 86) dX11_drift_83 rfl fX11_19 z166 rfl ?_
          refine r_iconst (pc' := 87) dX11_drift_86 rfl ?_
          refine r_aload_n (pc' := 88) dX11_drift_87 rfl rfl ?_
          refine r_vi0 (pc' := 91) dX11_drift_88 rfl qX11_onIt lX11_135 z166 rfl rfl rfl (Nat.zero_le _) (Nat.zero_le _) (m_onIt hB2 ?_)
          refine r_iastore (pc' := 92) dX11_drift_91 rfl z170 (by decide) (by omega) (by omega) rfl ?_
          refine r_goto (tgt := 155) dX11_drift_92 rfl ?_
          first
            | (have cw := c0
               refine hfin _ (winV v (drN (drS sd) 10).toNat) (drS (drS sd)) _ ?_ (LW_win hW (by omega)) (drS_b _).1 (drS_b _).2 (by unfold chS; rw [if_pos (by omega)]) (fm2.tr ((FrM.fld (by decide)).tr (FrM.row (by decide) (by decide))))
               refine (hM2.sd (x := drS (drS sd))).line (v' := winV v (drN (drS sd) 10).toNat) ?_ (fun j _ a _ => mu_ne a)
               obtain ⟨l0, l1, l2, l3, l4, l5, l6⟩ := id (hM2.sd (x := drS (drS sd))).2.2.2.1
               refine ⟨by rw [mu_at' (by decide)]; exact l0, by rw [mu_at]; show drN (drS sd) 10 = (((drN (drS sd) 10).toNat : Nat) : Int); omega, by rw [mu_at' (by decide)]; exact l2, by rw [mu_at' (by decide)]; exact l3, fun q hq => by rw [mu_at' (by omega)]; exact l4 q hq, fun q hq => by rw [mu_at' (by omega)]; exact l5 q hq, fun q hq => by rw [mu_at' (by omega)]; exact l6 q hq⟩)
            | (have cw := c1
               refine hfin _ (wetV v (onN v)) (drS sd) _ ?_ (LW_wet hW (onN_lt hW)) (drS_b _).1 (drS_b _).2 (by unfold chS; rw [if_neg (by omega), if_pos (by omega)]) (fm2.tr (FrM.row (by decide) (by decide)))
               refine hM2.line (v' := wetV v (onN v)) ?_ (fun j _ a _ => mu_ne a)
               obtain ⟨l0, l1, l2, l3, l4, l5, l6⟩ := id hM2.2.2.2.1
               refine ⟨by rw [mu_at' (by decide)]; exact l0, by rw [mu_at' (by decide)]; exact l1, by rw [mu_at' (by decide)]; exact l2, by rw [mu_at]; rfl, fun q hq => by rw [mu_at' (by omega)]; exact l4 q hq, fun q hq => by rw [mu_at' (by omega)]; exact l5 q hq, fun q hq => by rw [mu_at' (by omega)]; exact l6 q hq⟩)
            | (have cw := c2
               exact hfin _ (cutV v (drN (drS sd) (Ln v)).toNat) (drS (drS sd)) _ ((hM2.sd (x := drS (drS sd))).line hl3 (fun j _ a b => fr3 j a b)) (LW_cut hW (by omega)) (drS_b _).1 (drS_b _).2 (by unfold chS; rw [if_neg (by omega), if_neg (by omega), if_pos (by omega)]) (fm2.tr ((FrM.fld (by decide)).tr (FrM.line fr3))))
            | (have cw := c3
               exact hfin _ (dropV v (drN (drS sd) (Ln v)).toNat) (drS (drS sd)) _ ((hM2.sd (x := drS (drS sd))).line hl3 (fun j _ a _ => fr3 j a)) (LW_drop hW (by omega)) (drS_b _).1 (drS_b _).2 (by unfold chS; rw [if_neg (by omega), if_neg (by omega), if_neg (by omega), if_pos (by omega)]) (fm2.tr ((FrM.fld (by decide)).tr (FrM.line (fun j a _ => fr3 j a)))))
            | (exact hfin _ v (drS sd) _ hM2 hW (drS_b _).1 (drS_b _).2 (by unfold chS; rw [if_neg (by omega), if_neg (by omega), if_neg (by omega), if_neg (by omega)]) fm2)
      · have c0 := c59
        have d10 := drN_b (drS sd) (n := 10) (by decide)
        refine r_aload_n (pc' := 63) dX11_drift_62 rfl rfl ?_
        refine r_getr (pc' := 66) dX11_drift_63 rfl fX11_19 z166 rfl ?_
        refine r_iconst (pc' := 67) dX11_drift_66 rfl ?_
        refine r_aload_n (pc' := 68) dX11_drift_67 rfl rfl ?_
        refine r_bipush (pc' := 70) dX11_drift_68 rfl (by decide) ?_
        refine r_vi1 (pc' := 73) dX11_drift_70 rfl qX11_draws lX11_186 z166 rfl rfl rfl rfl (Nat.zero_le _) (Nat.zero_le _) (m_draws (sd := drS sd) hs9 10 (by decide) (by decide) ?_)
        refine r_iastore (pc' := 74) dX11_drift_73 rfl z170 (by decide) (by omega) (by omega) rfl ?_
        refine r_goto (tgt := 155) dX11_drift_74 rfl ?_
        first
          | (have cw := c0
             refine hfin _ (winV v (drN (drS sd) 10).toNat) (drS (drS sd)) _ ?_ (LW_win hW (by omega)) (drS_b _).1 (drS_b _).2 (by unfold chS; rw [if_pos (by omega)]) (fm2.tr ((FrM.fld (by decide)).tr (FrM.row (by decide) (by decide))))
             refine (hM2.sd (x := drS (drS sd))).line (v' := winV v (drN (drS sd) 10).toNat) ?_ (fun j _ a _ => mu_ne a)
             obtain ⟨l0, l1, l2, l3, l4, l5, l6⟩ := id (hM2.sd (x := drS (drS sd))).2.2.2.1
             refine ⟨by rw [mu_at' (by decide)]; exact l0, by rw [mu_at]; show drN (drS sd) 10 = (((drN (drS sd) 10).toNat : Nat) : Int); omega, by rw [mu_at' (by decide)]; exact l2, by rw [mu_at' (by decide)]; exact l3, fun q hq => by rw [mu_at' (by omega)]; exact l4 q hq, fun q hq => by rw [mu_at' (by omega)]; exact l5 q hq, fun q hq => by rw [mu_at' (by omega)]; exact l6 q hq⟩)
          | (have cw := c1
             refine hfin _ (wetV v (onN v)) (drS sd) _ ?_ (LW_wet hW (onN_lt hW)) (drS_b _).1 (drS_b _).2 (by unfold chS; rw [if_neg (by omega), if_pos (by omega)]) (fm2.tr (FrM.row (by decide) (by decide)))
             refine hM2.line (v' := wetV v (onN v)) ?_ (fun j _ a _ => mu_ne a)
             obtain ⟨l0, l1, l2, l3, l4, l5, l6⟩ := id hM2.2.2.2.1
             refine ⟨by rw [mu_at' (by decide)]; exact l0, by rw [mu_at' (by decide)]; exact l1, by rw [mu_at' (by decide)]; exact l2, by rw [mu_at]; rfl, fun q hq => by rw [mu_at' (by omega)]; exact l4 q hq, fun q hq => by rw [mu_at' (by omega)]; exact l5 q hq, fun q hq => by rw [mu_at' (by omega)]; exact l6 q hq⟩)
          | (have cw := c2
             exact hfin _ (cutV v (drN (drS sd) (Ln v)).toNat) (drS (drS sd)) _ ((hM2.sd (x := drS (drS sd))).line hl3 (fun j _ a b => fr3 j a b)) (LW_cut hW (by omega)) (drS_b _).1 (drS_b _).2 (by unfold chS; rw [if_neg (by omega), if_neg (by omega), if_pos (by omega)]) (fm2.tr ((FrM.fld (by decide)).tr (FrM.line fr3))))
          | (have cw := c3
             exact hfin _ (dropV v (drN (drS sd) (Ln v)).toNat) (drS (drS sd)) _ ((hM2.sd (x := drS (drS sd))).line hl3 (fun j _ a _ => fr3 j a)) (LW_drop hW (by omega)) (drS_b _).1 (drS_b _).2 (by unfold chS; rw [if_neg (by omega), if_neg (by omega), if_neg (by omega), if_pos (by omega)]) (fm2.tr ((FrM.fld (by decide)).tr (FrM.line (fun j a _ => fr3 j a)))))
          | (exact hfin _ v (drS sd) _ hM2 hW (drS_b _).1 (drS_b _).2 (by unfold chS; rw [if_neg (by omega), if_neg (by omega), if_neg (by omega), if_neg (by omega)]) fm2)
theorem M_drift {X : CX} {d : Nat} {g : Mem} {K : Int → Mem → Prop} {tN : Nat} {tX : Nat → Int} {flt : Int} {u : PV} {v : LV} {kn : Nat} {kL : Nat → LV} {im : Nat → Bool × Int × LV} {sd : Int} {ln : Nat} {la : Nat → Nat} {lr : Nat → Bool} {bn : Nat} {bp : Nat → Nat} {bf : Nat → Int} (hM : MS g tN tX flt u v kn kL im sd ln la lr bn bp bf) (hS : WS tN tX flt u v kn kL im sd ln la lr bn bp bf) (n : Int) (hn : R32 n) (h : ∀ g' : Mem, MS g' tN tX flt u (if E_yr u v n = 0 then (dfI u n.toNat (kn, kL, v, sd)).2.2.1 else v) (if E_yr u v n = 0 then (dfI u n.toNat (kn, kL, v, sd)).1 else kn) (if E_yr u v n = 0 then (dfI u n.toNat (kn, kL, v, sd)).2.1 else kL) im (if E_yr u v n = 0 then (dfI u n.toNat (kn, kL, v, sd)).2.2.2 else sd) ln la lr bn bp bf → FrM g g' → K (if E_yr u v n = 0 then ((Ln (dfI u n.toNat (kn, kL, v, sd)).2.2.1 : Nat) : Int) else E_yr u v n) g') : EI X (d + 4) mX11_drift [vr 166, vi n] Z0 g K := by
  show AJ X (d + 4) mX11_drift 0 0 (QI Z0 K) 0 0 0 [some (vr 166), some (vi n), none, none] [] Z0 g
  obtain ⟨⟨m1, m2⟩, m3, m4, m5, ⟨m6, m7⟩, m8, m9, ⟨m10, m11⟩, ⟨m12, m13⟩⟩ := id hM
  obtain ⟨⟨s1, s2⟩, s3, s4, s5, ⟨s6, s7⟩, s8, ⟨s9, s10⟩, ⟨s11, s12⟩, ⟨s13, s14⟩⟩ := id hS
  have hB : MB g u v := ⟨m4, s4, m5, s5⟩
  obtain ⟨hQ, hU, hC, hW⟩ := id hB
  obtain ⟨hy, hi, hc, ht, ho, hf, hw_⟩ := id hC
  obtain ⟨w0, w1, w2, w3, w4, w5, w6, w7⟩ := id hW
  obtain ⟨p6, p7, p8, p9, p10, pk, pg, px, py⟩ := id hQ
  obtain ⟨u0, u1, u2, u3, u4, u5, u6, u7⟩ := id hU
  refine r_iload_n (pc' := 1) dX11_drift_0 rfl rfl ?_
  refine r_iconst (pc' := 2) dX11_drift_1 rfl ?_
  refine r_bipush (pc' := 4) dX11_drift_2 rfl (by decide) ?_
  refine r_si3 (pc' := 7) dX11_drift_4 rfl qX11_in lX11_67 rfl rfl rfl (Nat.zero_le _) (Nat.zero_le _) (m_in n 1 20 (by omega) (by omega) (by omega) ?_)
  refine r_if_ne (tgt := 13) (pc' := 10) dX11_drift_7 rfl rfl (b01_R _) (fun c7 => ?_) (fun c7 => ?_)
  · have hd := of_decide_eq_true (b01_ne c7)
    refine r_aload_n (pc' := 14) dX11_drift_13 rfl rfl ?_
    refine r_getr (pc' := 17) dX11_drift_14 rfl fX11_13 z166 rfl ?_
    refine r_iconst (pc' := 18) dX11_drift_17 rfl ?_
    refine r_iaload (pc' := 19) dX11_drift_18 rfl z168 (by decide) (by omega) (by omega) p6 ?_
    refine r_if_ne (tgt := 25) (pc' := 22) dX11_drift_19 rfl rfl (by omega) (fun c19 => ?_) (fun c19 => ?_)
    · refine r_aload_n (pc' := 26) dX11_drift_25 rfl rfl ?_
      refine r_getr (pc' := 29) dX11_drift_26 rfl fX11_19 z166 rfl ?_
      refine r_iconst (pc' := 30) dX11_drift_29 rfl ?_
      refine r_iaload (pc' := 31) dX11_drift_30 rfl z170 (by decide) (by omega) (by omega) hy ?_
      refine r_sipush (pc' := 34) dX11_drift_31 rfl (by decide) ?_
      refine r_icmp_le (tgt := 40) (pc' := 37) dX11_drift_34 rfl rfl (by omega) (by omega) (fun c34 => ?_) (fun c34 => ?_)
      · refine r_iconst (pc' := 41) dX11_drift_40 rfl ?_
        refine r_istore_n (pc' := 42) dX11_drift_41 rfl rfl ?_
        have c9 : E_yr u v n = 0 := by unfold E_yr; rw [if_pos (by omega), if_pos (by omega), if_pos (by omega)]
        simp only [if_pos c9] at h
        exact lm_drift hd.2 n.toNat 0 g hM hS none (by omega) (by omega) h
      · refine r_ldc (z := -1000000004) (pc' := 39) dX11_drift_37 rfl kX11_75 ?_
        refine r_reti dX11_drift_39 rfl (Or.inl rfl) ?_
        have hno : E_yr u v n = -1000000004 := by unfold E_yr; first | rw [if_neg (by omega)] | rw [if_pos (by omega), if_neg (by omega)] | rw [if_pos (by omega), if_pos (by omega), if_neg (by omega)]
        have hne : ¬ E_yr u v n = 0 := by rw [hno]; decide
        have h9 := h g (by simp only [if_neg hne]; exact hM) (FrM.rf g)
        rw [if_neg hne, hno] at h9
        exact h9
    · refine r_ldc (z := -1000000003) (pc' := 24) dX11_drift_22 rfl kX11_170 ?_
      refine r_reti dX11_drift_24 rfl (Or.inl rfl) ?_
      have hno : E_yr u v n = -1000000003 := by unfold E_yr; first | rw [if_neg (by omega)] | rw [if_pos (by omega), if_neg (by omega)] | rw [if_pos (by omega), if_pos (by omega), if_neg (by omega)]
      have hne : ¬ E_yr u v n = 0 := by rw [hno]; decide
      have h9 := h g (by simp only [if_neg hne]; exact hM) (FrM.rf g)
      rw [if_neg hne, hno] at h9
      exact h9
  · have hd := of_decide_eq_false (b01_eq c7)
    refine r_ldc (z := -1000000002) (pc' := 12) dX11_drift_10 rfl kX11_71 ?_
    refine r_reti dX11_drift_12 rfl (Or.inl rfl) ?_
    have hno : E_yr u v n = -1000000002 := by unfold E_yr; first | rw [if_neg (by omega)] | rw [if_pos (by omega), if_neg (by omega)] | rw [if_pos (by omega), if_pos (by omega), if_neg (by omega)]
    have hne : ¬ E_yr u v n = 0 := by rw [hno]; decide
    have h9 := h g (by simp only [if_neg hne]; exact hM) (FrM.rf g)
    rw [if_neg hne, hno] at h9
    exact h9
