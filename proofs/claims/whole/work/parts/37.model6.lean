theorem MS.line {g g2 : Mem} {tN : Nat} {tX : Nat → Int} {flt : Int} {u : PV} {v : LV} {kn : Nat} {kL : Nat → LV} {im : Nat → Bool × Int × LV} {sd : Int} {ln : Nat} {la : Nat → Nat} {lr : Nat → Bool} {bn : Nat} {bp : Nat → Nat} {bf : Nat → Int} {v' : LV} (hM : MS g tN tX flt u v kn kL im sd ln la lr bn bp bf) (hl : LSr g2 v') (hf : ∀ j, 166 ≤ j → j ≠ 170 → j ≠ 177 → g2 j = g j) : MS g2 tN tX flt u v' kn kL im sd ln la lr bn bp bf := by
  obtain ⟨⟨m1, m2⟩, m3, m4, m5, ⟨m6, m7⟩, m8, m9, ⟨m10, m11⟩, ⟨m12, m13⟩⟩ := hM
  have e : g2 166 = g 166 := hf 166 (by decide) (by decide) (by decide)
  exact ⟨⟨(congrFun e 1).trans m1, fun k hk => (congrFun (hf 167 (by decide) (by decide) (by decide)) _).trans (m2 k hk)⟩, (congrFun e 15).trans m3, m4.fr (hf 168 (by decide) (by decide) (by decide)), hl, ⟨(congrFun e 6).trans m6, fun j hj => (m7 j hj).fr (hf 171 (by decide) (by decide) (by decide))⟩, MIm.fr m8 (hf 172 (by decide) (by decide) (by decide)) (hf 173 (by decide) (by decide) (by decide)), (congrFun e 9).trans m9, ⟨(congrFun e 11).trans m10, fun i hi => by rw [hf 174 (by decide) (by decide) (by decide)]; exact m11 i hi⟩, ⟨(congrFun e 13).trans m12, fun i hi => by rw [hf 175 (by decide) (by decide) (by decide)]; exact m13 i hi⟩⟩
theorem FrM.line {g g2 : Mem} (hf : ∀ j, j ≠ 170 → j ≠ 177 → g2 j = g j) : FrM g g2 := ⟨fun j hj => hf j (by omega) (by omega), hf 178 (by decide) (by decide), by rw [hf 166 (by decide) (by decide)]⟩
theorem M_wind {X : CX} {d : Nat} {g : Mem} {K : Int → Mem → Prop} {tN : Nat} {tX : Nat → Int} {flt : Int} {u : PV} {v : LV} {kn : Nat} {kL : Nat → LV} {im : Nat → Bool × Int × LV} {sd : Int} {ln : Nat} {la : Nat → Nat} {lr : Nat → Bool} {bn : Nat} {bp : Nat → Nat} {bf : Nat → Int} (hM : MS g tN tX flt u v kn kL im sd ln la lr bn bp bf) (hS : WS tN tX flt u v kn kL im sd ln la lr bn bp bf) (x : Int) (hx : R32 x) (h : ∀ g' : Mem, MS g' tN tX flt u (if (0 ≤ x ∧ x ≤ 9) ∧ Pp u ≠ 0 then winV v x.toNat else v) (if (0 ≤ x ∧ x ≤ 9) ∧ Pp u ≠ 0 then pN kn else kn) (if (0 ≤ x ∧ x ≤ 9) ∧ Pp u ≠ 0 then pL kn kL v else kL) im sd ln la lr bn bp bf → FrM g g' → K (E_wind u v x) g') : EI X (d + 1) mX11_wind [vr 166, vi x] Z0 g K := by
  show AJ X (d + 1) mX11_wind 0 0 (QI Z0 K) 0 0 0 [some (vr 166), some (vi x), none] [] Z0 g
  obtain ⟨⟨m1, m2⟩, m3, m4, m5, ⟨m6, m7⟩, m8, m9, ⟨m10, m11⟩, ⟨m12, m13⟩⟩ := id hM
  obtain ⟨⟨s1, s2⟩, s3, s4, s5, ⟨s6, s7⟩, s8, ⟨s9, s10⟩, ⟨s11, s12⟩, ⟨s13, s14⟩⟩ := id hS
  have hB : MB g u v := ⟨m4, s4, m5, s5⟩
  obtain ⟨hQ, hU, hC, hW⟩ := id hB
  obtain ⟨hy, hi, hc, ht, ho, hf, hw_⟩ := id hC
  obtain ⟨w0, w1, w2, w3, w4, w5, w6, w7⟩ := id hW
  obtain ⟨p6, p7, p8, p9, p10, pk, pg, px, py⟩ := id hQ
  obtain ⟨u0, u1, u2, u3, u4, u5, u6, u7⟩ := id hU
  refine r_iload_n (pc' := 1) dX11_wind_0 rfl rfl ?_
  refine r_iconst (pc' := 2) dX11_wind_1 rfl ?_
  refine r_bipush (pc' := 4) dX11_wind_2 rfl (by decide) ?_
  refine r_si3 (pc' := 7) dX11_wind_4 rfl qX11_in lX11_67 rfl rfl rfl (Nat.zero_le _) (Nat.zero_le _) (m_in x 0 9 (by omega) (by omega) (by omega) ?_)
  refine r_if_ne (tgt := 13) (pc' := 10) dX11_wind_7 rfl rfl (b01_R _) (fun c7 => ?_) (fun c7 => ?_)
  · have hd7 := of_decide_eq_true (b01_ne c7)
    refine r_aload_n (pc' := 14) dX11_wind_13 rfl rfl ?_
    refine r_getr (pc' := 17) dX11_wind_14 rfl fX11_13 z166 rfl ?_
    refine r_iconst (pc' := 18) dX11_wind_17 rfl ?_
    refine r_iaload (pc' := 19) dX11_wind_18 rfl z168 (by decide) (by omega) (by omega) p6 ?_
    refine r_if_ne (tgt := 25) (pc' := 22) dX11_wind_19 rfl rfl (by omega) (fun c19 => ?_) (fun c19 => ?_)
    · refine r_aload_n (pc' := 26) dX11_wind_25 rfl rfl ?_
      refine r_vv0 (pc' := 29) dX11_wind_26 rfl qX11_keeps lX11_163 z166 rfl rfl rfl (Nat.zero_le _) (Nat.zero_le _) (m_keeps hM hS (fun g1 hM1 fm1 => ?_))
      obtain ⟨⟨k1, k2⟩, k3, k4, k5, ⟨k6, k7⟩, k8, k9, ⟨k10, k11⟩, ⟨k12, k13⟩⟩ := id hM1
      have hB1 : MB g1 u v := ⟨k4, s4, k5, s5⟩
      obtain ⟨jy, ji, jc, jt, jo, jf, jw⟩ := id k5
      refine r_aload_n (pc' := 30) dX11_wind_29 rfl rfl ?_
      refine r_getr (pc' := 33) dX11_wind_30 rfl fX11_19 z166 rfl ?_
      refine r_iconst (pc' := 34) dX11_wind_33 rfl ?_
      refine r_iaload (pc' := 35) dX11_wind_34 rfl z170 (by decide) (by omega) (by omega) ji ?_
      refine r_istore_n (pc' := 36) dX11_wind_35 rfl rfl ?_
      refine r_aload_n (pc' := 37) dX11_wind_36 rfl rfl ?_
      refine r_getr (pc' := 40) dX11_wind_37 rfl fX11_19 z166 rfl ?_
      refine r_iconst (pc' := 41) dX11_wind_40 rfl ?_
      refine r_iload_n (pc' := 42) dX11_wind_41 rfl rfl ?_
      refine r_iastore (pc' := 43) dX11_wind_42 rfl z170 (by decide) (by omega) (by omega) rfl ?_
      refine r_iload_n (pc' := 44) dX11_wind_43 rfl rfl ?_
      refine r_reti dX11_wind_44 rfl (Or.inl rfl) ?_
      have hok : (0 ≤ x ∧ x ≤ 9) ∧ Pp u ≠ 0 := by omega
      have hfj : ∀ j, j ≠ 170 → j ≠ 177 → (mu g1 170 1 x) j = g1 j := fun j a _ => mu_ne a
      have hl : LSr (mu g1 170 1 x) _ := (show LSr (mu g1 170 1 x) (winV v x.toNat) from ⟨by rw [mu_at' (by decide)]; exact jy, by rw [mu_at]; show x = ((x.toNat : Nat) : Int); omega, by rw [mu_at' (by decide)]; exact jc, by rw [mu_at' (by decide)]; exact jt, fun p hp => by rw [mu_at' (by omega)]; exact jo p hp, fun p hp => by rw [mu_at' (by omega)]; exact jf p hp, fun p hp => by rw [mu_at' (by omega)]; exact jw p hp⟩)
      have h9 := h _ (by simp only [if_pos hok]; exact hM1.line hl (fun j _ a b => hfj j a b)) (fm1.tr (FrM.line hfj))
      unfold E_wind at h9
      rw [if_pos hd7, if_pos (by omega)] at h9
      exact h9
    · refine r_ldc (z := -1000000003) (pc' := 24) dX11_wind_22 rfl kX11_170 ?_
      refine r_reti dX11_wind_24 rfl (Or.inl rfl) ?_
      have hno : ¬ ((0 ≤ x ∧ x ≤ 9) ∧ Pp u ≠ 0) := by omega
      have h9 := h g (by simp only [if_neg hno]; exact hM) (FrM.rf g)
      unfold E_wind at h9
      rw [if_pos hd7, if_neg (by omega)] at h9
      exact h9
  · have hd7 := of_decide_eq_false (b01_eq c7)
    refine r_ldc (z := -1000000002) (pc' := 12) dX11_wind_10 rfl kX11_71 ?_
    refine r_reti dX11_wind_12 rfl (Or.inl rfl) ?_
    have hno : ¬ ((0 ≤ x ∧ x ≤ 9) ∧ Pp u ≠ 0) := by omega
    have h9 := h g (by simp only [if_neg hno]; exact hM) (FrM.rf g)
    unfold E_wind at h9
    rw [if_neg hd7] at h9
    exact h9
theorem M_rain {X : CX} {d : Nat} {g : Mem} {K : Int → Mem → Prop} {tN : Nat} {tX : Nat → Int} {flt : Int} {u : PV} {v : LV} {kn : Nat} {kL : Nat → LV} {im : Nat → Bool × Int × LV} {sd : Int} {ln : Nat} {la : Nat → Nat} {lr : Nat → Bool} {bn : Nat} {bp : Nat → Nat} {bf : Nat → Int} (hM : MS g tN tX flt u v kn kL im sd ln la lr bn bp bf) (hS : WS tN tX flt u v kn kL im sd ln la lr bn bp bf) (y : Bool) (h : ∀ g' : Mem, MS g' tN tX flt u (if Pp u ≠ 0 then wetV v (if y then onN v else 0) else v) (if Pp u ≠ 0 then pN kn else kn) (if Pp u ≠ 0 then pL kn kL v else kL) im sd ln la lr bn bp bf → FrM g g' → K (if Pp u ≠ 0 then (popN (Lt v) : Int) else -1000000003) g') : EI X (d + 1) mX11_rain [vr 166, vi (b01 y)] Z0 g K := by
  show AJ X (d + 1) mX11_rain 0 0 (QI Z0 K) 0 0 0 [some (vr 166), some (vi (b01 y)), none] [] Z0 g
  obtain ⟨⟨m1, m2⟩, m3, m4, m5, ⟨m6, m7⟩, m8, m9, ⟨m10, m11⟩, ⟨m12, m13⟩⟩ := id hM
  obtain ⟨⟨s1, s2⟩, s3, s4, s5, ⟨s6, s7⟩, s8, ⟨s9, s10⟩, ⟨s11, s12⟩, ⟨s13, s14⟩⟩ := id hS
  have hB : MB g u v := ⟨m4, s4, m5, s5⟩
  obtain ⟨hQ, hU, hC, hW⟩ := id hB
  obtain ⟨hy, hi, hc, ht, ho, hf, hw_⟩ := id hC
  obtain ⟨w0, w1, w2, w3, w4, w5, w6, w7⟩ := id hW
  obtain ⟨p6, p7, p8, p9, p10, pk, pg, px, py⟩ := id hQ
  obtain ⟨u0, u1, u2, u3, u4, u5, u6, u7⟩ := id hU
  refine r_aload_n (pc' := 1) dX11_rain_0 rfl rfl ?_
  refine r_getr (pc' := 4) dX11_rain_1 rfl fX11_13 z166 rfl ?_
  refine r_iconst (pc' := 5) dX11_rain_4 rfl ?_
  refine r_iaload (pc' := 6) dX11_rain_5 rfl z168 (by decide) (by omega) (by omega) p6 ?_
  refine r_if_ne (tgt := 12) (pc' := 9) dX11_rain_6 rfl rfl (by omega) (fun c6 => ?_) (fun c6 => ?_)
  · refine r_aload_n (pc' := 13) dX11_rain_12 rfl rfl ?_
    refine r_vv0 (pc' := 16) dX11_rain_13 rfl qX11_keeps lX11_163 z166 rfl rfl rfl (Nat.zero_le _) (Nat.zero_le _) (m_keeps hM hS (fun g1 hM1 fm1 => ?_))
    obtain ⟨⟨k1, k2⟩, k3, k4, k5, ⟨k6, k7⟩, k8, k9, ⟨k10, k11⟩, ⟨k12, k13⟩⟩ := id hM1
    have hB1 : MB g1 u v := ⟨k4, s4, k5, s5⟩
    obtain ⟨jy, ji, jc, jt, jo, jf, jw⟩ := id k5
    refine r_aload_n (pc' := 17) dX11_rain_16 rfl rfl ?_
    refine r_getr (pc' := 20) dX11_rain_17 rfl fX11_19 z166 rfl ?_
    refine r_iconst (pc' := 21) dX11_rain_20 rfl ?_
    refine r_iaload (pc' := 22) dX11_rain_21 rfl z170 (by decide) (by omega) (by omega) jt ?_
    refine r_si1 (pc' := 25) dX11_rain_22 rfl qX11_ones lX11_174 rfl rfl rfl (Nat.zero_le _) (Nat.zero_le _) (m_ones w4 ?_)
    refine r_istore_n (pc' := 26) dX11_rain_25 rfl rfl ?_
    refine r_aload_n (pc' := 27) dX11_rain_26 rfl rfl ?_
    refine r_getr (pc' := 30) dX11_rain_27 rfl fX11_19 z166 rfl ?_
    refine r_iconst (pc' := 31) dX11_rain_30 rfl ?_
    refine r_iload_n (pc' := 32) dX11_rain_31 rfl rfl ?_
    refine r_if_eq (tgt := 42) (pc' := 35) dX11_rain_32 rfl rfl (b01_R _) (fun c32 => ?_) (fun c32 => ?_)
    · have hy1 := b01_eq c32
      subst hy1
      refine r_iconst (pc' := 43) dX11_rain_42 rfl ?_
      refine r_iastore (pc' := 44) dX11_rain_43 rfl z170 (by decide) (by omega) (by omega) rfl ?_
      refine r_iload_n (pc' := 45) dX11_rain_44 rfl rfl ?_
      refine r_reti dX11_rain_45 rfl (Or.inl rfl) ?_
      first
        | (have hok : Pp u ≠ 0 := by omega
           have hfj : ∀ j, j ≠ 170 → j ≠ 177 → (mu g1 170 3 (onN v : Int)) j = g1 j := fun j a _ => mu_ne a
           have hl : LSr (mu g1 170 3 (onN v : Int)) _ := (show LSr (mu g1 170 3 (onN v : Int)) (wetV v (if true = true then onN v else 0)) from ⟨by rw [mu_at' (by decide)]; exact jy, by rw [mu_at' (by decide)]; exact ji, by rw [mu_at' (by decide)]; exact jc, by rw [mu_at]; rfl, fun p hp => by rw [mu_at' (by omega)]; exact jo p hp, fun p hp => by rw [mu_at' (by omega)]; exact jf p hp, fun p hp => by rw [mu_at' (by omega)]; exact jw p hp⟩)
           have h9 := h _ (by simp only [if_pos hok]; exact hM1.line hl (fun j _ a b => hfj j a b)) (fm1.tr (FrM.line hfj))
           rw [if_pos hok] at h9
           exact h9)
        | (have hok : Pp u ≠ 0 := by omega
           have hfj : ∀ j, j ≠ 170 → j ≠ 177 → (mu g1 170 3 0) j = g1 j := fun j a _ => mu_ne a
           have hl : LSr (mu g1 170 3 0) _ := (show LSr (mu g1 170 3 0) (wetV v (if false = true then onN v else 0)) from ⟨by rw [mu_at' (by decide)]; exact jy, by rw [mu_at' (by decide)]; exact ji, by rw [mu_at' (by decide)]; exact jc, by rw [mu_at]; rfl, fun p hp => by rw [mu_at' (by omega)]; exact jo p hp, fun p hp => by rw [mu_at' (by omega)]; exact jf p hp, fun p hp => by rw [mu_at' (by omega)]; exact jw p hp⟩)
           have h9 := h _ (by simp only [if_pos hok]; exact hM1.line hl (fun j _ a b => hfj j a b)) (fm1.tr (FrM.line hfj))
           rw [if_pos hok] at h9
           exact h9)
    · have hy1 := b01_ne c32
      subst hy1
      refine r_aload_n (pc' := 36) dX11_rain_35 rfl rfl ?_
      refine r_vi0 (pc' := 39) dX11_rain_36 rfl qX11_onIt lX11_135 z166 rfl rfl rfl (Nat.zero_le _) (Nat.zero_le _) (m_onIt hB1 ?_)
      refine r_goto (tgt := 43) dX11_rain_39 rfl ?_
      refine r_iastore (pc' := 44) dX11_rain_43 rfl z170 (by decide) (by omega) (by omega) rfl ?_
      refine r_iload_n (pc' := 45) dX11_rain_44 rfl rfl ?_
      refine r_reti dX11_rain_45 rfl (Or.inl rfl) ?_
      first
        | (have hok : Pp u ≠ 0 := by omega
           have hfj : ∀ j, j ≠ 170 → j ≠ 177 → (mu g1 170 3 (onN v : Int)) j = g1 j := fun j a _ => mu_ne a
           have hl : LSr (mu g1 170 3 (onN v : Int)) _ := (show LSr (mu g1 170 3 (onN v : Int)) (wetV v (if true = true then onN v else 0)) from ⟨by rw [mu_at' (by decide)]; exact jy, by rw [mu_at' (by decide)]; exact ji, by rw [mu_at' (by decide)]; exact jc, by rw [mu_at]; rfl, fun p hp => by rw [mu_at' (by omega)]; exact jo p hp, fun p hp => by rw [mu_at' (by omega)]; exact jf p hp, fun p hp => by rw [mu_at' (by omega)]; exact jw p hp⟩)
           have h9 := h _ (by simp only [if_pos hok]; exact hM1.line hl (fun j _ a b => hfj j a b)) (fm1.tr (FrM.line hfj))
           rw [if_pos hok] at h9
           exact h9)
        | (have hok : Pp u ≠ 0 := by omega
           have hfj : ∀ j, j ≠ 170 → j ≠ 177 → (mu g1 170 3 0) j = g1 j := fun j a _ => mu_ne a
           have hl : LSr (mu g1 170 3 0) _ := (show LSr (mu g1 170 3 0) (wetV v (if false = true then onN v else 0)) from ⟨by rw [mu_at' (by decide)]; exact jy, by rw [mu_at' (by decide)]; exact ji, by rw [mu_at' (by decide)]; exact jc, by rw [mu_at]; rfl, fun p hp => by rw [mu_at' (by omega)]; exact jo p hp, fun p hp => by rw [mu_at' (by omega)]; exact jf p hp, fun p hp => by rw [mu_at' (by omega)]; exact jw p hp⟩)
           have h9 := h _ (by simp only [if_pos hok]; exact hM1.line hl (fun j _ a b => hfj j a b)) (fm1.tr (FrM.line hfj))
           rw [if_pos hok] at h9
           exact h9)
  · refine r_ldc (z := -1000000003) (pc' := 11) dX11_rain_9 rfl kX11_170 ?_
    refine r_reti dX11_rain_11 rfl (Or.inl rfl) ?_
    have hno : ¬ (Pp u ≠ 0) := by omega
    have h9 := h g (by simp only [if_neg hno]; exact hM) (FrM.rf g)
    rw [if_neg hno] at h9
    exact h9
theorem lm_undo {X : CX} {d : Nat} {g : Mem} {K : Int → Mem → Prop} {m : Nat} {n : Int} (h30 : m < 30) (h6 : g 166 6 = m) (hk : ∀ y : Option VV, AJ X (d + 1) mX11_undo 0 0 (QI Z0 K) 0 0 68 [some (vr 166), some (vi n), y] [] Z0 (cpB g 171 170 (25 * (m : Int)) 0 25)) : ∀ (k i : Nat), i + k = 25 → AJ X (d + 1) mX11_undo 0 0 (QI Z0 K) 0 0 36 [some (vr 166), some (vi n), some (vi (i : Int))] [] Z0 (cpB g 171 170 (25 * (m : Int)) 0 i) := by
  intro k
  induction k with
  | zero =>
    intro i hi
    have e : i = 25 := by omega
    subst e
    refine r_iload_n (pc' := 37) dX11_undo_36 rfl rfl ?_
    refine r_bipush (pc' := 39) dX11_undo_37 rfl (by decide) ?_
    refine r_icmp_ge (tgt := 68) (pc' := 42) dX11_undo_39 rfl rfl (by omega) (by omega) (fun c39 => ?_) (fun c39 => ?_)
    · exact hk _
    · exact absurd c39 (by decide)
  | succ k ih =>
    intro i hi
    refine r_iload_n (pc' := 37) dX11_undo_36 rfl rfl ?_
    refine r_bipush (pc' := 39) dX11_undo_37 rfl (by decide) ?_
    refine r_icmp_ge (tgt := 68) (pc' := 42) dX11_undo_39 rfl rfl (by omega) (by omega) (fun c39 => ?_) (fun c39 => ?_)
    · exact absurd c39 (by omega)
    · refine r_aload_n (pc' := 43) dX11_undo_42 rfl rfl ?_
      refine r_getr (pc' := 46) dX11_undo_43 rfl fX11_19 z166 rfl ?_
      refine r_iload_n (pc' := 47) dX11_undo_46 rfl rfl ?_
      refine r_aload_n (pc' := 48) dX11_undo_47 rfl rfl ?_
      refine r_getr (pc' := 51) dX11_undo_48 rfl fX11_22 z166 rfl ?_
      refine r_bipush (pc' := 53) dX11_undo_51 rfl (by decide) ?_
      refine r_aload_n (pc' := 54) dX11_undo_53 rfl rfl ?_
      refine r_getf (pc' := 57) (kI := 6) (x := (m : Int)) dX11_undo_54 rfl fX11_109 z166 rfl rfl (by rw [cpB_off (by decide)]; exact h6) ?_
      refine r_imul (pc' := 58) dX11_undo_57 rfl ?_
      refine r_iload_n (pc' := 59) dX11_undo_58 rfl rfl ?_
      refine r_iadd (pc' := 60) dX11_undo_59 rfl ?_
      refine r_iaload (pc' := 61) (x := g 171 (25 * (m : Int) + (i : Int))) dX11_undo_60 rfl z171 (by decide) (by omega) (by omega) (by rw [cpB_off (by decide)]) ?_
      refine r_iastore (pc' := 62) (g' := (cpB g 171 170 (25 * (m : Int)) 0 (i + 1))) dX11_undo_61 rfl z170 (by decide) (by omega) (by omega) (cpB_succ (by omega) rfl) ?_
      refine r_iinc (pc' := 65) dX11_undo_62 rfl rfl rfl ?_
      refine r_goto (tgt := 36) dX11_undo_65 rfl ?_
      exact ih (i + 1) (by omega)
theorem M_undo {X : CX} {d : Nat} {g : Mem} {K : Int → Mem → Prop} {tN : Nat} {tX : Nat → Int} {flt : Int} {u : PV} {v : LV} {kn : Nat} {kL : Nat → LV} {im : Nat → Bool × Int × LV} {sd : Int} {ln : Nat} {la : Nat → Nat} {lr : Nat → Bool} {bn : Nat} {bp : Nat → Nat} {bf : Nat → Int} (hM : MS g tN tX flt u v kn kL im sd ln la lr bn bp bf) (hS : WS tN tX flt u v kn kL im sd ln la lr bn bp bf) (n : Int) (hn : R32 n) (h : ∀ g' : Mem, MS g' tN tX flt u (if (1 ≤ n ∧ n ≤ 30) ∧ n ≤ kn then kL (kn - n.toNat) else v) (if (1 ≤ n ∧ n ≤ 30) ∧ n ≤ kn then kn - n.toNat else kn) kL im sd ln la lr bn bp bf → FrM g g' → K (E_undo kn kL n) g') : EI X (d + 1) mX11_undo [vr 166, vi n] Z0 g K := by
  show AJ X (d + 1) mX11_undo 0 0 (QI Z0 K) 0 0 0 [some (vr 166), some (vi n), none] [] Z0 g
  obtain ⟨⟨m1, m2⟩, m3, m4, m5, ⟨m6, m7⟩, m8, m9, ⟨m10, m11⟩, ⟨m12, m13⟩⟩ := id hM
  obtain ⟨⟨s1, s2⟩, s3, s4, s5, ⟨s6, s7⟩, s8, ⟨s9, s10⟩, ⟨s11, s12⟩, ⟨s13, s14⟩⟩ := id hS
  have hB : MB g u v := ⟨m4, s4, m5, s5⟩
  obtain ⟨hQ, hU, hC, hW⟩ := id hB
  obtain ⟨hy, hi, hc, ht, ho, hf, hw_⟩ := id hC
  obtain ⟨w0, w1, w2, w3, w4, w5, w6, w7⟩ := id hW
  obtain ⟨p6, p7, p8, p9, p10, pk, pg, px, py⟩ := id hQ
  obtain ⟨u0, u1, u2, u3, u4, u5, u6, u7⟩ := id hU
  refine r_iload_n (pc' := 1) dX11_undo_0 rfl rfl ?_
  refine r_iconst (pc' := 2) dX11_undo_1 rfl ?_
  refine r_bipush (pc' := 4) dX11_undo_2 rfl (by decide) ?_
  refine r_si3 (pc' := 7) dX11_undo_4 rfl qX11_in lX11_67 rfl rfl rfl (Nat.zero_le _) (Nat.zero_le _) (m_in n 1 30 (by omega) (by omega) (by omega) ?_)
  refine r_if_ne (tgt := 13) (pc' := 10) dX11_undo_7 rfl rfl (b01_R _) (fun c7 => ?_) (fun c7 => ?_)
  · have hd7 := of_decide_eq_true (b01_ne c7)
    refine r_aload_n (pc' := 14) dX11_undo_13 rfl rfl ?_
    refine r_getf (pc' := 17) (kI := 6) dX11_undo_14 rfl fX11_109 z166 rfl rfl m6 ?_
    refine r_iload_n (pc' := 18) dX11_undo_17 rfl rfl ?_
    refine r_icmp_ge (tgt := 24) (pc' := 21) dX11_undo_18 rfl rfl (by omega) (by omega) (fun c18 => ?_) (fun c18 => ?_)
    · refine r_aload_n (pc' := 25) dX11_undo_24 rfl rfl ?_
      refine r_dup (pc' := 26) dX11_undo_25 rfl rfl ?_
      refine r_getf (pc' := 29) (kI := 6) dX11_undo_26 rfl fX11_109 z166 rfl rfl m6 ?_
      refine r_iload_n (pc' := 30) dX11_undo_29 rfl rfl ?_
      refine r_isub (pc' := 31) dX11_undo_30 rfl ?_
      refine r_putf (pc' := 34) (kI := 6) dX11_undo_31 rfl fX11_109 z166 rfl (Or.inl rfl) rfl rfl ?_
      refine r_iconst (pc' := 35) dX11_undo_34 rfl ?_
      refine r_istore_n (pc' := 36) dX11_undo_35 rfl rfl ?_
      have hls : LSr (cpB (mu g 166 6 ((kn : Int) - n)) 171 170 (25 * ((kn - n.toNat : Nat) : Int)) 0 25) (kL (kn - n.toNat)) := LM.ls ((m7 (kn - n.toNat) (by omega)).cp (s7 (kn - n.toNat) (by omega)) (fun q a b => by rw [cpB_at (by omega) (by omega), mu_ne (by decide)]; congr 1; omega))
      have tl : ∀ y : Option VV, AJ X (d + 1) mX11_undo 0 0 (QI Z0 K) 0 0 68 [some (vr 166), some (vi n), y] [] Z0 (cpB (mu g 166 6 ((kn : Int) - n)) 171 170 (25 * ((kn - n.toNat : Nat) : Int)) 0 25) := fun y => by
        refine r_aload_n (pc' := 69) dX11_undo_68 rfl rfl ?_
        refine r_getr (pc' := 72) dX11_undo_69 rfl fX11_19 z166 rfl ?_
        refine r_iconst (pc' := 73) dX11_undo_72 rfl ?_
        refine r_iaload (pc' := 74) (x := (Ly (kL (kn - n.toNat)) : Int)) dX11_undo_73 rfl z170 (by decide) (by omega) (by omega) hls.1 ?_
        refine r_reti dX11_undo_74 rfl (Or.inl rfl) ?_
        have hok : (1 ≤ n ∧ n ≤ 30) ∧ n ≤ kn := by omega
        have q : ∀ j, j ≠ 166 → j ≠ 170 → (cpB (mu g 166 6 ((kn : Int) - n)) 171 170 (25 * ((kn - n.toNat : Nat) : Int)) 0 25) j = g j := fun j a b => by rw [cpB_off b, mu_ne a]
        have r : ∀ k, k ≠ 6 → (cpB (mu g 166 6 ((kn : Int) - n)) 171 170 (25 * ((kn - n.toNat : Nat) : Int)) 0 25) 166 k = g 166 k := fun k a => by rw [cpB_off (by decide), mu_at' a]
        have h9 := h _ (by simp only [if_pos hok]; exact ⟨⟨(r 1 (by decide)).trans m1, fun k hk => (congrFun (q 167 (by decide) (by decide)) _).trans (m2 k hk)⟩, (r 15 (by decide)).trans m3, m4.fr (q 168 (by decide) (by decide)), hls, ⟨by rw [cpB_off (by decide), mu_at]; omega, fun j hj => (m7 j (by omega)).fr (q 171 (by decide) (by decide))⟩, MIm.fr m8 (q 172 (by decide) (by decide)) (q 173 (by decide) (by decide)), (r 9 (by decide)).trans m9, ⟨(r 11 (by decide)).trans m10, fun i hi => by rw [q 174 (by decide) (by decide)]; exact m11 i hi⟩, ⟨(r 13 (by decide)).trans m12, fun i hi => by rw [q 175 (by decide) (by decide)]; exact m13 i hi⟩⟩) ⟨fun j hj => q j (by omega) (by omega), q 178 (by decide) (by decide), r 20 (by decide)⟩
        unfold E_undo at h9
        rw [if_pos (by omega), if_pos (by omega)] at h9
        exact h9
      have e36 := lm_undo (X := X) (d := d) (K := K) (g := (mu g 166 6 ((kn : Int) - n))) (m := kn - n.toNat) (n := n) (by omega) (by rw [mu_at]; omega) tl 25 0 rfl
      rw [cpB_0] at e36
      exact e36
    · refine r_ldc (z := -1000000003) (pc' := 23) dX11_undo_21 rfl kX11_170 ?_
      refine r_reti dX11_undo_23 rfl (Or.inl rfl) ?_
      have hno : ¬ ((1 ≤ n ∧ n ≤ 30) ∧ n ≤ kn) := by omega
      have h9 := h g (by simp only [if_neg hno]; exact hM) (FrM.rf g)
      unfold E_undo at h9
      rw [if_pos hd7, if_neg (by omega)] at h9
      exact h9
  · have hd7 := of_decide_eq_false (b01_eq c7)
    refine r_ldc (z := -1000000002) (pc' := 12) dX11_undo_10 rfl kX11_71 ?_
    refine r_reti dX11_undo_12 rfl (Or.inl rfl) ?_
    have hno : ¬ ((1 ≤ n ∧ n ≤ 30) ∧ n ≤ kn) := by omega
    have h9 := h g (by simp only [if_neg hno]; exact hM) (FrM.rf g)
    unfold E_undo at h9
    rw [if_neg hd7] at h9
    exact h9
