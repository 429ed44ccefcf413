theorem lm_eats {X : CX} {d : Nat} {g : Mem} {K : Mem → Prop} {a n : Nat} (ha : a < n) (h7 : n ≤ 7) (hn : g 170 2 = n) (hk : ∀ y : Option VV, AJ X (d) mX11_eats 0 0 (QV Z0 K) 0 0 59 [some (vr 166), some (vi (a : Int)), y] [] Z0 (cpB g 170 170 (5 + (a : Int)) (4 + (a : Int)) (n - 1 - a))) : ∀ (k i : Nat), i + k = n - 1 - a → AJ X (d) mX11_eats 0 0 (QV Z0 K) 0 0 23 [some (vr 166), some (vi (a : Int)), some (vi ((a : Int) + (i : Int)))] [] Z0 (cpB g 170 170 (5 + (a : Int)) (4 + (a : Int)) i) := by
  intro k
  induction k with
  | zero =>
    intro i hi
    have e : i = n - 1 - a := by omega
    subst e
    refine r_iload_n (pc' := 24) dX11_eats_23 rfl rfl ?_
    refine r_aload_n (pc' := 25) dX11_eats_24 rfl rfl ?_
    refine r_getr (pc' := 28) dX11_eats_25 rfl fX11_19 z166 rfl ?_
    refine r_iconst (pc' := 29) dX11_eats_28 rfl ?_
    refine r_iaload (pc' := 30) (x := (n : Int)) dX11_eats_29 rfl z170 (by decide) (by omega) (by omega) (by rw [cpB_out (by omega)]; exact hn) ?_
    refine r_iconst (pc' := 31) dX11_eats_30 rfl ?_
    refine r_isub (pc' := 32) dX11_eats_31 rfl ?_
    refine r_icmp_ge (tgt := 59) (pc' := 35) dX11_eats_32 rfl rfl (by omega) (by omega) (fun c32 => ?_) (fun c32 => ?_)
    · exact hk _
    · exact absurd c32 (by omega)
  | succ k ih =>
    intro i hi
    have ih1 := ih (i + 1) (by omega)
    rw [show (a : Int) + ((i + 1 : Nat) : Int) = (a : Int) + (i : Int) + 1 by omega] at ih1
    refine r_iload_n (pc' := 24) dX11_eats_23 rfl rfl ?_
    refine r_aload_n (pc' := 25) dX11_eats_24 rfl rfl ?_
    refine r_getr (pc' := 28) dX11_eats_25 rfl fX11_19 z166 rfl ?_
    refine r_iconst (pc' := 29) dX11_eats_28 rfl ?_
    refine r_iaload (pc' := 30) (x := (n : Int)) dX11_eats_29 rfl z170 (by decide) (by omega) (by omega) (by rw [cpB_out (by omega)]; exact hn) ?_
    refine r_iconst (pc' := 31) dX11_eats_30 rfl ?_
    refine r_isub (pc' := 32) dX11_eats_31 rfl ?_
    refine r_icmp_ge (tgt := 59) (pc' := 35) dX11_eats_32 rfl rfl (by omega) (by omega) (fun c32 => ?_) (fun c32 => ?_)
    · exact absurd c32 (by omega)
    · refine r_aload_n (pc' := 36) dX11_eats_35 rfl rfl ?_
      refine r_getr (pc' := 39) dX11_eats_36 rfl fX11_19 z166 rfl ?_
      refine r_iconst (pc' := 40) dX11_eats_39 rfl ?_
      refine r_iload_n (pc' := 41) dX11_eats_40 rfl rfl ?_
      refine r_iadd (pc' := 42) dX11_eats_41 rfl ?_
      refine r_aload_n (pc' := 43) dX11_eats_42 rfl rfl ?_
      refine r_getr (pc' := 46) dX11_eats_43 rfl fX11_19 z166 rfl ?_
      refine r_iconst (pc' := 47) dX11_eats_46 rfl ?_
      refine r_iload_n (pc' := 48) dX11_eats_47 rfl rfl ?_
      refine r_iadd (pc' := 49) dX11_eats_48 rfl ?_
      refine r_iconst (pc' := 50) dX11_eats_49 rfl ?_
      refine r_iadd (pc' := 51) dX11_eats_50 rfl ?_
      refine r_iaload (pc' := 52) (x := g 170 (5 + (a : Int) + (i : Int))) dX11_eats_51 rfl z170 (by decide) (by omega) (by omega) (by rw [cpB_out (by omega)]; congr 1; omega) ?_
      refine r_iastore (pc' := 53) (g' := (cpB g 170 170 (5 + (a : Int)) (4 + (a : Int)) (i + 1))) dX11_eats_52 rfl z170 (by decide) (by omega) (by omega) (cpB_succ (by omega) rfl) ?_
      refine r_iinc (pc' := 56) dX11_eats_53 rfl rfl rfl ?_
      refine r_goto (tgt := 23) dX11_eats_56 rfl ?_
      exact ih1
theorem m_eats {X : CX} {d : Nat} {g : Mem} {K : Mem → Prop} {u : PV} {v : LV} (hB : MB g u v) {a : Nat} (hyn : a < Ln v) (h : ∀ g' : Mem, LSr g' (dropV v a) → (∀ j, j ≠ 170 → g' j = g j) → K g') : EV X (d) mX11_eats [vr 166, vi (a : Int)] Z0 g K := by
  show AJ X (d) mX11_eats 0 0 (QV Z0 K) 0 0 0 [some (vr 166), some (vi (a : Int)), none] [] Z0 g
  obtain ⟨hQ, hU, hC, hW⟩ := id hB
  obtain ⟨hy, hi, hc, ht, ho, hf, hw_⟩ := id hC
  obtain ⟨w0, w1, w2, w3, w4, w5, w6, w7⟩ := id hW
  obtain ⟨p6, p7, p8, p9, p10, pk, pg, px, py⟩ := id hQ
  obtain ⟨u0, u1, u2, u3, u4, u5, u6, u7⟩ := id hU
  have q1 := ho a hyn
  have q2 := w2 a hyn
  have e1 := shl1 (k := Lo v a) (by omega)
  have e2 := dif_n (s := Lt v) (t := 2 ^ Lo v a) w4
  refine r_aload_n (pc' := 1) dX11_eats_0 rfl rfl ?_
  refine r_getr (pc' := 4) dX11_eats_1 rfl fX11_19 z166 rfl ?_
  refine r_iconst (pc' := 5) dX11_eats_4 rfl ?_
  refine r_dup2 (pc' := 6) dX11_eats_5 rfl rfl rfl ?_
  refine r_iaload (pc' := 7) dX11_eats_6 rfl z170 (by decide) (by omega) (by omega) ht ?_
  refine r_iconst (pc' := 8) dX11_eats_7 rfl ?_
  refine r_aload_n (pc' := 9) dX11_eats_8 rfl rfl ?_
  refine r_getr (pc' := 12) dX11_eats_9 rfl fX11_19 z166 rfl ?_
  refine r_iconst (pc' := 13) dX11_eats_12 rfl ?_
  refine r_iload_n (pc' := 14) dX11_eats_13 rfl rfl ?_
  refine r_iadd (pc' := 15) dX11_eats_14 rfl ?_
  refine r_iaload (pc' := 16) dX11_eats_15 rfl z170 (by decide) (by omega) (by omega) q1 ?_
  refine r_ishl (pc' := 17) dX11_eats_16 rfl ?_
  rw [e1]
  refine r_iconst (pc' := 18) dX11_eats_17 rfl ?_
  refine r_ixor (pc' := 19) dX11_eats_18 rfl ?_
  refine r_iand (pc' := 20) dX11_eats_19 rfl ?_
  rw [e2]
  refine r_iastore (pc' := 21) dX11_eats_20 rfl z170 (by decide) (by omega) (by omega) rfl ?_
  refine r_iload_n (pc' := 22) dX11_eats_21 rfl rfl ?_
  refine r_istore_n (pc' := 23) dX11_eats_22 rfl rfl ?_
  have tl : ∀ y : Option VV, AJ X (d) mX11_eats 0 0 (QV Z0 K) 0 0 59 [some (vr 166), some (vi (a : Int)), y] [] Z0 (cpB (mu g 170 3 ((difN (Lt v) (2 ^ Lo v a) : Nat) : Int)) 170 170 (5 + (a : Int)) (4 + (a : Int)) (Ln v - 1 - a)) := fun y => by
    refine r_aload_n (pc' := 60) dX11_eats_59 rfl rfl ?_
    refine r_getr (pc' := 63) dX11_eats_60 rfl fX11_19 z166 rfl ?_
    refine r_iconst (pc' := 64) dX11_eats_63 rfl ?_
    refine r_dup2 (pc' := 65) dX11_eats_64 rfl rfl rfl ?_
    refine r_iaload (pc' := 66) (x := (Ln v : Int)) dX11_eats_65 rfl z170 (by decide) (by omega) (by omega) (by rw [cpB_out (by omega), mu_at' (by decide)]; exact hc) ?_
    refine r_iconst (pc' := 67) dX11_eats_66 rfl ?_
    refine r_isub (pc' := 68) dX11_eats_67 rfl ?_
    refine r_iastore (pc' := 69) dX11_eats_68 rfl z170 (by decide) (by omega) (by omega) rfl ?_
    refine r_retn dX11_eats_69 rfl ?_
    have out_ : ∀ q : Int, q < 4 + (a : Int) ∨ 3 + (Ln v : Int) ≤ q → q ≠ 2 → q ≠ 3 → (mu (cpB (mu g 170 3 ((difN (Lt v) (2 ^ Lo v a) : Nat) : Int)) 170 170 (5 + (a : Int)) (4 + (a : Int)) (Ln v - 1 - a)) 170 2 ((Ln v : Int) - 1)) 170 q = g 170 q := fun q hq h2 h3 => by rw [mu_at' h2, cpB_out (by omega), mu_at' h3]
    refine h _ ⟨by rw [out_ 0 (by omega) (by decide) (by decide)]; exact hy, by rw [out_ 1 (by omega) (by decide) (by decide)]; exact hi, by rw [mu_at]; show _ = ((Ln v - 1 : Nat) : Int); omega, by rw [mu_at' (by decide), cpB_out (by omega), mu_at]; rfl, fun p hp => ?_, fun p hp => by rw [out_ _ (by omega) (by omega) (by omega)]; exact hf p hp, fun p hp => by rw [out_ _ (by omega) (by omega) (by omega)]; exact hw_ p hp⟩ (fun j a => by rw [mu_ne a, cpB_off a, mu_ne a])
    have hp1 : p < Ln v - 1 := hp
    show _ = (((if a ≤ p then Lo v (p + 1) else Lo v p) : Nat) : Int)
    by_cases hk : a ≤ p
    · rw [if_pos hk, mu_at' (by omega), cpB_at (by omega) (by omega), mu_at' (by omega), show (5 : Int) + (a : Int) + (4 + (p : Int) - (4 + (a : Int))) = 4 + ((p + 1 : Nat) : Int) by omega]
      exact ho _ (by omega)
    · rw [if_neg hk, out_ _ (by omega) (by omega) (by omega)]
      exact ho p (by omega)
  have e0 := lm_eats (X := X) (d := d) (K := K) (g := (mu g 170 3 ((difN (Lt v) (2 ^ Lo v a) : Nat) : Int))) (a := a) (n := Ln v) hyn (by omega) (by rw [mu_at' (by decide)]; exact hc) tl (Ln v - 1 - a) 0 (by omega)
  rw [cpB_0, show (a : Int) + ((0 : Nat) : Int) = (a : Int) by omega] at e0
  exact e0
theorem m_eatsI {X : CX} {d : Nat} {g : Mem} {K : Mem → Prop} {u : PV} {v : LV} (hB : MB g u v) {p : Int} (h0 : 0 ≤ p) (hyn : p < Ln v) (h : ∀ g' : Mem, LSr g' (dropV v p.toNat) → (∀ j, j ≠ 170 → g' j = g j) → K g') : EV X d mX11_eats [vr 166, vi p] Z0 g K := by
  have e := m_eats (X := X) (d := d) (K := K) hB (a := p.toNat) (by omega) h
  rw [show ((p.toNat : Nat) : Int) = p by omega] at e
  exact e
theorem M_eat {X : CX} {d : Nat} {g : Mem} {K : Int → Mem → Prop} {tN : Nat} {tX : Nat → Int} {flt : Int} {u : PV} {v : LV} {kn : Nat} {kL : Nat → LV} {im : Nat → Bool × Int × LV} {sd : Int} {ln : Nat} {la : Nat → Nat} {lr : Nat → Bool} {bn : Nat} {bp : Nat → Nat} {bf : Nat → Int} (hM : MS g tN tX flt u v kn kL im sd ln la lr bn bp bf) (hS : WS tN tX flt u v kn kL im sd ln la lr bn bp bf) (f : Int) (hf0 : R32 f) (h : ∀ g' : Mem, MS g' tN tX flt u (if (0 ≤ f ∧ f < Pf u) ∧ plc (Lo v) f (Ln v) 0 ≠ -1 then dropV v (plc (Lo v) f (Ln v) 0).toNat else v) (if (0 ≤ f ∧ f < Pf u) ∧ plc (Lo v) f (Ln v) 0 ≠ -1 then pN kn else kn) (if (0 ≤ f ∧ f < Pf u) ∧ plc (Lo v) f (Ln v) 0 ≠ -1 then pL kn kL v else kL) im sd ln la lr bn bp bf → FrM g g' → K (E_eat u v f) g') : EI X (d + 2) mX11_eat [vr 166, vi f] Z0 g K := by
  show AJ X (d + 2) mX11_eat 0 0 (QI Z0 K) 0 0 0 [some (vr 166), some (vi f), none] [] Z0 g
  obtain ⟨⟨m1, m2⟩, m3, m4, m5, ⟨m6, m7⟩, m8, m9, ⟨m10, m11⟩, ⟨m12, m13⟩⟩ := id hM
  obtain ⟨⟨s1, s2⟩, s3, s4, s5, ⟨s6, s7⟩, s8, ⟨s9, s10⟩, ⟨s11, s12⟩, ⟨s13, s14⟩⟩ := id hS
  have hB : MB g u v := ⟨m4, s4, m5, s5⟩
  obtain ⟨hQ, hU, hC, hW⟩ := id hB
  obtain ⟨hy, hi, hc, ht, ho, hf, hw_⟩ := id hC
  obtain ⟨w0, w1, w2, w3, w4, w5, w6, w7⟩ := id hW
  obtain ⟨p6, p7, p8, p9, p10, pk, pg, px, py⟩ := id hQ
  obtain ⟨u0, u1, u2, u3, u4, u5, u6, u7⟩ := id hU
  have hpb := plc_b (o := Lo v) (f := f) (Ln v) 0
  refine r_aload_n (pc' := 1) dX11_eat_0 rfl rfl ?_
  refine r_iload_n (pc' := 2) dX11_eat_1 rfl rfl ?_
  refine r_vi1 (pc' := 5) dX11_eat_2 rfl qX11_isFlag lX11_153 z166 rfl rfl rfl rfl (Nat.zero_le _) (Nat.zero_le _) (m_isFlag hB f hf0 ?_)
  refine r_if_ne (tgt := 11) (pc' := 8) dX11_eat_5 rfl rfl (b01_R _) (fun c5 => ?_) (fun c5 => ?_)
  · have hd5 := of_decide_eq_true (b01_ne c5)
    refine r_aload_n (pc' := 12) dX11_eat_11 rfl rfl ?_
    refine r_iload_n (pc' := 13) dX11_eat_12 rfl rfl ?_
    refine r_vi1 (pc' := 16) dX11_eat_13 rfl qX11_placeOf lX11_157 z166 rfl rfl rfl rfl (Nat.zero_le _) (Nat.zero_le _) (m_placeOf hB f hf0 ?_)
    refine r_istore_n (pc' := 17) dX11_eat_16 rfl rfl ?_
    refine r_iload_n (pc' := 18) dX11_eat_17 rfl rfl ?_
    refine r_iconst (pc' := 19) dX11_eat_18 rfl ?_
    refine r_icmp_ne (tgt := 25) (pc' := 22) dX11_eat_19 rfl rfl (by omega) (by omega) (fun c19 => ?_) (fun c19 => ?_)
    · refine r_aload_n (pc' := 26) dX11_eat_25 rfl rfl ?_
      refine r_vv0 (pc' := 29) dX11_eat_26 rfl qX11_keeps lX11_163 z166 rfl rfl rfl (Nat.zero_le _) (Nat.zero_le _) (m_keeps hM hS (fun g1 hM1 fm1 => ?_))
      obtain ⟨⟨k1, k2⟩, k3, k4, k5, ⟨k6, k7⟩, k8, k9, ⟨k10, k11⟩, ⟨k12, k13⟩⟩ := id hM1
      have hB1 : MB g1 u v := ⟨k4, s4, k5, s5⟩
      obtain ⟨jy, ji, jc, jt, jo, jf, jw⟩ := id k5
      refine r_aload_n (pc' := 30) dX11_eat_29 rfl rfl ?_
      refine r_iload_n (pc' := 31) dX11_eat_30 rfl rfl ?_
      refine r_vv1 (pc' := 34) dX11_eat_31 rfl qX11_eats lX11_171 z166 rfl rfl rfl rfl (Nat.zero_le _) (Nat.zero_le _) (m_eatsI hB1 (by omega) (by omega) (fun g2 hl2 fr2 => ?_))
      refine r_iload_n (pc' := 35) dX11_eat_34 rfl rfl ?_
      refine r_reti dX11_eat_35 rfl (Or.inl rfl) ?_
      have hok : (0 ≤ f ∧ f < Pf u) ∧ plc (Lo v) f (Ln v) 0 ≠ -1 := by omega
      have h9 := h _ (by simp only [if_pos hok]; exact hM1.line hl2 (fun j _ a _ => fr2 j a)) (fm1.tr (FrM.line (fun j a _ => fr2 j a)))
      unfold E_eat at h9
      rw [if_pos hd5, if_neg c19] at h9
      exact h9
    · refine r_ldc (z := -1000000003) (pc' := 24) dX11_eat_22 rfl kX11_170 ?_
      refine r_reti dX11_eat_24 rfl (Or.inl rfl) ?_
      have hno : ¬ ((0 ≤ f ∧ f < Pf u) ∧ plc (Lo v) f (Ln v) 0 ≠ -1) := by omega
      have h9 := h g (by simp only [if_neg hno]; exact hM) (FrM.rf g)
      unfold E_eat at h9
      rw [if_pos hd5, if_pos c19] at h9
      exact h9
  · have hd5 := of_decide_eq_false (b01_eq c5)
    refine r_ldc (z := -1000000001) (pc' := 10) dX11_eat_8 rfl kX11_156 ?_
    refine r_reti dX11_eat_10 rfl (Or.inl rfl) ?_
    have hno : ¬ ((0 ≤ f ∧ f < Pf u) ∧ plc (Lo v) f (Ln v) 0 ≠ -1) := by omega
    have h9 := h g (by simp only [if_neg hno]; exact hM) (FrM.rf g)
    unfold E_eat at h9
    rw [if_neg hd5] at h9
    exact h9
