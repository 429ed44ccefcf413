theorem lm_begunI {X : CX} {d : Nat} {g : Mem} {K : Int → Mem → Prop} {u : PV} {v : LV} (hB : MB g u v)  {p : Nat} (hp : p < Ln v) : ∀ (k x acc : Nat), x + k = Pw u → acc < 128 → AJ X (d + 2) mX11_begun 0 0 (QI Z0 K) 0 0 51 [some (vr 166), some (vi ((spI u v p k x acc : Nat) : Int)), some (vi (p : Int)), some (vi (Pw u : Int))] [] Z0 g → AJ X (d + 2) mX11_begun 0 0 (QI Z0 K) 0 0 16 [some (vr 166), some (vi (acc : Int)), some (vi (p : Int)), some (vi (x : Int))] [] Z0 g := by
  obtain ⟨hQ, hU, hC, hW⟩ := id hB
  obtain ⟨hy, hi, hc, ht, ho, hf, hw_⟩ := id hC
  obtain ⟨w0, w1, w2, w3, w4, w5, w6, w7⟩ := id hW
  obtain ⟨p6, p7, p8, p9, p10, pk, pg, px, py⟩ := id hQ
  obtain ⟨u0, u1, u2, u3, u4, u5, u6, u7⟩ := id hU
  intro k
  induction k with
  | zero =>
    intro x acc hx ha h
    have e : (Pw u : Int) = (x : Int) := by omega
    refine r_iload_n (pc' := 17) dX11_begun_16 rfl rfl ?_
    refine r_aload_n (pc' := 18) dX11_begun_17 rfl rfl ?_
    refine r_getr (pc' := 21) dX11_begun_18 rfl fX11_13 z166 rfl ?_
    refine r_iconst (pc' := 22) dX11_begun_21 rfl ?_
    refine r_iaload (pc' := 23) dX11_begun_22 rfl z168 (by decide) (by omega) (by omega) p9 ?_
    refine r_icmp_ge (tgt := 51) (pc' := 26) dX11_begun_23 rfl rfl (by omega) (by omega) (fun c23 => ?_) (fun c23 => ?_)
    · rw [e] at h
      exact h
    · exact absurd c23 (by omega)
  | succ k ih =>
    intro x acc hx ha h
    have e : b_or (acc : Int) (b_shl 1 (p : Int)) = ((acc ||| 2 ^ p : Nat) : Int) := by rw [shl1 (by omega), or_n ha (pow7 (by omega))]
    have e0 : b_or (acc : Int) 0 = ((acc : Nat) : Int) := by rw [show (0 : Int) = ((0 : Nat) : Int) from rfl, or_n ha (by decide), Nat.or_zero]
    unfold spI at h
    refine r_iload_n (pc' := 17) dX11_begun_16 rfl rfl ?_
    refine r_aload_n (pc' := 18) dX11_begun_17 rfl rfl ?_
    refine r_getr (pc' := 21) dX11_begun_18 rfl fX11_13 z166 rfl ?_
    refine r_iconst (pc' := 22) dX11_begun_21 rfl ?_
    refine r_iaload (pc' := 23) dX11_begun_22 rfl z168 (by decide) (by omega) (by omega) p9 ?_
    refine r_icmp_ge (tgt := 51) (pc' := 26) dX11_begun_23 rfl rfl (by omega) (by omega) (fun c23 => ?_) (fun c23 => ?_)
    · exact absurd c23 (by omega)
    · refine r_iload_n (pc' := 27) dX11_begun_26 rfl rfl ?_
      refine r_aload_n (pc' := 28) dX11_begun_27 rfl rfl ?_
      refine r_iload_n (pc' := 29) dX11_begun_28 rfl rfl ?_
      refine r_iload_n (pc' := 30) dX11_begun_29 rfl rfl ?_
      refine r_vi2 (pc' := 33) dX11_begun_30 rfl qX11_fits lX11_129 z166 rfl rfl rfl rfl (Nat.zero_le _) (Nat.zero_le _) (m_fits hB (by omega) (by omega) ?_)
      refine r_if_eq (tgt := 42) (pc' := 36) dX11_begun_33 rfl rfl (b01_R _) (fun c33 => ?_) (fun c33 => ?_)
      · refine r_iconst (pc' := 43) dX11_begun_42 rfl ?_
        refine r_ior (pc' := 44) dX11_begun_43 rfl ?_
        refine r_istore_n (pc' := 45) dX11_begun_44 rfl rfl ?_
        refine r_iinc (pc' := 48) dX11_begun_45 rfl rfl rfl ?_
        refine r_goto (tgt := 16) dX11_begun_48 rfl ?_
        first | (rw [e]; rw [if_pos (b01_ne c33)] at h; exact ih (x + 1) _ (by omega) (or128 ha (pow7 (by omega))) h) | (rw [e0]; rw [if_neg (by rw [b01_eq c33]; decide)] at h; exact ih (x + 1) _ (by omega) ha h)
      · refine r_iconst (pc' := 37) dX11_begun_36 rfl ?_
        refine r_iload_n (pc' := 38) dX11_begun_37 rfl rfl ?_
        refine r_ishl (pc' := 39) dX11_begun_38 rfl ?_
        refine r_goto (tgt := 43) dX11_begun_39 rfl ?_
        refine r_ior (pc' := 44) dX11_begun_43 rfl ?_
        refine r_istore_n (pc' := 45) dX11_begun_44 rfl rfl ?_
        refine r_iinc (pc' := 48) dX11_begun_45 rfl rfl rfl ?_
        refine r_goto (tgt := 16) dX11_begun_48 rfl ?_
        first | (rw [e]; rw [if_pos (b01_ne c33)] at h; exact ih (x + 1) _ (by omega) (or128 ha (pow7 (by omega))) h) | (rw [e0]; rw [if_neg (by rw [b01_eq c33]; decide)] at h; exact ih (x + 1) _ (by omega) ha h)
theorem lm_begunO {X : CX} {d : Nat} {g : Mem} {K : Int → Mem → Prop} {u : PV} {v : LV} (hB : MB g u v)  : ∀ (k p acc : Nat) (y : Option VV), p + k = Ln v → acc < 128 → K ((spO u v k p acc : Nat) : Int) g → AJ X (d + 2) mX11_begun 0 0 (QI Z0 K) 0 0 4 [some (vr 166), some (vi (acc : Int)), some (vi (p : Int)), y] [] Z0 g := by
  obtain ⟨hQ, hU, hC, hW⟩ := id hB
  obtain ⟨hy, hi, hc, ht, ho, hf, hw_⟩ := id hC
  obtain ⟨w0, w1, w2, w3, w4, w5, w6, w7⟩ := id hW
  obtain ⟨p6, p7, p8, p9, p10, pk, pg, px, py⟩ := id hQ
  obtain ⟨u0, u1, u2, u3, u4, u5, u6, u7⟩ := id hU
  intro k
  induction k with
  | zero =>
    intro p acc y hp ha h
    refine r_iload_n (pc' := 5) dX11_begun_4 rfl rfl ?_
    refine r_aload_n (pc' := 6) dX11_begun_5 rfl rfl ?_
    refine r_getr (pc' := 9) dX11_begun_6 rfl fX11_19 z166 rfl ?_
    refine r_iconst (pc' := 10) dX11_begun_9 rfl ?_
    refine r_iaload (pc' := 11) dX11_begun_10 rfl z170 (by decide) (by omega) (by omega) hc ?_
    refine r_icmp_ge (tgt := 57) (pc' := 14) dX11_begun_11 rfl rfl (by omega) (by omega) (fun c11 => ?_) (fun c11 => ?_)
    · refine r_iload_n (pc' := 58) dX11_begun_57 rfl rfl ?_
      refine r_reti dX11_begun_58 rfl (Or.inl rfl) ?_
      exact h
    · exact absurd c11 (by omega)
  | succ k ih =>
    intro p acc y hp ha h
    refine r_iload_n (pc' := 5) dX11_begun_4 rfl rfl ?_
    refine r_aload_n (pc' := 6) dX11_begun_5 rfl rfl ?_
    refine r_getr (pc' := 9) dX11_begun_6 rfl fX11_19 z166 rfl ?_
    refine r_iconst (pc' := 10) dX11_begun_9 rfl ?_
    refine r_iaload (pc' := 11) dX11_begun_10 rfl z170 (by decide) (by omega) (by omega) hc ?_
    refine r_icmp_ge (tgt := 57) (pc' := 14) dX11_begun_11 rfl rfl (by omega) (by omega) (fun c11 => ?_) (fun c11 => ?_)
    · exact absurd c11 (by omega)
    · refine r_iconst (pc' := 15) dX11_begun_14 rfl ?_
      refine r_istore_n (pc' := 16) dX11_begun_15 rfl rfl ?_
      refine lm_begunI hB (p := p) (by omega) (Pw u) 0 acc (by omega) ha ?_
      refine r_iinc (pc' := 54) dX11_begun_51 rfl rfl rfl ?_
      refine r_goto (tgt := 4) dX11_begun_54 rfl ?_
      exact ih (p + 1) _ _ (by omega) (spI_lt (by omega) _ _ _ ha) h
theorem m_begun {X : CX} {d : Nat} {g : Mem} {K : Int → Mem → Prop} {u : PV} {v : LV} (hB : MB g u v) (h : K (speltN u v) g) : EI X (d + 2) mX11_begun [vr 166] Z0 g K := by
  show AJ X (d + 2) mX11_begun 0 0 (QI Z0 K) 0 0 0 [some (vr 166), none, none, none] [] Z0 g
  refine r_iconst (pc' := 1) dX11_begun_0 rfl ?_
  refine r_istore_n (pc' := 2) dX11_begun_1 rfl rfl ?_
  refine r_iconst (pc' := 3) dX11_begun_2 rfl ?_
  refine r_istore_n (pc' := 4) dX11_begun_3 rfl rfl ?_
  exact lm_begunO hB (Ln v) 0 0 none (by omega) (by decide) h
theorem MB.fr {g g' : Mem} {u : PV} {v : LV} (h : MB g u v) (h1 : g' 168 = g 168) (h2 : g' 170 = g 170) : MB g' u v := ⟨h.1.fr h1, h.2.1, h.2.2.1.fr h2, h.2.2.2⟩
theorem mu176 {g : Mem} {k x : Int} : Fr [176] g (mu g 176 k x) := fun j hj => mu_ne (by simpa using hj)
theorem lm_readI {X : CX} {d : Nat} {K : Int → Mem → Prop} {u : PV} {v : LV} {p : Nat} {t : Nat → Nat} (hp : p < Ln v) : ∀ (k x acc : Nat) (g : Mem), MB g u v → x + k = Pw u → g 176 p = acc → (∀ q : Nat, p < q → q ≤ Ln v → g 176 q = t q) → (∀ g' : Mem, g' 176 p = ((sumF (fun x => begB u v x p) (fun x => t (p + Pl u x)) k x acc : Nat) : Int) → (∀ q : Nat, p < q → q ≤ Ln v → g' 176 q = t q) → Fr [176] g g' → AJ X (d + 2) mX11_readings 0 0 (QI Z0 K) 0 0 84 [some (vr 166), some (vi (p : Int)), some (vi (Pw u : Int))] [] Z0 g') → AJ X (d + 2) mX11_readings 0 0 (QI Z0 K) 0 0 34 [some (vr 166), some (vi (p : Int)), some (vi (x : Int))] [] Z0 g := by
  intro k
  induction k with
  | zero =>
    intro x acc g hB hx ha hq h
    obtain ⟨hQ, hU, hC, hW⟩ := id hB
    obtain ⟨hy, hi, hc, ht, ho, hf, hw_⟩ := id hC
    obtain ⟨w0, w1, w2, w3, w4, w5, w6, w7⟩ := id hW
    obtain ⟨p6, p7, p8, p9, p10, pk, pg, px, py⟩ := id hQ
    obtain ⟨u0, u1, u2, u3, u4, u5, u6, u7⟩ := id hU
    have e : (Pw u : Int) = (x : Int) := by omega
    have h9 := h g ha hq (Fr.rf _ _)
    refine r_iload_n (pc' := 35) dX11_readings_34 rfl rfl ?_
    refine r_aload_n (pc' := 36) dX11_readings_35 rfl rfl ?_
    refine r_getr (pc' := 39) dX11_readings_36 rfl fX11_13 z166 rfl ?_
    refine r_iconst (pc' := 40) dX11_readings_39 rfl ?_
    refine r_iaload (pc' := 41) dX11_readings_40 rfl z168 (by decide) (by omega) (by omega) p9 ?_
    refine r_icmp_ge (tgt := 84) (pc' := 44) dX11_readings_41 rfl rfl (by omega) (by omega) (fun c41 => ?_) (fun c41 => ?_)
    · rw [e] at h9
      exact h9
    · exact absurd c41 (by omega)
  | succ k ih =>
    intro x acc g hB hx ha hq h
    obtain ⟨hQ, hU, hC, hW⟩ := id hB
    obtain ⟨hy, hi, hc, ht, ho, hf, hw_⟩ := id hC
    obtain ⟨w0, w1, w2, w3, w4, w5, w6, w7⟩ := id hW
    obtain ⟨p6, p7, p8, p9, p10, pk, pg, px, py⟩ := id hQ
    obtain ⟨u0, u1, u2, u3, u4, u5, u6, u7⟩ := id hU
    have q2 := u6 x (by omega)
    unfold sumF at h
    refine r_iload_n (pc' := 35) dX11_readings_34 rfl rfl ?_
    refine r_aload_n (pc' := 36) dX11_readings_35 rfl rfl ?_
    refine r_getr (pc' := 39) dX11_readings_36 rfl fX11_13 z166 rfl ?_
    refine r_iconst (pc' := 40) dX11_readings_39 rfl ?_
    refine r_iaload (pc' := 41) dX11_readings_40 rfl z168 (by decide) (by omega) (by omega) p9 ?_
    refine r_icmp_ge (tgt := 84) (pc' := 44) dX11_readings_41 rfl rfl (by omega) (by omega) (fun c41 => ?_) (fun c41 => ?_)
    · exact absurd c41 (by omega)
    · refine r_aload_n (pc' := 45) dX11_readings_44 rfl rfl ?_
      refine r_getr (pc' := 48) dX11_readings_45 rfl fX11_42 z166 rfl ?_
      refine r_iload_n (pc' := 49) dX11_readings_48 rfl rfl ?_
      refine r_dup2 (pc' := 50) dX11_readings_49 rfl rfl rfl ?_
      refine r_iaload (pc' := 51) (x := (acc : Int)) dX11_readings_50 rfl z176 (by decide) (by omega) (by omega) ha ?_
      refine r_aload_n (pc' := 52) dX11_readings_51 rfl rfl ?_
      refine r_iload_n (pc' := 53) dX11_readings_52 rfl rfl ?_
      refine r_iload_n (pc' := 54) dX11_readings_53 rfl rfl ?_
      refine r_vi2 (pc' := 57) dX11_readings_54 rfl qX11_fits lX11_129 z166 rfl rfl rfl rfl (Nat.zero_le _) (Nat.zero_le _) (m_fits hB (by omega) (by omega) ?_)
      refine r_if_eq (tgt := 75) (pc' := 60) dX11_readings_57 rfl rfl (b01_R _) (fun c57 => ?_) (fun c57 => ?_)
      · refine r_iconst (pc' := 76) dX11_readings_75 rfl ?_
        refine r_iadd (pc' := 77) dX11_readings_76 rfl ?_
        refine r_iastore (pc' := 78) dX11_readings_77 rfl z176 (by decide) (by omega) (by omega) rfl ?_
        refine r_iinc (pc' := 81) dX11_readings_78 rfl rfl rfl ?_
        refine r_goto (tgt := 34) dX11_readings_81 rfl ?_
        first
          | (rw [if_neg (by rw [b01_eq c57]; decide)] at h
             exact ih (x + 1) acc _ (hB.fr (mu_ne (by decide)) (mu_ne (by decide))) (by omega) (by rw [mu_at]; omega) (fun q h1 h2 => by rw [mu_at' (by omega)]; exact hq q h1 h2) (fun g' a1 a2 a3 => h g' a1 a2 (Fr.tr mu176 a3)))
          | (rw [if_pos (b01_ne c57)] at h
             exact ih (x + 1) _ _ (hB.fr (mu_ne (by decide)) (mu_ne (by decide))) (by omega) (by rw [mu_at]; rfl) (fun q h1 h2 => by rw [mu_at' (by omega)]; exact hq q h1 h2) (fun g' a1 a2 a3 => h g' a1 a2 (Fr.tr mu176 a3)))
      · have hbe := begB_le (b01_ne c57)
        refine r_aload_n (pc' := 61) dX11_readings_60 rfl rfl ?_
        refine r_getr (pc' := 64) dX11_readings_61 rfl fX11_42 z166 rfl ?_
        refine r_iload_n (pc' := 65) dX11_readings_64 rfl rfl ?_
        refine r_aload_n (pc' := 66) dX11_readings_65 rfl rfl ?_
        refine r_iload_n (pc' := 67) dX11_readings_66 rfl rfl ?_
        refine r_vi1 (pc' := 70) dX11_readings_67 rfl qX11_longOf lX11_125 z166 rfl rfl rfl rfl (Nat.zero_le _) (Nat.zero_le _) (m_long hB (by omega) ?_)
        refine r_iadd (pc' := 71) dX11_readings_70 rfl ?_
        refine r_iaload (pc' := 72) (x := (t (p + Pl u x) : Int)) dX11_readings_71 rfl z176 (by decide) (by omega) (by omega) (hq (p + Pl u x) (by omega) (by omega)) ?_
        refine r_goto (tgt := 76) dX11_readings_72 rfl ?_
        refine r_iadd (pc' := 77) dX11_readings_76 rfl ?_
        refine r_iastore (pc' := 78) dX11_readings_77 rfl z176 (by decide) (by omega) (by omega) rfl ?_
        refine r_iinc (pc' := 81) dX11_readings_78 rfl rfl rfl ?_
        refine r_goto (tgt := 34) dX11_readings_81 rfl ?_
        first
          | (rw [if_neg (by rw [b01_eq c57]; decide)] at h
             exact ih (x + 1) acc _ (hB.fr (mu_ne (by decide)) (mu_ne (by decide))) (by omega) (by rw [mu_at]; omega) (fun q h1 h2 => by rw [mu_at' (by omega)]; exact hq q h1 h2) (fun g' a1 a2 a3 => h g' a1 a2 (Fr.tr mu176 a3)))
          | (rw [if_pos (b01_ne c57)] at h
             exact ih (x + 1) _ _ (hB.fr (mu_ne (by decide)) (mu_ne (by decide))) (by omega) (by rw [mu_at]; rfl) (fun q h1 h2 => by rw [mu_at' (by omega)]; exact hq q h1 h2) (fun g' a1 a2 a3 => h g' a1 a2 (Fr.tr mu176 a3)))
theorem lm_readO {X : CX} {d : Nat} {K : Int → Mem → Prop} {u : PV} {v : LV} : ∀ (k : Nat) (g : Mem) (y : Option VV), MB g u v → k ≤ Ln v → (∀ q : Nat, k ≤ q → q ≤ Ln v → g 176 q = wayT u v (Ln v - k) q) → (∀ g' : Mem, (∀ q : Nat, q ≤ Ln v → g' 176 q = wayT u v (Ln v) q) → Fr [176] g g' → K (readN u v) g') → AJ X (d + 2) mX11_readings 0 0 (QI Z0 K) 0 0 21 [some (vr 166), some (vi ((k : Int) - 1)), y] [] Z0 g := by
  intro k
  induction k with
  | zero =>
    intro g y hB hk hq h
    have q0 := hq 0 (by omega) (by omega)
    refine r_iload_n (pc' := 22) dX11_readings_21 rfl rfl ?_
    refine r_if_lt (tgt := 90) (pc' := 25) dX11_readings_22 rfl rfl (by omega) (fun c22 => ?_) (fun c22 => ?_)
    · refine r_aload_n (pc' := 91) dX11_readings_90 rfl rfl ?_
      refine r_getr (pc' := 94) dX11_readings_91 rfl fX11_42 z166 rfl ?_
      refine r_iconst (pc' := 95) dX11_readings_94 rfl ?_
      refine r_iaload (pc' := 96) dX11_readings_95 rfl z176 (by decide) (by omega) (by omega) q0 ?_
      refine r_reti dX11_readings_96 rfl (Or.inl rfl) ?_
      exact h g (fun q h1 => hq q (by omega) h1) (Fr.rf _ _)
    · exact absurd c22 (by omega)
  | succ k ih =>
    intro g y hB hk hq h
    rw [show (((k + 1 : Nat)) : Int) - 1 = (k : Int) by omega]
    have w1 := hB.2.2.2.2.1
    refine r_iload_n (pc' := 22) dX11_readings_21 rfl rfl ?_
    refine r_if_lt (tgt := 90) (pc' := 25) dX11_readings_22 rfl rfl (by omega) (fun c22 => ?_) (fun c22 => ?_)
    · exact absurd c22 (by omega)
    · refine r_aload_n (pc' := 26) dX11_readings_25 rfl rfl ?_
      refine r_getr (pc' := 29) dX11_readings_26 rfl fX11_42 z166 rfl ?_
      refine r_iload_n (pc' := 30) dX11_readings_29 rfl rfl ?_
      refine r_iconst (pc' := 31) dX11_readings_30 rfl ?_
      refine r_iastore (pc' := 32) dX11_readings_31 rfl z176 (by decide) (by omega) (by omega) rfl ?_
      refine r_iconst (pc' := 33) dX11_readings_32 rfl ?_
      refine r_istore_n (pc' := 34) dX11_readings_33 rfl rfl ?_
      refine lm_readI (p := k) (t := wayT u v (Ln v - (k + 1))) (by omega) (Pw u) 0 0 _ (hB.fr (mu_ne (by decide)) (mu_ne (by decide))) (by omega) (by rw [mu_at]; rfl) (fun q h1 h2 => by rw [mu_at' (by omega)]; exact hq q (by omega) h2) (fun g1 a1 a2 a3 => ?_)
      have fr1 : Fr [176] g g1 := Fr.tr mu176 a3
      have hB1 := hB.fr (fr1 168 (by decide)) (fr1 170 (by decide))
      refine r_iinc (pc' := 87) dX11_readings_84 rfl rfl rfl ?_
      refine r_goto (tgt := 21) dX11_readings_87 rfl ?_
      rw [show (k : Int) + -1 = (k : Int) - 1 by omega]
      refine ih g1 _ hB1 (by omega) (fun q h1 h2 => ?_) (fun g' b1 b2 => h g' b1 (Fr.tr fr1 b2))
      rw [show Ln v - k = (Ln v - (k + 1)) + 1 by omega]
      unfold wayT
      by_cases hq2 : q = k
      · subst hq2
        rw [if_pos (by omega), a1]
      · rw [if_neg (by omega)]
        exact a2 q (by omega) h2
theorem m_readings {X : CX} {d : Nat} {g : Mem} {K : Int → Mem → Prop} {u : PV} {v : LV} (hB : MB g u v) (h : ∀ g' : Mem, (∀ q : Nat, q ≤ Ln v → g' 176 q = wayT u v (Ln v) q) → Fr [176] g g' → K (readN u v) g') : EI X (d + 2) mX11_readings [vr 166] Z0 g K := by
  show AJ X (d + 2) mX11_readings 0 0 (QI Z0 K) 0 0 0 [some (vr 166), none, none] [] Z0 g
  obtain ⟨hQ, hU, hC, hW⟩ := id hB
  obtain ⟨hy, hi, hc, ht, ho, hf, hw_⟩ := id hC
  obtain ⟨w0, w1, w2, w3, w4, w5, w6, w7⟩ := id hW
  obtain ⟨p6, p7, p8, p9, p10, pk, pg, px, py⟩ := id hQ
  obtain ⟨u0, u1, u2, u3, u4, u5, u6, u7⟩ := id hU
  refine r_aload_n (pc' := 1) dX11_readings_0 rfl rfl ?_
  refine r_getr (pc' := 4) dX11_readings_1 rfl fX11_42 z166 rfl ?_
  refine r_aload_n (pc' := 5) dX11_readings_4 rfl rfl ?_
  refine r_getr (pc' := 8) dX11_readings_5 rfl fX11_19 z166 rfl ?_
  refine r_iconst (pc' := 9) dX11_readings_8 rfl ?_
  refine r_iaload (pc' := 10) dX11_readings_9 rfl z170 (by decide) (by omega) (by omega) hc ?_
  refine r_iconst (pc' := 11) dX11_readings_10 rfl ?_
  refine r_iastore (pc' := 12) dX11_readings_11 rfl z176 (by decide) (by omega) (by omega) rfl ?_
  refine r_aload_n (pc' := 13) dX11_readings_12 rfl rfl ?_
  refine r_getr (pc' := 16) dX11_readings_13 rfl fX11_19 z166 rfl ?_
  refine r_iconst (pc' := 17) dX11_readings_16 rfl ?_
  refine r_iaload (pc' := 18) (x := (Ln v : Int)) dX11_readings_17 rfl z170 (by decide) (by omega) (by omega) (by rw [mu_ne (by decide)]; exact hc) ?_
  refine r_iconst (pc' := 19) dX11_readings_18 rfl ?_
  refine r_isub (pc' := 20) dX11_readings_19 rfl ?_
  refine r_istore_n (pc' := 21) dX11_readings_20 rfl rfl ?_
  refine lm_readO (Ln v) _ none (hB.fr (mu_ne (by decide)) (mu_ne (by decide))) (by omega) (fun q h1 h2 => ?_) (fun g' b1 b2 => h g' b1 (Fr.tr mu176 b2))
  have : q = Ln v := by omega
  subst this
  rw [mu_at, Nat.sub_self]
  unfold wayT
  rw [if_pos rfl]
  rfl
