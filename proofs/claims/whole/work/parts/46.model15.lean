theorem lm_number {X : CX} {d : Nat} {K : Int → Mem → Prop} {N : Nat} {T : Nat → Int} {pl lo hi : Int} {p1 : Nat} : ∀ (k p c : Nat) (x m : Int) (g : Mem), N - p = k → p = p1 + c → (c ≤ 3 → m = x) → (3 < c → m = 1000) → MRd g N T p → (∀ (m' : Int) (g' : Mem), MRd g' N T (nlF T k p c x).1 → FrP g g' → ((nlF T k p c x).1 - p1 ≤ 3 → m' = (nlF T k p c x).2) → (3 < (nlF T k p c x).1 - p1 → m' = 1000) → AJ X (d + 2) mX11_number 0 0 (QI Z0 K) 0 0 101 [some (vr 166), some (vi pl), some (vi lo), some (vi hi), some (vi (p1 : Int)), some (vi m')] [] Z0 g') → AJ X (d + 2) mX11_number 0 0 (QI Z0 K) 0 0 25 [some (vr 166), some (vi pl), some (vi lo), some (vi hi), some (vi (p1 : Int)), some (vi m)] [] Z0 g := by
  intro k
  induction k with
  | zero =>
    intro p c x m g hk hp h3 h4 hR h
    obtain ⟨r1, r2, r3, r4, r5⟩ := id hR
    refine r_aload_n (pc' := 26) dX11_number_25 rfl rfl ?_
    refine r_getf (pc' := 29) (kI := 14) dX11_number_26 rfl fX11_76 z166 rfl rfl r4 ?_
    refine r_aload_n (pc' := 30) dX11_number_29 rfl rfl ?_
    refine r_getf (pc' := 33) (kI := 1) dX11_number_30 rfl fX11_72 z166 rfl rfl r1 ?_
    refine r_icmp_ge (tgt := 101) (pc' := 36) dX11_number_33 rfl rfl (by omega) (by omega) (fun c33 => ?_) (fun c33 => ?_)
    · exact h m g hR (FrP.rf g) (fun q => h3 (by have : p - p1 ≤ 3 := q; omega)) (fun q => h4 (by have : 3 < p - p1 := q; omega))
    · exact absurd c33 (by omega)
  | succ k ih =>
    intro p c x m g hk hp h3 h4 hR h
    obtain ⟨r1, r2, r3, r4, r5⟩ := id hR
    obtain ⟨q1, q2, q3⟩ := r3 p (by omega)
    unfold nlF at h
    refine r_aload_n (pc' := 26) dX11_number_25 rfl rfl ?_
    refine r_getf (pc' := 29) (kI := 14) dX11_number_26 rfl fX11_76 z166 rfl rfl r4 ?_
    refine r_aload_n (pc' := 30) dX11_number_29 rfl rfl ?_
    refine r_getf (pc' := 33) (kI := 1) dX11_number_30 rfl fX11_72 z166 rfl rfl r1 ?_
    refine r_icmp_ge (tgt := 101) (pc' := 36) dX11_number_33 rfl rfl (by omega) (by omega) (fun c33 => ?_) (fun c33 => ?_)
    · exact absurd c33 (by omega)
    · refine r_aload_n (pc' := 37) dX11_number_36 rfl rfl ?_
      refine r_getr (pc' := 40) dX11_number_37 rfl fX11_7 z166 rfl ?_
      refine r_aload_n (pc' := 41) dX11_number_40 rfl rfl ?_
      refine r_getf (pc' := 44) (kI := 14) dX11_number_41 rfl fX11_76 z166 rfl rfl r4 ?_
      refine r_iaload (pc' := 45) dX11_number_44 rfl z167 (by decide) (by omega) (by omega) q1 ?_
      refine r_si1 (pc' := 48) dX11_number_45 rfl qX11_isFigure lX11_86 rfl rfl rfl (Nat.zero_le _) (Nat.zero_le _) (m_fig (T p) (by omega) ?_)
      refine r_if_eq (tgt := 101) (pc' := 51) dX11_number_48 rfl rfl (b01_R _) (fun c48 => ?_) (fun c48 => ?_)
      · rw [if_neg (by rw [b01_eq c48]; decide)] at h
        exact h m g hR (FrP.rf g) (fun q => h3 (by have : p - p1 ≤ 3 := q; omega)) (fun q => h4 (by have : 3 < p - p1 := q; omega))
      · refine r_aload_n (pc' := 52) dX11_number_51 rfl rfl ?_
        refine r_getf (pc' := 55) (kI := 14) dX11_number_52 rfl fX11_76 z166 rfl rfl r4 ?_
        refine r_iload (pc' := 57) dX11_number_55 rfl rfl ?_
        refine r_isub (pc' := 58) dX11_number_57 rfl ?_
        refine r_iconst (pc' := 59) dX11_number_58 rfl ?_
        refine r_icmp_le (tgt := 68) (pc' := 62) dX11_number_59 rfl rfl (by omega) (by omega) (fun c59 => ?_) (fun c59 => ?_)
        · refine r_bipush (pc' := 70) dX11_number_68 rfl (by decide) ?_
          refine r_iload (pc' := 72) dX11_number_70 rfl rfl ?_
          refine r_imul (pc' := 73) dX11_number_72 rfl ?_
          refine r_aload_n (pc' := 74) dX11_number_73 rfl rfl ?_
          refine r_getr (pc' := 77) dX11_number_74 rfl fX11_7 z166 rfl ?_
          refine r_aload_n (pc' := 78) dX11_number_77 rfl rfl ?_
          refine r_getf (pc' := 81) (kI := 14) dX11_number_78 rfl fX11_76 z166 rfl rfl r4 ?_
          refine r_iaload (pc' := 82) dX11_number_81 rfl z167 (by decide) (by omega) (by omega) q1 ?_
          refine r_iadd (pc' := 83) dX11_number_82 rfl ?_
          refine r_bipush (pc' := 85) dX11_number_83 rfl (by decide) ?_
          refine r_isub (pc' := 86) dX11_number_85 rfl ?_
          refine r_istore (pc' := 88) dX11_number_86 rfl rfl ?_
          refine r_aload_n (pc' := 89) dX11_number_88 rfl rfl ?_
          refine r_dup (pc' := 90) dX11_number_89 rfl rfl ?_
          refine r_getf (pc' := 93) (kI := 14) dX11_number_90 rfl fX11_76 z166 rfl rfl r4 ?_
          refine r_iconst (pc' := 94) dX11_number_93 rfl ?_
          refine r_iadd (pc' := 95) dX11_number_94 rfl ?_
          refine r_putf (pc' := 98) (kI := 14) dX11_number_95 rfl fX11_76 z166 rfl (Or.inl rfl) rfl rfl ?_
          refine r_goto (tgt := 25) dX11_number_98 rfl ?_
          rw [if_pos (b01_ne c48)] at h
          refine ih (p + 1) (c + 1) _ _ _ (by omega) (by omega) ?_ ?_ (hR.pos (by omega) (by omega)) (fun m' g' a b e f => h m' g' a ((FrP.pos _ _).tr b) e f)
          · intro hc
            rw [if_pos (by omega)]
            have := h3 (by omega)
            omega
          · intro hc
            omega
        · refine r_sipush (pc' := 65) dX11_number_62 rfl (by decide) ?_
          refine r_goto (tgt := 86) dX11_number_65 rfl ?_
          refine r_istore (pc' := 88) dX11_number_86 rfl rfl ?_
          refine r_aload_n (pc' := 89) dX11_number_88 rfl rfl ?_
          refine r_dup (pc' := 90) dX11_number_89 rfl rfl ?_
          refine r_getf (pc' := 93) (kI := 14) dX11_number_90 rfl fX11_76 z166 rfl rfl r4 ?_
          refine r_iconst (pc' := 94) dX11_number_93 rfl ?_
          refine r_iadd (pc' := 95) dX11_number_94 rfl ?_
          refine r_putf (pc' := 98) (kI := 14) dX11_number_95 rfl fX11_76 z166 rfl (Or.inl rfl) rfl rfl ?_
          refine r_goto (tgt := 25) dX11_number_98 rfl ?_
          rw [if_pos (b01_ne c48)] at h
          refine ih (p + 1) (c + 1) _ _ _ (by omega) (by omega) ?_ ?_ (hR.pos (by omega) (by omega)) (fun m' g' a b e f => h m' g' a ((FrP.pos _ _).tr b) e f)
          · intro hc
            rw [if_pos (by omega)]
            have := h3 (by omega)
            omega
          · intro hc
            omega
