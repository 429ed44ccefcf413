def gpB (u : PV) (v : LV) (p f : Nat) : Bool := !(onN v).testBit f && (decide (gapA v p ≤ f) && decide (f < gapB u v p))
theorem gpB_t {u : PV} {v : LV} {p f : Nat} (hf : f < Pf u) (hp : p ≤ Ln v) (h1 : (onN v).testBit f = false) (h2 : p = 0 ∨ Lo v (p - 1) < f) (h3 : p = Ln v ∨ f < Lo v p) : gpB u v p f = true := by
  have a : gapA v p ≤ f := by unfold gapA; split <;> omega
  have b : f < gapB u v p := by unfold gapB; split <;> omega
  unfold gpB
  rw [h1, decide_eq_true a, decide_eq_true b]
  rfl
theorem gpB_f {u : PV} {v : LV} {p f : Nat} (hp : p ≤ Ln v) (h : (onN v).testBit f = true ∨ (p ≠ 0 ∧ f ≤ Lo v (p - 1)) ∨ (p ≠ Ln v ∧ Lo v p ≤ f)) : gpB u v p f = false := by
  unfold gpB
  rcases h with h | h | h
  · rw [h]; rfl
  · have a : ¬ gapA v p ≤ f := by unfold gapA; split <;> omega
    rw [decide_eq_false a, Bool.false_and, Bool.and_false]
  · have a : ¬ f < gapB u v p := by unfold gapB; split <;> omega
    rw [decide_eq_false a, Bool.and_false, Bool.and_false]
theorem gap_eq (u : PV) (v : LV) (p : Nat) (hF : Pf u ≤ 7) (hb : gapB u v p ≤ Pf u) : orF (gpB u v p) (fun f => 2 ^ f) (Pf u) 0 0 = gapQ u v p := by
  apply Nat.eq_of_testBit_eq
  intro i
  unfold gapQ offN
  rw [Nat.testBit_and, orF_bit, orF_bit, difN_bit, Nat.testBit_two_pow_sub_one, Nat.zero_testBit, Bool.false_or, Bool.false_or, Bool.and_true]
  unfold gpB
  by_cases h1 : i < Pf u
  · rw [decide_eq_true (show 0 ≤ i ∧ i < 0 + Pf u by omega), decide_eq_true h1, Bool.true_and, Bool.true_and]
    by_cases h2 : gapA v p ≤ i ∧ i < gapB u v p
    · rw [decide_eq_true (show gapA v p ≤ i ∧ i < gapA v p + (gapB u v p - gapA v p) by omega), decide_eq_true h2.1, decide_eq_true h2.2, Bool.true_and, Bool.and_true, Bool.true_and]
    · rw [decide_eq_false (show ¬ (gapA v p ≤ i ∧ i < gapA v p + (gapB u v p - gapA v p)) by omega), Bool.false_and]
      by_cases h3 : gapA v p ≤ i
      · rw [decide_eq_false (show ¬ i < gapB u v p by omega), Bool.and_false, Bool.and_false]
      · rw [decide_eq_false h3, Bool.false_and, Bool.and_false]
  · rw [decide_eq_false (show ¬ (0 ≤ i ∧ i < 0 + Pf u) by omega), Bool.false_and, decide_eq_false (show ¬ (gapA v p ≤ i ∧ i < gapA v p + (gapB u v p - gapA v p)) by omega), Bool.false_and]
theorem lm_gap {X : CX} {d : Nat} {g : Mem} {K : Int → Mem → Prop} {u : PV} {v : LV} (hB : MB g u v)  {p : Nat} (hpn : p ≤ Ln v) : ∀ (k f acc : Nat) (z : Option VV), f + k = Pf u → acc < 128 → K ((orF (gpB u v p) (fun f => 2 ^ f) k f acc : Nat) : Int) g → AJ X (d + 1) mX11_gap 0 0 (QI Z0 K) 0 0 27 [some (vr 166), some (vi (p : Int)), some (vi (acc : Int)), some (vi (onN v : Int)), some (vi (f : Int)), z] [] Z0 g := by
  obtain ⟨hQ, hU, hC, hW⟩ := id hB
  obtain ⟨hy, hi, hc, ht, ho, hf, hw_⟩ := id hC
  obtain ⟨w0, w1, w2, w3, w4, w5, w6, w7⟩ := id hW
  obtain ⟨p6, p7, p8, p9, p10, pk, pg, px, py⟩ := id hQ
  obtain ⟨u0, u1, u2, u3, u4, u5, u6, u7⟩ := id hU
  intro k
  induction k with
  | zero =>
    intro f acc z hf0 ha h
    refine r_iload (pc' := 29) dX11_gap_27 rfl rfl ?_
    refine r_aload_n (pc' := 30) dX11_gap_29 rfl rfl ?_
    refine r_getr (pc' := 33) dX11_gap_30 rfl fX11_13 z166 rfl ?_
    refine r_iconst (pc' := 34) dX11_gap_33 rfl ?_
    refine r_iaload (pc' := 35) dX11_gap_34 rfl z168 (by decide) (by omega) (by omega) p8 ?_
    refine r_icmp_ge (tgt := 118) (pc' := 38) dX11_gap_35 rfl rfl (by omega) (by omega) (fun c35 => ?_) (fun c35 => ?_)
    · refine r_iload_n (pc' := 119) dX11_gap_118 rfl rfl ?_
      refine r_reti dX11_gap_119 rfl (Or.inl rfl) ?_
      exact h
    · exact absurd c35 (by omega)
  | succ k ih =>
    intro f acc z hf0 ha h
    have e1 := shl1 (k := f) (by omega)
    have e2 := or_n ha (pow7 (show f < 7 by omega))
    have e3 := or_n ha (show 0 < 128 by decide)
    have e4 := or128 ha (pow7 (show f < 7 by omega))
    have o1 := onN_lt hW
    have b1 : ∀ q, q < Ln v → Lo v q < 7 := fun q hq => by have := w2 q hq; omega
    have b2 := b1 p
    have b3 := b1 (p - 1)
    unfold orF at h
    refine r_iload (pc' := 29) dX11_gap_27 rfl rfl ?_
    refine r_aload_n (pc' := 30) dX11_gap_29 rfl rfl ?_
    refine r_getr (pc' := 33) dX11_gap_30 rfl fX11_13 z166 rfl ?_
    refine r_iconst (pc' := 34) dX11_gap_33 rfl ?_
    refine r_iaload (pc' := 35) dX11_gap_34 rfl z168 (by decide) (by omega) (by omega) p8 ?_
    refine r_icmp_ge (tgt := 118) (pc' := 38) dX11_gap_35 rfl rfl (by omega) (by omega) (fun c35 => ?_) (fun c35 => ?_)
    · exact absurd c35 (by omega)
    · refine r_iload_n (pc' := 39) dX11_gap_38 rfl rfl ?_
      refine r_iload (pc' := 41) dX11_gap_39 rfl rfl ?_
      refine r_si2 (pc' := 44) dX11_gap_41 rfl qX11_has lX11_118 rfl rfl rfl (Nat.zero_le _) (Nat.zero_le _) (m_has o1 (by omega) ?_)
      refine r_if_ne (tgt := 93) (pc' := 47) dX11_gap_44 rfl rfl (b01_R _) (fun c44 => ?_) (fun c44 => ?_)
      · refine r_iconst (pc' := 94) dX11_gap_93 rfl ?_
        refine r_istore (pc' := 96) dX11_gap_94 rfl rfl ?_
        refine r_iload_n (pc' := 97) dX11_gap_96 rfl rfl ?_
        refine r_iload (pc' := 99) dX11_gap_97 rfl rfl ?_
        refine r_if_eq (tgt := 109) (pc' := 102) dX11_gap_99 rfl rfl (by decide) (fun c99 => ?_) (fun c99 => ?_)
        · refine r_iconst (pc' := 110) dX11_gap_109 rfl ?_
          refine r_ior (pc' := 111) dX11_gap_110 rfl ?_
          refine r_istore_n (pc' := 112) dX11_gap_111 rfl rfl ?_
          refine r_iinc (pc' := 115) dX11_gap_112 rfl rfl rfl ?_
          refine r_goto (tgt := 27) dX11_gap_115 rfl ?_
          first
            | exact absurd c99 (by decide)
            | exact absurd rfl c99
            | (have hg := gpB_t (u := u) (v := v) (p := p) (f := f) (by omega) hpn (b01_eq c44) (by omega) (by omega)
               rw [if_pos hg] at h
               rw [e1, e2]
               exact ih (f + 1) _ _ (by omega) e4 h)
            | (have hg : gpB u v p f = false := gpB_f hpn (by first | exact Or.inl (b01_ne c44) | omega)
               rw [hg, if_neg (by decide)] at h
               rw [show b_or (acc : Int) 0 = (acc : Int) from e3.trans (by rw [Nat.or_zero])]
               exact ih (f + 1) _ _ (by omega) ha h)
        · refine r_iconst (pc' := 103) dX11_gap_102 rfl ?_
          refine r_iload (pc' := 105) dX11_gap_103 rfl rfl ?_
          refine r_ishl (pc' := 106) dX11_gap_105 rfl ?_
          refine r_goto (tgt := 110) dX11_gap_106 rfl ?_
          refine r_ior (pc' := 111) dX11_gap_110 rfl ?_
          refine r_istore_n (pc' := 112) dX11_gap_111 rfl rfl ?_
          refine r_iinc (pc' := 115) dX11_gap_112 rfl rfl rfl ?_
          refine r_goto (tgt := 27) dX11_gap_115 rfl ?_
          first
            | exact absurd c99 (by decide)
            | exact absurd rfl c99
            | (have hg := gpB_t (u := u) (v := v) (p := p) (f := f) (by omega) hpn (b01_eq c44) (by omega) (by omega)
               rw [if_pos hg] at h
               rw [e1, e2]
               exact ih (f + 1) _ _ (by omega) e4 h)
            | (have hg : gpB u v p f = false := gpB_f hpn (by first | exact Or.inl (b01_ne c44) | omega)
               rw [hg, if_neg (by decide)] at h
               rw [show b_or (acc : Int) 0 = (acc : Int) from e3.trans (by rw [Nat.or_zero])]
               exact ih (f + 1) _ _ (by omega) ha h)
      · refine r_iload_n (pc' := 48) dX11_gap_47 rfl rfl ?_
        refine r_if_eq (tgt := 66) (pc' := 51) dX11_gap_48 rfl rfl (by omega) (fun c48 => ?_) (fun c48 => ?_)
        · refine r_iload_n (pc' := 67) dX11_gap_66 rfl rfl ?_
          refine r_aload_n (pc' := 68) dX11_gap_67 rfl rfl ?_
          refine r_getr (pc' := 71) dX11_gap_68 rfl fX11_19 z166 rfl ?_
          refine r_iconst (pc' := 72) dX11_gap_71 rfl ?_
          refine r_iaload (pc' := 73) dX11_gap_72 rfl z170 (by decide) (by omega) (by omega) hc ?_
          refine r_icmp_eq (tgt := 89) (pc' := 76) dX11_gap_73 rfl rfl (by omega) (by omega) (fun c73 => ?_) (fun c73 => ?_)
          · refine r_iconst (pc' := 90) dX11_gap_89 rfl ?_
            refine r_goto (tgt := 94) dX11_gap_90 rfl ?_
            refine r_istore (pc' := 96) dX11_gap_94 rfl rfl ?_
            refine r_iload_n (pc' := 97) dX11_gap_96 rfl rfl ?_
            refine r_iload (pc' := 99) dX11_gap_97 rfl rfl ?_
            refine r_if_eq (tgt := 109) (pc' := 102) dX11_gap_99 rfl rfl (by decide) (fun c99 => ?_) (fun c99 => ?_)
            · refine r_iconst (pc' := 110) dX11_gap_109 rfl ?_
              refine r_ior (pc' := 111) dX11_gap_110 rfl ?_
              refine r_istore_n (pc' := 112) dX11_gap_111 rfl rfl ?_
              refine r_iinc (pc' := 115) dX11_gap_112 rfl rfl rfl ?_
              refine r_goto (tgt := 27) dX11_gap_115 rfl ?_
              first
                | exact absurd c99 (by decide)
                | exact absurd rfl c99
                | (have hg := gpB_t (u := u) (v := v) (p := p) (f := f) (by omega) hpn (b01_eq c44) (by omega) (by omega)
                   rw [if_pos hg] at h
                   rw [e1, e2]
                   exact ih (f + 1) _ _ (by omega) e4 h)
                | (have hg : gpB u v p f = false := gpB_f hpn (by first | exact Or.inl (b01_ne c44) | omega)
                   rw [hg, if_neg (by decide)] at h
                   rw [show b_or (acc : Int) 0 = (acc : Int) from e3.trans (by rw [Nat.or_zero])]
                   exact ih (f + 1) _ _ (by omega) ha h)
            · refine r_iconst (pc' := 103) dX11_gap_102 rfl ?_
              refine r_iload (pc' := 105) dX11_gap_103 rfl rfl ?_
              refine r_ishl (pc' := 106) dX11_gap_105 rfl ?_
              refine r_goto (tgt := 110) dX11_gap_106 rfl ?_
              refine r_ior (pc' := 111) dX11_gap_110 rfl ?_
              refine r_istore_n (pc' := 112) dX11_gap_111 rfl rfl ?_
              refine r_iinc (pc' := 115) dX11_gap_112 rfl rfl rfl ?_
              refine r_goto (tgt := 27) dX11_gap_115 rfl ?_
              first
                | exact absurd c99 (by decide)
                | exact absurd rfl c99
                | (have hg := gpB_t (u := u) (v := v) (p := p) (f := f) (by omega) hpn (b01_eq c44) (by omega) (by omega)
                   rw [if_pos hg] at h
                   rw [e1, e2]
                   exact ih (f + 1) _ _ (by omega) e4 h)
                | (have hg : gpB u v p f = false := gpB_f hpn (by first | exact Or.inl (b01_ne c44) | omega)
                   rw [hg, if_neg (by decide)] at h
                   rw [show b_or (acc : Int) 0 = (acc : Int) from e3.trans (by rw [Nat.or_zero])]
                   exact ih (f + 1) _ _ (by omega) ha h)
          · refine r_iload (pc' := 78) dX11_gap_76 rfl rfl ?_
            refine r_aload_n (pc' := 79) dX11_gap_78 rfl rfl ?_
            refine r_getr (pc' := 82) dX11_gap_79 rfl fX11_19 z166 rfl ?_
            refine r_iconst (pc' := 83) dX11_gap_82 rfl ?_
            refine r_iload_n (pc' := 84) dX11_gap_83 rfl rfl ?_
            refine r_iadd (pc' := 85) dX11_gap_84 rfl ?_
            refine r_iaload (pc' := 86) (x := (Lo v p : Int)) dX11_gap_85 rfl z170 (by decide) (by omega) (by omega) (ho p (by omega)) ?_
            refine r_icmp_ge (tgt := 93) (pc' := 89) dX11_gap_86 rfl rfl (by omega) (by omega) (fun c86 => ?_) (fun c86 => ?_)
            · refine r_iconst (pc' := 94) dX11_gap_93 rfl ?_
              refine r_istore (pc' := 96) dX11_gap_94 rfl rfl ?_
              refine r_iload_n (pc' := 97) dX11_gap_96 rfl rfl ?_
              refine r_iload (pc' := 99) dX11_gap_97 rfl rfl ?_
              refine r_if_eq (tgt := 109) (pc' := 102) dX11_gap_99 rfl rfl (by decide) (fun c99 => ?_) (fun c99 => ?_)
              · refine r_iconst (pc' := 110) dX11_gap_109 rfl ?_
                refine r_ior (pc' := 111) dX11_gap_110 rfl ?_
                refine r_istore_n (pc' := 112) dX11_gap_111 rfl rfl ?_
                refine r_iinc (pc' := 115) dX11_gap_112 rfl rfl rfl ?_
                refine r_goto (tgt := 27) dX11_gap_115 rfl ?_
                first
                  | exact absurd c99 (by decide)
                  | exact absurd rfl c99
                  | (have hg := gpB_t (u := u) (v := v) (p := p) (f := f) (by omega) hpn (b01_eq c44) (by omega) (by omega)
                     rw [if_pos hg] at h
                     rw [e1, e2]
                     exact ih (f + 1) _ _ (by omega) e4 h)
                  | (have hg : gpB u v p f = false := gpB_f hpn (by first | exact Or.inl (b01_ne c44) | omega)
                     rw [hg, if_neg (by decide)] at h
                     rw [show b_or (acc : Int) 0 = (acc : Int) from e3.trans (by rw [Nat.or_zero])]
                     exact ih (f + 1) _ _ (by omega) ha h)
              · refine r_iconst (pc' := 103) dX11_gap_102 rfl ?_
                refine r_iload (pc' := 105) dX11_gap_103 rfl rfl ?_
                refine r_ishl (pc' := 106) dX11_gap_105 rfl ?_
                refine r_goto (tgt := 110) dX11_gap_106 rfl ?_
                refine r_ior (pc' := 111) dX11_gap_110 rfl ?_
                refine r_istore_n (pc' := 112) dX11_gap_111 rfl rfl ?_
                refine r_iinc (pc' := 115) dX11_gap_112 rfl rfl rfl ?_
                refine r_goto (tgt := 27) dX11_gap_115 rfl ?_
                first
                  | exact absurd c99 (by decide)
                  | exact absurd rfl c99
                  | (have hg := gpB_t (u := u) (v := v) (p := p) (f := f) (by omega) hpn (b01_eq c44) (by omega) (by omega)
                     rw [if_pos hg] at h
                     rw [e1, e2]
                     exact ih (f + 1) _ _ (by omega) e4 h)
                  | (have hg : gpB u v p f = false := gpB_f hpn (by first | exact Or.inl (b01_ne c44) | omega)
                     rw [hg, if_neg (by decide)] at h
                     rw [show b_or (acc : Int) 0 = (acc : Int) from e3.trans (by rw [Nat.or_zero])]
                     exact ih (f + 1) _ _ (by omega) ha h)
            · refine r_iconst (pc' := 90) dX11_gap_89 rfl ?_
              refine r_goto (tgt := 94) dX11_gap_90 rfl ?_
              refine r_istore (pc' := 96) dX11_gap_94 rfl rfl ?_
              refine r_iload_n (pc' := 97) dX11_gap_96 rfl rfl ?_
              refine r_iload (pc' := 99) dX11_gap_97 rfl rfl ?_
              refine r_if_eq (tgt := 109) (pc' := 102) dX11_gap_99 rfl rfl (by decide) (fun c99 => ?_) (fun c99 => ?_)
              · refine r_iconst (pc' := 110) dX11_gap_109 rfl ?_
                refine r_ior (pc' := 111) dX11_gap_110 rfl ?_
                refine r_istore_n (pc' := 112) dX11_gap_111 rfl rfl ?_
                refine r_iinc (pc' := 115) dX11_gap_112 rfl rfl rfl ?_
                refine r_goto (tgt := 27) dX11_gap_115 rfl ?_
                first
                  | exact absurd c99 (by decide)
                  | exact absurd rfl c99
                  | (have hg := gpB_t (u := u) (v := v) (p := p) (f := f) (by omega) hpn (b01_eq c44) (by omega) (by omega)
                     rw [if_pos hg] at h
                     rw [e1, e2]
                     exact ih (f + 1) _ _ (by omega) e4 h)
                  | (have hg : gpB u v p f = false := gpB_f hpn (by first | exact Or.inl (b01_ne c44) | omega)
                     rw [hg, if_neg (by decide)] at h
                     rw [show b_or (acc : Int) 0 = (acc : Int) from e3.trans (by rw [Nat.or_zero])]
                     exact ih (f + 1) _ _ (by omega) ha h)
              · refine r_iconst (pc' := 103) dX11_gap_102 rfl ?_
                refine r_iload (pc' := 105) dX11_gap_103 rfl rfl ?_
                refine r_ishl (pc' := 106) dX11_gap_105 rfl ?_
                refine r_goto (tgt := 110) dX11_gap_106 rfl ?_
                refine r_ior (pc' := 111) dX11_gap_110 rfl ?_
                refine r_istore_n (pc' := 112) dX11_gap_111 rfl rfl ?_
                refine r_iinc (pc' := 115) dX11_gap_112 rfl rfl rfl ?_
                refine r_goto (tgt := 27) dX11_gap_115 rfl ?_
                first
                  | exact absurd c99 (by decide)
                  | exact absurd rfl c99
                  | (have hg := gpB_t (u := u) (v := v) (p := p) (f := f) (by omega) hpn (b01_eq c44) (by omega) (by omega)
                     rw [if_pos hg] at h
                     rw [e1, e2]
                     exact ih (f + 1) _ _ (by omega) e4 h)
                  | (have hg : gpB u v p f = false := gpB_f hpn (by first | exact Or.inl (b01_ne c44) | omega)
                     rw [hg, if_neg (by decide)] at h
                     rw [show b_or (acc : Int) 0 = (acc : Int) from e3.trans (by rw [Nat.or_zero])]
                     exact ih (f + 1) _ _ (by omega) ha h)
        · refine r_aload_n (pc' := 52) dX11_gap_51 rfl rfl ?_
          refine r_getr (pc' := 55) dX11_gap_52 rfl fX11_19 z166 rfl ?_
          refine r_iconst (pc' := 56) dX11_gap_55 rfl ?_
          refine r_iload_n (pc' := 57) dX11_gap_56 rfl rfl ?_
          refine r_iadd (pc' := 58) dX11_gap_57 rfl ?_
          refine r_iconst (pc' := 59) dX11_gap_58 rfl ?_
          refine r_isub (pc' := 60) dX11_gap_59 rfl ?_
          refine r_iaload (pc' := 61) (x := (Lo v (p - 1) : Int)) dX11_gap_60 rfl z170 (by decide) (by omega) (by omega) (by have q := ho (p - 1) (by omega); rw [show (4 : Int) + ((p - 1 : Nat) : Int) = 4 + (p : Int) - 1 by omega] at q; exact q) ?_
          refine r_iload (pc' := 63) dX11_gap_61 rfl rfl ?_
          refine r_icmp_ge (tgt := 93) (pc' := 66) dX11_gap_63 rfl rfl (by omega) (by omega) (fun c63 => ?_) (fun c63 => ?_)
          · refine r_iconst (pc' := 94) dX11_gap_93 rfl ?_
            refine r_istore (pc' := 96) dX11_gap_94 rfl rfl ?_
            refine r_iload_n (pc' := 97) dX11_gap_96 rfl rfl ?_
            refine r_iload (pc' := 99) dX11_gap_97 rfl rfl ?_
            refine r_if_eq (tgt := 109) (pc' := 102) dX11_gap_99 rfl rfl (by decide) (fun c99 => ?_) (fun c99 => ?_)
            · refine r_iconst (pc' := 110) dX11_gap_109 rfl ?_
              refine r_ior (pc' := 111) dX11_gap_110 rfl ?_
              refine r_istore_n (pc' := 112) dX11_gap_111 rfl rfl ?_
              refine r_iinc (pc' := 115) dX11_gap_112 rfl rfl rfl ?_
              refine r_goto (tgt := 27) dX11_gap_115 rfl ?_
              first
                | exact absurd c99 (by decide)
                | exact absurd rfl c99
                | (have hg := gpB_t (u := u) (v := v) (p := p) (f := f) (by omega) hpn (b01_eq c44) (by omega) (by omega)
                   rw [if_pos hg] at h
                   rw [e1, e2]
                   exact ih (f + 1) _ _ (by omega) e4 h)
                | (have hg : gpB u v p f = false := gpB_f hpn (by first | exact Or.inl (b01_ne c44) | omega)
                   rw [hg, if_neg (by decide)] at h
                   rw [show b_or (acc : Int) 0 = (acc : Int) from e3.trans (by rw [Nat.or_zero])]
                   exact ih (f + 1) _ _ (by omega) ha h)
            · refine r_iconst (pc' := 103) dX11_gap_102 rfl ?_
              refine r_iload (pc' := 105) dX11_gap_103 rfl rfl ?_
              refine r_ishl (pc' := 106) dX11_gap_105 rfl ?_
              refine r_goto (tgt := 110) dX11_gap_106 rfl ?_
              refine r_ior (pc' := 111) dX11_gap_110 rfl ?_
              refine r_istore_n (pc' := 112) dX11_gap_111 rfl rfl ?_
              refine r_iinc (pc' := 115) dX11_gap_112 rfl rfl rfl ?_
              refine r_goto (tgt := 27) dX11_gap_115 rfl ?_
              first
                | exact absurd c99 (by decide)
                | exact absurd rfl c99
                | (have hg := gpB_t (u := u) (v := v) (p := p) (f := f) (by omega) hpn (b01_eq c44) (by omega) (by omega)
                   rw [if_pos hg] at h
                   rw [e1, e2]
                   exact ih (f + 1) _ _ (by omega) e4 h)
                | (have hg : gpB u v p f = false := gpB_f hpn (by first | exact Or.inl (b01_ne c44) | omega)
                   rw [hg, if_neg (by decide)] at h
                   rw [show b_or (acc : Int) 0 = (acc : Int) from e3.trans (by rw [Nat.or_zero])]
                   exact ih (f + 1) _ _ (by omega) ha h)
          · refine r_iload_n (pc' := 67) dX11_gap_66 rfl rfl ?_
            refine r_aload_n (pc' := 68) dX11_gap_67 rfl rfl ?_
            refine r_getr (pc' := 71) dX11_gap_68 rfl fX11_19 z166 rfl ?_
            refine r_iconst (pc' := 72) dX11_gap_71 rfl ?_
            refine r_iaload (pc' := 73) dX11_gap_72 rfl z170 (by decide) (by omega) (by omega) hc ?_
            refine r_icmp_eq (tgt := 89) (pc' := 76) dX11_gap_73 rfl rfl (by omega) (by omega) (fun c73 => ?_) (fun c73 => ?_)
            · refine r_iconst (pc' := 90) dX11_gap_89 rfl ?_
              refine r_goto (tgt := 94) dX11_gap_90 rfl ?_
              refine r_istore (pc' := 96) dX11_gap_94 rfl rfl ?_
              refine r_iload_n (pc' := 97) dX11_gap_96 rfl rfl ?_
              refine r_iload (pc' := 99) dX11_gap_97 rfl rfl ?_
              refine r_if_eq (tgt := 109) (pc' := 102) dX11_gap_99 rfl rfl (by decide) (fun c99 => ?_) (fun c99 => ?_)
              · refine r_iconst (pc' := 110) dX11_gap_109 rfl ?_
                refine r_ior (pc' := 111) dX11_gap_110 rfl ?_
                refine r_istore_n (pc' := 112) dX11_gap_111 rfl rfl ?_
                refine r_iinc (pc' := 115) dX11_gap_112 rfl rfl rfl ?_
                refine r_goto (tgt := 27) dX11_gap_115 rfl ?_
                first
                  | exact absurd c99 (by decide)
                  | exact absurd rfl c99
                  | (have hg := gpB_t (u := u) (v := v) (p := p) (f := f) (by omega) hpn (b01_eq c44) (by omega) (by omega)
                     rw [if_pos hg] at h
                     rw [e1, e2]
                     exact ih (f + 1) _ _ (by omega) e4 h)
                  | (have hg : gpB u v p f = false := gpB_f hpn (by first | exact Or.inl (b01_ne c44) | omega)
                     rw [hg, if_neg (by decide)] at h
                     rw [show b_or (acc : Int) 0 = (acc : Int) from e3.trans (by rw [Nat.or_zero])]
                     exact ih (f + 1) _ _ (by omega) ha h)
              · refine r_iconst (pc' := 103) dX11_gap_102 rfl ?_
                refine r_iload (pc' := 105) dX11_gap_103 rfl rfl ?_
                refine r_ishl (pc' := 106) dX11_gap_105 rfl ?_
                refine r_goto (tgt := 110) dX11_gap_106 rfl ?_
                refine r_ior (pc' := 111) dX11_gap_110 rfl ?_
                refine r_istore_n (pc' := 112) dX11_gap_111 rfl rfl ?_
                refine r_iinc (pc' := 115) dX11_gap_112 rfl rfl rfl ?_
                refine r_goto (tgt := 27) dX11_gap_115 rfl ?_
                first
                  | exact absurd c99 (by decide)
                  | exact absurd rfl c99
                  | (have hg := gpB_t (u := u) (v := v) (p := p) (f := f) (by omega) hpn (b01_eq c44) (by omega) (by omega)
                     rw [if_pos hg] at h
                     rw [e1, e2]
                     exact ih (f + 1) _ _ (by omega) e4 h)
                  | (have hg : gpB u v p f = false := gpB_f hpn (by first | exact Or.inl (b01_ne c44) | omega)
                     rw [hg, if_neg (by decide)] at h
                     rw [show b_or (acc : Int) 0 = (acc : Int) from e3.trans (by rw [Nat.or_zero])]
                     exact ih (f + 1) _ _ (by omega) ha h)
            · refine r_iload (pc' := 78) dX11_gap_76 rfl rfl ?_
              refine r_aload_n (pc' := 79) dX11_gap_78 rfl rfl ?_
              refine r_getr (pc' := 82) dX11_gap_79 rfl fX11_19 z166 rfl ?_
              refine r_iconst (pc' := 83) dX11_gap_82 rfl ?_
              refine r_iload_n (pc' := 84) dX11_gap_83 rfl rfl ?_
              refine r_iadd (pc' := 85) dX11_gap_84 rfl ?_
              refine r_iaload (pc' := 86) (x := (Lo v p : Int)) dX11_gap_85 rfl z170 (by decide) (by omega) (by omega) (ho p (by omega)) ?_
              refine r_icmp_ge (tgt := 93) (pc' := 89) dX11_gap_86 rfl rfl (by omega) (by omega) (fun c86 => ?_) (fun c86 => ?_)
              · refine r_iconst (pc' := 94) dX11_gap_93 rfl ?_
                refine r_istore (pc' := 96) dX11_gap_94 rfl rfl ?_
                refine r_iload_n (pc' := 97) dX11_gap_96 rfl rfl ?_
                refine r_iload (pc' := 99) dX11_gap_97 rfl rfl ?_
                refine r_if_eq (tgt := 109) (pc' := 102) dX11_gap_99 rfl rfl (by decide) (fun c99 => ?_) (fun c99 => ?_)
                · refine r_iconst (pc' := 110) dX11_gap_109 rfl ?_
                  refine r_ior (pc' := 111) dX11_gap_110 rfl ?_
                  refine r_istore_n (pc' := 112) dX11_gap_111 rfl rfl ?_
                  refine r_iinc (pc' := 115) dX11_gap_112 rfl rfl rfl ?_
                  refine r_goto (tgt := 27) dX11_gap_115 rfl ?_
                  first
                    | exact absurd c99 (by decide)
                    | exact absurd rfl c99
                    | (have hg := gpB_t (u := u) (v := v) (p := p) (f := f) (by omega) hpn (b01_eq c44) (by omega) (by omega)
                       rw [if_pos hg] at h
                       rw [e1, e2]
                       exact ih (f + 1) _ _ (by omega) e4 h)
                    | (have hg : gpB u v p f = false := gpB_f hpn (by first | exact Or.inl (b01_ne c44) | omega)
                       rw [hg, if_neg (by decide)] at h
                       rw [show b_or (acc : Int) 0 = (acc : Int) from e3.trans (by rw [Nat.or_zero])]
                       exact ih (f + 1) _ _ (by omega) ha h)
                · refine r_iconst (pc' := 103) dX11_gap_102 rfl ?_
                  refine r_iload (pc' := 105) dX11_gap_103 rfl rfl ?_
                  refine r_ishl (pc' := 106) dX11_gap_105 rfl ?_
                  refine r_goto (tgt := 110) dX11_gap_106 rfl ?_
                  refine r_ior (pc' := 111) dX11_gap_110 rfl ?_
                  refine r_istore_n (pc' := 112) dX11_gap_111 rfl rfl ?_
                  refine r_iinc (pc' := 115) dX11_gap_112 rfl rfl rfl ?_
                  refine r_goto (tgt := 27) dX11_gap_115 rfl ?_
                  first
                    | exact absurd c99 (by decide)
                    | exact absurd rfl c99
                    | (have hg := gpB_t (u := u) (v := v) (p := p) (f := f) (by omega) hpn (b01_eq c44) (by omega) (by omega)
                       rw [if_pos hg] at h
                       rw [e1, e2]
                       exact ih (f + 1) _ _ (by omega) e4 h)
                    | (have hg : gpB u v p f = false := gpB_f hpn (by first | exact Or.inl (b01_ne c44) | omega)
                       rw [hg, if_neg (by decide)] at h
                       rw [show b_or (acc : Int) 0 = (acc : Int) from e3.trans (by rw [Nat.or_zero])]
                       exact ih (f + 1) _ _ (by omega) ha h)
              · refine r_iconst (pc' := 90) dX11_gap_89 rfl ?_
                refine r_goto (tgt := 94) dX11_gap_90 rfl ?_
                refine r_istore (pc' := 96) dX11_gap_94 rfl rfl ?_
                refine r_iload_n (pc' := 97) dX11_gap_96 rfl rfl ?_
                refine r_iload (pc' := 99) dX11_gap_97 rfl rfl ?_
                refine r_if_eq (tgt := 109) (pc' := 102) dX11_gap_99 rfl rfl (by decide) (fun c99 => ?_) (fun c99 => ?_)
                · refine r_iconst (pc' := 110) dX11_gap_109 rfl ?_
                  refine r_ior (pc' := 111) dX11_gap_110 rfl ?_
                  refine r_istore_n (pc' := 112) dX11_gap_111 rfl rfl ?_
                  refine r_iinc (pc' := 115) dX11_gap_112 rfl rfl rfl ?_
                  refine r_goto (tgt := 27) dX11_gap_115 rfl ?_
                  first
                    | exact absurd c99 (by decide)
                    | exact absurd rfl c99
                    | (have hg := gpB_t (u := u) (v := v) (p := p) (f := f) (by omega) hpn (b01_eq c44) (by omega) (by omega)
                       rw [if_pos hg] at h
                       rw [e1, e2]
                       exact ih (f + 1) _ _ (by omega) e4 h)
                    | (have hg : gpB u v p f = false := gpB_f hpn (by first | exact Or.inl (b01_ne c44) | omega)
                       rw [hg, if_neg (by decide)] at h
                       rw [show b_or (acc : Int) 0 = (acc : Int) from e3.trans (by rw [Nat.or_zero])]
                       exact ih (f + 1) _ _ (by omega) ha h)
                · refine r_iconst (pc' := 103) dX11_gap_102 rfl ?_
                  refine r_iload (pc' := 105) dX11_gap_103 rfl rfl ?_
                  refine r_ishl (pc' := 106) dX11_gap_105 rfl ?_
                  refine r_goto (tgt := 110) dX11_gap_106 rfl ?_
                  refine r_ior (pc' := 111) dX11_gap_110 rfl ?_
                  refine r_istore_n (pc' := 112) dX11_gap_111 rfl rfl ?_
                  refine r_iinc (pc' := 115) dX11_gap_112 rfl rfl rfl ?_
                  refine r_goto (tgt := 27) dX11_gap_115 rfl ?_
                  first
                    | exact absurd c99 (by decide)
                    | exact absurd rfl c99
                    | (have hg := gpB_t (u := u) (v := v) (p := p) (f := f) (by omega) hpn (b01_eq c44) (by omega) (by omega)
                       rw [if_pos hg] at h
                       rw [e1, e2]
                       exact ih (f + 1) _ _ (by omega) e4 h)
                    | (have hg : gpB u v p f = false := gpB_f hpn (by first | exact Or.inl (b01_ne c44) | omega)
                       rw [hg, if_neg (by decide)] at h
                       rw [show b_or (acc : Int) 0 = (acc : Int) from e3.trans (by rw [Nat.or_zero])]
                       exact ih (f + 1) _ _ (by omega) ha h)
theorem M_gap {X : CX} {d : Nat} {g : Mem} {K : Int → Mem → Prop} {tN : Nat} {tX : Nat → Int} {flt : Int} {u : PV} {v : LV} {kn : Nat} {kL : Nat → LV} {im : Nat → Bool × Int × LV} {sd : Int} {ln : Nat} {la : Nat → Nat} {lr : Nat → Bool} {bn : Nat} {bp : Nat → Nat} {bf : Nat → Int} (hM : MS g tN tX flt u v kn kL im sd ln la lr bn bp bf) (hS : WS tN tX flt u v kn kL im sd ln la lr bn bp bf) (p : Int) (hp : R32 p) (h : ∀ g' : Mem, MS g' tN tX flt u v kn kL im sd ln la lr bn bp bf → FrM g g' → K (E_gap u v p) g') : EI X (d + 1) mX11_gap [vr 166, vi p] Z0 g K := by
  show AJ X (d + 1) mX11_gap 0 0 (QI Z0 K) 0 0 0 [some (vr 166), some (vi p), none, none, none, none] [] Z0 g
  obtain ⟨⟨m1, m2⟩, m3, m4, m5, ⟨m6, m7⟩, m8, m9, ⟨m10, m11⟩, ⟨m12, m13⟩⟩ := id hM
  obtain ⟨⟨s1, s2⟩, s3, s4, s5, ⟨s6, s7⟩, s8, ⟨s9, s10⟩, ⟨s11, s12⟩, ⟨s13, s14⟩⟩ := id hS
  have hB : MB g u v := ⟨m4, s4, m5, s5⟩
  obtain ⟨hQ, hU, hC, hW⟩ := id hB
  obtain ⟨hy, hi, hc, ht, ho, hf, hw_⟩ := id hC
  obtain ⟨w0, w1, w2, w3, w4, w5, w6, w7⟩ := id hW
  obtain ⟨p6, p7, p8, p9, p10, pk, pg, px, py⟩ := id hQ
  obtain ⟨u0, u1, u2, u3, u4, u5, u6, u7⟩ := id hU
  have h9 := h g hM (FrM.rf g)
  unfold E_gap at h9
  refine r_iload_n (pc' := 1) dX11_gap_0 rfl rfl ?_
  refine r_iconst (pc' := 2) dX11_gap_1 rfl ?_
  refine r_aload_n (pc' := 3) dX11_gap_2 rfl rfl ?_
  refine r_getr (pc' := 6) dX11_gap_3 rfl fX11_19 z166 rfl ?_
  refine r_iconst (pc' := 7) dX11_gap_6 rfl ?_
  refine r_iaload (pc' := 8) dX11_gap_7 rfl z170 (by decide) (by omega) (by omega) hc ?_
  refine r_si3 (pc' := 11) dX11_gap_8 rfl qX11_in lX11_67 rfl rfl rfl (Nat.zero_le _) (Nat.zero_le _) (m_in p 0 (Ln v : Int) (by omega) (by omega) (by omega) ?_)
  refine r_if_ne (tgt := 17) (pc' := 14) dX11_gap_11 rfl rfl (b01_R _) (fun c11 => ?_) (fun c11 => ?_)
  · have hd := of_decide_eq_true (b01_ne c11)
    obtain ⟨pN_, rfl⟩ : ∃ pN_ : Nat, p = (pN_ : Int) := ⟨p.toNat, by omega⟩
    rw [if_pos hd] at h9
    refine r_iconst (pc' := 18) dX11_gap_17 rfl ?_
    refine r_istore_n (pc' := 19) dX11_gap_18 rfl rfl ?_
    refine r_aload_n (pc' := 20) dX11_gap_19 rfl rfl ?_
    refine r_vi0 (pc' := 23) dX11_gap_20 rfl qX11_onIt lX11_135 z166 rfl rfl rfl (Nat.zero_le _) (Nat.zero_le _) (m_onIt hB ?_)
    refine r_istore_n (pc' := 24) dX11_gap_23 rfl rfl ?_
    refine r_iconst (pc' := 25) dX11_gap_24 rfl ?_
    refine r_istore (pc' := 27) dX11_gap_25 rfl rfl ?_
    have hgb : gapB u v pN_ ≤ Pf u := by
      unfold gapB
      split
      · have := w2 pN_ (by assumption); omega
      · omega
    exact lm_gap hB (p := pN_) (by omega) (Pf u) 0 0 none (by omega) (by decide) (by rw [gap_eq u v pN_ u2 hgb]; exact h9)
  · have hd := of_decide_eq_false (b01_eq c11)
    rw [if_neg hd] at h9
    refine r_ldc (z := -1000000002) (pc' := 16) dX11_gap_14 rfl kX11_71 ?_
    refine r_reti dX11_gap_16 rfl (Or.inl rfl) ?_
    exact h9
