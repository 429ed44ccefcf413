theorem nlF_b {g : Mem} {N : Nat} {T : Nat → Int} {p0 : Nat} (hR : MRd g N T p0) : ∀ (k p c : Nat) (x : Int), N - p = k → 0 ≤ x → (c = 0 → x ≤ 0) → (c = 1 → x ≤ 9) → (c = 2 → x ≤ 99) → x ≤ 999 → 0 ≤ (nlF T k p c x).2 ∧ (nlF T k p c x).2 ≤ 999
  | 0, p, c, x, _, h0, _, _, _, h9 => ⟨h0, h9⟩
  | k + 1, p, c, x, hk, h0, a, b, e, h9 => by
    unfold nlF
    split
    · rename_i hf
      have hf1 : 48 ≤ T p ∧ T p ≤ 57 := of_decide_eq_true hf
      split
      · exact nlF_b hR k (p + 1) (c + 1) _ (by omega) (by omega) (by omega) (by omega) (by omega) (by omega)
      · exact nlF_b hR k (p + 1) (c + 1) _ (by omega) (by omega) (by omega) (by omega) (by omega) (by omega)
    · exact ⟨h0, h9⟩
theorem m_number {X : CX} {d : Nat} {g : Mem} {K : Int → Mem → Prop} {N : Nat} {T : Nat → Int} {p : Nat} (hR : MRd g N T p) {pl lo hi : Int} (hp0 : 0 ≤ pl) (hp1 : pl < 53) (hlo : R32 lo) (hhi : R32 hi) (h1 : (numR N T lo hi p (0, -1)).2.2.1 = 0 → ∀ g' : Mem, MRd g' N T (numR N T lo hi p (0, -1)).2.1 → FrP g g' → K 1 (mu g' 169 pl (numR N T lo hi p (0, -1)).1)) (h0 : (numR N T lo hi p (0, -1)).2.2.1 ≠ 0 → ∀ q : Nat, (q : Int) = (numR N T lo hi p (0, -1)).2.2.2 → ∀ g' : Mem, MRd g' N T q → g' 166 16 = ((numR N T lo hi p (0, -1)).2.2.1 : Int) → FrP g g' → K 0 g') : EI X (d + 2) mX11_number [vr 166, vi pl, vi lo, vi hi] Z0 g K := by
  show AJ X (d + 2) mX11_number 0 0 (QI Z0 K) 0 0 0 [some (vr 166), some (vi pl), some (vi lo), some (vi hi), none, none] [] Z0 g
  have hr9 := hR.2.1
  refine r_aload_n (pc' := 1) dX11_number_0 rfl rfl ?_
  refine r_vi0 (pc' := 4) dX11_number_1 rfl qX11_next0 lX11_82 z166 rfl rfl rfl (Nat.zero_le _) (Nat.zero_le _) (m_next0 hR (fun g1 hR1 fr1 => ?_))
  have hq := hR1.2.2.2.2
  refine r_si1 (pc' := 7) dX11_number_4 rfl qX11_isFigure lX11_86 rfl rfl rfl (Nat.zero_le _) (Nat.zero_le _) (m_fig _ (hereT_M hR1 _).1 ?_)
  refine r_if_ne (tgt := 16) (pc' := 10) dX11_number_7 rfl rfl (b01_R _) (fun c7 => ?_) (fun c7 => ?_)
  · refine r_aload_n (pc' := 17) dX11_number_16 rfl rfl ?_
    refine r_getf (pc' := 20) (kI := 14) dX11_number_17 rfl fX11_76 z166 rfl rfl hR1.2.2.2.1 ?_
    refine r_istore (pc' := 22) dX11_number_20 rfl rfl ?_
    refine r_iconst (pc' := 23) dX11_number_22 rfl ?_
    refine r_istore (pc' := 25) dX11_number_23 rfl rfl ?_
    refine lm_number (p1 := skT N T p) (N - skT N T p) (skT N T p) 0 0 0 g1 rfl rfl (fun _ => rfl) (fun q => absurd q (by decide)) hR1 (fun m' g2 hR2 fr2 ha hb => ?_)
    have hle := hR2.2.2.2.2
    have hnl := nlF_le T (N - skT N T p) (skT N T p) 0 0
    have hxb := nlF_b hR1 (N - skT N T p) (skT N T p) 0 0 rfl (by decide) (by omega) (by omega) (by omega) (by decide)
    have hm9 : 0 ≤ m' ∧ m' ≤ 1000 := by
      by_cases q : (nlF T (N - skT N T p) (skT N T p) 0 0).1 - skT N T p ≤ 3
      · rw [ha q]; omega
      · rw [hb (by omega)]; omega
    refine r_aload_n (pc' := 102) dX11_number_101 rfl rfl ?_
    refine r_getf (pc' := 105) (kI := 14) dX11_number_102 rfl fX11_76 z166 rfl rfl hR2.2.2.2.1 ?_
    refine r_iload (pc' := 107) dX11_number_105 rfl rfl ?_
    refine r_isub (pc' := 108) dX11_number_107 rfl ?_
    refine r_iconst (pc' := 109) dX11_number_108 rfl ?_
    refine r_icmp_gt (tgt := 122) (pc' := 112) dX11_number_109 rfl rfl (by omega) (by omega) (fun c109 => ?_) (fun c109 => ?_)
    · refine r_aload_n (pc' := 123) dX11_number_122 rfl rfl ?_
      refine r_iload (pc' := 125) dX11_number_123 rfl rfl ?_
      refine r_putf (pc' := 128) (kI := 14) dX11_number_125 rfl fX11_76 z166 rfl (Or.inl rfl) rfl rfl ?_
      refine r_aload_n (pc' := 129) dX11_number_128 rfl rfl ?_
      refine r_iconst (pc' := 130) dX11_number_129 rfl ?_
      refine r_vi1 (pc' := 133) dX11_number_130 rfl qX11_faulty lX11_90 z166 rfl rfl rfl rfl (Nat.zero_le _) (Nat.zero_le _) (m_faulty 2 ?_)
      refine r_reti dX11_number_133 rfl (Or.inr ⟨rfl, by first | exact Or.inl rfl | exact Or.inr rfl | omega⟩) ?_
      have e : (numR N T lo hi p (0, -1)) = (lo, (nlF T (N - skT N T p) (skT N T p) 0 0).1, (2, (skT N T p : Int))) := by unfold numR nuS nuR; rw [if_pos (b01_ne c7), if_pos (by omega)]; rfl
      refine h0 (by rw [e]; show (2 : Nat) ≠ 0; decide) (skT N T p) (by rw [e]) _ ((hR2.pos (by omega) (by omega)).wrong 2) (by rw [mu_at, e]; rfl) (fr1.tr (fr2.tr ((FrP.pos _ _).tr (FrP.wrong _ _))))
    · have hm2 := ha (by omega)
      refine r_iload (pc' := 114) dX11_number_112 rfl rfl ?_
      refine r_iload_n (pc' := 115) dX11_number_114 rfl rfl ?_
      refine r_iload_n (pc' := 116) dX11_number_115 rfl rfl ?_
      refine r_si3 (pc' := 119) dX11_number_116 rfl qX11_in lX11_67 rfl rfl rfl (Nat.zero_le _) (Nat.zero_le _) (m_in m' lo hi (by omega) hlo hhi ?_)
      refine r_if_ne (tgt := 134) (pc' := 122) dX11_number_119 rfl rfl (b01_R _) (fun c119 => ?_) (fun c119 => ?_)
      · have hd := of_decide_eq_true (b01_ne c119)
        refine r_aload_n (pc' := 135) dX11_number_134 rfl rfl ?_
        refine r_getr (pc' := 138) dX11_number_135 rfl fX11_16 z166 rfl ?_
        refine r_iload_n (pc' := 139) dX11_number_138 rfl rfl ?_
        refine r_iload (pc' := 141) dX11_number_139 rfl rfl ?_
        refine r_iastore (pc' := 142) dX11_number_141 rfl z169 (by decide) (by omega) (by omega) rfl ?_
        refine r_iconst (pc' := 143) dX11_number_142 rfl ?_
        refine r_reti dX11_number_143 rfl (Or.inr ⟨rfl, by first | exact Or.inl rfl | exact Or.inr rfl | omega⟩) ?_
        have e : (numR N T lo hi p (0, -1)) = ((nlF T (N - skT N T p) (skT N T p) 0 0).2, (nlF T (N - skT N T p) (skT N T p) 0 0).1, (0, -1)) := by unfold numR nuS nuR; rw [if_pos (b01_ne c7), if_neg (by omega)]
        rw [hm2]
        have h9 := h1 (by rw [e]) g2
        rw [e] at h9
        exact h9 hR2 (fr1.tr fr2)
      · have hd := of_decide_eq_false (b01_eq c119)
        refine r_aload_n (pc' := 123) dX11_number_122 rfl rfl ?_
        refine r_iload (pc' := 125) dX11_number_123 rfl rfl ?_
        refine r_putf (pc' := 128) (kI := 14) dX11_number_125 rfl fX11_76 z166 rfl (Or.inl rfl) rfl rfl ?_
        refine r_aload_n (pc' := 129) dX11_number_128 rfl rfl ?_
        refine r_iconst (pc' := 130) dX11_number_129 rfl ?_
        refine r_vi1 (pc' := 133) dX11_number_130 rfl qX11_faulty lX11_90 z166 rfl rfl rfl rfl (Nat.zero_le _) (Nat.zero_le _) (m_faulty 2 ?_)
        refine r_reti dX11_number_133 rfl (Or.inr ⟨rfl, by first | exact Or.inl rfl | exact Or.inr rfl | omega⟩) ?_
        have e : (numR N T lo hi p (0, -1)) = (lo, (nlF T (N - skT N T p) (skT N T p) 0 0).1, (2, (skT N T p : Int))) := by unfold numR nuS nuR; rw [if_pos (b01_ne c7), if_pos (by omega)]; rfl
        refine h0 (by rw [e]; show (2 : Nat) ≠ 0; decide) (skT N T p) (by rw [e]) _ ((hR2.pos (by omega) (by omega)).wrong 2) (by rw [mu_at, e]; rfl) (fr1.tr (fr2.tr ((FrP.pos _ _).tr (FrP.wrong _ _))))
  · refine r_aload_n (pc' := 11) dX11_number_10 rfl rfl ?_
    refine r_iconst (pc' := 12) dX11_number_11 rfl ?_
    refine r_vi1 (pc' := 15) dX11_number_12 rfl qX11_faulty lX11_90 z166 rfl rfl rfl rfl (Nat.zero_le _) (Nat.zero_le _) (m_faulty 1 ?_)
    refine r_reti dX11_number_15 rfl (Or.inr ⟨rfl, by first | exact Or.inl rfl | exact Or.inr rfl | omega⟩) ?_
    have e : (numR N T lo hi p (0, -1)) = (lo, skT N T p, (1, (skT N T p : Int))) := by unfold numR nuS; rw [if_neg (by rw [b01_eq c7]; decide)]; rfl
    exact h0 (by rw [e]; show (1 : Nat) ≠ 0; decide) (skT N T p) (by rw [e]) _ (hR1.wrong 1) (by rw [mu_at, e]; rfl) (fr1.tr (FrP.wrong _ _))
