theorem MS.scr {g g' : Mem} {tN : Nat} {tX : Nat → Int} {flt : Int} {u : PV} {v : LV} {kn : Nat} {kL : Nat → LV} {im : Nat → Bool × Int × LV} {sd : Int} {ln : Nat} {la : Nat → Nat} {lr : Nat → Bool} {bn : Nat} {bp : Nat → Nat} {bf : Nat → Int} (hM : MS g tN tX flt u v kn kL im sd ln la lr bn bp bf) (hf : ∀ j, 166 ≤ j → j ≤ 175 → j ≠ 169 → g' j = g j) : MS g' tN tX flt u v kn kL im sd ln la lr bn bp bf := by
  obtain ⟨⟨m1, m2⟩, m3, m4, m5, ⟨m6, m7⟩, m8, m9, ⟨m10, m11⟩, ⟨m12, m13⟩⟩ := id hM
  exact ⟨⟨(congrFun (hf 166 (by decide) (by decide) (by decide)) _).trans m1, fun k hk => (congrFun (hf 167 (by decide) (by decide) (by decide)) _).trans (m2 k hk)⟩, (congrFun (hf 166 (by decide) (by decide) (by decide)) _).trans m3, m4.fr (hf 168 (by decide) (by decide) (by decide)), m5.fr (hf 170 (by decide) (by decide) (by decide)), ⟨(congrFun (hf 166 (by decide) (by decide) (by decide)) _).trans m6, fun j hj => (m7 j hj).fr (hf 171 (by decide) (by decide) (by decide))⟩, MIm.fr m8 (hf 172 (by decide) (by decide) (by decide)) (hf 173 (by decide) (by decide) (by decide)), (congrFun (hf 166 (by decide) (by decide) (by decide)) _).trans m9, ⟨(congrFun (hf 166 (by decide) (by decide) (by decide)) _).trans m10, fun i hi => by rw [hf 174 (by decide) (by decide) (by decide)]; exact m11 i hi⟩, ⟨(congrFun (hf 166 (by decide) (by decide) (by decide)) _).trans m12, fun i hi => by rw [hf 175 (by decide) (by decide) (by decide)]; exact m13 i hi⟩⟩
theorem FrM.of {g g' : Mem} {S : List Nat} (hf : Fr S g g') (hs : ∀ j ∈ S, 166 < j ∧ j ≠ 178) : FrM g g' := ⟨fun j hj => hf j (fun q => absurd (hs j q).1 (by omega)), hf 178 (fun q => absurd rfl (hs 178 q).2), congrFun (hf 166 (fun q => absurd (hs 166 q).1 (by decide))) _⟩
theorem MS.of {g g' : Mem} {tN : Nat} {tX : Nat → Int} {flt : Int} {u : PV} {v : LV} {kn : Nat} {kL : Nat → LV} {im : Nat → Bool × Int × LV} {sd : Int} {ln : Nat} {la : Nat → Nat} {lr : Nat → Bool} {bn : Nat} {bp : Nat → Nat} {bf : Nat → Int} (hM : MS g tN tX flt u v kn kL im sd ln la lr bn bp bf) {S : List Nat} (hf : Fr S g g') (hs : ∀ j ∈ S, j = 169 ∨ 175 < j) : MS g' tN tX flt u v kn kL im sd ln la lr bn bp bf := hM.scr (fun j h1 h2 h3 => hf j (fun q => by have := hs j q; omega))
theorem M_told {X : CX} {d : Nat} {g : Mem} {K : Int → Mem → Prop} {tN : Nat} {tX : Nat → Int} {flt : Int} {u : PV} {v : LV} {kn : Nat} {kL : Nat → LV} {im : Nat → Bool × Int × LV} {sd : Int} {ln : Nat} {la : Nat → Nat} {lr : Nat → Bool} {bn : Nat} {bp : Nat → Nat} {bf : Nat → Int} (hM : MS g tN tX flt u v kn kL im sd ln la lr bn bp bf) (hS : WS tN tX flt u v kn kL im sd ln la lr bn bp bf) (w : Int) (hw : R32 w) (h : ∀ g' : Mem, MS g' tN tX flt u v kn kL im sd ln la lr bn bp bf → FrM g g' → K (E_told tN u v kn ln bn w) g') : EI X (d + 4) mX11_told [vr 166, vi w] Z0 g K := by
  show AJ X (d + 4) mX11_told 0 0 (QI Z0 K) 0 0 0 [some (vr 166), some (vi w)] [] Z0 g
  obtain ⟨⟨m1, m2⟩, m3, m4, m5, ⟨m6, m7⟩, m8, m9, ⟨m10, m11⟩, ⟨m12, m13⟩⟩ := id hM
  obtain ⟨⟨s1, s2⟩, s3, s4, s5, ⟨s6, s7⟩, s8, ⟨s9, s10⟩, ⟨s11, s12⟩, ⟨s13, s14⟩⟩ := id hS
  have hB : MB g u v := ⟨m4, s4, m5, s5⟩
  obtain ⟨hQ, hU, hC, hW⟩ := id hB
  obtain ⟨hy, hi, hc, ht, ho, hf, hw_⟩ := id hC
  obtain ⟨w0, w1, w2, w3, w4, w5, w6, w7⟩ := id hW
  obtain ⟨p6, p7, p8, p9, p10, pk, pg, px, py⟩ := id hQ
  obtain ⟨u0, u1, u2, u3, u4, u5, u6, u7⟩ := id hU
  refine r_iload_n (pc' := 1) dX11_told_0 rfl rfl ?_
  by_cases hsw : w = 0 ∨ w = 1 ∨ w = 2 ∨ w = 3 ∨ w = 4 ∨ w = 5 ∨ w = 6 ∨ w = 7 ∨ w = 8 ∨ w = 9 ∨ w = 10 ∨ w = 11 ∨ w = 12 ∨ w = 13 ∨ w = 14 ∨ w = 15 ∨ w = 16 ∨ w = 17 ∨ w = 18 ∨ w = 19
  · rcases hsw with rfl | rfl | rfl | rfl | rfl | rfl | rfl | rfl | rfl | rfl | rfl | rfl | rfl | rfl | rfl | rfl | rfl | rfl | rfl | rfl
    · refine r_tabI (tgt := 96) dX11_told_1 (by decide) (by decide) (by decide) rfl rfl ?_
      refine r_aload_n (pc' := 97) dX11_told_96 rfl rfl ?_
      refine r_getr (pc' := 100) dX11_told_97 rfl fX11_13 z166 rfl ?_
      refine r_iload_n (pc' := 101) dX11_told_100 rfl rfl ?_
      refine r_iaload (pc' := 102) dX11_told_101 rfl z168 (by decide) (by omega) (by omega) (by first | exact p6 | exact p8 | exact p9 | exact p10) ?_
      refine r_reti dX11_told_102 rfl (Or.inl rfl) ?_
      exact h g hM (FrM.rf g)
    · refine r_tabI (tgt := 96) dX11_told_1 (by decide) (by decide) (by decide) rfl rfl ?_
      refine r_aload_n (pc' := 97) dX11_told_96 rfl rfl ?_
      refine r_getr (pc' := 100) dX11_told_97 rfl fX11_13 z166 rfl ?_
      refine r_iload_n (pc' := 101) dX11_told_100 rfl rfl ?_
      refine r_iaload (pc' := 102) dX11_told_101 rfl z168 (by decide) (by omega) (by omega) (by first | exact p6 | exact p8 | exact p9 | exact p10) ?_
      refine r_reti dX11_told_102 rfl (Or.inl rfl) ?_
      exact h g hM (FrM.rf g)
    · refine r_tabI (tgt := 96) dX11_told_1 (by decide) (by decide) (by decide) rfl rfl ?_
      refine r_aload_n (pc' := 97) dX11_told_96 rfl rfl ?_
      refine r_getr (pc' := 100) dX11_told_97 rfl fX11_13 z166 rfl ?_
      refine r_iload_n (pc' := 101) dX11_told_100 rfl rfl ?_
      refine r_iaload (pc' := 102) dX11_told_101 rfl z168 (by decide) (by omega) (by omega) (by first | exact p6 | exact p8 | exact p9 | exact p10) ?_
      refine r_reti dX11_told_102 rfl (Or.inl rfl) ?_
      exact h g hM (FrM.rf g)
    · refine r_tabI (tgt := 96) dX11_told_1 (by decide) (by decide) (by decide) rfl rfl ?_
      refine r_aload_n (pc' := 97) dX11_told_96 rfl rfl ?_
      refine r_getr (pc' := 100) dX11_told_97 rfl fX11_13 z166 rfl ?_
      refine r_iload_n (pc' := 101) dX11_told_100 rfl rfl ?_
      refine r_iaload (pc' := 102) dX11_told_101 rfl z168 (by decide) (by omega) (by omega) (by first | exact p6 | exact p8 | exact p9 | exact p10) ?_
      refine r_reti dX11_told_102 rfl (Or.inl rfl) ?_
      exact h g hM (FrM.rf g)
    · refine r_tabI (tgt := 103) dX11_told_1 (by decide) (by decide) (by decide) rfl rfl ?_
      refine r_aload_n (pc' := 104) dX11_told_103 rfl rfl ?_
      refine r_getf (pc' := 107) (kI := 1) dX11_told_104 rfl fX11_72 z166 rfl rfl m1 ?_
      refine r_reti dX11_told_107 rfl (Or.inl rfl) ?_
      exact h g hM (FrM.rf g)
    · refine r_tabI (tgt := 108) dX11_told_1 (by decide) (by decide) (by decide) rfl rfl ?_
      refine r_aload_n (pc' := 109) dX11_told_108 rfl rfl ?_
      refine r_getr (pc' := 112) dX11_told_109 rfl fX11_19 z166 rfl ?_
      refine r_iconst (pc' := 113) dX11_told_112 rfl ?_
      refine r_iaload (pc' := 114) dX11_told_113 rfl z170 (by decide) (by omega) (by omega) hy ?_
      refine r_reti dX11_told_114 rfl (Or.inl rfl) ?_
      exact h g hM (FrM.rf g)
    · refine r_tabI (tgt := 115) dX11_told_1 (by decide) (by decide) (by decide) rfl rfl ?_
      refine r_aload_n (pc' := 116) dX11_told_115 rfl rfl ?_
      refine r_getr (pc' := 119) dX11_told_116 rfl fX11_19 z166 rfl ?_
      refine r_iconst (pc' := 120) dX11_told_119 rfl ?_
      refine r_iaload (pc' := 121) dX11_told_120 rfl z170 (by decide) (by omega) (by omega) hi ?_
      refine r_reti dX11_told_121 rfl (Or.inl rfl) ?_
      exact h g hM (FrM.rf g)
    · refine r_tabI (tgt := 122) dX11_told_1 (by decide) (by decide) (by decide) rfl rfl ?_
      refine r_aload_n (pc' := 123) dX11_told_122 rfl rfl ?_
      refine r_getr (pc' := 126) dX11_told_123 rfl fX11_19 z166 rfl ?_
      refine r_iconst (pc' := 127) dX11_told_126 rfl ?_
      refine r_iaload (pc' := 128) dX11_told_127 rfl z170 (by decide) (by omega) (by omega) hc ?_
      refine r_reti dX11_told_128 rfl (Or.inl rfl) ?_
      exact h g hM (FrM.rf g)
    · refine r_tabI (tgt := 129) dX11_told_1 (by decide) (by decide) (by decide) rfl rfl ?_
      refine r_aload_n (pc' := 130) dX11_told_129 rfl rfl ?_
      refine r_vi0 (pc' := 133) dX11_told_130 rfl qX11_onIt lX11_135 z166 rfl rfl rfl (Nat.zero_le _) (Nat.zero_le _) (m_onIt hB ?_)
      refine r_reti dX11_told_133 rfl (Or.inl rfl) ?_
      exact h g hM (FrM.rf g)
    · refine r_tabI (tgt := 134) dX11_told_1 (by decide) (by decide) (by decide) rfl rfl ?_
      refine r_aload_n (pc' := 135) dX11_told_134 rfl rfl ?_
      refine r_vi0 (pc' := 138) dX11_told_135 rfl qX11_outs lX11_138 z166 rfl rfl rfl (Nat.zero_le _) (Nat.zero_le _) (m_outs hB ?_)
      refine r_reti dX11_told_138 rfl (Or.inl rfl) ?_
      exact h g hM (FrM.rf g)
    · refine r_tabI (tgt := 139) dX11_told_1 (by decide) (by decide) (by decide) rfl rfl ?_
      refine r_aload_n (pc' := 140) dX11_told_139 rfl rfl ?_
      refine r_getr (pc' := 143) dX11_told_140 rfl fX11_19 z166 rfl ?_
      refine r_iconst (pc' := 144) dX11_told_143 rfl ?_
      refine r_iaload (pc' := 145) dX11_told_144 rfl z170 (by decide) (by omega) (by omega) ht ?_
      refine r_reti dX11_told_145 rfl (Or.inl rfl) ?_
      exact h g hM (FrM.rf g)
    · refine r_tabI (tgt := 146) dX11_told_1 (by decide) (by decide) (by decide) rfl rfl ?_
      refine r_aload_n (pc' := 147) dX11_told_146 rfl rfl ?_
      refine r_getr (pc' := 150) dX11_told_147 rfl fX11_13 z166 rfl ?_
      refine r_iconst (pc' := 151) dX11_told_150 rfl ?_
      refine r_iaload (pc' := 152) dX11_told_151 rfl z168 (by decide) (by omega) (by omega) p6 ?_
      refine r_iconst (pc' := 153) dX11_told_152 rfl ?_
      refine r_icmp_ne (tgt := 167) (pc' := 156) dX11_told_153 rfl rfl (by omega) (by omega) (fun c153 => ?_) (fun c153 => ?_)
      · refine r_iconst (pc' := 168) dX11_told_167 rfl ?_
        refine r_reti dX11_told_168 rfl (Or.inl rfl) ?_
        have h9 := h g hM (FrM.rf g)
        change K (if Pp u = 1 ∧ crF (Lo v) (Ln v) (Ln v) 0 0 = 0 then 1 else 0) g at h9
        first | (rw [if_neg (by omega)] at h9; exact h9) | (rw [if_pos (by omega)] at h9; exact h9)
      · refine r_aload_n (pc' := 157) dX11_told_156 rfl rfl ?_
        refine r_vi0 (pc' := 160) dX11_told_157 rfl qX11_crossed lX11_141 z166 rfl rfl rfl (Nat.zero_le _) (Nat.zero_le _) (m_crossed hB ?_)
        refine r_if_ne (tgt := 167) (pc' := 163) dX11_told_160 rfl rfl (by have := crF_le (Lo v) (Ln v) (Ln v) 0 0; have : Ln v * Ln v ≤ 7 * 7 := Nat.mul_le_mul w1 w1; omega) (fun c160 => ?_) (fun c160 => ?_)
        · refine r_iconst (pc' := 168) dX11_told_167 rfl ?_
          refine r_reti dX11_told_168 rfl (Or.inl rfl) ?_
          have h9 := h g hM (FrM.rf g)
          change K (if Pp u = 1 ∧ crF (Lo v) (Ln v) (Ln v) 0 0 = 0 then 1 else 0) g at h9
          first | (rw [if_neg (by omega)] at h9; exact h9) | (rw [if_pos (by omega)] at h9; exact h9)
        · refine r_iconst (pc' := 164) dX11_told_163 rfl ?_
          refine r_goto (tgt := 168) dX11_told_164 rfl ?_
          refine r_reti dX11_told_168 rfl (Or.inl rfl) ?_
          have h9 := h g hM (FrM.rf g)
          change K (if Pp u = 1 ∧ crF (Lo v) (Ln v) (Ln v) 0 0 = 0 then 1 else 0) g at h9
          first | (rw [if_neg (by omega)] at h9; exact h9) | (rw [if_pos (by omega)] at h9; exact h9)
    · refine r_tabI (tgt := 169) dX11_told_1 (by decide) (by decide) (by decide) rfl rfl ?_
      refine r_aload_n (pc' := 170) dX11_told_169 rfl rfl ?_
      refine r_vi0 (pc' := 173) dX11_told_170 rfl qX11_crossed lX11_141 z166 rfl rfl rfl (Nat.zero_le _) (Nat.zero_le _) (m_crossed hB ?_)
      refine r_reti dX11_told_173 rfl (Or.inl rfl) ?_
      exact h g hM (FrM.rf g)
    · refine r_tabI (tgt := 174) dX11_told_1 (by decide) (by decide) (by decide) rfl rfl ?_
      refine r_aload_n (pc' := 175) dX11_told_174 rfl rfl ?_
      refine r_vi0 (pc' := 178) dX11_told_175 rfl qX11_cutAt lX11_144 z166 rfl rfl rfl (Nat.zero_le _) (Nat.zero_le _) (m_cutAt hB ?_)
      refine r_reti dX11_told_178 rfl (Or.inl rfl) ?_
      exact h g hM (FrM.rf g)
    · refine r_tabI (tgt := 179) dX11_told_1 (by decide) (by decide) (by decide) rfl rfl ?_
      refine r_aload_n (pc' := 180) dX11_told_179 rfl rfl ?_
      refine r_vi0 (pc' := 183) dX11_told_180 rfl qX11_readings lX11_132 z166 rfl rfl rfl (Nat.zero_le _) (Nat.zero_le _) (m_readings hB (fun g1 _ fr1 => ?_))
      refine r_reti dX11_told_183 rfl (Or.inl rfl) ?_
      exact h g1 (hM.of fr1 (by decide)) (FrM.of fr1 (by decide))
    · refine r_tabI (tgt := 184) dX11_told_1 (by decide) (by decide) (by decide) rfl rfl ?_
      refine r_aload_n (pc' := 185) dX11_told_184 rfl rfl ?_
      refine r_vi0 (pc' := 188) dX11_told_185 rfl qX11_firstOf lX11_147 z166 rfl rfl rfl (Nat.zero_le _) (Nat.zero_le _) (m_first hB (fun g1 fr1 => ?_))
      refine r_reti dX11_told_188 rfl (Or.inl rfl) ?_
      exact h g1 (hM.of fr1 (by decide)) (FrM.of fr1 (by decide))
    · refine r_tabI (tgt := 189) dX11_told_1 (by decide) (by decide) (by decide) rfl rfl ?_
      refine r_aload_n (pc' := 190) dX11_told_189 rfl rfl ?_
      refine r_vi0 (pc' := 193) dX11_told_190 rfl qX11_begun lX11_150 z166 rfl rfl rfl (Nat.zero_le _) (Nat.zero_le _) (m_begun hB ?_)
      refine r_reti dX11_told_193 rfl (Or.inl rfl) ?_
      exact h g hM (FrM.rf g)
    · refine r_tabI (tgt := 194) dX11_told_1 (by decide) (by decide) (by decide) rfl rfl ?_
      refine r_aload_n (pc' := 195) dX11_told_194 rfl rfl ?_
      refine r_getf (pc' := 198) (kI := 11) dX11_told_195 rfl fX11_112 z166 rfl rfl m10 ?_
      refine r_reti dX11_told_198 rfl (Or.inl rfl) ?_
      exact h g hM (FrM.rf g)
    · refine r_tabI (tgt := 199) dX11_told_1 (by decide) (by decide) (by decide) rfl rfl ?_
      refine r_aload_n (pc' := 200) dX11_told_199 rfl rfl ?_
      refine r_getf (pc' := 203) (kI := 13) dX11_told_200 rfl fX11_115 z166 rfl rfl m12 ?_
      refine r_reti dX11_told_203 rfl (Or.inl rfl) ?_
      exact h g hM (FrM.rf g)
    · refine r_tabI (tgt := 204) dX11_told_1 (by decide) (by decide) (by decide) rfl rfl ?_
      refine r_aload_n (pc' := 205) dX11_told_204 rfl rfl ?_
      refine r_getf (pc' := 208) (kI := 6) dX11_told_205 rfl fX11_109 z166 rfl rfl m6 ?_
      refine r_reti dX11_told_208 rfl (Or.inl rfl) ?_
      exact h g hM (FrM.rf g)
  · refine r_tabO (tgt := 209) dX11_told_1 (by omega) (by omega) rfl ?_
    refine r_ldc (z := -1000000002) (pc' := 211) dX11_told_209 rfl kX11_71 ?_
    refine r_reti dX11_told_211 rfl (Or.inl rfl) ?_
    have h9 := h g hM (FrM.rf g)
    rw [show E_told tN u v kn ln bn w = -1000000002 by unfold E_told; (repeat' (first | rw [if_neg (by omega)]))] at h9
    exact h9
