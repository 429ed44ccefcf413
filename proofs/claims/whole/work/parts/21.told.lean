/-- THE CLASS's state: text, fault, plan, line, what can be undone, images, seed, what is OLD, the book -/
def CS (g : Mem) (tN : Nat) (tX : Nat → Int) (flt : Int) (u : PV) (v : LV) (kn : Nat) (kL : Nat → LV) (im : Nat → Bool × Int × LV) (sd : Int) (ln : Nat) (la : Nat → Nat) (lr : Nat → Bool) (bn : Nat) (bp : Nat → Nat) (bf : Nat → Int) : Prop :=
  (g 1 1 = tN ∧ tN ≤ 240 ∧ ∀ k : Nat, k < tN → g 2 k = tX k ∧ 0 ≤ tX k ∧ tX k ≤ 255) ∧ (g 1 3 = flt ∧ R32 flt) ∧ CB g u v ∧ (∃ top, PS g (Pf u) kn top kL) ∧
  (∀ i : Nat, i < 2 → g (144 + 5 * i) 2 = b01 (im i).1 ∧ ((im i).1 = true → g (144 + 5 * i) 1 = (im i).2.1 ∧ 0 ≤ (im i).2.1 ∧ (im i).2.1 < 2147483648 ∧ LC g (145 + 5 * i) (146 + 5 * i) (147 + 5 * i) (148 + 5 * i) (im i).2.2 ∧ LW (Pf u) (im i).2.2)) ∧
  (g 0 11 = sd ∧ 0 ≤ sd ∧ sd < 2147483648) ∧ LK g ln la lr ∧ BK g bn bp bf
def FrC (g g' : Mem) : Prop := ∀ j : Nat, 166 ≤ j → g' j = g j
theorem FrC.tr {g g' g'' : Mem} (h : FrC g g') (h' : FrC g' g'') : FrC g g'' := fun j hj => (h' j hj).trans (h j hj)
theorem FrC.rf (g : Mem) : FrC g g := fun _ _ => rfl
theorem FrC.of {S : List Nat} {g g' : Mem} (h : Fr S g g') (hs : ∀ j ∈ S, j < 166) : FrC g g' := fun j hj => h j (fun q => absurd (hs j q) (by omega))
theorem CS.eq {g g' : Mem} {tN : Nat} {tX : Nat → Int} {flt : Int} {u : PV} {v : LV} {kn : Nat} {kL : Nat → LV} {im : Nat → Bool × Int × LV} {sd : Int} {ln : Nat} {la : Nat → Nat} {lr : Nat → Bool} {bn : Nat} {bp : Nat → Nat} {bf : Nat → Int} (h : CS g tN tX flt u v kn kL im sd ln la lr bn bp bf) (S : List Nat) (hf : Fr S g g') (hn : ∀ x ∈ S, x = 154 ∨ x = 155 ∨ x = 157 ∨ x = 159 ∨ 166 ≤ x) : CS g' tN tX flt u v kn kL im sd ln la lr bn bp bf := by
  have hx : ∀ x, ¬ (x = 154 ∨ x = 155 ∨ x = 157 ∨ x = 159 ∨ 166 ≤ x) → g' x = g x := fun x hx => hf x (fun q => hx (hn x q))
  obtain ⟨⟨t1, t2, t3⟩, ⟨f1, f2⟩, hB, ⟨top, hP⟩, hI, hs, hK, hN⟩ := h
  refine ⟨⟨by rw [hx 1 (by omega)]; exact t1, t2, fun k hk => by rw [hx 2 (by omega)]; exact t3 k hk⟩, ⟨by rw [hx 1 (by omega)]; exact f1, f2⟩, hB.fr S hf (fun x hx1 hx2 => ?_), ⟨top, hP.fr (fun j hj => hx j (by unfold pastB at hj; omega))⟩, fun i hi => ⟨?_, fun hk => ?_⟩, by rw [hx 0 (by omega)]; exact hs, ?_, ?_⟩
  · have := hn x hx2
    simp only [List.mem_cons, List.not_mem_nil, or_false] at hx1
    omega
  · rw [hx (144 + 5 * i) (by omega)]; exact (hI i hi).1
  · obtain ⟨q1, q2, q3, q4, q5⟩ := (hI i hi).2 hk
    exact ⟨by rw [hx (144 + 5 * i) (by omega)]; exact q1, q2, q3, q4.fr (hx _ (by omega)) (hx _ (by omega)) (hx _ (by omega)) (hx _ (by omega)), q5⟩
  · unfold LK
    rw [hx 160 (by omega), hx 161 (by omega), hx 162 (by omega)]
    exact hK
  · unfold BK
    rw [hx 163 (by omega), hx 164 (by omega), hx 165 (by omega)]
    exact hN
def E_told (tN : Nat) (u : PV) (v : LV) (kn ln bn : Nat) (w : Int) : Int :=
  if w = 0 then (Pp u : Int) else if w = 1 then (Pf u : Int) else if w = 2 then (Pw u : Int) else if w = 3 then (Pq u : Int) else if w = 4 then (tN : Int) else if w = 5 then (Ly v : Int) else if w = 6 then (Li v : Int) else if w = 7 then (Ln v : Int) else if w = 8 then (onN v : Int) else if w = 9 then (outN u v : Int) else if w = 10 then (Lt v : Int) else if w = 11 then (if Pp u = 1 ∧ crF (Lo v) (Ln v) (Ln v) 0 0 = 0 then 1 else 0) else if w = 12 then (crF (Lo v) (Ln v) (Ln v) 0 0 : Int) else if w = 13 then cutN (Lo v) (Ln v) else if w = 14 then (readN u v : Int) else if w = 15 then firstN u v else if w = 16 then (speltN u v : Int) else if w = 17 then (ln : Int) else if w = 18 then (bn : Int) else if w = 19 then (kn : Int) else -1000000002
theorem rf_cr {v : LV} {F : Nat} (hW : LW F v) : rfB (Lo v) (Ln v) 0 = decide (crF (Lo v) (Ln v) (Ln v) 0 0 = 0) := rf_cr0
theorem C_told {X : CX} {d : Nat} {g : Mem} {K : Int → Mem → Prop} {tN : Nat} {tX : Nat → Int} {flt : Int} {u : PV} {v : LV} {kn : Nat} {kL : Nat → LV} {im : Nat → Bool × Int × LV} {sd : Int} {ln : Nat} {la : Nat → Nat} {lr : Nat → Bool} {bn : Nat} {bp : Nat → Nat} {bf : Nat → Int} (hS : CS g tN tX flt u v kn kL im sd ln la lr bn bp bf) (w : Int) (hw : R32 w) (h : ∀ g' : Mem, CS g' tN tX flt u v kn kL im sd ln la lr bn bp bf → FrC g g' → K (E_told tN u v kn ln bn w) g') : EI X (d + 5) mX10_told [vr 0, vi w] Z0 g K := by
  show AJ X (d + 5) mX10_told 0 0 (QI Z0 K) 0 0 0 [some (vr 0), some (vi w)] [] Z0 g
  obtain ⟨⟨t1, t2, t3⟩, ⟨f1, f2⟩, hB, ⟨top, hP⟩, hI, ⟨sd1, sd2, sd3⟩, hK, hN⟩ := id hS
  obtain ⟨hQ, hU, hC, hW⟩ := id hB
  obtain ⟨hc, ho, hf, hw_, ht, hi, hy⟩ := id hC
  obtain ⟨w0, w1, w2, w3, w4, w5, w6, w7⟩ := id hW
  obtain ⟨p6, p7, p8, p9, p10, pk, pg, px, py⟩ := id hQ
  obtain ⟨u0, u1, u2, u3, u4, u5, u6, u7⟩ := id hU
  refine r_iload_n (pc' := 1) dX10_told_0 rfl rfl ?_
  by_cases hsw : w = 0 ∨ w = 1 ∨ w = 2 ∨ w = 3 ∨ w = 4 ∨ w = 5 ∨ w = 6 ∨ w = 7 ∨ w = 8 ∨ w = 9 ∨ w = 10 ∨ w = 11 ∨ w = 12 ∨ w = 13 ∨ w = 14 ∨ w = 15 ∨ w = 16 ∨ w = 17 ∨ w = 18 ∨ w = 19
  · rcases hsw with rfl | rfl | rfl | rfl | rfl | rfl | rfl | rfl | rfl | rfl | rfl | rfl | rfl | rfl | rfl | rfl | rfl | rfl | rfl | rfl
    · refine r_tabI (tgt := 96) dX10_told_1 (by decide) (by decide) (by decide) rfl rfl ?_
      refine r_aload_n (pc' := 97) dX10_told_96 rfl rfl ?_
      refine r_getr (pc' := 100) dX10_told_97 rfl fX10_23 z0 rfl ?_
      refine r_getf (pc' := 103) (kI := 6) dX10_told_100 rfl fX10_125 isP10.1 rfl rfl p6 ?_
      refine r_if_eq (tgt := 110) (pc' := 106) dX10_told_103 rfl rfl (by omega) (fun c103 => ?_) (fun c103 => ?_)
      · refine r_iconst (pc' := 111) dX10_told_110 rfl ?_
        refine r_reti dX10_told_111 rfl (Or.inl rfl) ?_
        first | (have e : (Pp u : Int) = 0 := (by omega); have h9 := h g hS (FrC.rf g); change K (Pp u : Int) g at h9; rw [e] at h9; exact h9) | (have e : (Pp u : Int) = 1 := (by omega); have h9 := h g hS (FrC.rf g); change K (Pp u : Int) g at h9; rw [e] at h9; exact h9)
      · refine r_iconst (pc' := 107) dX10_told_106 rfl ?_
        refine r_goto (tgt := 111) dX10_told_107 rfl ?_
        refine r_reti dX10_told_111 rfl (Or.inl rfl) ?_
        first | (have e : (Pp u : Int) = 0 := (by omega); have h9 := h g hS (FrC.rf g); change K (Pp u : Int) g at h9; rw [e] at h9; exact h9) | (have e : (Pp u : Int) = 1 := (by omega); have h9 := h g hS (FrC.rf g); change K (Pp u : Int) g at h9; rw [e] at h9; exact h9)
    · refine r_tabI (tgt := 112) dX10_told_1 (by decide) (by decide) (by decide) rfl rfl ?_
      refine r_aload_n (pc' := 113) dX10_told_112 rfl rfl ?_
      refine r_getr (pc' := 116) dX10_told_113 rfl fX10_23 z0 rfl ?_
      refine r_getf (pc' := 119) (kI := 8) dX10_told_116 rfl fX10_119 isP10.1 rfl rfl p8 ?_
      refine r_reti dX10_told_119 rfl (Or.inl rfl) ?_
      exact h g hS (FrC.rf g)
    · refine r_tabI (tgt := 120) dX10_told_1 (by decide) (by decide) (by decide) rfl rfl ?_
      refine r_aload_n (pc' := 121) dX10_told_120 rfl rfl ?_
      refine r_getr (pc' := 124) dX10_told_121 rfl fX10_23 z0 rfl ?_
      refine r_getf (pc' := 127) (kI := 9) dX10_told_124 rfl fX10_128 isP10.1 rfl rfl p9 ?_
      refine r_reti dX10_told_127 rfl (Or.inl rfl) ?_
      exact h g hS (FrC.rf g)
    · refine r_tabI (tgt := 128) dX10_told_1 (by decide) (by decide) (by decide) rfl rfl ?_
      refine r_aload_n (pc' := 129) dX10_told_128 rfl rfl ?_
      refine r_getr (pc' := 132) dX10_told_129 rfl fX10_23 z0 rfl ?_
      refine r_getf (pc' := 135) (kI := 10) dX10_told_132 rfl fX10_131 isP10.1 rfl rfl p10 ?_
      refine r_reti dX10_told_135 rfl (Or.inl rfl) ?_
      exact h g hS (FrC.rf g)
    · refine r_tabI (tgt := 136) dX10_told_1 (by decide) (by decide) (by decide) rfl rfl ?_
      refine r_aload_n (pc' := 137) dX10_told_136 rfl rfl ?_
      refine r_getr (pc' := 140) dX10_told_137 rfl fX10_10 z0 rfl ?_
      refine r_getf (pc' := 143) (kI := 1) dX10_told_140 rfl fX10_87 z1 rfl rfl t1 ?_
      refine r_reti dX10_told_143 rfl (Or.inl rfl) ?_
      exact h g hS (FrC.rf g)
    · refine r_tabI (tgt := 144) dX10_told_1 (by decide) (by decide) (by decide) rfl rfl ?_
      refine r_aload_n (pc' := 145) dX10_told_144 rfl rfl ?_
      refine r_getr (pc' := 148) dX10_told_145 rfl fX10_29 z0 rfl ?_
      refine r_getf (pc' := 151) (kI := 6) dX10_told_148 rfl fX10_134 isL17.1 rfl rfl hy ?_
      refine r_reti dX10_told_151 rfl (Or.inl rfl) ?_
      exact h g hS (FrC.rf g)
    · refine r_tabI (tgt := 152) dX10_told_1 (by decide) (by decide) (by decide) rfl rfl ?_
      refine r_aload_n (pc' := 153) dX10_told_152 rfl rfl ?_
      refine r_getr (pc' := 156) dX10_told_153 rfl fX10_29 z0 rfl ?_
      refine r_getf (pc' := 159) (kI := 5) dX10_told_156 rfl fX10_137 isL17.1 rfl rfl hi ?_
      refine r_reti dX10_told_159 rfl (Or.inl rfl) ?_
      exact h g hS (FrC.rf g)
    · refine r_tabI (tgt := 160) dX10_told_1 (by decide) (by decide) (by decide) rfl rfl ?_
      refine r_aload_n (pc' := 161) dX10_told_160 rfl rfl ?_
      refine r_getr (pc' := 164) dX10_told_161 rfl fX10_29 z0 rfl ?_
      refine r_getf (pc' := 167) (kI := 3) dX10_told_164 rfl fX10_140 isL17.1 rfl rfl hc ?_
      refine r_reti dX10_told_167 rfl (Or.inl rfl) ?_
      exact h g hS (FrC.rf g)
    · refine r_tabI (tgt := 168) dX10_told_1 (by decide) (by decide) (by decide) rfl rfl ?_
      refine r_aload_n (pc' := 169) dX10_told_168 rfl rfl ?_
      refine r_getr (pc' := 172) dX10_told_169 rfl fX10_29 z0 rfl ?_
      refine r_vi0 (pc' := 175) dX10_told_172 rfl qX2_onSet lX10_141 isL17.1 rfl rfl rfl (Nat.zero_le _) (Nat.zero_le _) (a_onSet isL17 hC hW ?_)
      refine r_reti dX10_told_175 rfl (Or.inl rfl) ?_
      exact h g hS (FrC.rf g)
    · refine r_tabI (tgt := 176) dX10_told_1 (by decide) (by decide) (by decide) rfl rfl ?_
      refine r_aload_n (pc' := 177) dX10_told_176 rfl rfl ?_
      refine r_getr (pc' := 180) dX10_told_177 rfl fX10_29 z0 rfl ?_
      refine r_aload_n (pc' := 181) dX10_told_180 rfl rfl ?_
      refine r_getr (pc' := 184) dX10_told_181 rfl fX10_23 z0 rfl ?_
      refine r_vi1 (pc' := 187) dX10_told_184 rfl qX2_outSet lX10_145 isL17.1 rfl rfl rfl rfl (Nat.zero_le _) (Nat.zero_le _) (a_outSet isL17 hC hW isP10 hQ hU rfl ?_)
      refine r_reti dX10_told_187 rfl (Or.inl rfl) ?_
      exact h g hS (FrC.rf g)
    · refine r_tabI (tgt := 188) dX10_told_1 (by decide) (by decide) (by decide) rfl rfl ?_
      refine r_aload_n (pc' := 189) dX10_told_188 rfl rfl ?_
      refine r_getr (pc' := 192) dX10_told_189 rfl fX10_29 z0 rfl ?_
      refine r_getf (pc' := 195) (kI := 4) dX10_told_192 rfl fX10_149 isL17.1 rfl rfl ht ?_
      refine r_reti dX10_told_195 rfl (Or.inl rfl) ?_
      exact h g hS (FrC.rf g)
    · refine r_tabI (tgt := 196) dX10_told_1 (by decide) (by decide) (by decide) rfl rfl ?_
      refine r_aload_n (pc' := 197) dX10_told_196 rfl rfl ?_
      refine r_getr (pc' := 200) dX10_told_197 rfl fX10_23 z0 rfl ?_
      refine r_getf (pc' := 203) (kI := 6) dX10_told_200 rfl fX10_125 isP10.1 rfl rfl p6 ?_
      refine r_if_eq (tgt := 220) (pc' := 206) dX10_told_203 rfl rfl (by omega) (fun c203 => ?_) (fun c203 => ?_)
      · refine r_iconst (pc' := 221) dX10_told_220 rfl ?_
        refine r_reti dX10_told_221 rfl (Or.inl rfl) ?_
        have h9 := h g hS (FrC.rf g)
        change K (if Pp u = 1 ∧ crF (Lo v) (Ln v) (Ln v) 0 0 = 0 then 1 else 0) g at h9
        have er := rf_cr hW
        first | (rw [if_neg (by omega)] at h9; exact h9) | (have e1 := b01_ne c213; rw [er] at e1; rw [if_pos ⟨by omega, of_decide_eq_true e1⟩] at h9; exact h9) | (have e1 := b01_eq c213; rw [er] at e1; rw [if_neg (fun q => of_decide_eq_false e1 q.2)] at h9; exact h9)
      · refine r_aload_n (pc' := 207) dX10_told_206 rfl rfl ?_
        refine r_getr (pc' := 210) dX10_told_207 rfl fX10_29 z0 rfl ?_
        refine r_vi0 (pc' := 213) dX10_told_210 rfl qX2_rises lX10_152 isL17.1 rfl rfl rfl (Nat.zero_le _) (Nat.zero_le _) (a_rises isL17 hC hW ?_)
        refine r_if_eq (tgt := 220) (pc' := 216) dX10_told_213 rfl rfl (b01_R _) (fun c213 => ?_) (fun c213 => ?_)
        · refine r_iconst (pc' := 221) dX10_told_220 rfl ?_
          refine r_reti dX10_told_221 rfl (Or.inl rfl) ?_
          have h9 := h g hS (FrC.rf g)
          change K (if Pp u = 1 ∧ crF (Lo v) (Ln v) (Ln v) 0 0 = 0 then 1 else 0) g at h9
          have er := rf_cr hW
          first | (rw [if_neg (by omega)] at h9; exact h9) | (have e1 := b01_ne c213; rw [er] at e1; rw [if_pos ⟨by omega, of_decide_eq_true e1⟩] at h9; exact h9) | (have e1 := b01_eq c213; rw [er] at e1; rw [if_neg (fun q => of_decide_eq_false e1 q.2)] at h9; exact h9)
        · refine r_iconst (pc' := 217) dX10_told_216 rfl ?_
          refine r_goto (tgt := 221) dX10_told_217 rfl ?_
          refine r_reti dX10_told_221 rfl (Or.inl rfl) ?_
          have h9 := h g hS (FrC.rf g)
          change K (if Pp u = 1 ∧ crF (Lo v) (Ln v) (Ln v) 0 0 = 0 then 1 else 0) g at h9
          have er := rf_cr hW
          first | (rw [if_neg (by omega)] at h9; exact h9) | (have e1 := b01_ne c213; rw [er] at e1; rw [if_pos ⟨by omega, of_decide_eq_true e1⟩] at h9; exact h9) | (have e1 := b01_eq c213; rw [er] at e1; rw [if_neg (fun q => of_decide_eq_false e1 q.2)] at h9; exact h9)
    · refine r_tabI (tgt := 222) dX10_told_1 (by decide) (by decide) (by decide) rfl rfl ?_
      refine r_aload_n (pc' := 223) dX10_told_222 rfl rfl ?_
      refine r_getr (pc' := 226) dX10_told_223 rfl fX10_29 z0 rfl ?_
      refine r_vi0 (pc' := 229) dX10_told_226 rfl qX2_crossed lX10_156 isL17.1 rfl rfl rfl (Nat.zero_le _) (Nat.zero_le _) (a_crossed isL17 hC hW ?_)
      refine r_reti dX10_told_229 rfl (Or.inl rfl) ?_
      exact h g hS (FrC.rf g)
    · refine r_tabI (tgt := 230) dX10_told_1 (by decide) (by decide) (by decide) rfl rfl ?_
      refine r_aload_n (pc' := 231) dX10_told_230 rfl rfl ?_
      refine r_getr (pc' := 234) dX10_told_231 rfl fX10_29 z0 rfl ?_
      refine r_vi0 (pc' := 237) dX10_told_234 rfl qX2_rightCut lX10_159 isL17.1 rfl rfl rfl (Nat.zero_le _) (Nat.zero_le _) (a_rightCut isL17 hC hW ?_)
      refine r_reti dX10_told_237 rfl (Or.inl rfl) ?_
      exact h g hS (FrC.rf g)
    · refine r_tabI (tgt := 238) dX10_told_1 (by decide) (by decide) (by decide) rfl rfl ?_
      refine r_aload_n (pc' := 239) dX10_told_238 rfl rfl ?_
      refine r_getr (pc' := 242) dX10_told_239 rfl fX10_57 z0 rfl ?_
      refine r_aload_n (pc' := 243) dX10_told_242 rfl rfl ?_
      refine r_getr (pc' := 246) dX10_told_243 rfl fX10_23 z0 rfl ?_
      refine r_aload_n (pc' := 247) dX10_told_246 rfl rfl ?_
      refine r_getr (pc' := 250) dX10_told_247 rfl fX10_29 z0 rfl ?_
      refine r_vi2 (pc' := 253) dX10_told_250 rfl qX7_readings lX10_162 z156 rfl rfl rfl rfl (Nat.zero_le _) (Nat.zero_le _) (a_readings hB (fun g1 fr1 => ?_))
      refine r_reti dX10_told_253 rfl (Or.inl rfl) ?_
      exact h g1 (hS.eq [157] fr1 (by decide)) (FrC.of fr1 (by decide))
    · refine r_tabI (tgt := 254) dX10_told_1 (by decide) (by decide) (by decide) rfl rfl ?_
      refine r_aload_n (pc' := 255) dX10_told_254 rfl rfl ?_
      refine r_getr (pc' := 258) dX10_told_255 rfl fX10_57 z0 rfl ?_
      refine r_aload_n (pc' := 259) dX10_told_258 rfl rfl ?_
      refine r_getr (pc' := 262) dX10_told_259 rfl fX10_23 z0 rfl ?_
      refine r_aload_n (pc' := 263) dX10_told_262 rfl rfl ?_
      refine r_getr (pc' := 266) dX10_told_263 rfl fX10_29 z0 rfl ?_
      refine r_vi2 (pc' := 269) dX10_told_266 rfl qX7_firstReading lX10_166 z156 rfl rfl rfl rfl (Nat.zero_le _) (Nat.zero_le _) (a_first hB (fun g1 fr1 => ?_))
      refine r_reti dX10_told_269 rfl (Or.inl rfl) ?_
      exact h g1 (hS.eq [157] fr1 (by decide)) (FrC.of fr1 (by decide))
    · refine r_tabI (tgt := 270) dX10_told_1 (by decide) (by decide) (by decide) rfl rfl ?_
      refine r_aload_n (pc' := 271) dX10_told_270 rfl rfl ?_
      refine r_getr (pc' := 274) dX10_told_271 rfl fX10_57 z0 rfl ?_
      refine r_aload_n (pc' := 275) dX10_told_274 rfl rfl ?_
      refine r_getr (pc' := 278) dX10_told_275 rfl fX10_23 z0 rfl ?_
      refine r_aload_n (pc' := 279) dX10_told_278 rfl rfl ?_
      refine r_getr (pc' := 282) dX10_told_279 rfl fX10_29 z0 rfl ?_
      refine r_vi2 (pc' := 285) dX10_told_282 rfl qX7_spelt lX10_169 z156 rfl rfl rfl rfl (Nat.zero_le _) (Nat.zero_le _) (a_spelt hB ?_)
      refine r_reti dX10_told_285 rfl (Or.inl rfl) ?_
      exact h g hS (FrC.rf g)
    · refine r_tabI (tgt := 286) dX10_told_1 (by decide) (by decide) (by decide) rfl rfl ?_
      refine r_aload_n (pc' := 287) dX10_told_286 rfl rfl ?_
      refine r_getr (pc' := 290) dX10_told_287 rfl fX10_71 z0 rfl ?_
      refine r_getf (pc' := 293) (kI := 2) dX10_told_290 rfl fX10_111 z160 rfl rfl hK.1 ?_
      refine r_reti dX10_told_293 rfl (Or.inl rfl) ?_
      exact h g hS (FrC.rf g)
    · refine r_tabI (tgt := 294) dX10_told_1 (by decide) (by decide) (by decide) rfl rfl ?_
      refine r_aload_n (pc' := 295) dX10_told_294 rfl rfl ?_
      refine r_getr (pc' := 298) dX10_told_295 rfl fX10_78 z0 rfl ?_
      refine r_getf (pc' := 301) (kI := 2) dX10_told_298 rfl fX10_114 z163 rfl rfl hN.1 ?_
      refine r_reti dX10_told_301 rfl (Or.inl rfl) ?_
      exact h g hS (FrC.rf g)
    · refine r_tabI (tgt := 302) dX10_told_1 (by decide) (by decide) (by decide) rfl rfl ?_
      refine r_aload_n (pc' := 303) dX10_told_302 rfl rfl ?_
      refine r_getr (pc' := 306) dX10_told_303 rfl fX10_36 z0 rfl ?_
      refine r_getf (pc' := 309) (kI := 2) dX10_told_306 rfl fX10_172 z21 rfl rfl hP.1 ?_
      refine r_reti dX10_told_309 rfl (Or.inl rfl) ?_
      exact h g hS (FrC.rf g)
  · refine r_tabO (tgt := 310) dX10_told_1 (by omega) (by omega) rfl ?_
    refine r_ldc (z := -1000000002) (pc' := 312) dX10_told_310 rfl kX10_86 ?_
    refine r_reti dX10_told_312 rfl (Or.inl rfl) ?_
    have h9 := h g hS (FrC.rf g)
    rw [show E_told tN u v kn ln bn w = -1000000002 by unfold E_told; (repeat' (first | rw [if_neg (by omega)]))] at h9
    exact h9
