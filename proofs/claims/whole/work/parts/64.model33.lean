theorem lm_clause {X : CX} {d : Nat} {g : Mem} {K : Int → Mem → Prop} {N : Nat} {T : Nat → Int} {p : Nat} (hR : MRd g N T p) {u : PV} (hD : DM g u) (hU : PW u) (hp : p < N) (hxx : (hereT N T p = 102 ∧ Pf u < 7) ∨ (hereT N T p = 119 ∧ Pw u < 6) ∨ (hereT N T p = 104 ∧ Pq u < 5)) (hpp : Pp u ≠ 0) (h : RdK N T K g (clR N T u p (0, -1))) : AJ X (d + 4) mX11_readsClause 0 0 (QI Z0 K) 0 0 156 [some (vr 166), some (vi (hereT N T p)), some (vi (Pf u : Int)), some (vi (Pq u : Int))] [] Z0 g := by
  obtain ⟨d0, d4, d1, d2, d3, dk, dh, dw, dq⟩ := id hD.1
  obtain ⟨u0, u1, u2, u3, u4, u5, u6, u7⟩ := id hU
  have hxR := hereT_M hR p
  have h240 := hR.2.1
  refine r_aload_n (pc' := 157) dX11_readsClause_156 rfl rfl ?_
  refine r_dup (pc' := 158) dX11_readsClause_157 rfl rfl ?_
  refine r_getf (pc' := 161) (kI := 14) dX11_readsClause_158 rfl fX11_76 z166 rfl rfl hR.2.2.2.1 ?_
  refine r_iconst (pc' := 162) dX11_readsClause_161 rfl ?_
  refine r_iadd (pc' := 163) dX11_readsClause_162 rfl ?_
  refine r_putf (pc' := 166) (kI := 14) dX11_readsClause_163 rfl fX11_76 z166 rfl (Or.inl rfl) rfl rfl ?_
  refine r_iload_n (pc' := 167) dX11_readsClause_166 rfl rfl ?_
  refine r_bipush (pc' := 169) dX11_readsClause_167 rfl (by decide) ?_
  refine r_icmp_ne (tgt := 177) (pc' := 172) dX11_readsClause_169 rfl rfl hxR.1 (by decide) (fun c169 => ?_) (fun c169 => ?_)
  · refine r_iload_n (pc' := 178) dX11_readsClause_177 rfl rfl ?_
    refine r_bipush (pc' := 180) dX11_readsClause_178 rfl (by decide) ?_
    refine r_icmp_ne (tgt := 232) (pc' := 183) dX11_readsClause_180 rfl rfl hxR.1 (by decide) (fun c180 => ?_) (fun c180 => ?_)
    · have ecl : clR N T u p (0, -1) = (rdH u (numR N T 0 6 (p + 1) (0, -1)).1 (numR N T 0 6 (numR N T 0 6 (p + 1) (0, -1)).2.1 (numR N T 0 6 (p + 1) (0, -1)).2.2).1, mrkR N T 59 (numR N T 0 6 (numR N T 0 6 (p + 1) (0, -1)).2.1 (numR N T 0 6 (p + 1) (0, -1)).2.2).2.1 (numR N T 0 6 (numR N T 0 6 (p + 1) (0, -1)).2.1 (numR N T 0 6 (p + 1) (0, -1)).2.2).2.2) := by
        rw [cl_r (by omega) (by unfold fulN; rw [if_neg (by omega), if_neg (by omega), if_neg (by omega), decide_eq_false (by omega)]; rfl), show hereT N T p = 104 by omega]
        rfl
      have xb := numR_b (N := N) (T := T) (lo := 0) (hi := 6) (by decide) (p + 1) (0, -1)
      have yb := numR_b (N := N) (T := T) (lo := 0) (hi := 6) (by decide) (numR N T 0 6 (p + 1) (0, -1)).2.1 (0, -1)
      refine r_aload_n (pc' := 233) dX11_readsClause_232 rfl rfl ?_
      refine r_getr (pc' := 236) dX11_readsClause_233 rfl fX11_16 z166 rfl ?_
      refine r_iconst (pc' := 237) dX11_readsClause_236 rfl ?_
      refine r_dup2 (pc' := 238) dX11_readsClause_237 rfl rfl rfl ?_
      refine r_iaload (pc' := 239) (x := (Pq u : Int)) dX11_readsClause_238 rfl z169 (by decide) (by omega) (by omega) (by rw [mu_ne (by decide)]; exact d3) ?_
      refine r_iconst (pc' := 240) dX11_readsClause_239 rfl ?_
      refine r_iadd (pc' := 241) dX11_readsClause_240 rfl ?_
      refine r_iastore (pc' := 242) dX11_readsClause_241 rfl z169 (by decide) (by omega) (by omega) rfl ?_
      refine r_aload_n (pc' := 243) dX11_readsClause_242 rfl rfl ?_
      refine r_bipush (pc' := 245) dX11_readsClause_243 rfl (by decide) ?_
      refine r_iconst (pc' := 246) dX11_readsClause_245 rfl ?_
      refine r_iload_n (pc' := 247) dX11_readsClause_246 rfl rfl ?_
      refine r_imul (pc' := 248) dX11_readsClause_247 rfl ?_
      refine r_iadd (pc' := 249) dX11_readsClause_248 rfl ?_
      refine r_iconst (pc' := 250) dX11_readsClause_249 rfl ?_
      refine r_bipush (pc' := 252) dX11_readsClause_250 rfl (by decide) ?_
      refine r_vi3 (pc' := 255) dX11_readsClause_252 rfl qX11_number lX11_93 z166 rfl rfl rfl rfl (Nat.zero_le _) (Nat.zero_le _) (m_num ((hR.pos (q := p + 1) (x := (p : Int) + 1) (by omega) (by omega)).dr _ _) (by omega) (by omega) (by decide) (by decide) (fun b1 g1 ht1 hf1 fr1 => ?_))
      refine r_if_eq (tgt := 287) (pc' := 258) dX11_readsClause_255 rfl rfl (b01_R _) (fun c255 => ?_) (fun c255 => ?_)
      · refine r_iconst (pc' := 288) dX11_readsClause_287 rfl ?_
        refine r_reti dX11_readsClause_288 rfl (Or.inr ⟨rfl, by first | exact Or.inl rfl | exact Or.inr rfl | omega⟩) ?_
        first
          | (obtain ⟨n1, q, q1, q2, q3⟩ := hf1 (b01_eq c255)
             exact h.no (f := (numR N T 0 6 (p + 1) (0, -1)).2.2) (by rw [ecl, num_f n1]; show (mrkR N T 59 _ _).2 = _; rw [mrk_f n1]) n1 q1 q2 q3 (((FrP.pos _ _).d.tr (FrD.dr _ _ _)).tr fr1))
          | (obtain ⟨n0, n2, n3⟩ := ht1 (b01_ne c255)
             obtain ⟨n1, q, q1, q2, q3⟩ := hf2 (b01_eq c273)
             exact h.no (f := (numR N T 0 6 (numR N T 0 6 (p + 1) (0, -1)).2.1 (0, -1)).2.2) (by rw [ecl, num_ok n0]; show (mrkR N T 59 _ _).2 = _; rw [mrk_f n1]) n1 q1 q2 q3 ((((FrP.pos _ _).d.tr (FrD.dr _ _ _)).tr fr1).tr fr2))
          | (obtain ⟨n0, n2, n3⟩ := ht1 (b01_ne c255)
             obtain ⟨n0', n2', n3'⟩ := ht2 (b01_ne c273)
             obtain ⟨m1, m2, m3⟩ := hf3 (b01_eq c280)
             exact h.no (f := (1, (skT N T (numR N T 0 6 (numR N T 0 6 (p + 1) (0, -1)).2.1 (0, -1)).2.1 : Int))) (by rw [ecl, num_ok n0, num_ok n0', mrk_no m1]) (by show (1 : Nat) ≠ 0; decide) rfl m2 m3 (((((FrP.pos _ _).d.tr (FrD.dr _ _ _)).tr fr1).tr fr2).tr fr3))
          | (obtain ⟨n0, n2, n3⟩ := ht1 (b01_ne c255)
             obtain ⟨n0', n2', n3'⟩ := ht2 (b01_ne c273)
             obtain ⟨m1, m2⟩ := ht3 (b01_ne c280)
             exact h.yes (by rw [ecl, num_ok n0, num_ok n0', mrk_yes m1]) m2 (DM_H hD (by omega) (by omega) (by omega) (by omega) (by omega) (by rw [e3, n3', mu_at' (by omega), n3, mu_at' (by omega), mu_at]) (by rw [e3, n3', mu_at' (by omega), n3, mu_at]) (by rw [e3, n3', mu_at]) (fun k a b c => by rw [e3, n3', mu_at' c, n3, mu_at' b, mu_at' a, mu_ne (by decide)])) (((((FrP.pos _ _).d.tr (FrD.dr _ _ _)).tr fr1).tr fr2).tr fr3))
      · refine r_aload_n (pc' := 259) dX11_readsClause_258 rfl rfl ?_
        refine r_bipush (pc' := 261) dX11_readsClause_259 rfl (by decide) ?_
        refine r_iconst (pc' := 262) dX11_readsClause_261 rfl ?_
        refine r_iload_n (pc' := 263) dX11_readsClause_262 rfl rfl ?_
        refine r_imul (pc' := 264) dX11_readsClause_263 rfl ?_
        refine r_iadd (pc' := 265) dX11_readsClause_264 rfl ?_
        refine r_iconst (pc' := 266) dX11_readsClause_265 rfl ?_
        refine r_iadd (pc' := 267) dX11_readsClause_266 rfl ?_
        refine r_iconst (pc' := 268) dX11_readsClause_267 rfl ?_
        refine r_bipush (pc' := 270) dX11_readsClause_268 rfl (by decide) ?_
        refine r_vi3 (pc' := 273) dX11_readsClause_270 rfl qX11_number lX11_93 z166 rfl rfl rfl rfl (Nat.zero_le _) (Nat.zero_le _) (m_num (ht1 (b01_ne c255)).2.1 (by omega) (by omega) (by decide) (by decide) (fun b2 g2 ht2 hf2 fr2 => ?_))
        refine r_if_eq (tgt := 287) (pc' := 276) dX11_readsClause_273 rfl rfl (b01_R _) (fun c273 => ?_) (fun c273 => ?_)
        · refine r_iconst (pc' := 288) dX11_readsClause_287 rfl ?_
          refine r_reti dX11_readsClause_288 rfl (Or.inr ⟨rfl, by first | exact Or.inl rfl | exact Or.inr rfl | omega⟩) ?_
          first
            | (obtain ⟨n1, q, q1, q2, q3⟩ := hf1 (b01_eq c255)
               exact h.no (f := (numR N T 0 6 (p + 1) (0, -1)).2.2) (by rw [ecl, num_f n1]; show (mrkR N T 59 _ _).2 = _; rw [mrk_f n1]) n1 q1 q2 q3 (((FrP.pos _ _).d.tr (FrD.dr _ _ _)).tr fr1))
            | (obtain ⟨n0, n2, n3⟩ := ht1 (b01_ne c255)
               obtain ⟨n1, q, q1, q2, q3⟩ := hf2 (b01_eq c273)
               exact h.no (f := (numR N T 0 6 (numR N T 0 6 (p + 1) (0, -1)).2.1 (0, -1)).2.2) (by rw [ecl, num_ok n0]; show (mrkR N T 59 _ _).2 = _; rw [mrk_f n1]) n1 q1 q2 q3 ((((FrP.pos _ _).d.tr (FrD.dr _ _ _)).tr fr1).tr fr2))
            | (obtain ⟨n0, n2, n3⟩ := ht1 (b01_ne c255)
               obtain ⟨n0', n2', n3'⟩ := ht2 (b01_ne c273)
               obtain ⟨m1, m2, m3⟩ := hf3 (b01_eq c280)
               exact h.no (f := (1, (skT N T (numR N T 0 6 (numR N T 0 6 (p + 1) (0, -1)).2.1 (0, -1)).2.1 : Int))) (by rw [ecl, num_ok n0, num_ok n0', mrk_no m1]) (by show (1 : Nat) ≠ 0; decide) rfl m2 m3 (((((FrP.pos _ _).d.tr (FrD.dr _ _ _)).tr fr1).tr fr2).tr fr3))
            | (obtain ⟨n0, n2, n3⟩ := ht1 (b01_ne c255)
               obtain ⟨n0', n2', n3'⟩ := ht2 (b01_ne c273)
               obtain ⟨m1, m2⟩ := ht3 (b01_ne c280)
               exact h.yes (by rw [ecl, num_ok n0, num_ok n0', mrk_yes m1]) m2 (DM_H hD (by omega) (by omega) (by omega) (by omega) (by omega) (by rw [e3, n3', mu_at' (by omega), n3, mu_at' (by omega), mu_at]) (by rw [e3, n3', mu_at' (by omega), n3, mu_at]) (by rw [e3, n3', mu_at]) (fun k a b c => by rw [e3, n3', mu_at' c, n3, mu_at' b, mu_at' a, mu_ne (by decide)])) (((((FrP.pos _ _).d.tr (FrD.dr _ _ _)).tr fr1).tr fr2).tr fr3))
        · refine r_aload_n (pc' := 277) dX11_readsClause_276 rfl rfl ?_
          refine r_vi0 (pc' := 280) dX11_readsClause_277 rfl qX11_ends lX11_96 z166 rfl rfl rfl (Nat.zero_le _) (Nat.zero_le _) (m_mrk (ht2 (b01_ne c273)).2.1 (fun b3 g3 ht3 hf3 e3 fr3 => ?_))
          refine r_if_eq (tgt := 287) (pc' := 283) dX11_readsClause_280 rfl rfl (b01_R _) (fun c280 => ?_) (fun c280 => ?_)
          · refine r_iconst (pc' := 288) dX11_readsClause_287 rfl ?_
            refine r_reti dX11_readsClause_288 rfl (Or.inr ⟨rfl, by first | exact Or.inl rfl | exact Or.inr rfl | omega⟩) ?_
            first
              | (obtain ⟨n1, q, q1, q2, q3⟩ := hf1 (b01_eq c255)
                 exact h.no (f := (numR N T 0 6 (p + 1) (0, -1)).2.2) (by rw [ecl, num_f n1]; show (mrkR N T 59 _ _).2 = _; rw [mrk_f n1]) n1 q1 q2 q3 (((FrP.pos _ _).d.tr (FrD.dr _ _ _)).tr fr1))
              | (obtain ⟨n0, n2, n3⟩ := ht1 (b01_ne c255)
                 obtain ⟨n1, q, q1, q2, q3⟩ := hf2 (b01_eq c273)
                 exact h.no (f := (numR N T 0 6 (numR N T 0 6 (p + 1) (0, -1)).2.1 (0, -1)).2.2) (by rw [ecl, num_ok n0]; show (mrkR N T 59 _ _).2 = _; rw [mrk_f n1]) n1 q1 q2 q3 ((((FrP.pos _ _).d.tr (FrD.dr _ _ _)).tr fr1).tr fr2))
              | (obtain ⟨n0, n2, n3⟩ := ht1 (b01_ne c255)
                 obtain ⟨n0', n2', n3'⟩ := ht2 (b01_ne c273)
                 obtain ⟨m1, m2, m3⟩ := hf3 (b01_eq c280)
                 exact h.no (f := (1, (skT N T (numR N T 0 6 (numR N T 0 6 (p + 1) (0, -1)).2.1 (0, -1)).2.1 : Int))) (by rw [ecl, num_ok n0, num_ok n0', mrk_no m1]) (by show (1 : Nat) ≠ 0; decide) rfl m2 m3 (((((FrP.pos _ _).d.tr (FrD.dr _ _ _)).tr fr1).tr fr2).tr fr3))
              | (obtain ⟨n0, n2, n3⟩ := ht1 (b01_ne c255)
                 obtain ⟨n0', n2', n3'⟩ := ht2 (b01_ne c273)
                 obtain ⟨m1, m2⟩ := ht3 (b01_ne c280)
                 exact h.yes (by rw [ecl, num_ok n0, num_ok n0', mrk_yes m1]) m2 (DM_H hD (by omega) (by omega) (by omega) (by omega) (by omega) (by rw [e3, n3', mu_at' (by omega), n3, mu_at' (by omega), mu_at]) (by rw [e3, n3', mu_at' (by omega), n3, mu_at]) (by rw [e3, n3', mu_at]) (fun k a b c => by rw [e3, n3', mu_at' c, n3, mu_at' b, mu_at' a, mu_ne (by decide)])) (((((FrP.pos _ _).d.tr (FrD.dr _ _ _)).tr fr1).tr fr2).tr fr3))
          · refine r_iconst (pc' := 284) dX11_readsClause_283 rfl ?_
            refine r_goto (tgt := 288) dX11_readsClause_284 rfl ?_
            refine r_reti dX11_readsClause_288 rfl (Or.inr ⟨rfl, by first | exact Or.inl rfl | exact Or.inr rfl | omega⟩) ?_
            first
              | (obtain ⟨n1, q, q1, q2, q3⟩ := hf1 (b01_eq c255)
                 exact h.no (f := (numR N T 0 6 (p + 1) (0, -1)).2.2) (by rw [ecl, num_f n1]; show (mrkR N T 59 _ _).2 = _; rw [mrk_f n1]) n1 q1 q2 q3 (((FrP.pos _ _).d.tr (FrD.dr _ _ _)).tr fr1))
              | (obtain ⟨n0, n2, n3⟩ := ht1 (b01_ne c255)
                 obtain ⟨n1, q, q1, q2, q3⟩ := hf2 (b01_eq c273)
                 exact h.no (f := (numR N T 0 6 (numR N T 0 6 (p + 1) (0, -1)).2.1 (0, -1)).2.2) (by rw [ecl, num_ok n0]; show (mrkR N T 59 _ _).2 = _; rw [mrk_f n1]) n1 q1 q2 q3 ((((FrP.pos _ _).d.tr (FrD.dr _ _ _)).tr fr1).tr fr2))
              | (obtain ⟨n0, n2, n3⟩ := ht1 (b01_ne c255)
                 obtain ⟨n0', n2', n3'⟩ := ht2 (b01_ne c273)
                 obtain ⟨m1, m2, m3⟩ := hf3 (b01_eq c280)
                 exact h.no (f := (1, (skT N T (numR N T 0 6 (numR N T 0 6 (p + 1) (0, -1)).2.1 (0, -1)).2.1 : Int))) (by rw [ecl, num_ok n0, num_ok n0', mrk_no m1]) (by show (1 : Nat) ≠ 0; decide) rfl m2 m3 (((((FrP.pos _ _).d.tr (FrD.dr _ _ _)).tr fr1).tr fr2).tr fr3))
              | (obtain ⟨n0, n2, n3⟩ := ht1 (b01_ne c255)
                 obtain ⟨n0', n2', n3'⟩ := ht2 (b01_ne c273)
                 obtain ⟨m1, m2⟩ := ht3 (b01_ne c280)
                 exact h.yes (by rw [ecl, num_ok n0, num_ok n0', mrk_yes m1]) m2 (DM_H hD (by omega) (by omega) (by omega) (by omega) (by omega) (by rw [e3, n3', mu_at' (by omega), n3, mu_at' (by omega), mu_at]) (by rw [e3, n3', mu_at' (by omega), n3, mu_at]) (by rw [e3, n3', mu_at]) (fun k a b c => by rw [e3, n3', mu_at' c, n3, mu_at' b, mu_at' a, mu_ne (by decide)])) (((((FrP.pos _ _).d.tr (FrD.dr _ _ _)).tr fr1).tr fr2).tr fr3))
    · have ecl : clR N T u p (0, -1) = (rdF u (numR N T 0 5 (p + 1) (0, -1)).1 (numR N T 1 9 (numR N T 0 5 (p + 1) (0, -1)).2.1 (numR N T 0 5 (p + 1) (0, -1)).2.2).1, mrkR N T 59 (numR N T 1 9 (numR N T 0 5 (p + 1) (0, -1)).2.1 (numR N T 0 5 (p + 1) (0, -1)).2.2).2.1 (numR N T 1 9 (numR N T 0 5 (p + 1) (0, -1)).2.1 (numR N T 0 5 (p + 1) (0, -1)).2.2).2.2) := by
        rw [cl_r (by omega) (by unfold fulN; rw [if_neg (by omega), if_pos (by omega), decide_eq_false (by omega)]; rfl), show hereT N T p = 102 by omega]
        rfl
      have xb := numR_b (N := N) (T := T) (lo := 0) (hi := 5) (by decide) (p + 1) (0, -1)
      have yb := numR_b (N := N) (T := T) (lo := 1) (hi := 9) (by decide) (numR N T 0 5 (p + 1) (0, -1)).2.1 (0, -1)
      refine r_aload_n (pc' := 184) dX11_readsClause_183 rfl rfl ?_
      refine r_getr (pc' := 187) dX11_readsClause_184 rfl fX11_16 z166 rfl ?_
      refine r_iconst (pc' := 188) dX11_readsClause_187 rfl ?_
      refine r_dup2 (pc' := 189) dX11_readsClause_188 rfl rfl rfl ?_
      refine r_iaload (pc' := 190) (x := (Pf u : Int)) dX11_readsClause_189 rfl z169 (by decide) (by omega) (by omega) (by rw [mu_ne (by decide)]; exact d1) ?_
      refine r_iconst (pc' := 191) dX11_readsClause_190 rfl ?_
      refine r_iadd (pc' := 192) dX11_readsClause_191 rfl ?_
      refine r_iastore (pc' := 193) dX11_readsClause_192 rfl z169 (by decide) (by omega) (by omega) rfl ?_
      refine r_aload_n (pc' := 194) dX11_readsClause_193 rfl rfl ?_
      refine r_iconst (pc' := 195) dX11_readsClause_194 rfl ?_
      refine r_iload_n (pc' := 196) dX11_readsClause_195 rfl rfl ?_
      refine r_iadd (pc' := 197) dX11_readsClause_196 rfl ?_
      refine r_iconst (pc' := 198) dX11_readsClause_197 rfl ?_
      refine r_iconst (pc' := 199) dX11_readsClause_198 rfl ?_
      refine r_vi3 (pc' := 202) dX11_readsClause_199 rfl qX11_number lX11_93 z166 rfl rfl rfl rfl (Nat.zero_le _) (Nat.zero_le _) (m_num ((hR.pos (q := p + 1) (x := (p : Int) + 1) (by omega) (by omega)).dr _ _) (by omega) (by omega) (by decide) (by decide) (fun b1 g1 ht1 hf1 fr1 => ?_))
      refine r_if_eq (tgt := 230) (pc' := 205) dX11_readsClause_202 rfl rfl (b01_R _) (fun c202 => ?_) (fun c202 => ?_)
      · refine r_iconst (pc' := 231) dX11_readsClause_230 rfl ?_
        refine r_reti dX11_readsClause_231 rfl (Or.inr ⟨rfl, by first | exact Or.inl rfl | exact Or.inr rfl | omega⟩) ?_
        first
          | (obtain ⟨n1, q, q1, q2, q3⟩ := hf1 (b01_eq c202)
             exact h.no (f := (numR N T 0 5 (p + 1) (0, -1)).2.2) (by rw [ecl, num_f n1]; show (mrkR N T 59 _ _).2 = _; rw [mrk_f n1]) n1 q1 q2 q3 (((FrP.pos _ _).d.tr (FrD.dr _ _ _)).tr fr1))
          | (obtain ⟨n0, n2, n3⟩ := ht1 (b01_ne c202)
             obtain ⟨n1, q, q1, q2, q3⟩ := hf2 (b01_eq c216)
             exact h.no (f := (numR N T 1 9 (numR N T 0 5 (p + 1) (0, -1)).2.1 (0, -1)).2.2) (by rw [ecl, num_ok n0]; show (mrkR N T 59 _ _).2 = _; rw [mrk_f n1]) n1 q1 q2 q3 ((((FrP.pos _ _).d.tr (FrD.dr _ _ _)).tr fr1).tr fr2))
          | (obtain ⟨n0, n2, n3⟩ := ht1 (b01_ne c202)
             obtain ⟨n0', n2', n3'⟩ := ht2 (b01_ne c216)
             obtain ⟨m1, m2, m3⟩ := hf3 (b01_eq c223)
             exact h.no (f := (1, (skT N T (numR N T 1 9 (numR N T 0 5 (p + 1) (0, -1)).2.1 (0, -1)).2.1 : Int))) (by rw [ecl, num_ok n0, num_ok n0', mrk_no m1]) (by show (1 : Nat) ≠ 0; decide) rfl m2 m3 (((((FrP.pos _ _).d.tr (FrD.dr _ _ _)).tr fr1).tr fr2).tr fr3))
          | (obtain ⟨n0, n2, n3⟩ := ht1 (b01_ne c202)
             obtain ⟨n0', n2', n3'⟩ := ht2 (b01_ne c216)
             obtain ⟨m1, m2⟩ := ht3 (b01_ne c223)
             exact h.yes (by rw [ecl, num_ok n0, num_ok n0', mrk_yes m1]) m2 (DM_F hD (by omega) (by omega) (by omega) (by rw [e3, n3', mu_at' (by omega), n3, mu_at' (by omega), mu_at]) (by rw [e3, n3', mu_at' (by omega), n3, mu_at]) (by rw [e3, n3', mu_at]) (fun k a b c => by rw [e3, n3', mu_at' c, n3, mu_at' b, mu_at' a, mu_ne (by decide)])) (((((FrP.pos _ _).d.tr (FrD.dr _ _ _)).tr fr1).tr fr2).tr fr3))
      · refine r_aload_n (pc' := 206) dX11_readsClause_205 rfl rfl ?_
        refine r_bipush (pc' := 208) dX11_readsClause_206 rfl (by decide) ?_
        refine r_iload_n (pc' := 209) dX11_readsClause_208 rfl rfl ?_
        refine r_iadd (pc' := 210) dX11_readsClause_209 rfl ?_
        refine r_iconst (pc' := 211) dX11_readsClause_210 rfl ?_
        refine r_bipush (pc' := 213) dX11_readsClause_211 rfl (by decide) ?_
        refine r_vi3 (pc' := 216) dX11_readsClause_213 rfl qX11_number lX11_93 z166 rfl rfl rfl rfl (Nat.zero_le _) (Nat.zero_le _) (m_num (ht1 (b01_ne c202)).2.1 (by omega) (by omega) (by decide) (by decide) (fun b2 g2 ht2 hf2 fr2 => ?_))
        refine r_if_eq (tgt := 230) (pc' := 219) dX11_readsClause_216 rfl rfl (b01_R _) (fun c216 => ?_) (fun c216 => ?_)
        · refine r_iconst (pc' := 231) dX11_readsClause_230 rfl ?_
          refine r_reti dX11_readsClause_231 rfl (Or.inr ⟨rfl, by first | exact Or.inl rfl | exact Or.inr rfl | omega⟩) ?_
          first
            | (obtain ⟨n1, q, q1, q2, q3⟩ := hf1 (b01_eq c202)
               exact h.no (f := (numR N T 0 5 (p + 1) (0, -1)).2.2) (by rw [ecl, num_f n1]; show (mrkR N T 59 _ _).2 = _; rw [mrk_f n1]) n1 q1 q2 q3 (((FrP.pos _ _).d.tr (FrD.dr _ _ _)).tr fr1))
            | (obtain ⟨n0, n2, n3⟩ := ht1 (b01_ne c202)
               obtain ⟨n1, q, q1, q2, q3⟩ := hf2 (b01_eq c216)
               exact h.no (f := (numR N T 1 9 (numR N T 0 5 (p + 1) (0, -1)).2.1 (0, -1)).2.2) (by rw [ecl, num_ok n0]; show (mrkR N T 59 _ _).2 = _; rw [mrk_f n1]) n1 q1 q2 q3 ((((FrP.pos _ _).d.tr (FrD.dr _ _ _)).tr fr1).tr fr2))
            | (obtain ⟨n0, n2, n3⟩ := ht1 (b01_ne c202)
               obtain ⟨n0', n2', n3'⟩ := ht2 (b01_ne c216)
               obtain ⟨m1, m2, m3⟩ := hf3 (b01_eq c223)
               exact h.no (f := (1, (skT N T (numR N T 1 9 (numR N T 0 5 (p + 1) (0, -1)).2.1 (0, -1)).2.1 : Int))) (by rw [ecl, num_ok n0, num_ok n0', mrk_no m1]) (by show (1 : Nat) ≠ 0; decide) rfl m2 m3 (((((FrP.pos _ _).d.tr (FrD.dr _ _ _)).tr fr1).tr fr2).tr fr3))
            | (obtain ⟨n0, n2, n3⟩ := ht1 (b01_ne c202)
               obtain ⟨n0', n2', n3'⟩ := ht2 (b01_ne c216)
               obtain ⟨m1, m2⟩ := ht3 (b01_ne c223)
               exact h.yes (by rw [ecl, num_ok n0, num_ok n0', mrk_yes m1]) m2 (DM_F hD (by omega) (by omega) (by omega) (by rw [e3, n3', mu_at' (by omega), n3, mu_at' (by omega), mu_at]) (by rw [e3, n3', mu_at' (by omega), n3, mu_at]) (by rw [e3, n3', mu_at]) (fun k a b c => by rw [e3, n3', mu_at' c, n3, mu_at' b, mu_at' a, mu_ne (by decide)])) (((((FrP.pos _ _).d.tr (FrD.dr _ _ _)).tr fr1).tr fr2).tr fr3))
        · refine r_aload_n (pc' := 220) dX11_readsClause_219 rfl rfl ?_
          refine r_vi0 (pc' := 223) dX11_readsClause_220 rfl qX11_ends lX11_96 z166 rfl rfl rfl (Nat.zero_le _) (Nat.zero_le _) (m_mrk (ht2 (b01_ne c216)).2.1 (fun b3 g3 ht3 hf3 e3 fr3 => ?_))
          refine r_if_eq (tgt := 230) (pc' := 226) dX11_readsClause_223 rfl rfl (b01_R _) (fun c223 => ?_) (fun c223 => ?_)
          · refine r_iconst (pc' := 231) dX11_readsClause_230 rfl ?_
            refine r_reti dX11_readsClause_231 rfl (Or.inr ⟨rfl, by first | exact Or.inl rfl | exact Or.inr rfl | omega⟩) ?_
            first
              | (obtain ⟨n1, q, q1, q2, q3⟩ := hf1 (b01_eq c202)
                 exact h.no (f := (numR N T 0 5 (p + 1) (0, -1)).2.2) (by rw [ecl, num_f n1]; show (mrkR N T 59 _ _).2 = _; rw [mrk_f n1]) n1 q1 q2 q3 (((FrP.pos _ _).d.tr (FrD.dr _ _ _)).tr fr1))
              | (obtain ⟨n0, n2, n3⟩ := ht1 (b01_ne c202)
                 obtain ⟨n1, q, q1, q2, q3⟩ := hf2 (b01_eq c216)
                 exact h.no (f := (numR N T 1 9 (numR N T 0 5 (p + 1) (0, -1)).2.1 (0, -1)).2.2) (by rw [ecl, num_ok n0]; show (mrkR N T 59 _ _).2 = _; rw [mrk_f n1]) n1 q1 q2 q3 ((((FrP.pos _ _).d.tr (FrD.dr _ _ _)).tr fr1).tr fr2))
              | (obtain ⟨n0, n2, n3⟩ := ht1 (b01_ne c202)
                 obtain ⟨n0', n2', n3'⟩ := ht2 (b01_ne c216)
                 obtain ⟨m1, m2, m3⟩ := hf3 (b01_eq c223)
                 exact h.no (f := (1, (skT N T (numR N T 1 9 (numR N T 0 5 (p + 1) (0, -1)).2.1 (0, -1)).2.1 : Int))) (by rw [ecl, num_ok n0, num_ok n0', mrk_no m1]) (by show (1 : Nat) ≠ 0; decide) rfl m2 m3 (((((FrP.pos _ _).d.tr (FrD.dr _ _ _)).tr fr1).tr fr2).tr fr3))
              | (obtain ⟨n0, n2, n3⟩ := ht1 (b01_ne c202)
                 obtain ⟨n0', n2', n3'⟩ := ht2 (b01_ne c216)
                 obtain ⟨m1, m2⟩ := ht3 (b01_ne c223)
                 exact h.yes (by rw [ecl, num_ok n0, num_ok n0', mrk_yes m1]) m2 (DM_F hD (by omega) (by omega) (by omega) (by rw [e3, n3', mu_at' (by omega), n3, mu_at' (by omega), mu_at]) (by rw [e3, n3', mu_at' (by omega), n3, mu_at]) (by rw [e3, n3', mu_at]) (fun k a b c => by rw [e3, n3', mu_at' c, n3, mu_at' b, mu_at' a, mu_ne (by decide)])) (((((FrP.pos _ _).d.tr (FrD.dr _ _ _)).tr fr1).tr fr2).tr fr3))
          · refine r_iconst (pc' := 227) dX11_readsClause_226 rfl ?_
            refine r_goto (tgt := 231) dX11_readsClause_227 rfl ?_
            refine r_reti dX11_readsClause_231 rfl (Or.inr ⟨rfl, by first | exact Or.inl rfl | exact Or.inr rfl | omega⟩) ?_
            first
              | (obtain ⟨n1, q, q1, q2, q3⟩ := hf1 (b01_eq c202)
                 exact h.no (f := (numR N T 0 5 (p + 1) (0, -1)).2.2) (by rw [ecl, num_f n1]; show (mrkR N T 59 _ _).2 = _; rw [mrk_f n1]) n1 q1 q2 q3 (((FrP.pos _ _).d.tr (FrD.dr _ _ _)).tr fr1))
              | (obtain ⟨n0, n2, n3⟩ := ht1 (b01_ne c202)
                 obtain ⟨n1, q, q1, q2, q3⟩ := hf2 (b01_eq c216)
                 exact h.no (f := (numR N T 1 9 (numR N T 0 5 (p + 1) (0, -1)).2.1 (0, -1)).2.2) (by rw [ecl, num_ok n0]; show (mrkR N T 59 _ _).2 = _; rw [mrk_f n1]) n1 q1 q2 q3 ((((FrP.pos _ _).d.tr (FrD.dr _ _ _)).tr fr1).tr fr2))
              | (obtain ⟨n0, n2, n3⟩ := ht1 (b01_ne c202)
                 obtain ⟨n0', n2', n3'⟩ := ht2 (b01_ne c216)
                 obtain ⟨m1, m2, m3⟩ := hf3 (b01_eq c223)
                 exact h.no (f := (1, (skT N T (numR N T 1 9 (numR N T 0 5 (p + 1) (0, -1)).2.1 (0, -1)).2.1 : Int))) (by rw [ecl, num_ok n0, num_ok n0', mrk_no m1]) (by show (1 : Nat) ≠ 0; decide) rfl m2 m3 (((((FrP.pos _ _).d.tr (FrD.dr _ _ _)).tr fr1).tr fr2).tr fr3))
              | (obtain ⟨n0, n2, n3⟩ := ht1 (b01_ne c202)
                 obtain ⟨n0', n2', n3'⟩ := ht2 (b01_ne c216)
                 obtain ⟨m1, m2⟩ := ht3 (b01_ne c223)
                 exact h.yes (by rw [ecl, num_ok n0, num_ok n0', mrk_yes m1]) m2 (DM_F hD (by omega) (by omega) (by omega) (by rw [e3, n3', mu_at' (by omega), n3, mu_at' (by omega), mu_at]) (by rw [e3, n3', mu_at' (by omega), n3, mu_at]) (by rw [e3, n3', mu_at]) (fun k a b c => by rw [e3, n3', mu_at' c, n3, mu_at' b, mu_at' a, mu_ne (by decide)])) (((((FrP.pos _ _).d.tr (FrD.dr _ _ _)).tr fr1).tr fr2).tr fr3))
  · refine r_aload_n (pc' := 173) dX11_readsClause_172 rfl rfl ?_
    have ecl : clR N T u p (0, -1) = (rdW u (kdR N T (p + 1) (0, -1)).1 (kdR N T (p + 1) (0, -1)).2.1, mrkR N T 59 (kdR N T (p + 1) (0, -1)).2.2.1 (kdR N T (p + 1) (0, -1)).2.2.2) := by
      rw [cl_r (by omega) (by unfold fulN; rw [if_neg (by omega), if_neg (by omega), if_pos (by omega), decide_eq_false (by omega)]; rfl), show hereT N T p = 119 by omega]
      rfl
    refine r_vi0 (pc' := 176) dX11_readsClause_173 rfl qX11_readsWord lX11_100 z166 rfl rfl rfl (Nat.zero_le _) (Nat.zero_le _) (m_word (hR.pos (q := p + 1) (x := (p : Int) + 1) (by omega) (by omega)) (hD.fr (mu_ne (by decide))) hU (by omega) ?_)
    rw [ecl] at h
    have h1 := h.fr (FrP.pos g ((p : Int) + 1)).d
    refine ⟨fun a g' b c e => ?_, fun a q b g' c e z => ?_⟩
    · exact r_reti dX11_readsClause_176 rfl (Or.inr ⟨rfl, Or.inr rfl⟩) (h1.1 a g' b c e)
    · exact r_reti dX11_readsClause_176 rfl (Or.inr ⟨rfl, Or.inl rfl⟩) (h1.2 a q b g' c e z)
theorem m_clause {X : CX} {d : Nat} {g : Mem} {K : Int → Mem → Prop} {N : Nat} {T : Nat → Int} {p : Nat} (hR : MRd g N T p) {u : PV} (hD : DM g u) (hU : PW u) (hp : p < N) (h : RdK N T K g (clR N T u p (0, -1))) : EI X (d + 4) mX11_readsClause [vr 166, vi (hereT N T p)] Z0 g K := by
  show AJ X (d + 4) mX11_readsClause 0 0 (QI Z0 K) 0 0 0 [some (vr 166), some (vi (hereT N T p)), none, none] [] Z0 g
  obtain ⟨d0, d4, d1, d2, d3, dk, dh, dw, dq⟩ := id hD.1
  obtain ⟨u0, u1, u2, u3, u4, u5, u6, u7⟩ := id hU
  have hxR := hereT_M hR p
  have h240 := hR.2.1
  refine r_iload_n (pc' := 1) dX11_readsClause_0 rfl rfl ?_
  refine r_bipush (pc' := 3) dX11_readsClause_1 rfl (by decide) ?_
  refine r_icmp_ne (tgt := 63) (pc' := 6) dX11_readsClause_3 rfl rfl hxR.1 (by decide) (fun c3 => ?_) (fun c3 => ?_)
  · refine r_aload_n (pc' := 64) dX11_readsClause_63 rfl rfl ?_
    refine r_getr (pc' := 67) dX11_readsClause_64 rfl fX11_16 z166 rfl ?_
    refine r_iconst (pc' := 68) dX11_readsClause_67 rfl ?_
    refine r_iaload (pc' := 69) dX11_readsClause_68 rfl z169 (by decide) (by omega) (by omega) d0 ?_
    refine r_if_eq (tgt := 90) (pc' := 72) dX11_readsClause_69 rfl rfl (by omega) (fun c69 => ?_) (fun c69 => ?_)
    · refine r_aload_n (pc' := 91) dX11_readsClause_90 rfl rfl ?_
      refine r_iconst (pc' := 92) dX11_readsClause_91 rfl ?_
      refine r_vi1 (pc' := 95) dX11_readsClause_92 rfl qX11_faulty lX11_90 z166 rfl rfl rfl rfl (Nat.zero_le _) (Nat.zero_le _) (m_faulty 1 ?_)
      refine r_reti dX11_readsClause_95 rfl (Or.inr ⟨rfl, by first | exact Or.inl rfl | exact Or.inr rfl | omega⟩) ?_
      exact h.no (f := (1, (p : Int))) (by rw [cl_1 c3 (by omega)]; rfl) (by show (1 : Nat) ≠ 0; decide) rfl (hR.wrong 1) mu_at (FrP.wrong _ _).d
    · refine r_iload_n (pc' := 73) dX11_readsClause_72 rfl rfl ?_
      refine r_bipush (pc' := 75) dX11_readsClause_73 rfl (by decide) ?_
      refine r_icmp_eq (tgt := 96) (pc' := 78) dX11_readsClause_75 rfl rfl hxR.1 (by decide) (fun c75 => ?_) (fun c75 => ?_)
      · refine r_aload_n (pc' := 97) dX11_readsClause_96 rfl rfl ?_
        refine r_getr (pc' := 100) dX11_readsClause_97 rfl fX11_16 z166 rfl ?_
        refine r_iconst (pc' := 101) dX11_readsClause_100 rfl ?_
        refine r_iaload (pc' := 102) dX11_readsClause_101 rfl z169 (by decide) (by omega) (by omega) d1 ?_
        refine r_istore_n (pc' := 103) dX11_readsClause_102 rfl rfl ?_
        refine r_aload_n (pc' := 104) dX11_readsClause_103 rfl rfl ?_
        refine r_getr (pc' := 107) dX11_readsClause_104 rfl fX11_16 z166 rfl ?_
        refine r_iconst (pc' := 108) dX11_readsClause_107 rfl ?_
        refine r_iaload (pc' := 109) dX11_readsClause_108 rfl z169 (by decide) (by omega) (by omega) d3 ?_
        refine r_istore_n (pc' := 110) dX11_readsClause_109 rfl rfl ?_
        refine r_iload_n (pc' := 111) dX11_readsClause_110 rfl rfl ?_
        refine r_bipush (pc' := 113) dX11_readsClause_111 rfl (by decide) ?_
        refine r_icmp_ne (tgt := 122) (pc' := 116) dX11_readsClause_113 rfl rfl hxR.1 (by decide) (fun c113 => ?_) (fun c113 => ?_)
        · refine r_iload_n (pc' := 123) dX11_readsClause_122 rfl rfl ?_
          refine r_bipush (pc' := 125) dX11_readsClause_123 rfl (by decide) ?_
          refine r_icmp_ne (tgt := 139) (pc' := 128) dX11_readsClause_125 rfl rfl hxR.1 (by decide) (fun c125 => ?_) (fun c125 => ?_)
          · refine r_iload_n (pc' := 140) dX11_readsClause_139 rfl rfl ?_
            refine r_bipush (pc' := 142) dX11_readsClause_140 rfl (by decide) ?_
            refine r_icmp_ne (tgt := 156) (pc' := 145) dX11_readsClause_142 rfl rfl hxR.1 (by decide) (fun c142 => ?_) (fun c142 => ?_)
            · exact lm_clause hR hD hU hp (by omega) (by omega) h
            · refine r_iload_n (pc' := 146) dX11_readsClause_145 rfl rfl ?_
              refine r_iconst (pc' := 147) dX11_readsClause_146 rfl ?_
              refine r_icmp_ne (tgt := 156) (pc' := 150) dX11_readsClause_147 rfl rfl (by omega) (by omega) (fun c147 => ?_) (fun c147 => ?_)
              · exact lm_clause hR hD hU hp (by omega) (by omega) h
              · refine r_aload_n (pc' := 151) dX11_readsClause_150 rfl rfl ?_
                refine r_iconst (pc' := 152) dX11_readsClause_151 rfl ?_
                refine r_vi1 (pc' := 155) dX11_readsClause_152 rfl qX11_faulty lX11_90 z166 rfl rfl rfl rfl (Nat.zero_le _) (Nat.zero_le _) (m_faulty 3 ?_)
                refine r_reti dX11_readsClause_155 rfl (Or.inr ⟨rfl, by first | exact Or.inl rfl | exact Or.inr rfl | omega⟩) ?_
                exact h.no (f := (3, (p : Int))) (by rw [cl_3 (by omega) (by
                    unfold fulN
                    rw [if_neg (by omega)]
                    first
                      | (rw [if_pos (by omega), decide_eq_true (by omega)]; decide)
                      | (rw [if_neg (by omega), if_pos (by omega), decide_eq_true (by omega)]; decide)
                      | (rw [if_neg (by omega), if_neg (by omega), decide_eq_true (by omega)]; decide))]; rfl) (by show (3 : Nat) ≠ 0; decide) rfl (hR.wrong 3) mu_at (FrP.wrong _ _).d
          · refine r_aload_n (pc' := 129) dX11_readsClause_128 rfl rfl ?_
            refine r_getr (pc' := 132) dX11_readsClause_129 rfl fX11_16 z166 rfl ?_
            refine r_iconst (pc' := 133) dX11_readsClause_132 rfl ?_
            refine r_iaload (pc' := 134) dX11_readsClause_133 rfl z169 (by decide) (by omega) (by omega) d2 ?_
            refine r_bipush (pc' := 136) dX11_readsClause_134 rfl (by decide) ?_
            refine r_icmp_eq (tgt := 150) (pc' := 139) dX11_readsClause_136 rfl rfl (by omega) (by omega) (fun c136 => ?_) (fun c136 => ?_)
            · refine r_aload_n (pc' := 151) dX11_readsClause_150 rfl rfl ?_
              refine r_iconst (pc' := 152) dX11_readsClause_151 rfl ?_
              refine r_vi1 (pc' := 155) dX11_readsClause_152 rfl qX11_faulty lX11_90 z166 rfl rfl rfl rfl (Nat.zero_le _) (Nat.zero_le _) (m_faulty 3 ?_)
              refine r_reti dX11_readsClause_155 rfl (Or.inr ⟨rfl, by first | exact Or.inl rfl | exact Or.inr rfl | omega⟩) ?_
              exact h.no (f := (3, (p : Int))) (by rw [cl_3 (by omega) (by
                  unfold fulN
                  rw [if_neg (by omega)]
                  first
                    | (rw [if_pos (by omega), decide_eq_true (by omega)]; decide)
                    | (rw [if_neg (by omega), if_pos (by omega), decide_eq_true (by omega)]; decide)
                    | (rw [if_neg (by omega), if_neg (by omega), decide_eq_true (by omega)]; decide))]; rfl) (by show (3 : Nat) ≠ 0; decide) rfl (hR.wrong 3) mu_at (FrP.wrong _ _).d
            · refine r_iload_n (pc' := 140) dX11_readsClause_139 rfl rfl ?_
              refine r_bipush (pc' := 142) dX11_readsClause_140 rfl (by decide) ?_
              refine r_icmp_ne (tgt := 156) (pc' := 145) dX11_readsClause_142 rfl rfl hxR.1 (by decide) (fun c142 => ?_) (fun c142 => ?_)
              · exact lm_clause hR hD hU hp (by omega) (by omega) h
              · refine r_iload_n (pc' := 146) dX11_readsClause_145 rfl rfl ?_
                refine r_iconst (pc' := 147) dX11_readsClause_146 rfl ?_
                refine r_icmp_ne (tgt := 156) (pc' := 150) dX11_readsClause_147 rfl rfl (by omega) (by omega) (fun c147 => ?_) (fun c147 => ?_)
                · exact lm_clause hR hD hU hp (by omega) (by omega) h
                · refine r_aload_n (pc' := 151) dX11_readsClause_150 rfl rfl ?_
                  refine r_iconst (pc' := 152) dX11_readsClause_151 rfl ?_
                  refine r_vi1 (pc' := 155) dX11_readsClause_152 rfl qX11_faulty lX11_90 z166 rfl rfl rfl rfl (Nat.zero_le _) (Nat.zero_le _) (m_faulty 3 ?_)
                  refine r_reti dX11_readsClause_155 rfl (Or.inr ⟨rfl, by first | exact Or.inl rfl | exact Or.inr rfl | omega⟩) ?_
                  exact h.no (f := (3, (p : Int))) (by rw [cl_3 (by omega) (by
                      unfold fulN
                      rw [if_neg (by omega)]
                      first
                        | (rw [if_pos (by omega), decide_eq_true (by omega)]; decide)
                        | (rw [if_neg (by omega), if_pos (by omega), decide_eq_true (by omega)]; decide)
                        | (rw [if_neg (by omega), if_neg (by omega), decide_eq_true (by omega)]; decide))]; rfl) (by show (3 : Nat) ≠ 0; decide) rfl (hR.wrong 3) mu_at (FrP.wrong _ _).d
        · refine r_iload_n (pc' := 117) dX11_readsClause_116 rfl rfl ?_
          refine r_bipush (pc' := 119) dX11_readsClause_117 rfl (by decide) ?_
          refine r_icmp_eq (tgt := 150) (pc' := 122) dX11_readsClause_119 rfl rfl (by omega) (by omega) (fun c119 => ?_) (fun c119 => ?_)
          · refine r_aload_n (pc' := 151) dX11_readsClause_150 rfl rfl ?_
            refine r_iconst (pc' := 152) dX11_readsClause_151 rfl ?_
            refine r_vi1 (pc' := 155) dX11_readsClause_152 rfl qX11_faulty lX11_90 z166 rfl rfl rfl rfl (Nat.zero_le _) (Nat.zero_le _) (m_faulty 3 ?_)
            refine r_reti dX11_readsClause_155 rfl (Or.inr ⟨rfl, by first | exact Or.inl rfl | exact Or.inr rfl | omega⟩) ?_
            exact h.no (f := (3, (p : Int))) (by rw [cl_3 (by omega) (by
                unfold fulN
                rw [if_neg (by omega)]
                first
                  | (rw [if_pos (by omega), decide_eq_true (by omega)]; decide)
                  | (rw [if_neg (by omega), if_pos (by omega), decide_eq_true (by omega)]; decide)
                  | (rw [if_neg (by omega), if_neg (by omega), decide_eq_true (by omega)]; decide))]; rfl) (by show (3 : Nat) ≠ 0; decide) rfl (hR.wrong 3) mu_at (FrP.wrong _ _).d
          · refine r_iload_n (pc' := 123) dX11_readsClause_122 rfl rfl ?_
            refine r_bipush (pc' := 125) dX11_readsClause_123 rfl (by decide) ?_
            refine r_icmp_ne (tgt := 139) (pc' := 128) dX11_readsClause_125 rfl rfl hxR.1 (by decide) (fun c125 => ?_) (fun c125 => ?_)
            · refine r_iload_n (pc' := 140) dX11_readsClause_139 rfl rfl ?_
              refine r_bipush (pc' := 142) dX11_readsClause_140 rfl (by decide) ?_
              refine r_icmp_ne (tgt := 156) (pc' := 145) dX11_readsClause_142 rfl rfl hxR.1 (by decide) (fun c142 => ?_) (fun c142 => ?_)
              · exact lm_clause hR hD hU hp (by omega) (by omega) h
              · refine r_iload_n (pc' := 146) dX11_readsClause_145 rfl rfl ?_
                refine r_iconst (pc' := 147) dX11_readsClause_146 rfl ?_
                refine r_icmp_ne (tgt := 156) (pc' := 150) dX11_readsClause_147 rfl rfl (by omega) (by omega) (fun c147 => ?_) (fun c147 => ?_)
                · exact lm_clause hR hD hU hp (by omega) (by omega) h
                · refine r_aload_n (pc' := 151) dX11_readsClause_150 rfl rfl ?_
                  refine r_iconst (pc' := 152) dX11_readsClause_151 rfl ?_
                  refine r_vi1 (pc' := 155) dX11_readsClause_152 rfl qX11_faulty lX11_90 z166 rfl rfl rfl rfl (Nat.zero_le _) (Nat.zero_le _) (m_faulty 3 ?_)
                  refine r_reti dX11_readsClause_155 rfl (Or.inr ⟨rfl, by first | exact Or.inl rfl | exact Or.inr rfl | omega⟩) ?_
                  exact h.no (f := (3, (p : Int))) (by rw [cl_3 (by omega) (by
                      unfold fulN
                      rw [if_neg (by omega)]
                      first
                        | (rw [if_pos (by omega), decide_eq_true (by omega)]; decide)
                        | (rw [if_neg (by omega), if_pos (by omega), decide_eq_true (by omega)]; decide)
                        | (rw [if_neg (by omega), if_neg (by omega), decide_eq_true (by omega)]; decide))]; rfl) (by show (3 : Nat) ≠ 0; decide) rfl (hR.wrong 3) mu_at (FrP.wrong _ _).d
            · refine r_aload_n (pc' := 129) dX11_readsClause_128 rfl rfl ?_
              refine r_getr (pc' := 132) dX11_readsClause_129 rfl fX11_16 z166 rfl ?_
              refine r_iconst (pc' := 133) dX11_readsClause_132 rfl ?_
              refine r_iaload (pc' := 134) dX11_readsClause_133 rfl z169 (by decide) (by omega) (by omega) d2 ?_
              refine r_bipush (pc' := 136) dX11_readsClause_134 rfl (by decide) ?_
              refine r_icmp_eq (tgt := 150) (pc' := 139) dX11_readsClause_136 rfl rfl (by omega) (by omega) (fun c136 => ?_) (fun c136 => ?_)
              · refine r_aload_n (pc' := 151) dX11_readsClause_150 rfl rfl ?_
                refine r_iconst (pc' := 152) dX11_readsClause_151 rfl ?_
                refine r_vi1 (pc' := 155) dX11_readsClause_152 rfl qX11_faulty lX11_90 z166 rfl rfl rfl rfl (Nat.zero_le _) (Nat.zero_le _) (m_faulty 3 ?_)
                refine r_reti dX11_readsClause_155 rfl (Or.inr ⟨rfl, by first | exact Or.inl rfl | exact Or.inr rfl | omega⟩) ?_
                exact h.no (f := (3, (p : Int))) (by rw [cl_3 (by omega) (by
                    unfold fulN
                    rw [if_neg (by omega)]
                    first
                      | (rw [if_pos (by omega), decide_eq_true (by omega)]; decide)
                      | (rw [if_neg (by omega), if_pos (by omega), decide_eq_true (by omega)]; decide)
                      | (rw [if_neg (by omega), if_neg (by omega), decide_eq_true (by omega)]; decide))]; rfl) (by show (3 : Nat) ≠ 0; decide) rfl (hR.wrong 3) mu_at (FrP.wrong _ _).d
              · refine r_iload_n (pc' := 140) dX11_readsClause_139 rfl rfl ?_
                refine r_bipush (pc' := 142) dX11_readsClause_140 rfl (by decide) ?_
                refine r_icmp_ne (tgt := 156) (pc' := 145) dX11_readsClause_142 rfl rfl hxR.1 (by decide) (fun c142 => ?_) (fun c142 => ?_)
                · exact lm_clause hR hD hU hp (by omega) (by omega) h
                · refine r_iload_n (pc' := 146) dX11_readsClause_145 rfl rfl ?_
                  refine r_iconst (pc' := 147) dX11_readsClause_146 rfl ?_
                  refine r_icmp_ne (tgt := 156) (pc' := 150) dX11_readsClause_147 rfl rfl (by omega) (by omega) (fun c147 => ?_) (fun c147 => ?_)
                  · exact lm_clause hR hD hU hp (by omega) (by omega) h
                  · refine r_aload_n (pc' := 151) dX11_readsClause_150 rfl rfl ?_
                    refine r_iconst (pc' := 152) dX11_readsClause_151 rfl ?_
                    refine r_vi1 (pc' := 155) dX11_readsClause_152 rfl qX11_faulty lX11_90 z166 rfl rfl rfl rfl (Nat.zero_le _) (Nat.zero_le _) (m_faulty 3 ?_)
                    refine r_reti dX11_readsClause_155 rfl (Or.inr ⟨rfl, by first | exact Or.inl rfl | exact Or.inr rfl | omega⟩) ?_
                    exact h.no (f := (3, (p : Int))) (by rw [cl_3 (by omega) (by
                        unfold fulN
                        rw [if_neg (by omega)]
                        first
                          | (rw [if_pos (by omega), decide_eq_true (by omega)]; decide)
                          | (rw [if_neg (by omega), if_pos (by omega), decide_eq_true (by omega)]; decide)
                          | (rw [if_neg (by omega), if_neg (by omega), decide_eq_true (by omega)]; decide))]; rfl) (by show (3 : Nat) ≠ 0; decide) rfl (hR.wrong 3) mu_at (FrP.wrong _ _).d
      · refine r_iload_n (pc' := 79) dX11_readsClause_78 rfl rfl ?_
        refine r_bipush (pc' := 81) dX11_readsClause_79 rfl (by decide) ?_
        refine r_icmp_eq (tgt := 96) (pc' := 84) dX11_readsClause_81 rfl rfl hxR.1 (by decide) (fun c81 => ?_) (fun c81 => ?_)
        · refine r_aload_n (pc' := 97) dX11_readsClause_96 rfl rfl ?_
          refine r_getr (pc' := 100) dX11_readsClause_97 rfl fX11_16 z166 rfl ?_
          refine r_iconst (pc' := 101) dX11_readsClause_100 rfl ?_
          refine r_iaload (pc' := 102) dX11_readsClause_101 rfl z169 (by decide) (by omega) (by omega) d1 ?_
          refine r_istore_n (pc' := 103) dX11_readsClause_102 rfl rfl ?_
          refine r_aload_n (pc' := 104) dX11_readsClause_103 rfl rfl ?_
          refine r_getr (pc' := 107) dX11_readsClause_104 rfl fX11_16 z166 rfl ?_
          refine r_iconst (pc' := 108) dX11_readsClause_107 rfl ?_
          refine r_iaload (pc' := 109) dX11_readsClause_108 rfl z169 (by decide) (by omega) (by omega) d3 ?_
          refine r_istore_n (pc' := 110) dX11_readsClause_109 rfl rfl ?_
          refine r_iload_n (pc' := 111) dX11_readsClause_110 rfl rfl ?_
          refine r_bipush (pc' := 113) dX11_readsClause_111 rfl (by decide) ?_
          refine r_icmp_ne (tgt := 122) (pc' := 116) dX11_readsClause_113 rfl rfl hxR.1 (by decide) (fun c113 => ?_) (fun c113 => ?_)
          · refine r_iload_n (pc' := 123) dX11_readsClause_122 rfl rfl ?_
            refine r_bipush (pc' := 125) dX11_readsClause_123 rfl (by decide) ?_
            refine r_icmp_ne (tgt := 139) (pc' := 128) dX11_readsClause_125 rfl rfl hxR.1 (by decide) (fun c125 => ?_) (fun c125 => ?_)
            · refine r_iload_n (pc' := 140) dX11_readsClause_139 rfl rfl ?_
              refine r_bipush (pc' := 142) dX11_readsClause_140 rfl (by decide) ?_
              refine r_icmp_ne (tgt := 156) (pc' := 145) dX11_readsClause_142 rfl rfl hxR.1 (by decide) (fun c142 => ?_) (fun c142 => ?_)
              · exact lm_clause hR hD hU hp (by omega) (by omega) h
              · refine r_iload_n (pc' := 146) dX11_readsClause_145 rfl rfl ?_
                refine r_iconst (pc' := 147) dX11_readsClause_146 rfl ?_
                refine r_icmp_ne (tgt := 156) (pc' := 150) dX11_readsClause_147 rfl rfl (by omega) (by omega) (fun c147 => ?_) (fun c147 => ?_)
                · exact lm_clause hR hD hU hp (by omega) (by omega) h
                · refine r_aload_n (pc' := 151) dX11_readsClause_150 rfl rfl ?_
                  refine r_iconst (pc' := 152) dX11_readsClause_151 rfl ?_
                  refine r_vi1 (pc' := 155) dX11_readsClause_152 rfl qX11_faulty lX11_90 z166 rfl rfl rfl rfl (Nat.zero_le _) (Nat.zero_le _) (m_faulty 3 ?_)
                  refine r_reti dX11_readsClause_155 rfl (Or.inr ⟨rfl, by first | exact Or.inl rfl | exact Or.inr rfl | omega⟩) ?_
                  exact h.no (f := (3, (p : Int))) (by rw [cl_3 (by omega) (by
                      unfold fulN
                      rw [if_neg (by omega)]
                      first
                        | (rw [if_pos (by omega), decide_eq_true (by omega)]; decide)
                        | (rw [if_neg (by omega), if_pos (by omega), decide_eq_true (by omega)]; decide)
                        | (rw [if_neg (by omega), if_neg (by omega), decide_eq_true (by omega)]; decide))]; rfl) (by show (3 : Nat) ≠ 0; decide) rfl (hR.wrong 3) mu_at (FrP.wrong _ _).d
            · refine r_aload_n (pc' := 129) dX11_readsClause_128 rfl rfl ?_
              refine r_getr (pc' := 132) dX11_readsClause_129 rfl fX11_16 z166 rfl ?_
              refine r_iconst (pc' := 133) dX11_readsClause_132 rfl ?_
              refine r_iaload (pc' := 134) dX11_readsClause_133 rfl z169 (by decide) (by omega) (by omega) d2 ?_
              refine r_bipush (pc' := 136) dX11_readsClause_134 rfl (by decide) ?_
              refine r_icmp_eq (tgt := 150) (pc' := 139) dX11_readsClause_136 rfl rfl (by omega) (by omega) (fun c136 => ?_) (fun c136 => ?_)
              · refine r_aload_n (pc' := 151) dX11_readsClause_150 rfl rfl ?_
                refine r_iconst (pc' := 152) dX11_readsClause_151 rfl ?_
                refine r_vi1 (pc' := 155) dX11_readsClause_152 rfl qX11_faulty lX11_90 z166 rfl rfl rfl rfl (Nat.zero_le _) (Nat.zero_le _) (m_faulty 3 ?_)
                refine r_reti dX11_readsClause_155 rfl (Or.inr ⟨rfl, by first | exact Or.inl rfl | exact Or.inr rfl | omega⟩) ?_
                exact h.no (f := (3, (p : Int))) (by rw [cl_3 (by omega) (by
                    unfold fulN
                    rw [if_neg (by omega)]
                    first
                      | (rw [if_pos (by omega), decide_eq_true (by omega)]; decide)
                      | (rw [if_neg (by omega), if_pos (by omega), decide_eq_true (by omega)]; decide)
                      | (rw [if_neg (by omega), if_neg (by omega), decide_eq_true (by omega)]; decide))]; rfl) (by show (3 : Nat) ≠ 0; decide) rfl (hR.wrong 3) mu_at (FrP.wrong _ _).d
              · refine r_iload_n (pc' := 140) dX11_readsClause_139 rfl rfl ?_
                refine r_bipush (pc' := 142) dX11_readsClause_140 rfl (by decide) ?_
                refine r_icmp_ne (tgt := 156) (pc' := 145) dX11_readsClause_142 rfl rfl hxR.1 (by decide) (fun c142 => ?_) (fun c142 => ?_)
                · exact lm_clause hR hD hU hp (by omega) (by omega) h
                · refine r_iload_n (pc' := 146) dX11_readsClause_145 rfl rfl ?_
                  refine r_iconst (pc' := 147) dX11_readsClause_146 rfl ?_
                  refine r_icmp_ne (tgt := 156) (pc' := 150) dX11_readsClause_147 rfl rfl (by omega) (by omega) (fun c147 => ?_) (fun c147 => ?_)
                  · exact lm_clause hR hD hU hp (by omega) (by omega) h
                  · refine r_aload_n (pc' := 151) dX11_readsClause_150 rfl rfl ?_
                    refine r_iconst (pc' := 152) dX11_readsClause_151 rfl ?_
                    refine r_vi1 (pc' := 155) dX11_readsClause_152 rfl qX11_faulty lX11_90 z166 rfl rfl rfl rfl (Nat.zero_le _) (Nat.zero_le _) (m_faulty 3 ?_)
                    refine r_reti dX11_readsClause_155 rfl (Or.inr ⟨rfl, by first | exact Or.inl rfl | exact Or.inr rfl | omega⟩) ?_
                    exact h.no (f := (3, (p : Int))) (by rw [cl_3 (by omega) (by
                        unfold fulN
                        rw [if_neg (by omega)]
                        first
                          | (rw [if_pos (by omega), decide_eq_true (by omega)]; decide)
                          | (rw [if_neg (by omega), if_pos (by omega), decide_eq_true (by omega)]; decide)
                          | (rw [if_neg (by omega), if_neg (by omega), decide_eq_true (by omega)]; decide))]; rfl) (by show (3 : Nat) ≠ 0; decide) rfl (hR.wrong 3) mu_at (FrP.wrong _ _).d
          · refine r_iload_n (pc' := 117) dX11_readsClause_116 rfl rfl ?_
            refine r_bipush (pc' := 119) dX11_readsClause_117 rfl (by decide) ?_
            refine r_icmp_eq (tgt := 150) (pc' := 122) dX11_readsClause_119 rfl rfl (by omega) (by omega) (fun c119 => ?_) (fun c119 => ?_)
            · refine r_aload_n (pc' := 151) dX11_readsClause_150 rfl rfl ?_
              refine r_iconst (pc' := 152) dX11_readsClause_151 rfl ?_
              refine r_vi1 (pc' := 155) dX11_readsClause_152 rfl qX11_faulty lX11_90 z166 rfl rfl rfl rfl (Nat.zero_le _) (Nat.zero_le _) (m_faulty 3 ?_)
              refine r_reti dX11_readsClause_155 rfl (Or.inr ⟨rfl, by first | exact Or.inl rfl | exact Or.inr rfl | omega⟩) ?_
              exact h.no (f := (3, (p : Int))) (by rw [cl_3 (by omega) (by
                  unfold fulN
                  rw [if_neg (by omega)]
                  first
                    | (rw [if_pos (by omega), decide_eq_true (by omega)]; decide)
                    | (rw [if_neg (by omega), if_pos (by omega), decide_eq_true (by omega)]; decide)
                    | (rw [if_neg (by omega), if_neg (by omega), decide_eq_true (by omega)]; decide))]; rfl) (by show (3 : Nat) ≠ 0; decide) rfl (hR.wrong 3) mu_at (FrP.wrong _ _).d
            · refine r_iload_n (pc' := 123) dX11_readsClause_122 rfl rfl ?_
              refine r_bipush (pc' := 125) dX11_readsClause_123 rfl (by decide) ?_
              refine r_icmp_ne (tgt := 139) (pc' := 128) dX11_readsClause_125 rfl rfl hxR.1 (by decide) (fun c125 => ?_) (fun c125 => ?_)
              · refine r_iload_n (pc' := 140) dX11_readsClause_139 rfl rfl ?_
                refine r_bipush (pc' := 142) dX11_readsClause_140 rfl (by decide) ?_
                refine r_icmp_ne (tgt := 156) (pc' := 145) dX11_readsClause_142 rfl rfl hxR.1 (by decide) (fun c142 => ?_) (fun c142 => ?_)
                · exact lm_clause hR hD hU hp (by omega) (by omega) h
                · refine r_iload_n (pc' := 146) dX11_readsClause_145 rfl rfl ?_
                  refine r_iconst (pc' := 147) dX11_readsClause_146 rfl ?_
                  refine r_icmp_ne (tgt := 156) (pc' := 150) dX11_readsClause_147 rfl rfl (by omega) (by omega) (fun c147 => ?_) (fun c147 => ?_)
                  · exact lm_clause hR hD hU hp (by omega) (by omega) h
                  · refine r_aload_n (pc' := 151) dX11_readsClause_150 rfl rfl ?_
                    refine r_iconst (pc' := 152) dX11_readsClause_151 rfl ?_
                    refine r_vi1 (pc' := 155) dX11_readsClause_152 rfl qX11_faulty lX11_90 z166 rfl rfl rfl rfl (Nat.zero_le _) (Nat.zero_le _) (m_faulty 3 ?_)
                    refine r_reti dX11_readsClause_155 rfl (Or.inr ⟨rfl, by first | exact Or.inl rfl | exact Or.inr rfl | omega⟩) ?_
                    exact h.no (f := (3, (p : Int))) (by rw [cl_3 (by omega) (by
                        unfold fulN
                        rw [if_neg (by omega)]
                        first
                          | (rw [if_pos (by omega), decide_eq_true (by omega)]; decide)
                          | (rw [if_neg (by omega), if_pos (by omega), decide_eq_true (by omega)]; decide)
                          | (rw [if_neg (by omega), if_neg (by omega), decide_eq_true (by omega)]; decide))]; rfl) (by show (3 : Nat) ≠ 0; decide) rfl (hR.wrong 3) mu_at (FrP.wrong _ _).d
              · refine r_aload_n (pc' := 129) dX11_readsClause_128 rfl rfl ?_
                refine r_getr (pc' := 132) dX11_readsClause_129 rfl fX11_16 z166 rfl ?_
                refine r_iconst (pc' := 133) dX11_readsClause_132 rfl ?_
                refine r_iaload (pc' := 134) dX11_readsClause_133 rfl z169 (by decide) (by omega) (by omega) d2 ?_
                refine r_bipush (pc' := 136) dX11_readsClause_134 rfl (by decide) ?_
                refine r_icmp_eq (tgt := 150) (pc' := 139) dX11_readsClause_136 rfl rfl (by omega) (by omega) (fun c136 => ?_) (fun c136 => ?_)
                · refine r_aload_n (pc' := 151) dX11_readsClause_150 rfl rfl ?_
                  refine r_iconst (pc' := 152) dX11_readsClause_151 rfl ?_
                  refine r_vi1 (pc' := 155) dX11_readsClause_152 rfl qX11_faulty lX11_90 z166 rfl rfl rfl rfl (Nat.zero_le _) (Nat.zero_le _) (m_faulty 3 ?_)
                  refine r_reti dX11_readsClause_155 rfl (Or.inr ⟨rfl, by first | exact Or.inl rfl | exact Or.inr rfl | omega⟩) ?_
                  exact h.no (f := (3, (p : Int))) (by rw [cl_3 (by omega) (by
                      unfold fulN
                      rw [if_neg (by omega)]
                      first
                        | (rw [if_pos (by omega), decide_eq_true (by omega)]; decide)
                        | (rw [if_neg (by omega), if_pos (by omega), decide_eq_true (by omega)]; decide)
                        | (rw [if_neg (by omega), if_neg (by omega), decide_eq_true (by omega)]; decide))]; rfl) (by show (3 : Nat) ≠ 0; decide) rfl (hR.wrong 3) mu_at (FrP.wrong _ _).d
                · refine r_iload_n (pc' := 140) dX11_readsClause_139 rfl rfl ?_
                  refine r_bipush (pc' := 142) dX11_readsClause_140 rfl (by decide) ?_
                  refine r_icmp_ne (tgt := 156) (pc' := 145) dX11_readsClause_142 rfl rfl hxR.1 (by decide) (fun c142 => ?_) (fun c142 => ?_)
                  · exact lm_clause hR hD hU hp (by omega) (by omega) h
                  · refine r_iload_n (pc' := 146) dX11_readsClause_145 rfl rfl ?_
                    refine r_iconst (pc' := 147) dX11_readsClause_146 rfl ?_
                    refine r_icmp_ne (tgt := 156) (pc' := 150) dX11_readsClause_147 rfl rfl (by omega) (by omega) (fun c147 => ?_) (fun c147 => ?_)
                    · exact lm_clause hR hD hU hp (by omega) (by omega) h
                    · refine r_aload_n (pc' := 151) dX11_readsClause_150 rfl rfl ?_
                      refine r_iconst (pc' := 152) dX11_readsClause_151 rfl ?_
                      refine r_vi1 (pc' := 155) dX11_readsClause_152 rfl qX11_faulty lX11_90 z166 rfl rfl rfl rfl (Nat.zero_le _) (Nat.zero_le _) (m_faulty 3 ?_)
                      refine r_reti dX11_readsClause_155 rfl (Or.inr ⟨rfl, by first | exact Or.inl rfl | exact Or.inr rfl | omega⟩) ?_
                      exact h.no (f := (3, (p : Int))) (by rw [cl_3 (by omega) (by
                          unfold fulN
                          rw [if_neg (by omega)]
                          first
                            | (rw [if_pos (by omega), decide_eq_true (by omega)]; decide)
                            | (rw [if_neg (by omega), if_pos (by omega), decide_eq_true (by omega)]; decide)
                            | (rw [if_neg (by omega), if_neg (by omega), decide_eq_true (by omega)]; decide))]; rfl) (by show (3 : Nat) ≠ 0; decide) rfl (hR.wrong 3) mu_at (FrP.wrong _ _).d
        · refine r_iload_n (pc' := 85) dX11_readsClause_84 rfl rfl ?_
          refine r_bipush (pc' := 87) dX11_readsClause_85 rfl (by decide) ?_
          refine r_icmp_eq (tgt := 96) (pc' := 90) dX11_readsClause_87 rfl rfl hxR.1 (by decide) (fun c87 => ?_) (fun c87 => ?_)
          · refine r_aload_n (pc' := 97) dX11_readsClause_96 rfl rfl ?_
            refine r_getr (pc' := 100) dX11_readsClause_97 rfl fX11_16 z166 rfl ?_
            refine r_iconst (pc' := 101) dX11_readsClause_100 rfl ?_
            refine r_iaload (pc' := 102) dX11_readsClause_101 rfl z169 (by decide) (by omega) (by omega) d1 ?_
            refine r_istore_n (pc' := 103) dX11_readsClause_102 rfl rfl ?_
            refine r_aload_n (pc' := 104) dX11_readsClause_103 rfl rfl ?_
            refine r_getr (pc' := 107) dX11_readsClause_104 rfl fX11_16 z166 rfl ?_
            refine r_iconst (pc' := 108) dX11_readsClause_107 rfl ?_
            refine r_iaload (pc' := 109) dX11_readsClause_108 rfl z169 (by decide) (by omega) (by omega) d3 ?_
            refine r_istore_n (pc' := 110) dX11_readsClause_109 rfl rfl ?_
            refine r_iload_n (pc' := 111) dX11_readsClause_110 rfl rfl ?_
            refine r_bipush (pc' := 113) dX11_readsClause_111 rfl (by decide) ?_
            refine r_icmp_ne (tgt := 122) (pc' := 116) dX11_readsClause_113 rfl rfl hxR.1 (by decide) (fun c113 => ?_) (fun c113 => ?_)
            · refine r_iload_n (pc' := 123) dX11_readsClause_122 rfl rfl ?_
              refine r_bipush (pc' := 125) dX11_readsClause_123 rfl (by decide) ?_
              refine r_icmp_ne (tgt := 139) (pc' := 128) dX11_readsClause_125 rfl rfl hxR.1 (by decide) (fun c125 => ?_) (fun c125 => ?_)
              · refine r_iload_n (pc' := 140) dX11_readsClause_139 rfl rfl ?_
                refine r_bipush (pc' := 142) dX11_readsClause_140 rfl (by decide) ?_
                refine r_icmp_ne (tgt := 156) (pc' := 145) dX11_readsClause_142 rfl rfl hxR.1 (by decide) (fun c142 => ?_) (fun c142 => ?_)
                · exact lm_clause hR hD hU hp (by omega) (by omega) h
                · refine r_iload_n (pc' := 146) dX11_readsClause_145 rfl rfl ?_
                  refine r_iconst (pc' := 147) dX11_readsClause_146 rfl ?_
                  refine r_icmp_ne (tgt := 156) (pc' := 150) dX11_readsClause_147 rfl rfl (by omega) (by omega) (fun c147 => ?_) (fun c147 => ?_)
                  · exact lm_clause hR hD hU hp (by omega) (by omega) h
                  · refine r_aload_n (pc' := 151) dX11_readsClause_150 rfl rfl ?_
                    refine r_iconst (pc' := 152) dX11_readsClause_151 rfl ?_
                    refine r_vi1 (pc' := 155) dX11_readsClause_152 rfl qX11_faulty lX11_90 z166 rfl rfl rfl rfl (Nat.zero_le _) (Nat.zero_le _) (m_faulty 3 ?_)
                    refine r_reti dX11_readsClause_155 rfl (Or.inr ⟨rfl, by first | exact Or.inl rfl | exact Or.inr rfl | omega⟩) ?_
                    exact h.no (f := (3, (p : Int))) (by rw [cl_3 (by omega) (by
                        unfold fulN
                        rw [if_neg (by omega)]
                        first
                          | (rw [if_pos (by omega), decide_eq_true (by omega)]; decide)
                          | (rw [if_neg (by omega), if_pos (by omega), decide_eq_true (by omega)]; decide)
                          | (rw [if_neg (by omega), if_neg (by omega), decide_eq_true (by omega)]; decide))]; rfl) (by show (3 : Nat) ≠ 0; decide) rfl (hR.wrong 3) mu_at (FrP.wrong _ _).d
              · refine r_aload_n (pc' := 129) dX11_readsClause_128 rfl rfl ?_
                refine r_getr (pc' := 132) dX11_readsClause_129 rfl fX11_16 z166 rfl ?_
                refine r_iconst (pc' := 133) dX11_readsClause_132 rfl ?_
                refine r_iaload (pc' := 134) dX11_readsClause_133 rfl z169 (by decide) (by omega) (by omega) d2 ?_
                refine r_bipush (pc' := 136) dX11_readsClause_134 rfl (by decide) ?_
                refine r_icmp_eq (tgt := 150) (pc' := 139) dX11_readsClause_136 rfl rfl (by omega) (by omega) (fun c136 => ?_) (fun c136 => ?_)
                · refine r_aload_n (pc' := 151) dX11_readsClause_150 rfl rfl ?_
                  refine r_iconst (pc' := 152) dX11_readsClause_151 rfl ?_
                  refine r_vi1 (pc' := 155) dX11_readsClause_152 rfl qX11_faulty lX11_90 z166 rfl rfl rfl rfl (Nat.zero_le _) (Nat.zero_le _) (m_faulty 3 ?_)
                  refine r_reti dX11_readsClause_155 rfl (Or.inr ⟨rfl, by first | exact Or.inl rfl | exact Or.inr rfl | omega⟩) ?_
                  exact h.no (f := (3, (p : Int))) (by rw [cl_3 (by omega) (by
                      unfold fulN
                      rw [if_neg (by omega)]
                      first
                        | (rw [if_pos (by omega), decide_eq_true (by omega)]; decide)
                        | (rw [if_neg (by omega), if_pos (by omega), decide_eq_true (by omega)]; decide)
                        | (rw [if_neg (by omega), if_neg (by omega), decide_eq_true (by omega)]; decide))]; rfl) (by show (3 : Nat) ≠ 0; decide) rfl (hR.wrong 3) mu_at (FrP.wrong _ _).d
                · refine r_iload_n (pc' := 140) dX11_readsClause_139 rfl rfl ?_
                  refine r_bipush (pc' := 142) dX11_readsClause_140 rfl (by decide) ?_
                  refine r_icmp_ne (tgt := 156) (pc' := 145) dX11_readsClause_142 rfl rfl hxR.1 (by decide) (fun c142 => ?_) (fun c142 => ?_)
                  · exact lm_clause hR hD hU hp (by omega) (by omega) h
                  · refine r_iload_n (pc' := 146) dX11_readsClause_145 rfl rfl ?_
                    refine r_iconst (pc' := 147) dX11_readsClause_146 rfl ?_
                    refine r_icmp_ne (tgt := 156) (pc' := 150) dX11_readsClause_147 rfl rfl (by omega) (by omega) (fun c147 => ?_) (fun c147 => ?_)
                    · exact lm_clause hR hD hU hp (by omega) (by omega) h
                    · refine r_aload_n (pc' := 151) dX11_readsClause_150 rfl rfl ?_
                      refine r_iconst (pc' := 152) dX11_readsClause_151 rfl ?_
                      refine r_vi1 (pc' := 155) dX11_readsClause_152 rfl qX11_faulty lX11_90 z166 rfl rfl rfl rfl (Nat.zero_le _) (Nat.zero_le _) (m_faulty 3 ?_)
                      refine r_reti dX11_readsClause_155 rfl (Or.inr ⟨rfl, by first | exact Or.inl rfl | exact Or.inr rfl | omega⟩) ?_
                      exact h.no (f := (3, (p : Int))) (by rw [cl_3 (by omega) (by
                          unfold fulN
                          rw [if_neg (by omega)]
                          first
                            | (rw [if_pos (by omega), decide_eq_true (by omega)]; decide)
                            | (rw [if_neg (by omega), if_pos (by omega), decide_eq_true (by omega)]; decide)
                            | (rw [if_neg (by omega), if_neg (by omega), decide_eq_true (by omega)]; decide))]; rfl) (by show (3 : Nat) ≠ 0; decide) rfl (hR.wrong 3) mu_at (FrP.wrong _ _).d
            · refine r_iload_n (pc' := 117) dX11_readsClause_116 rfl rfl ?_
              refine r_bipush (pc' := 119) dX11_readsClause_117 rfl (by decide) ?_
              refine r_icmp_eq (tgt := 150) (pc' := 122) dX11_readsClause_119 rfl rfl (by omega) (by omega) (fun c119 => ?_) (fun c119 => ?_)
              · refine r_aload_n (pc' := 151) dX11_readsClause_150 rfl rfl ?_
                refine r_iconst (pc' := 152) dX11_readsClause_151 rfl ?_
                refine r_vi1 (pc' := 155) dX11_readsClause_152 rfl qX11_faulty lX11_90 z166 rfl rfl rfl rfl (Nat.zero_le _) (Nat.zero_le _) (m_faulty 3 ?_)
                refine r_reti dX11_readsClause_155 rfl (Or.inr ⟨rfl, by first | exact Or.inl rfl | exact Or.inr rfl | omega⟩) ?_
                exact h.no (f := (3, (p : Int))) (by rw [cl_3 (by omega) (by
                    unfold fulN
                    rw [if_neg (by omega)]
                    first
                      | (rw [if_pos (by omega), decide_eq_true (by omega)]; decide)
                      | (rw [if_neg (by omega), if_pos (by omega), decide_eq_true (by omega)]; decide)
                      | (rw [if_neg (by omega), if_neg (by omega), decide_eq_true (by omega)]; decide))]; rfl) (by show (3 : Nat) ≠ 0; decide) rfl (hR.wrong 3) mu_at (FrP.wrong _ _).d
              · refine r_iload_n (pc' := 123) dX11_readsClause_122 rfl rfl ?_
                refine r_bipush (pc' := 125) dX11_readsClause_123 rfl (by decide) ?_
                refine r_icmp_ne (tgt := 139) (pc' := 128) dX11_readsClause_125 rfl rfl hxR.1 (by decide) (fun c125 => ?_) (fun c125 => ?_)
                · refine r_iload_n (pc' := 140) dX11_readsClause_139 rfl rfl ?_
                  refine r_bipush (pc' := 142) dX11_readsClause_140 rfl (by decide) ?_
                  refine r_icmp_ne (tgt := 156) (pc' := 145) dX11_readsClause_142 rfl rfl hxR.1 (by decide) (fun c142 => ?_) (fun c142 => ?_)
                  · exact lm_clause hR hD hU hp (by omega) (by omega) h
                  · refine r_iload_n (pc' := 146) dX11_readsClause_145 rfl rfl ?_
                    refine r_iconst (pc' := 147) dX11_readsClause_146 rfl ?_
                    refine r_icmp_ne (tgt := 156) (pc' := 150) dX11_readsClause_147 rfl rfl (by omega) (by omega) (fun c147 => ?_) (fun c147 => ?_)
                    · exact lm_clause hR hD hU hp (by omega) (by omega) h
                    · refine r_aload_n (pc' := 151) dX11_readsClause_150 rfl rfl ?_
                      refine r_iconst (pc' := 152) dX11_readsClause_151 rfl ?_
                      refine r_vi1 (pc' := 155) dX11_readsClause_152 rfl qX11_faulty lX11_90 z166 rfl rfl rfl rfl (Nat.zero_le _) (Nat.zero_le _) (m_faulty 3 ?_)
                      refine r_reti dX11_readsClause_155 rfl (Or.inr ⟨rfl, by first | exact Or.inl rfl | exact Or.inr rfl | omega⟩) ?_
                      exact h.no (f := (3, (p : Int))) (by rw [cl_3 (by omega) (by
                          unfold fulN
                          rw [if_neg (by omega)]
                          first
                            | (rw [if_pos (by omega), decide_eq_true (by omega)]; decide)
                            | (rw [if_neg (by omega), if_pos (by omega), decide_eq_true (by omega)]; decide)
                            | (rw [if_neg (by omega), if_neg (by omega), decide_eq_true (by omega)]; decide))]; rfl) (by show (3 : Nat) ≠ 0; decide) rfl (hR.wrong 3) mu_at (FrP.wrong _ _).d
                · refine r_aload_n (pc' := 129) dX11_readsClause_128 rfl rfl ?_
                  refine r_getr (pc' := 132) dX11_readsClause_129 rfl fX11_16 z166 rfl ?_
                  refine r_iconst (pc' := 133) dX11_readsClause_132 rfl ?_
                  refine r_iaload (pc' := 134) dX11_readsClause_133 rfl z169 (by decide) (by omega) (by omega) d2 ?_
                  refine r_bipush (pc' := 136) dX11_readsClause_134 rfl (by decide) ?_
                  refine r_icmp_eq (tgt := 150) (pc' := 139) dX11_readsClause_136 rfl rfl (by omega) (by omega) (fun c136 => ?_) (fun c136 => ?_)
                  · refine r_aload_n (pc' := 151) dX11_readsClause_150 rfl rfl ?_
                    refine r_iconst (pc' := 152) dX11_readsClause_151 rfl ?_
                    refine r_vi1 (pc' := 155) dX11_readsClause_152 rfl qX11_faulty lX11_90 z166 rfl rfl rfl rfl (Nat.zero_le _) (Nat.zero_le _) (m_faulty 3 ?_)
                    refine r_reti dX11_readsClause_155 rfl (Or.inr ⟨rfl, by first | exact Or.inl rfl | exact Or.inr rfl | omega⟩) ?_
                    exact h.no (f := (3, (p : Int))) (by rw [cl_3 (by omega) (by
                        unfold fulN
                        rw [if_neg (by omega)]
                        first
                          | (rw [if_pos (by omega), decide_eq_true (by omega)]; decide)
                          | (rw [if_neg (by omega), if_pos (by omega), decide_eq_true (by omega)]; decide)
                          | (rw [if_neg (by omega), if_neg (by omega), decide_eq_true (by omega)]; decide))]; rfl) (by show (3 : Nat) ≠ 0; decide) rfl (hR.wrong 3) mu_at (FrP.wrong _ _).d
                  · refine r_iload_n (pc' := 140) dX11_readsClause_139 rfl rfl ?_
                    refine r_bipush (pc' := 142) dX11_readsClause_140 rfl (by decide) ?_
                    refine r_icmp_ne (tgt := 156) (pc' := 145) dX11_readsClause_142 rfl rfl hxR.1 (by decide) (fun c142 => ?_) (fun c142 => ?_)
                    · exact lm_clause hR hD hU hp (by omega) (by omega) h
                    · refine r_iload_n (pc' := 146) dX11_readsClause_145 rfl rfl ?_
                      refine r_iconst (pc' := 147) dX11_readsClause_146 rfl ?_
                      refine r_icmp_ne (tgt := 156) (pc' := 150) dX11_readsClause_147 rfl rfl (by omega) (by omega) (fun c147 => ?_) (fun c147 => ?_)
                      · exact lm_clause hR hD hU hp (by omega) (by omega) h
                      · refine r_aload_n (pc' := 151) dX11_readsClause_150 rfl rfl ?_
                        refine r_iconst (pc' := 152) dX11_readsClause_151 rfl ?_
                        refine r_vi1 (pc' := 155) dX11_readsClause_152 rfl qX11_faulty lX11_90 z166 rfl rfl rfl rfl (Nat.zero_le _) (Nat.zero_le _) (m_faulty 3 ?_)
                        refine r_reti dX11_readsClause_155 rfl (Or.inr ⟨rfl, by first | exact Or.inl rfl | exact Or.inr rfl | omega⟩) ?_
                        exact h.no (f := (3, (p : Int))) (by rw [cl_3 (by omega) (by
                            unfold fulN
                            rw [if_neg (by omega)]
                            first
                              | (rw [if_pos (by omega), decide_eq_true (by omega)]; decide)
                              | (rw [if_neg (by omega), if_pos (by omega), decide_eq_true (by omega)]; decide)
                              | (rw [if_neg (by omega), if_neg (by omega), decide_eq_true (by omega)]; decide))]; rfl) (by show (3 : Nat) ≠ 0; decide) rfl (hR.wrong 3) mu_at (FrP.wrong _ _).d
          · refine r_aload_n (pc' := 91) dX11_readsClause_90 rfl rfl ?_
            refine r_iconst (pc' := 92) dX11_readsClause_91 rfl ?_
            refine r_vi1 (pc' := 95) dX11_readsClause_92 rfl qX11_faulty lX11_90 z166 rfl rfl rfl rfl (Nat.zero_le _) (Nat.zero_le _) (m_faulty 1 ?_)
            refine r_reti dX11_readsClause_95 rfl (Or.inr ⟨rfl, by first | exact Or.inl rfl | exact Or.inr rfl | omega⟩) ?_
            exact h.no (f := (1, (p : Int))) (by rw [cl_1 c3 (by omega)]; rfl) (by show (1 : Nat) ≠ 0; decide) rfl (hR.wrong 1) mu_at (FrP.wrong _ _).d
  · have hx : hereT N T p = 121 := c3
    refine r_aload_n (pc' := 7) dX11_readsClause_6 rfl rfl ?_
    refine r_getr (pc' := 10) dX11_readsClause_7 rfl fX11_16 z166 rfl ?_
    refine r_iconst (pc' := 11) dX11_readsClause_10 rfl ?_
    refine r_iaload (pc' := 12) dX11_readsClause_11 rfl z169 (by decide) (by omega) (by omega) d0 ?_
    refine r_iconst (pc' := 13) dX11_readsClause_12 rfl ?_
    refine r_icmp_ne (tgt := 22) (pc' := 16) dX11_readsClause_13 rfl rfl (by omega) (by omega) (fun c13 => ?_) (fun c13 => ?_)
    · have ecl : clR N T u p (0, -1) = (rdY u (numR N T 0 9 (p + 1) (0, -1)).1, mrkR N T 59 (numR N T 0 9 (p + 1) (0, -1)).2.1 (numR N T 0 9 (p + 1) (0, -1)).2.2) := by
        rw [cl_r (Or.inl hx) (by unfold fulN; rw [if_pos hx]; omega), hx]
        rfl
      have xb := numR_b (N := N) (T := T) (lo := 0) (hi := 9) (by decide) (p + 1) (0, -1)
      refine r_aload_n (pc' := 23) dX11_readsClause_22 rfl rfl ?_
      refine r_getr (pc' := 26) dX11_readsClause_23 rfl fX11_16 z166 rfl ?_
      refine r_iconst (pc' := 27) dX11_readsClause_26 rfl ?_
      refine r_iconst (pc' := 28) dX11_readsClause_27 rfl ?_
      refine r_iastore (pc' := 29) dX11_readsClause_28 rfl z169 (by decide) (by omega) (by omega) rfl ?_
      refine r_aload_n (pc' := 30) dX11_readsClause_29 rfl rfl ?_
      refine r_dup (pc' := 31) dX11_readsClause_30 rfl rfl ?_
      refine r_getf (pc' := 34) (kI := 14) dX11_readsClause_31 rfl fX11_76 z166 rfl rfl (hR.dr _ _).2.2.2.1 ?_
      refine r_iconst (pc' := 35) dX11_readsClause_34 rfl ?_
      refine r_iadd (pc' := 36) dX11_readsClause_35 rfl ?_
      refine r_putf (pc' := 39) (kI := 14) dX11_readsClause_36 rfl fX11_76 z166 rfl (Or.inl rfl) rfl rfl ?_
      refine r_aload_n (pc' := 40) dX11_readsClause_39 rfl rfl ?_
      refine r_iconst (pc' := 41) dX11_readsClause_40 rfl ?_
      refine r_iconst (pc' := 42) dX11_readsClause_41 rfl ?_
      refine r_bipush (pc' := 44) dX11_readsClause_42 rfl (by decide) ?_
      refine r_vi3 (pc' := 47) dX11_readsClause_44 rfl qX11_number lX11_93 z166 rfl rfl rfl rfl (Nat.zero_le _) (Nat.zero_le _) (m_num ((hR.dr 0 1).pos (q := p + 1) (by omega) (by omega)) (by decide) (by decide) (by decide) (by decide) (fun b1 g1 ht1 hf1 fr1 => ?_))
      refine r_if_eq (tgt := 61) (pc' := 50) dX11_readsClause_47 rfl rfl (b01_R _) (fun c47 => ?_) (fun c47 => ?_)
      · refine r_iconst (pc' := 62) dX11_readsClause_61 rfl ?_
        refine r_reti dX11_readsClause_62 rfl (Or.inr ⟨rfl, by first | exact Or.inl rfl | exact Or.inr rfl | omega⟩) ?_
        first
          | (obtain ⟨n1, q, q1, q2, q3⟩ := hf1 (b01_eq c47)
             exact h.no (f := (numR N T 0 9 (p + 1) (0, -1)).2.2) (by rw [ecl]; show (mrkR N T 59 _ _).2 = _; rw [mrk_f n1]) n1 q1 q2 q3 (((FrD.dr g 0 1).tr (FrP.pos _ _).d).tr fr1))
          | (obtain ⟨n0, n2, n3⟩ := ht1 (b01_ne c47)
             obtain ⟨m1, m2, m3⟩ := hf2 (b01_eq c54)
             exact h.no (f := (1, (skT N T (numR N T 0 9 (p + 1) (0, -1)).2.1 : Int))) (by rw [ecl, num_ok n0, mrk_no m1]) (by show (1 : Nat) ≠ 0; decide) rfl m2 m3 ((((FrD.dr g 0 1).tr (FrP.pos _ _).d).tr fr1).tr fr2))
          | (obtain ⟨n0, n2, n3⟩ := ht1 (b01_ne c47)
             obtain ⟨m1, m2⟩ := ht2 (b01_ne c54)
             exact h.yes (by rw [ecl, num_ok n0, mrk_yes m1]) m2 (DM_Y hD xb.1 (by rw [e2, n3, mu_at' (by decide), mu_ne (by decide), mu_at]) (by rw [e2, n3, mu_at]) (fun k a b => by rw [e2, n3, mu_at' b, mu_ne (by decide), mu_at' a])) ((((FrD.dr g 0 1).tr (FrP.pos _ _).d).tr fr1).tr fr2))
      · refine r_aload_n (pc' := 51) dX11_readsClause_50 rfl rfl ?_
        refine r_vi0 (pc' := 54) dX11_readsClause_51 rfl qX11_ends lX11_96 z166 rfl rfl rfl (Nat.zero_le _) (Nat.zero_le _) (m_mrk (ht1 (b01_ne c47)).2.1 (fun b2 g2 ht2 hf2 e2 fr2 => ?_))
        refine r_if_eq (tgt := 61) (pc' := 57) dX11_readsClause_54 rfl rfl (b01_R _) (fun c54 => ?_) (fun c54 => ?_)
        · refine r_iconst (pc' := 62) dX11_readsClause_61 rfl ?_
          refine r_reti dX11_readsClause_62 rfl (Or.inr ⟨rfl, by first | exact Or.inl rfl | exact Or.inr rfl | omega⟩) ?_
          first
            | (obtain ⟨n1, q, q1, q2, q3⟩ := hf1 (b01_eq c47)
               exact h.no (f := (numR N T 0 9 (p + 1) (0, -1)).2.2) (by rw [ecl]; show (mrkR N T 59 _ _).2 = _; rw [mrk_f n1]) n1 q1 q2 q3 (((FrD.dr g 0 1).tr (FrP.pos _ _).d).tr fr1))
            | (obtain ⟨n0, n2, n3⟩ := ht1 (b01_ne c47)
               obtain ⟨m1, m2, m3⟩ := hf2 (b01_eq c54)
               exact h.no (f := (1, (skT N T (numR N T 0 9 (p + 1) (0, -1)).2.1 : Int))) (by rw [ecl, num_ok n0, mrk_no m1]) (by show (1 : Nat) ≠ 0; decide) rfl m2 m3 ((((FrD.dr g 0 1).tr (FrP.pos _ _).d).tr fr1).tr fr2))
            | (obtain ⟨n0, n2, n3⟩ := ht1 (b01_ne c47)
               obtain ⟨m1, m2⟩ := ht2 (b01_ne c54)
               exact h.yes (by rw [ecl, num_ok n0, mrk_yes m1]) m2 (DM_Y hD xb.1 (by rw [e2, n3, mu_at' (by decide), mu_ne (by decide), mu_at]) (by rw [e2, n3, mu_at]) (fun k a b => by rw [e2, n3, mu_at' b, mu_ne (by decide), mu_at' a])) ((((FrD.dr g 0 1).tr (FrP.pos _ _).d).tr fr1).tr fr2))
        · refine r_iconst (pc' := 58) dX11_readsClause_57 rfl ?_
          refine r_goto (tgt := 62) dX11_readsClause_58 rfl ?_
          refine r_reti dX11_readsClause_62 rfl (Or.inr ⟨rfl, by first | exact Or.inl rfl | exact Or.inr rfl | omega⟩) ?_
          first
            | (obtain ⟨n1, q, q1, q2, q3⟩ := hf1 (b01_eq c47)
               exact h.no (f := (numR N T 0 9 (p + 1) (0, -1)).2.2) (by rw [ecl]; show (mrkR N T 59 _ _).2 = _; rw [mrk_f n1]) n1 q1 q2 q3 (((FrD.dr g 0 1).tr (FrP.pos _ _).d).tr fr1))
            | (obtain ⟨n0, n2, n3⟩ := ht1 (b01_ne c47)
               obtain ⟨m1, m2, m3⟩ := hf2 (b01_eq c54)
               exact h.no (f := (1, (skT N T (numR N T 0 9 (p + 1) (0, -1)).2.1 : Int))) (by rw [ecl, num_ok n0, mrk_no m1]) (by show (1 : Nat) ≠ 0; decide) rfl m2 m3 ((((FrD.dr g 0 1).tr (FrP.pos _ _).d).tr fr1).tr fr2))
            | (obtain ⟨n0, n2, n3⟩ := ht1 (b01_ne c47)
               obtain ⟨m1, m2⟩ := ht2 (b01_ne c54)
               exact h.yes (by rw [ecl, num_ok n0, mrk_yes m1]) m2 (DM_Y hD xb.1 (by rw [e2, n3, mu_at' (by decide), mu_ne (by decide), mu_at]) (by rw [e2, n3, mu_at]) (fun k a b => by rw [e2, n3, mu_at' b, mu_ne (by decide), mu_at' a])) ((((FrD.dr g 0 1).tr (FrP.pos _ _).d).tr fr1).tr fr2))
    · refine r_aload_n (pc' := 17) dX11_readsClause_16 rfl rfl ?_
      refine r_iconst (pc' := 18) dX11_readsClause_17 rfl ?_
      refine r_vi1 (pc' := 21) dX11_readsClause_18 rfl qX11_faulty lX11_90 z166 rfl rfl rfl rfl (Nat.zero_le _) (Nat.zero_le _) (m_faulty 3 ?_)
      refine r_reti dX11_readsClause_21 rfl (Or.inr ⟨rfl, by first | exact Or.inl rfl | exact Or.inr rfl | omega⟩) ?_
      exact h.no (f := (3, (p : Int))) (by rw [cl_3 (Or.inl hx) (by unfold fulN; rw [if_pos hx]; omega)]; rfl) (by show (3 : Nat) ≠ 0; decide) rfl (hR.wrong 3) mu_at (FrP.wrong _ _).d
