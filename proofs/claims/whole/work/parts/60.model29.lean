theorem pf_end {u : PV} {v : LV} (h : LW (Pf u) v) : pfF u v (Pf u) = fdP u v (Ln v) := by
  funext k
  unfold pfF
  by_cases e : k < Pf u
  · rw [if_pos e]
  · rw [if_neg e]
    unfold fdP
    rw [if_neg]
    intro q
    obtain ⟨p, a, b⟩ := inF_iff.mp q
    have := h.2.2.1 p a
    omega
theorem kp_0 {u : PV} {G : Nat → Int} (l : List Nat) : l = l.filter (kpA u G 0) := by
  symm
  apply List.filter_eq_self.mpr
  intro x _
  unfold kpA
  rw [decide_eq_false (by omega)]
  rfl
theorem kp_end {u : PV} {v : LV} {G : Nat → Int} (h : LW (Pf u) v) : (Ll v).filter (kpA u G (Pf u)) = (Ll v).filter (keepB u G) := by
  apply List.filter_congr
  intro x hx
  unfold Ll at hx
  obtain ⟨q, a, b⟩ := List.mem_map.mp hx
  have := h.2.2.1 q (List.mem_range.mp a)
  unfold kpA
  rw [decide_eq_true (by omega)]
  rfl
theorem lm_pass2 {X : CX} {d : Nat} {K : Mem → Prop} {u : PV} {v : LV} {G : Nat → Int} {o : Int} : ∀ (k f : Nat) (g : Mem) (vv : LV) (y : Option VV), f + k = Pf u → MB g u vv → Ll vv = (Ll v).filter (kpA u G f) → Lf vv = G → Lw vv = Lw v → Li vv = Li v → Ly vv = Ly v → (∀ (g' : Mem) (vv : LV) (y : Option VV), MB g' u vv → Ll vv = (Ll v).filter (kpA u G (Pf u)) → Lf vv = G → Lw vv = Lw v → Li vv = Li v → Ly vv = Ly v → (∀ j, j ≠ 170 → g' j = g j) → AJ X (d + 3) mX11_passes 0 0 (QV Z0 K) 0 0 151 [some (vr 166), some (vi o), some (vi (Pf u : Int)), y] [] Z0 g') → AJ X (d + 3) mX11_passes 0 0 (QV Z0 K) 0 0 91 [some (vr 166), some (vi o), some (vi (f : Int)), y] [] Z0 g := by
  intro k
  induction k with
  | zero =>
    intro f g vv y hf1 hB hL hG h2 h3 h4 h
    obtain ⟨hQ, hU, hC, hW⟩ := id hB
    obtain ⟨hy, hi, hc, ht, ho, hf, hw_⟩ := id hC
    obtain ⟨w0, w1, w2, w3, w4, w5, w6, w7⟩ := id hW
    obtain ⟨p6, p7, p8, p9, p10, pk, pg, px, py⟩ := id hQ
    obtain ⟨u0, u1, u2, u3, u4, u5, u6, u7⟩ := id hU
    have e : Pf u = f := by omega
    rw [e] at h
    refine r_iload_n (pc' := 92) dX11_passes_91 rfl rfl ?_
    refine r_aload_n (pc' := 93) dX11_passes_92 rfl rfl ?_
    refine r_getr (pc' := 96) dX11_passes_93 rfl fX11_13 z166 rfl ?_
    refine r_iconst (pc' := 97) dX11_passes_96 rfl ?_
    refine r_iaload (pc' := 98) dX11_passes_97 rfl z168 (by decide) (by omega) (by omega) p8 ?_
    refine r_icmp_ge (tgt := 151) (pc' := 101) dX11_passes_98 rfl rfl (by omega) (by omega) (fun c98 => ?_) (fun c98 => ?_)
    · exact h g vv _ hB hL hG h2 h3 h4 (fun _ _ => rfl)
    · exact absurd c98 (by omega)
  | succ k ih =>
    intro f g vv y hf1 hB hL hG h2 h3 h4 h
    obtain ⟨hQ, hU, hC, hW⟩ := id hB
    obtain ⟨hy, hi, hc, ht, ho, hf, hw_⟩ := id hC
    obtain ⟨w0, w1, w2, w3, w4, w5, w6, w7⟩ := id hW
    obtain ⟨p6, p7, p8, p9, p10, pk, pg, px, py⟩ := id hQ
    obtain ⟨u0, u1, u2, u3, u4, u5, u6, u7⟩ := id hU
    have hb := plc_b (o := Lo vv) (f := (f : Int)) (Ln vv) 0
    have hk1 := pk f (by omega)
    have hk2 := u5 f (by omega)
    have hf2 := hf f (by omega)
    have hf3 := w5 f (by omega)
    rw [hG] at hf2 hf3
    refine r_iload_n (pc' := 92) dX11_passes_91 rfl rfl ?_
    refine r_aload_n (pc' := 93) dX11_passes_92 rfl rfl ?_
    refine r_getr (pc' := 96) dX11_passes_93 rfl fX11_13 z166 rfl ?_
    refine r_iconst (pc' := 97) dX11_passes_96 rfl ?_
    refine r_iaload (pc' := 98) dX11_passes_97 rfl z168 (by decide) (by omega) (by omega) p8 ?_
    refine r_icmp_ge (tgt := 151) (pc' := 101) dX11_passes_98 rfl rfl (by omega) (by omega) (fun c98 => ?_) (fun c98 => ?_)
    · exact absurd c98 (by omega)
    · refine r_aload_n (pc' := 102) dX11_passes_101 rfl rfl ?_
      refine r_iload_n (pc' := 103) dX11_passes_102 rfl rfl ?_
      refine r_vi1 (pc' := 106) dX11_passes_103 rfl qX11_placeOf lX11_157 z166 rfl rfl rfl rfl (Nat.zero_le _) (Nat.zero_le _) (m_placeOf hB (f : Int) (by omega) ?_)
      refine r_iconst (pc' := 107) dX11_passes_106 rfl ?_
      refine r_icmp_eq (tgt := 145) (pc' := 110) dX11_passes_107 rfl rfl (by omega) (by decide) (fun c107 => ?_) (fun c107 => ?_)
      · have cno := c107
        refine r_iinc (pc' := 148) dX11_passes_145 rfl rfl rfl ?_
        refine r_goto (tgt := 91) dX11_passes_148 rfl ?_
        first
          | (have cn := cno
             exact ih (f + 1) g vv _ (by omega) hB (hL.trans (kp_same (Or.inr (by rw [← hL, Ll_mem]; exact fun z => z cno)))) hG h2 h3 h4 h)
          | (have cn := ck
             exact ih (f + 1) g vv _ (by omega) hB (hL.trans (kp_same (Or.inl (by unfold keepB; rw [decide_eq_false (by omega), Bool.false_and]; rfl)))) hG h2 h3 h4 h)
          | (have cn := cf
             exact ih (f + 1) g vv _ (by omega) hB (hL.trans (kp_same (Or.inl (by unfold keepB; rw [decide_eq_false (show ¬ 40 ≤ G f by omega), Bool.and_false]; rfl)))) hG h2 h3 h4 h)
          | (have hkf : keepB u G f = false := by
               unfold keepB
               rw [decide_eq_true (show Pk u f = 2 by omega), decide_eq_true (show 40 ≤ G f by omega)]
               rfl
             exact ih (f + 1) g1 (dropV vv (plc (Lo vv) (f : Int) (Ln vv) 0).toNat) _ (by omega) ⟨hQ.fr (fr1 168 (by decide)), hU, hl1, LW_drop hW hx1⟩ (by rw [Ll_drop hx1, er_fi _ _ f (Ll_nodup hW) hx3, hL]; exact kp_drop hkf) hG h2 h3 h4 (fun g' vv y a1 a2 a3 a4 a5 a6 a7 => h g' vv y a1 a2 a3 a4 a5 a6 (fun j hj => (a7 j hj).trans (fr1 j hj))))
      · obtain ⟨hx1, hx2, hx3⟩ := Ll_plc c107
        refine r_aload_n (pc' := 111) dX11_passes_110 rfl rfl ?_
        refine r_getr (pc' := 114) dX11_passes_111 rfl fX11_13 z166 rfl ?_
        refine r_iconst (pc' := 115) dX11_passes_114 rfl ?_
        refine r_iload_n (pc' := 116) dX11_passes_115 rfl rfl ?_
        refine r_iadd (pc' := 117) dX11_passes_116 rfl ?_
        refine r_iaload (pc' := 118) dX11_passes_117 rfl z168 (by decide) (by omega) (by omega) hk1 ?_
        refine r_iconst (pc' := 119) dX11_passes_118 rfl ?_
        refine r_icmp_ne (tgt := 145) (pc' := 122) dX11_passes_119 rfl rfl (by omega) (by omega) (fun c119 => ?_) (fun c119 => ?_)
        · have ck := c119
          refine r_iinc (pc' := 148) dX11_passes_145 rfl rfl rfl ?_
          refine r_goto (tgt := 91) dX11_passes_148 rfl ?_
          first
            | (have cn := cno
               exact ih (f + 1) g vv _ (by omega) hB (hL.trans (kp_same (Or.inr (by rw [← hL, Ll_mem]; exact fun z => z cno)))) hG h2 h3 h4 h)
            | (have cn := ck
               exact ih (f + 1) g vv _ (by omega) hB (hL.trans (kp_same (Or.inl (by unfold keepB; rw [decide_eq_false (by omega), Bool.false_and]; rfl)))) hG h2 h3 h4 h)
            | (have cn := cf
               exact ih (f + 1) g vv _ (by omega) hB (hL.trans (kp_same (Or.inl (by unfold keepB; rw [decide_eq_false (show ¬ 40 ≤ G f by omega), Bool.and_false]; rfl)))) hG h2 h3 h4 h)
            | (have hkf : keepB u G f = false := by
                 unfold keepB
                 rw [decide_eq_true (show Pk u f = 2 by omega), decide_eq_true (show 40 ≤ G f by omega)]
                 rfl
               exact ih (f + 1) g1 (dropV vv (plc (Lo vv) (f : Int) (Ln vv) 0).toNat) _ (by omega) ⟨hQ.fr (fr1 168 (by decide)), hU, hl1, LW_drop hW hx1⟩ (by rw [Ll_drop hx1, er_fi _ _ f (Ll_nodup hW) hx3, hL]; exact kp_drop hkf) hG h2 h3 h4 (fun g' vv y a1 a2 a3 a4 a5 a6 a7 => h g' vv y a1 a2 a3 a4 a5 a6 (fun j hj => (a7 j hj).trans (fr1 j hj))))
        · refine r_aload_n (pc' := 123) dX11_passes_122 rfl rfl ?_
          refine r_getr (pc' := 126) dX11_passes_123 rfl fX11_19 z166 rfl ?_
          refine r_bipush (pc' := 128) dX11_passes_126 rfl (by decide) ?_
          refine r_iload_n (pc' := 129) dX11_passes_128 rfl rfl ?_
          refine r_iadd (pc' := 130) dX11_passes_129 rfl ?_
          refine r_iaload (pc' := 131) (x := G f) dX11_passes_130 rfl z170 (by decide) (by omega) (by omega) hf2 ?_
          refine r_bipush (pc' := 133) dX11_passes_131 rfl (by decide) ?_
          refine r_icmp_lt (tgt := 145) (pc' := 136) dX11_passes_133 rfl rfl (by omega) (by omega) (fun c133 => ?_) (fun c133 => ?_)
          · have cf := c133
            refine r_iinc (pc' := 148) dX11_passes_145 rfl rfl rfl ?_
            refine r_goto (tgt := 91) dX11_passes_148 rfl ?_
            first
              | (have cn := cno
                 exact ih (f + 1) g vv _ (by omega) hB (hL.trans (kp_same (Or.inr (by rw [← hL, Ll_mem]; exact fun z => z cno)))) hG h2 h3 h4 h)
              | (have cn := ck
                 exact ih (f + 1) g vv _ (by omega) hB (hL.trans (kp_same (Or.inl (by unfold keepB; rw [decide_eq_false (by omega), Bool.false_and]; rfl)))) hG h2 h3 h4 h)
              | (have cn := cf
                 exact ih (f + 1) g vv _ (by omega) hB (hL.trans (kp_same (Or.inl (by unfold keepB; rw [decide_eq_false (show ¬ 40 ≤ G f by omega), Bool.and_false]; rfl)))) hG h2 h3 h4 h)
              | (have hkf : keepB u G f = false := by
                   unfold keepB
                   rw [decide_eq_true (show Pk u f = 2 by omega), decide_eq_true (show 40 ≤ G f by omega)]
                   rfl
                 exact ih (f + 1) g1 (dropV vv (plc (Lo vv) (f : Int) (Ln vv) 0).toNat) _ (by omega) ⟨hQ.fr (fr1 168 (by decide)), hU, hl1, LW_drop hW hx1⟩ (by rw [Ll_drop hx1, er_fi _ _ f (Ll_nodup hW) hx3, hL]; exact kp_drop hkf) hG h2 h3 h4 (fun g' vv y a1 a2 a3 a4 a5 a6 a7 => h g' vv y a1 a2 a3 a4 a5 a6 (fun j hj => (a7 j hj).trans (fr1 j hj))))
          · refine r_aload_n (pc' := 137) dX11_passes_136 rfl rfl ?_
            refine r_aload_n (pc' := 138) dX11_passes_137 rfl rfl ?_
            refine r_iload_n (pc' := 139) dX11_passes_138 rfl rfl ?_
            refine r_vi1 (pc' := 142) dX11_passes_139 rfl qX11_placeOf lX11_157 z166 rfl rfl rfl rfl (Nat.zero_le _) (Nat.zero_le _) (m_placeOf hB (f : Int) (by omega) ?_)
            refine r_vv1 (pc' := 145) dX11_passes_142 rfl qX11_eats lX11_171 z166 rfl rfl rfl rfl (Nat.zero_le _) (Nat.zero_le _) (m_eatsI hB hx2 (by omega) (fun g1 hl1 fr1 => ?_))
            refine r_iinc (pc' := 148) dX11_passes_145 rfl rfl rfl ?_
            refine r_goto (tgt := 91) dX11_passes_148 rfl ?_
            first
              | (have cn := cno
                 exact ih (f + 1) g vv _ (by omega) hB (hL.trans (kp_same (Or.inr (by rw [← hL, Ll_mem]; exact fun z => z cno)))) hG h2 h3 h4 h)
              | (have cn := ck
                 exact ih (f + 1) g vv _ (by omega) hB (hL.trans (kp_same (Or.inl (by unfold keepB; rw [decide_eq_false (by omega), Bool.false_and]; rfl)))) hG h2 h3 h4 h)
              | (have cn := cf
                 exact ih (f + 1) g vv _ (by omega) hB (hL.trans (kp_same (Or.inl (by unfold keepB; rw [decide_eq_false (show ¬ 40 ≤ G f by omega), Bool.and_false]; rfl)))) hG h2 h3 h4 h)
              | (have hkf : keepB u G f = false := by
                   unfold keepB
                   rw [decide_eq_true (show Pk u f = 2 by omega), decide_eq_true (show 40 ≤ G f by omega)]
                   rfl
                 exact ih (f + 1) g1 (dropV vv (plc (Lo vv) (f : Int) (Ln vv) 0).toNat) _ (by omega) ⟨hQ.fr (fr1 168 (by decide)), hU, hl1, LW_drop hW hx1⟩ (by rw [Ll_drop hx1, er_fi _ _ f (Ll_nodup hW) hx3, hL]; exact kp_drop hkf) hG h2 h3 h4 (fun g' vv y a1 a2 a3 a4 a5 a6 a7 => h g' vv y a1 a2 a3 a4 a5 a6 (fun j hj => (a7 j hj).trans (fr1 j hj))))
theorem m_passes {X : CX} {d : Nat} {g : Mem} {K : Mem → Prop} {u : PV} {v : LV} (hB : MB g u v) (h : ∀ g' : Mem, LSr g' (yearV u v) → (∀ j, j ≠ 170 → g' j = g j) → K g') : EV X (d + 3) mX11_passes [vr 166] Z0 g K := by
  show AJ X (d + 3) mX11_passes 0 0 (QV Z0 K) 0 0 0 [some (vr 166), none, none, none] [] Z0 g
  obtain ⟨hQ, hU, hC, hW⟩ := id hB
  obtain ⟨hy, hi, hc, ht, ho, hf, hw_⟩ := id hC
  obtain ⟨w0, w1, w2, w3, w4, w5, w6, w7⟩ := id hW
  obtain ⟨p6, p7, p8, p9, p10, pk, pg, px, py⟩ := id hQ
  obtain ⟨u0, u1, u2, u3, u4, u5, u6, u7⟩ := id hU
  refine r_aload_n (pc' := 1) dX11_passes_0 rfl rfl ?_
  refine r_vi0 (pc' := 4) dX11_passes_1 rfl qX11_outs lX11_138 z166 rfl rfl rfl (Nat.zero_le _) (Nat.zero_le _) (m_outs hB ?_)
  refine r_istore_n (pc' := 5) dX11_passes_4 rfl rfl ?_
  refine r_iconst (pc' := 6) dX11_passes_5 rfl ?_
  refine r_istore_n (pc' := 7) dX11_passes_6 rfl rfl ?_
  refine lm_pass1 hW (Pf u) 0 g none (by omega) ⟨hQ, hU, hC.fc (fun k _ => by unfold pfF; rw [if_neg (by omega)]), LW_vf hW (pfF_b hW _)⟩ (fun g1 y hB1 fr1 => ?_)
  refine r_iconst (pc' := 90) dX11_passes_89 rfl ?_
  refine r_istore_n (pc' := 91) dX11_passes_90 rfl rfl ?_
  refine lm_pass2 (v := v) (G := fdP u v (Ln v)) (Pf u) 0 g1 _ _ (by omega) hB1 (kp_0 (Ll v)) (pf_end hW) rfl rfl rfl (fun g2 vv y hB2 a1 a2 a3 a4 a5 fr2 => ?_)
  rw [kp_end hW] at a1
  have hlen := congrArg List.length a1
  rw [Ll_len] at hlen
  obtain ⟨c0, c1, c2, c3, c4, c5, c6⟩ := id hB2.2.2.1
  have hl7 := hB2.2.2.2.2.1
  refine r_aload_n (pc' := 152) dX11_passes_151 rfl rfl ?_
  refine r_getr (pc' := 155) dX11_passes_152 rfl fX11_19 z166 rfl ?_
  refine r_iconst (pc' := 156) dX11_passes_155 rfl ?_
  refine r_iconst (pc' := 157) dX11_passes_156 rfl ?_
  refine r_iastore (pc' := 158) dX11_passes_157 rfl z170 (by decide) (by omega) (by omega) rfl ?_
  refine r_aload_n (pc' := 159) dX11_passes_158 rfl rfl ?_
  refine r_getr (pc' := 162) dX11_passes_159 rfl fX11_19 z166 rfl ?_
  refine r_iconst (pc' := 163) dX11_passes_162 rfl ?_
  refine r_dup2 (pc' := 164) dX11_passes_163 rfl rfl rfl ?_
  refine r_iaload (pc' := 165) (x := (Ly v : Int)) dX11_passes_164 rfl z170 (by decide) (by omega) (by omega) (by rw [mu_at' (by decide), c0, a5]) ?_
  refine r_iconst (pc' := 166) dX11_passes_165 rfl ?_
  refine r_iadd (pc' := 167) dX11_passes_166 rfl ?_
  refine r_iastore (pc' := 168) dX11_passes_167 rfl z170 (by decide) (by omega) (by omega) rfl ?_
  refine r_retn dX11_passes_168 rfl ?_
  refine h _ ?_ (fun j hj => by rw [mu_ne hj, mu_ne hj, fr2 j hj, fr1 j hj])
  refine ⟨by rw [mu_at]; rfl, ?_, ?_, ?_, fun q hq => ?_, fun q hq => ?_, fun q hq => ?_⟩
  · rw [mu_at' (by decide), mu_at' (by decide), c1, a4]
    rfl
  · rw [mu_at' (by decide), mu_at' (by decide), c2, hlen]
    rfl
  · rw [mu_at' (by decide), mu_at]
    rfl
  · have hq1 : q < Ln vv := by rw [hlen]; exact hq
    rw [mu_at' (by omega), mu_at' (by omega), c4 q hq1]
    have := Ll_get vv q
    rw [a1, if_pos hq1] at this
    show (Lo vv q : Int) = ((List.getD _ q 0 : Nat) : Int)
    rw [List.getD_eq_getElem?_getD, this]
    rfl
  · rw [mu_at' (by omega), mu_at' (by omega), c5 q hq, a2]
    rfl
  · rw [mu_at' (by omega), mu_at' (by omega), c6 q hq, a3]
    rfl
