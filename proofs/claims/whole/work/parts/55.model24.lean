theorem cnF_congr {c c' : Nat → Bool} : ∀ (k p acc : Nat), (∀ q, p ≤ q → q < p + k → c q = c' q) → cnF c k p acc = cnF c' k p acc
  | 0, _, _, _ => rfl
  | k + 1, p, acc, h => by
    show cnF c k (p + 1) (if c p = true then acc + 1 else acc) = cnF c' k (p + 1) (if c' p = true then acc + 1 else acc)
    rw [h p (by omega) (by omega)]
    exact cnF_congr k (p + 1) _ (fun q a b => h q (by omega) (by omega))
theorem cnF_add {c : Nat → Bool} : ∀ (a b p acc : Nat), cnF c (a + b) p acc = cnF c b (p + a) (cnF c a p acc)
  | 0, b, p, acc => by
    rw [Nat.zero_add, Nat.add_zero]
    rfl
  | a + 1, b, p, acc => by
    rw [show a + 1 + b = (a + b) + 1 by omega]
    show cnF c (a + b) (p + 1) (if c p = true then acc + 1 else acc) = cnF c b (p + (a + 1)) (cnF c a (p + 1) (if c p = true then acc + 1 else acc))
    rw [cnF_add a b (p + 1), show p + 1 + a = p + (a + 1) by omega]
theorem cn_ans {u : PV} (hU : PW u) {s look : Nat} (hl : look ≤ 19) {a b : Int} (ha : a = ((look / 10 : Nat) : Int)) (hb : b = ((look % 10 : Nat) : Int)) : cnF (fun f => s.testBit f && soB u f a b) (Pf u) 0 0 = popN (ansN u s look) := by
  have h7 := hU.2.2.1
  unfold popN
  rw [show (7 : Nat) = Pf u + (7 - Pf u) by omega, cnF_add]
  rw [(cnF_eq (c := fun k => (ansN u s look).testBit k) (7 - Pf u) (0 + Pf u) _).mpr (fun q x y => by rw [ansN_bit, decide_eq_false (by omega), Bool.false_and])]
  exact cnF_congr _ _ _ (fun q x y => by rw [ansN_bit, decide_eq_true (by omega), Bool.true_and, so_ans hU (by omega) hl ha hb, Bool.and_comm])
theorem lm_nexI {X : CX} {d : Nat} {g : Mem} {K : Int → Mem → Prop} {u : PV} {v : LV} (hB : MB g u v)  {s look : Nat} (hs : s < 128) (hl : look ≤ 19) {w n bst lst : Int} (hw : w = ((look / 10 : Nat) : Int)) : ∀ (k f c : Nat), f + k = Pf u → AJ X (d + 1) mX11_next 0 0 (QI Z0 K) 0 0 97 [some (vr 166), some (vi (s : Int)), some (vi n), some (vi bst), some (vi lst), some (vi (look : Int)), some (vi w), some (vi ((cnF (fun f => s.testBit f && soB u f w ((look % 10 : Nat) : Int)) k f c : Nat) : Int)), some (vi (Pf u : Int))] [] Z0 g → AJ X (d + 1) mX11_next 0 0 (QI Z0 K) 0 0 45 [some (vr 166), some (vi (s : Int)), some (vi n), some (vi bst), some (vi lst), some (vi (look : Int)), some (vi w), some (vi (c : Int)), some (vi (f : Int))] [] Z0 g := by
  obtain ⟨hQ, hU, hC, hW⟩ := id hB
  obtain ⟨hy, hi, hc, ht, ho, hf, hw_⟩ := id hC
  obtain ⟨w0, w1, w2, w3, w4, w5, w6, w7⟩ := id hW
  obtain ⟨p6, p7, p8, p9, p10, pk, pg, px, py⟩ := id hQ
  obtain ⟨u0, u1, u2, u3, u4, u5, u6, u7⟩ := id hU
  intro k
  induction k with
  | zero =>
    intro f c hf1 h
    have e : (Pf u : Int) = (f : Int) := by omega
    rw [e] at h
    refine r_iload (pc' := 47) dX11_next_45 rfl rfl ?_
    refine r_aload_n (pc' := 48) dX11_next_47 rfl rfl ?_
    refine r_getr (pc' := 51) dX11_next_48 rfl fX11_13 z166 rfl ?_
    refine r_iconst (pc' := 52) dX11_next_51 rfl ?_
    refine r_iaload (pc' := 53) dX11_next_52 rfl z168 (by decide) (by omega) (by omega) p8 ?_
    refine r_icmp_ge (tgt := 97) (pc' := 56) dX11_next_53 rfl rfl (by omega) (by omega) (fun c53 => ?_) (fun c53 => ?_)
    · exact h
    · exact absurd c53 (by omega)
  | succ k ih =>
    intro f c hf1 h
    refine r_iload (pc' := 47) dX11_next_45 rfl rfl ?_
    refine r_aload_n (pc' := 48) dX11_next_47 rfl rfl ?_
    refine r_getr (pc' := 51) dX11_next_48 rfl fX11_13 z166 rfl ?_
    refine r_iconst (pc' := 52) dX11_next_51 rfl ?_
    refine r_iaload (pc' := 53) dX11_next_52 rfl z168 (by decide) (by omega) (by omega) p8 ?_
    refine r_icmp_ge (tgt := 97) (pc' := 56) dX11_next_53 rfl rfl (by omega) (by omega) (fun c53 => ?_) (fun c53 => ?_)
    · exact absurd c53 (by omega)
    · refine r_iload (pc' := 58) dX11_next_56 rfl rfl ?_
      refine r_iload_n (pc' := 59) dX11_next_58 rfl rfl ?_
      refine r_iload (pc' := 61) dX11_next_59 rfl rfl ?_
      refine r_si2 (pc' := 64) dX11_next_61 rfl qX11_has lX11_118 rfl rfl rfl (Nat.zero_le _) (Nat.zero_le _) (m_has hs (by omega) ?_)
      refine r_if_eq (tgt := 87) (pc' := 67) dX11_next_64 rfl rfl (b01_R _) (fun c64 => ?_) (fun c64 => ?_)
      · refine r_iconst (pc' := 88) dX11_next_87 rfl ?_
        refine r_iadd (pc' := 89) dX11_next_88 rfl ?_
        refine r_istore (pc' := 91) dX11_next_89 rfl rfl ?_
        refine r_iinc (pc' := 94) dX11_next_91 rfl rfl rfl ?_
        refine r_goto (tgt := 45) dX11_next_94 rfl ?_
        first
          | (rw [cnF_f (c := (fun f => s.testBit f && soB u f w ((look % 10 : Nat) : Int))) (p := f) (by show (s.testBit f && _) = false; rw [b01_eq c64, Bool.false_and])] at h
             rw [show (c : Int) + 0 = (c : Int) by omega]
             exact ih (f + 1) c (by omega) h)
          | (rw [cnF_f (c := (fun f => s.testBit f && soB u f w ((look % 10 : Nat) : Int))) (p := f) (by show (s.testBit f && soB u f w ((look % 10 : Nat) : Int)) = false; rw [b01_eq c80, Bool.and_false])] at h
             rw [show (c : Int) + 0 = (c : Int) by omega]
             exact ih (f + 1) c (by omega) h)
          | (rw [cnF_t (c := (fun f => s.testBit f && soB u f w ((look % 10 : Nat) : Int))) (p := f) (by show (s.testBit f && soB u f w ((look % 10 : Nat) : Int)) = true; rw [b01_ne c64, b01_ne c80]; rfl)] at h
             exact ih (f + 1) (c + 1) (by omega) h)
      · refine r_aload_n (pc' := 68) dX11_next_67 rfl rfl ?_
        refine r_iload (pc' := 70) dX11_next_68 rfl rfl ?_
        refine r_iload (pc' := 72) dX11_next_70 rfl rfl ?_
        refine r_iload (pc' := 74) dX11_next_72 rfl rfl ?_
        refine r_bipush (pc' := 76) dX11_next_74 rfl (by decide) ?_
        refine r_irem (pc' := 77) dX11_next_76 rfl (by omega) (by omega) (by omega) ?_
        rw [show ((look : Int)).tmod 10 = ((look % 10 : Nat) : Int) from tm_n look 10]
        refine r_vi3 (pc' := 80) dX11_next_77 rfl qX11_isSo lX11_229 z166 rfl rfl rfl rfl (Nat.zero_le _) (Nat.zero_le _) (m_isSo hB (by omega) w _ (by omega) (by omega) ?_)
        refine r_if_eq (tgt := 87) (pc' := 83) dX11_next_80 rfl rfl (b01_R _) (fun c80 => ?_) (fun c80 => ?_)
        · refine r_iconst (pc' := 88) dX11_next_87 rfl ?_
          refine r_iadd (pc' := 89) dX11_next_88 rfl ?_
          refine r_istore (pc' := 91) dX11_next_89 rfl rfl ?_
          refine r_iinc (pc' := 94) dX11_next_91 rfl rfl rfl ?_
          refine r_goto (tgt := 45) dX11_next_94 rfl ?_
          first
            | (rw [cnF_f (c := (fun f => s.testBit f && soB u f w ((look % 10 : Nat) : Int))) (p := f) (by show (s.testBit f && _) = false; rw [b01_eq c64, Bool.false_and])] at h
               rw [show (c : Int) + 0 = (c : Int) by omega]
               exact ih (f + 1) c (by omega) h)
            | (rw [cnF_f (c := (fun f => s.testBit f && soB u f w ((look % 10 : Nat) : Int))) (p := f) (by show (s.testBit f && soB u f w ((look % 10 : Nat) : Int)) = false; rw [b01_eq c80, Bool.and_false])] at h
               rw [show (c : Int) + 0 = (c : Int) by omega]
               exact ih (f + 1) c (by omega) h)
            | (rw [cnF_t (c := (fun f => s.testBit f && soB u f w ((look % 10 : Nat) : Int))) (p := f) (by show (s.testBit f && soB u f w ((look % 10 : Nat) : Int)) = true; rw [b01_ne c64, b01_ne c80]; rfl)] at h
               exact ih (f + 1) (c + 1) (by omega) h)
        · refine r_iconst (pc' := 84) dX11_next_83 rfl ?_
          refine r_goto (tgt := 88) dX11_next_84 rfl ?_
          refine r_iadd (pc' := 89) dX11_next_88 rfl ?_
          refine r_istore (pc' := 91) dX11_next_89 rfl rfl ?_
          refine r_iinc (pc' := 94) dX11_next_91 rfl rfl rfl ?_
          refine r_goto (tgt := 45) dX11_next_94 rfl ?_
          first
            | (rw [cnF_f (c := (fun f => s.testBit f && soB u f w ((look % 10 : Nat) : Int))) (p := f) (by show (s.testBit f && _) = false; rw [b01_eq c64, Bool.false_and])] at h
               rw [show (c : Int) + 0 = (c : Int) by omega]
               exact ih (f + 1) c (by omega) h)
            | (rw [cnF_f (c := (fun f => s.testBit f && soB u f w ((look % 10 : Nat) : Int))) (p := f) (by show (s.testBit f && soB u f w ((look % 10 : Nat) : Int)) = false; rw [b01_eq c80, Bool.and_false])] at h
               rw [show (c : Int) + 0 = (c : Int) by omega]
               exact ih (f + 1) c (by omega) h)
            | (rw [cnF_t (c := (fun f => s.testBit f && soB u f w ((look % 10 : Nat) : Int))) (p := f) (by show (s.testBit f && soB u f w ((look % 10 : Nat) : Int)) = true; rw [b01_ne c64, b01_ne c80]; rfl)] at h
               exact ih (f + 1) (c + 1) (by omega) h)
theorem lm_nex {X : CX} {d : Nat} {g : Mem} {K : Int → Mem → Prop} {u : PV} {v : LV} (hB : MB g u v)  {s : Nat} (hs : s < 128) : ∀ (k look least : Nat) (best : Int) (x y z : Option VV), look + k = 20 → least ≤ 7 → K (blF u s k look best least) g → AJ X (d + 1) mX11_next 0 0 (QI Z0 K) 0 0 18 [some (vr 166), some (vi (s : Int)), some (vi (popN s : Int)), some (vi best), some (vi (least : Int)), some (vi (look : Int)), x, y, z] [] Z0 g := by
  obtain ⟨hQ, hU, hC, hW⟩ := id hB
  obtain ⟨hy, hi, hc, ht, ho, hf, hw_⟩ := id hC
  obtain ⟨w0, w1, w2, w3, w4, w5, w6, w7⟩ := id hW
  obtain ⟨p6, p7, p8, p9, p10, pk, pg, px, py⟩ := id hQ
  obtain ⟨u0, u1, u2, u3, u4, u5, u6, u7⟩ := id hU
  intro k
  induction k with
  | zero =>
    intro look least best x y z hl h7 h
    refine r_iload (pc' := 20) dX11_next_18 rfl rfl ?_
    refine r_bipush (pc' := 22) dX11_next_20 rfl (by decide) ?_
    refine r_icmp_ge (tgt := 153) (pc' := 25) dX11_next_22 rfl rfl (by omega) (by omega) (fun c22 => ?_) (fun c22 => ?_)
    · refine r_iload_n (pc' := 154) dX11_next_153 rfl rfl ?_
      refine r_reti dX11_next_154 rfl (Or.inl rfl) ?_
      exact h
    · exact absurd c22 (by omega)
  | succ k ih =>
    intro look least best x y z hl h7 h
    have hA := ansN_pop u s look
    have hP := popN_le s
    have h : K (if max (popN (ansN u s look)) (popN s - popN (ansN u s look)) < least then blF u s k (look + 1) look (max (popN (ansN u s look)) (popN s - popN (ansN u s look))) else blF u s k (look + 1) best least) g := h
    refine r_iload (pc' := 20) dX11_next_18 rfl rfl ?_
    refine r_bipush (pc' := 22) dX11_next_20 rfl (by decide) ?_
    refine r_icmp_ge (tgt := 153) (pc' := 25) dX11_next_22 rfl rfl (by omega) (by omega) (fun c22 => ?_) (fun c22 => ?_)
    · exact absurd c22 (by omega)
    · refine r_iload (pc' := 27) dX11_next_25 rfl rfl ?_
      refine r_bipush (pc' := 29) dX11_next_27 rfl (by decide) ?_
      refine r_icmp_ge (tgt := 36) (pc' := 32) dX11_next_29 rfl rfl (by omega) (by omega) (fun c29 => ?_) (fun c29 => ?_)
      · refine r_iconst (pc' := 37) dX11_next_36 rfl ?_
        refine r_istore (pc' := 39) dX11_next_37 rfl rfl ?_
        refine r_iconst (pc' := 40) dX11_next_39 rfl ?_
        refine r_istore (pc' := 42) dX11_next_40 rfl rfl ?_
        refine r_iconst (pc' := 43) dX11_next_42 rfl ?_
        refine r_istore (pc' := 45) dX11_next_43 rfl rfl ?_
        first
          | (have hw0 : look < 10 := (by omega)
             refine lm_nexI hB hs (by omega) (w := 0) (by omega) (Pf u) 0 0 (by omega) ?_
             rw [cn_ans hU (by omega) (by omega) rfl]
             refine r_iload (pc' := 99) dX11_next_97 rfl rfl ?_
             refine r_iload_n (pc' := 100) dX11_next_99 rfl rfl ?_
             refine r_iload (pc' := 102) dX11_next_100 rfl rfl ?_
             refine r_isub (pc' := 103) dX11_next_102 rfl ?_
             refine r_icmp_le (tgt := 111) (pc' := 106) dX11_next_103 rfl rfl (by omega) (by omega) (fun c103 => ?_) (fun c103 => ?_)
             · refine r_iload_n (pc' := 112) dX11_next_111 rfl rfl ?_
               refine r_iload (pc' := 114) dX11_next_112 rfl rfl ?_
               refine r_isub (pc' := 115) dX11_next_114 rfl ?_
               refine r_istore (pc' := 117) dX11_next_115 rfl rfl ?_
               refine r_iload (pc' := 119) dX11_next_117 rfl rfl ?_
               refine r_iload (pc' := 121) dX11_next_119 rfl rfl ?_
               refine r_icmp_ge (tgt := 129) (pc' := 124) dX11_next_121 rfl rfl (by omega) (by omega) (fun c121 => ?_) (fun c121 => ?_)
               · refine r_iload_n (pc' := 130) dX11_next_129 rfl rfl ?_
                 refine r_istore_n (pc' := 131) dX11_next_130 rfl rfl ?_
                 refine r_iload (pc' := 133) dX11_next_131 rfl rfl ?_
                 refine r_iload (pc' := 135) dX11_next_133 rfl rfl ?_
                 refine r_icmp_ge (tgt := 143) (pc' := 138) dX11_next_135 rfl rfl (by omega) (by omega) (fun c135 => ?_) (fun c135 => ?_)
                 · refine r_iload (pc' := 145) dX11_next_143 rfl rfl ?_
                   refine r_istore (pc' := 147) dX11_next_145 rfl rfl ?_
                   refine r_iinc (pc' := 150) dX11_next_147 rfl rfl rfl ?_
                   refine r_goto (tgt := 18) dX11_next_150 rfl ?_
                   first
                     | (exfalso; omega)
                     | (rw [if_pos (by omega), show max (popN (ansN u s look)) (popN s - popN (ansN u s look)) = popN (ansN u s look) by omega] at h
                        exact ih (look + 1) _ _ _ _ _ (by omega) (by omega) h)
                     | (rw [if_pos (by omega), show max (popN (ansN u s look)) (popN s - popN (ansN u s look)) = popN s - popN (ansN u s look) by omega] at h
                        rw [show (popN s : Int) - (popN (ansN u s look) : Int) = ((popN s - popN (ansN u s look) : Nat) : Int) by omega]
                        exact ih (look + 1) _ _ _ _ _ (by omega) (by omega) h)
                     | (rw [if_neg (by omega)] at h
                        exact ih (look + 1) _ _ _ _ _ (by omega) (by omega) h)
                 · refine r_iload (pc' := 140) dX11_next_138 rfl rfl ?_
                   refine r_goto (tgt := 145) dX11_next_140 rfl ?_
                   refine r_istore (pc' := 147) dX11_next_145 rfl rfl ?_
                   refine r_iinc (pc' := 150) dX11_next_147 rfl rfl rfl ?_
                   refine r_goto (tgt := 18) dX11_next_150 rfl ?_
                   first
                     | (exfalso; omega)
                     | (rw [if_pos (by omega), show max (popN (ansN u s look)) (popN s - popN (ansN u s look)) = popN (ansN u s look) by omega] at h
                        exact ih (look + 1) _ _ _ _ _ (by omega) (by omega) h)
                     | (rw [if_pos (by omega), show max (popN (ansN u s look)) (popN s - popN (ansN u s look)) = popN s - popN (ansN u s look) by omega] at h
                        rw [show (popN s : Int) - (popN (ansN u s look) : Int) = ((popN s - popN (ansN u s look) : Nat) : Int) by omega]
                        exact ih (look + 1) _ _ _ _ _ (by omega) (by omega) h)
                     | (rw [if_neg (by omega)] at h
                        exact ih (look + 1) _ _ _ _ _ (by omega) (by omega) h)
               · refine r_iload (pc' := 126) dX11_next_124 rfl rfl ?_
                 refine r_goto (tgt := 130) dX11_next_126 rfl ?_
                 refine r_istore_n (pc' := 131) dX11_next_130 rfl rfl ?_
                 refine r_iload (pc' := 133) dX11_next_131 rfl rfl ?_
                 refine r_iload (pc' := 135) dX11_next_133 rfl rfl ?_
                 refine r_icmp_ge (tgt := 143) (pc' := 138) dX11_next_135 rfl rfl (by omega) (by omega) (fun c135 => ?_) (fun c135 => ?_)
                 · refine r_iload (pc' := 145) dX11_next_143 rfl rfl ?_
                   refine r_istore (pc' := 147) dX11_next_145 rfl rfl ?_
                   refine r_iinc (pc' := 150) dX11_next_147 rfl rfl rfl ?_
                   refine r_goto (tgt := 18) dX11_next_150 rfl ?_
                   first
                     | (exfalso; omega)
                     | (rw [if_pos (by omega), show max (popN (ansN u s look)) (popN s - popN (ansN u s look)) = popN (ansN u s look) by omega] at h
                        exact ih (look + 1) _ _ _ _ _ (by omega) (by omega) h)
                     | (rw [if_pos (by omega), show max (popN (ansN u s look)) (popN s - popN (ansN u s look)) = popN s - popN (ansN u s look) by omega] at h
                        rw [show (popN s : Int) - (popN (ansN u s look) : Int) = ((popN s - popN (ansN u s look) : Nat) : Int) by omega]
                        exact ih (look + 1) _ _ _ _ _ (by omega) (by omega) h)
                     | (rw [if_neg (by omega)] at h
                        exact ih (look + 1) _ _ _ _ _ (by omega) (by omega) h)
                 · refine r_iload (pc' := 140) dX11_next_138 rfl rfl ?_
                   refine r_goto (tgt := 145) dX11_next_140 rfl ?_
                   refine r_istore (pc' := 147) dX11_next_145 rfl rfl ?_
                   refine r_iinc (pc' := 150) dX11_next_147 rfl rfl rfl ?_
                   refine r_goto (tgt := 18) dX11_next_150 rfl ?_
                   first
                     | (exfalso; omega)
                     | (rw [if_pos (by omega), show max (popN (ansN u s look)) (popN s - popN (ansN u s look)) = popN (ansN u s look) by omega] at h
                        exact ih (look + 1) _ _ _ _ _ (by omega) (by omega) h)
                     | (rw [if_pos (by omega), show max (popN (ansN u s look)) (popN s - popN (ansN u s look)) = popN s - popN (ansN u s look) by omega] at h
                        rw [show (popN s : Int) - (popN (ansN u s look) : Int) = ((popN s - popN (ansN u s look) : Nat) : Int) by omega]
                        exact ih (look + 1) _ _ _ _ _ (by omega) (by omega) h)
                     | (rw [if_neg (by omega)] at h
                        exact ih (look + 1) _ _ _ _ _ (by omega) (by omega) h)
             · refine r_iload (pc' := 108) dX11_next_106 rfl rfl ?_
               refine r_goto (tgt := 115) dX11_next_108 rfl ?_
               refine r_istore (pc' := 117) dX11_next_115 rfl rfl ?_
               refine r_iload (pc' := 119) dX11_next_117 rfl rfl ?_
               refine r_iload (pc' := 121) dX11_next_119 rfl rfl ?_
               refine r_icmp_ge (tgt := 129) (pc' := 124) dX11_next_121 rfl rfl (by omega) (by omega) (fun c121 => ?_) (fun c121 => ?_)
               · refine r_iload_n (pc' := 130) dX11_next_129 rfl rfl ?_
                 refine r_istore_n (pc' := 131) dX11_next_130 rfl rfl ?_
                 refine r_iload (pc' := 133) dX11_next_131 rfl rfl ?_
                 refine r_iload (pc' := 135) dX11_next_133 rfl rfl ?_
                 refine r_icmp_ge (tgt := 143) (pc' := 138) dX11_next_135 rfl rfl (by omega) (by omega) (fun c135 => ?_) (fun c135 => ?_)
                 · refine r_iload (pc' := 145) dX11_next_143 rfl rfl ?_
                   refine r_istore (pc' := 147) dX11_next_145 rfl rfl ?_
                   refine r_iinc (pc' := 150) dX11_next_147 rfl rfl rfl ?_
                   refine r_goto (tgt := 18) dX11_next_150 rfl ?_
                   first
                     | (exfalso; omega)
                     | (rw [if_pos (by omega), show max (popN (ansN u s look)) (popN s - popN (ansN u s look)) = popN (ansN u s look) by omega] at h
                        exact ih (look + 1) _ _ _ _ _ (by omega) (by omega) h)
                     | (rw [if_pos (by omega), show max (popN (ansN u s look)) (popN s - popN (ansN u s look)) = popN s - popN (ansN u s look) by omega] at h
                        rw [show (popN s : Int) - (popN (ansN u s look) : Int) = ((popN s - popN (ansN u s look) : Nat) : Int) by omega]
                        exact ih (look + 1) _ _ _ _ _ (by omega) (by omega) h)
                     | (rw [if_neg (by omega)] at h
                        exact ih (look + 1) _ _ _ _ _ (by omega) (by omega) h)
                 · refine r_iload (pc' := 140) dX11_next_138 rfl rfl ?_
                   refine r_goto (tgt := 145) dX11_next_140 rfl ?_
                   refine r_istore (pc' := 147) dX11_next_145 rfl rfl ?_
                   refine r_iinc (pc' := 150) dX11_next_147 rfl rfl rfl ?_
                   refine r_goto (tgt := 18) dX11_next_150 rfl ?_
                   first
                     | (exfalso; omega)
                     | (rw [if_pos (by omega), show max (popN (ansN u s look)) (popN s - popN (ansN u s look)) = popN (ansN u s look) by omega] at h
                        exact ih (look + 1) _ _ _ _ _ (by omega) (by omega) h)
                     | (rw [if_pos (by omega), show max (popN (ansN u s look)) (popN s - popN (ansN u s look)) = popN s - popN (ansN u s look) by omega] at h
                        rw [show (popN s : Int) - (popN (ansN u s look) : Int) = ((popN s - popN (ansN u s look) : Nat) : Int) by omega]
                        exact ih (look + 1) _ _ _ _ _ (by omega) (by omega) h)
                     | (rw [if_neg (by omega)] at h
                        exact ih (look + 1) _ _ _ _ _ (by omega) (by omega) h)
               · refine r_iload (pc' := 126) dX11_next_124 rfl rfl ?_
                 refine r_goto (tgt := 130) dX11_next_126 rfl ?_
                 refine r_istore_n (pc' := 131) dX11_next_130 rfl rfl ?_
                 refine r_iload (pc' := 133) dX11_next_131 rfl rfl ?_
                 refine r_iload (pc' := 135) dX11_next_133 rfl rfl ?_
                 refine r_icmp_ge (tgt := 143) (pc' := 138) dX11_next_135 rfl rfl (by omega) (by omega) (fun c135 => ?_) (fun c135 => ?_)
                 · refine r_iload (pc' := 145) dX11_next_143 rfl rfl ?_
                   refine r_istore (pc' := 147) dX11_next_145 rfl rfl ?_
                   refine r_iinc (pc' := 150) dX11_next_147 rfl rfl rfl ?_
                   refine r_goto (tgt := 18) dX11_next_150 rfl ?_
                   first
                     | (exfalso; omega)
                     | (rw [if_pos (by omega), show max (popN (ansN u s look)) (popN s - popN (ansN u s look)) = popN (ansN u s look) by omega] at h
                        exact ih (look + 1) _ _ _ _ _ (by omega) (by omega) h)
                     | (rw [if_pos (by omega), show max (popN (ansN u s look)) (popN s - popN (ansN u s look)) = popN s - popN (ansN u s look) by omega] at h
                        rw [show (popN s : Int) - (popN (ansN u s look) : Int) = ((popN s - popN (ansN u s look) : Nat) : Int) by omega]
                        exact ih (look + 1) _ _ _ _ _ (by omega) (by omega) h)
                     | (rw [if_neg (by omega)] at h
                        exact ih (look + 1) _ _ _ _ _ (by omega) (by omega) h)
                 · refine r_iload (pc' := 140) dX11_next_138 rfl rfl ?_
                   refine r_goto (tgt := 145) dX11_next_140 rfl ?_
                   refine r_istore (pc' := 147) dX11_next_145 rfl rfl ?_
                   refine r_iinc (pc' := 150) dX11_next_147 rfl rfl rfl ?_
                   refine r_goto (tgt := 18) dX11_next_150 rfl ?_
                   first
                     | (exfalso; omega)
                     | (rw [if_pos (by omega), show max (popN (ansN u s look)) (popN s - popN (ansN u s look)) = popN (ansN u s look) by omega] at h
                        exact ih (look + 1) _ _ _ _ _ (by omega) (by omega) h)
                     | (rw [if_pos (by omega), show max (popN (ansN u s look)) (popN s - popN (ansN u s look)) = popN s - popN (ansN u s look) by omega] at h
                        rw [show (popN s : Int) - (popN (ansN u s look) : Int) = ((popN s - popN (ansN u s look) : Nat) : Int) by omega]
                        exact ih (look + 1) _ _ _ _ _ (by omega) (by omega) h)
                     | (rw [if_neg (by omega)] at h
                        exact ih (look + 1) _ _ _ _ _ (by omega) (by omega) h))
          | (have hw0 : 10 ≤ look := (by omega)
             refine lm_nexI hB hs (by omega) (w := 1) (by omega) (Pf u) 0 0 (by omega) ?_
             rw [cn_ans hU (by omega) (by omega) rfl]
             refine r_iload (pc' := 99) dX11_next_97 rfl rfl ?_
             refine r_iload_n (pc' := 100) dX11_next_99 rfl rfl ?_
             refine r_iload (pc' := 102) dX11_next_100 rfl rfl ?_
             refine r_isub (pc' := 103) dX11_next_102 rfl ?_
             refine r_icmp_le (tgt := 111) (pc' := 106) dX11_next_103 rfl rfl (by omega) (by omega) (fun c103 => ?_) (fun c103 => ?_)
             · refine r_iload_n (pc' := 112) dX11_next_111 rfl rfl ?_
               refine r_iload (pc' := 114) dX11_next_112 rfl rfl ?_
               refine r_isub (pc' := 115) dX11_next_114 rfl ?_
               refine r_istore (pc' := 117) dX11_next_115 rfl rfl ?_
               refine r_iload (pc' := 119) dX11_next_117 rfl rfl ?_
               refine r_iload (pc' := 121) dX11_next_119 rfl rfl ?_
               refine r_icmp_ge (tgt := 129) (pc' := 124) dX11_next_121 rfl rfl (by omega) (by omega) (fun c121 => ?_) (fun c121 => ?_)
               · refine r_iload_n (pc' := 130) dX11_next_129 rfl rfl ?_
                 refine r_istore_n (pc' := 131) dX11_next_130 rfl rfl ?_
                 refine r_iload (pc' := 133) dX11_next_131 rfl rfl ?_
                 refine r_iload (pc' := 135) dX11_next_133 rfl rfl ?_
                 refine r_icmp_ge (tgt := 143) (pc' := 138) dX11_next_135 rfl rfl (by omega) (by omega) (fun c135 => ?_) (fun c135 => ?_)
                 · refine r_iload (pc' := 145) dX11_next_143 rfl rfl ?_
                   refine r_istore (pc' := 147) dX11_next_145 rfl rfl ?_
                   refine r_iinc (pc' := 150) dX11_next_147 rfl rfl rfl ?_
                   refine r_goto (tgt := 18) dX11_next_150 rfl ?_
                   first
                     | (exfalso; omega)
                     | (rw [if_pos (by omega), show max (popN (ansN u s look)) (popN s - popN (ansN u s look)) = popN (ansN u s look) by omega] at h
                        exact ih (look + 1) _ _ _ _ _ (by omega) (by omega) h)
                     | (rw [if_pos (by omega), show max (popN (ansN u s look)) (popN s - popN (ansN u s look)) = popN s - popN (ansN u s look) by omega] at h
                        rw [show (popN s : Int) - (popN (ansN u s look) : Int) = ((popN s - popN (ansN u s look) : Nat) : Int) by omega]
                        exact ih (look + 1) _ _ _ _ _ (by omega) (by omega) h)
                     | (rw [if_neg (by omega)] at h
                        exact ih (look + 1) _ _ _ _ _ (by omega) (by omega) h)
                 · refine r_iload (pc' := 140) dX11_next_138 rfl rfl ?_
                   refine r_goto (tgt := 145) dX11_next_140 rfl ?_
                   refine r_istore (pc' := 147) dX11_next_145 rfl rfl ?_
                   refine r_iinc (pc' := 150) dX11_next_147 rfl rfl rfl ?_
                   refine r_goto (tgt := 18) dX11_next_150 rfl ?_
                   first
                     | (exfalso; omega)
                     | (rw [if_pos (by omega), show max (popN (ansN u s look)) (popN s - popN (ansN u s look)) = popN (ansN u s look) by omega] at h
                        exact ih (look + 1) _ _ _ _ _ (by omega) (by omega) h)
                     | (rw [if_pos (by omega), show max (popN (ansN u s look)) (popN s - popN (ansN u s look)) = popN s - popN (ansN u s look) by omega] at h
                        rw [show (popN s : Int) - (popN (ansN u s look) : Int) = ((popN s - popN (ansN u s look) : Nat) : Int) by omega]
                        exact ih (look + 1) _ _ _ _ _ (by omega) (by omega) h)
                     | (rw [if_neg (by omega)] at h
                        exact ih (look + 1) _ _ _ _ _ (by omega) (by omega) h)
               · refine r_iload (pc' := 126) dX11_next_124 rfl rfl ?_
                 refine r_goto (tgt := 130) dX11_next_126 rfl ?_
                 refine r_istore_n (pc' := 131) dX11_next_130 rfl rfl ?_
                 refine r_iload (pc' := 133) dX11_next_131 rfl rfl ?_
                 refine r_iload (pc' := 135) dX11_next_133 rfl rfl ?_
                 refine r_icmp_ge (tgt := 143) (pc' := 138) dX11_next_135 rfl rfl (by omega) (by omega) (fun c135 => ?_) (fun c135 => ?_)
                 · refine r_iload (pc' := 145) dX11_next_143 rfl rfl ?_
                   refine r_istore (pc' := 147) dX11_next_145 rfl rfl ?_
                   refine r_iinc (pc' := 150) dX11_next_147 rfl rfl rfl ?_
                   refine r_goto (tgt := 18) dX11_next_150 rfl ?_
                   first
                     | (exfalso; omega)
                     | (rw [if_pos (by omega), show max (popN (ansN u s look)) (popN s - popN (ansN u s look)) = popN (ansN u s look) by omega] at h
                        exact ih (look + 1) _ _ _ _ _ (by omega) (by omega) h)
                     | (rw [if_pos (by omega), show max (popN (ansN u s look)) (popN s - popN (ansN u s look)) = popN s - popN (ansN u s look) by omega] at h
                        rw [show (popN s : Int) - (popN (ansN u s look) : Int) = ((popN s - popN (ansN u s look) : Nat) : Int) by omega]
                        exact ih (look + 1) _ _ _ _ _ (by omega) (by omega) h)
                     | (rw [if_neg (by omega)] at h
                        exact ih (look + 1) _ _ _ _ _ (by omega) (by omega) h)
                 · refine r_iload (pc' := 140) dX11_next_138 rfl rfl ?_
                   refine r_goto (tgt := 145) dX11_next_140 rfl ?_
                   refine r_istore (pc' := 147) dX11_next_145 rfl rfl ?_
                   refine r_iinc (pc' := 150) dX11_next_147 rfl rfl rfl ?_
                   refine r_goto (tgt := 18) dX11_next_150 rfl ?_
                   first
                     | (exfalso; omega)
                     | (rw [if_pos (by omega), show max (popN (ansN u s look)) (popN s - popN (ansN u s look)) = popN (ansN u s look) by omega] at h
                        exact ih (look + 1) _ _ _ _ _ (by omega) (by omega) h)
                     | (rw [if_pos (by omega), show max (popN (ansN u s look)) (popN s - popN (ansN u s look)) = popN s - popN (ansN u s look) by omega] at h
                        rw [show (popN s : Int) - (popN (ansN u s look) : Int) = ((popN s - popN (ansN u s look) : Nat) : Int) by omega]
                        exact ih (look + 1) _ _ _ _ _ (by omega) (by omega) h)
                     | (rw [if_neg (by omega)] at h
                        exact ih (look + 1) _ _ _ _ _ (by omega) (by omega) h)
             · refine r_iload (pc' := 108) dX11_next_106 rfl rfl ?_
               refine r_goto (tgt := 115) dX11_next_108 rfl ?_
               refine r_istore (pc' := 117) dX11_next_115 rfl rfl ?_
               refine r_iload (pc' := 119) dX11_next_117 rfl rfl ?_
               refine r_iload (pc' := 121) dX11_next_119 rfl rfl ?_
               refine r_icmp_ge (tgt := 129) (pc' := 124) dX11_next_121 rfl rfl (by omega) (by omega) (fun c121 => ?_) (fun c121 => ?_)
               · refine r_iload_n (pc' := 130) dX11_next_129 rfl rfl ?_
                 refine r_istore_n (pc' := 131) dX11_next_130 rfl rfl ?_
                 refine r_iload (pc' := 133) dX11_next_131 rfl rfl ?_
                 refine r_iload (pc' := 135) dX11_next_133 rfl rfl ?_
                 refine r_icmp_ge (tgt := 143) (pc' := 138) dX11_next_135 rfl rfl (by omega) (by omega) (fun c135 => ?_) (fun c135 => ?_)
                 · refine r_iload (pc' := 145) dX11_next_143 rfl rfl ?_
                   refine r_istore (pc' := 147) dX11_next_145 rfl rfl ?_
                   refine r_iinc (pc' := 150) dX11_next_147 rfl rfl rfl ?_
                   refine r_goto (tgt := 18) dX11_next_150 rfl ?_
                   first
                     | (exfalso; omega)
                     | (rw [if_pos (by omega), show max (popN (ansN u s look)) (popN s - popN (ansN u s look)) = popN (ansN u s look) by omega] at h
                        exact ih (look + 1) _ _ _ _ _ (by omega) (by omega) h)
                     | (rw [if_pos (by omega), show max (popN (ansN u s look)) (popN s - popN (ansN u s look)) = popN s - popN (ansN u s look) by omega] at h
                        rw [show (popN s : Int) - (popN (ansN u s look) : Int) = ((popN s - popN (ansN u s look) : Nat) : Int) by omega]
                        exact ih (look + 1) _ _ _ _ _ (by omega) (by omega) h)
                     | (rw [if_neg (by omega)] at h
                        exact ih (look + 1) _ _ _ _ _ (by omega) (by omega) h)
                 · refine r_iload (pc' := 140) dX11_next_138 rfl rfl ?_
                   refine r_goto (tgt := 145) dX11_next_140 rfl ?_
                   refine r_istore (pc' := 147) dX11_next_145 rfl rfl ?_
                   refine r_iinc (pc' := 150) dX11_next_147 rfl rfl rfl ?_
                   refine r_goto (tgt := 18) dX11_next_150 rfl ?_
                   first
                     | (exfalso; omega)
                     | (rw [if_pos (by omega), show max (popN (ansN u s look)) (popN s - popN (ansN u s look)) = popN (ansN u s look) by omega] at h
                        exact ih (look + 1) _ _ _ _ _ (by omega) (by omega) h)
                     | (rw [if_pos (by omega), show max (popN (ansN u s look)) (popN s - popN (ansN u s look)) = popN s - popN (ansN u s look) by omega] at h
                        rw [show (popN s : Int) - (popN (ansN u s look) : Int) = ((popN s - popN (ansN u s look) : Nat) : Int) by omega]
                        exact ih (look + 1) _ _ _ _ _ (by omega) (by omega) h)
                     | (rw [if_neg (by omega)] at h
                        exact ih (look + 1) _ _ _ _ _ (by omega) (by omega) h)
               · refine r_iload (pc' := 126) dX11_next_124 rfl rfl ?_
                 refine r_goto (tgt := 130) dX11_next_126 rfl ?_
                 refine r_istore_n (pc' := 131) dX11_next_130 rfl rfl ?_
                 refine r_iload (pc' := 133) dX11_next_131 rfl rfl ?_
                 refine r_iload (pc' := 135) dX11_next_133 rfl rfl ?_
                 refine r_icmp_ge (tgt := 143) (pc' := 138) dX11_next_135 rfl rfl (by omega) (by omega) (fun c135 => ?_) (fun c135 => ?_)
                 · refine r_iload (pc' := 145) dX11_next_143 rfl rfl ?_
                   refine r_istore (pc' := 147) dX11_next_145 rfl rfl ?_
                   refine r_iinc (pc' := 150) dX11_next_147 rfl rfl rfl ?_
                   refine r_goto (tgt := 18) dX11_next_150 rfl ?_
                   first
                     | (exfalso; omega)
                     | (rw [if_pos (by omega), show max (popN (ansN u s look)) (popN s - popN (ansN u s look)) = popN (ansN u s look) by omega] at h
                        exact ih (look + 1) _ _ _ _ _ (by omega) (by omega) h)
                     | (rw [if_pos (by omega), show max (popN (ansN u s look)) (popN s - popN (ansN u s look)) = popN s - popN (ansN u s look) by omega] at h
                        rw [show (popN s : Int) - (popN (ansN u s look) : Int) = ((popN s - popN (ansN u s look) : Nat) : Int) by omega]
                        exact ih (look + 1) _ _ _ _ _ (by omega) (by omega) h)
                     | (rw [if_neg (by omega)] at h
                        exact ih (look + 1) _ _ _ _ _ (by omega) (by omega) h)
                 · refine r_iload (pc' := 140) dX11_next_138 rfl rfl ?_
                   refine r_goto (tgt := 145) dX11_next_140 rfl ?_
                   refine r_istore (pc' := 147) dX11_next_145 rfl rfl ?_
                   refine r_iinc (pc' := 150) dX11_next_147 rfl rfl rfl ?_
                   refine r_goto (tgt := 18) dX11_next_150 rfl ?_
                   first
                     | (exfalso; omega)
                     | (rw [if_pos (by omega), show max (popN (ansN u s look)) (popN s - popN (ansN u s look)) = popN (ansN u s look) by omega] at h
                        exact ih (look + 1) _ _ _ _ _ (by omega) (by omega) h)
                     | (rw [if_pos (by omega), show max (popN (ansN u s look)) (popN s - popN (ansN u s look)) = popN s - popN (ansN u s look) by omega] at h
                        rw [show (popN s : Int) - (popN (ansN u s look) : Int) = ((popN s - popN (ansN u s look) : Nat) : Int) by omega]
                        exact ih (look + 1) _ _ _ _ _ (by omega) (by omega) h)
                     | (rw [if_neg (by omega)] at h
                        exact ih (look + 1) _ _ _ _ _ (by omega) (by omega) h))
      · refine r_iconst (pc' := 33) dX11_next_32 rfl ?_
        refine r_goto (tgt := 37) dX11_next_33 rfl ?_
        refine r_istore (pc' := 39) dX11_next_37 rfl rfl ?_
        refine r_iconst (pc' := 40) dX11_next_39 rfl ?_
        refine r_istore (pc' := 42) dX11_next_40 rfl rfl ?_
        refine r_iconst (pc' := 43) dX11_next_42 rfl ?_
        refine r_istore (pc' := 45) dX11_next_43 rfl rfl ?_
        first
          | (have hw0 : look < 10 := (by omega)
             refine lm_nexI hB hs (by omega) (w := 0) (by omega) (Pf u) 0 0 (by omega) ?_
             rw [cn_ans hU (by omega) (by omega) rfl]
             refine r_iload (pc' := 99) dX11_next_97 rfl rfl ?_
             refine r_iload_n (pc' := 100) dX11_next_99 rfl rfl ?_
             refine r_iload (pc' := 102) dX11_next_100 rfl rfl ?_
             refine r_isub (pc' := 103) dX11_next_102 rfl ?_
             refine r_icmp_le (tgt := 111) (pc' := 106) dX11_next_103 rfl rfl (by omega) (by omega) (fun c103 => ?_) (fun c103 => ?_)
             · refine r_iload_n (pc' := 112) dX11_next_111 rfl rfl ?_
               refine r_iload (pc' := 114) dX11_next_112 rfl rfl ?_
               refine r_isub (pc' := 115) dX11_next_114 rfl ?_
               refine r_istore (pc' := 117) dX11_next_115 rfl rfl ?_
               refine r_iload (pc' := 119) dX11_next_117 rfl rfl ?_
               refine r_iload (pc' := 121) dX11_next_119 rfl rfl ?_
               refine r_icmp_ge (tgt := 129) (pc' := 124) dX11_next_121 rfl rfl (by omega) (by omega) (fun c121 => ?_) (fun c121 => ?_)
               · refine r_iload_n (pc' := 130) dX11_next_129 rfl rfl ?_
                 refine r_istore_n (pc' := 131) dX11_next_130 rfl rfl ?_
                 refine r_iload (pc' := 133) dX11_next_131 rfl rfl ?_
                 refine r_iload (pc' := 135) dX11_next_133 rfl rfl ?_
                 refine r_icmp_ge (tgt := 143) (pc' := 138) dX11_next_135 rfl rfl (by omega) (by omega) (fun c135 => ?_) (fun c135 => ?_)
                 · refine r_iload (pc' := 145) dX11_next_143 rfl rfl ?_
                   refine r_istore (pc' := 147) dX11_next_145 rfl rfl ?_
                   refine r_iinc (pc' := 150) dX11_next_147 rfl rfl rfl ?_
                   refine r_goto (tgt := 18) dX11_next_150 rfl ?_
                   first
                     | (exfalso; omega)
                     | (rw [if_pos (by omega), show max (popN (ansN u s look)) (popN s - popN (ansN u s look)) = popN (ansN u s look) by omega] at h
                        exact ih (look + 1) _ _ _ _ _ (by omega) (by omega) h)
                     | (rw [if_pos (by omega), show max (popN (ansN u s look)) (popN s - popN (ansN u s look)) = popN s - popN (ansN u s look) by omega] at h
                        rw [show (popN s : Int) - (popN (ansN u s look) : Int) = ((popN s - popN (ansN u s look) : Nat) : Int) by omega]
                        exact ih (look + 1) _ _ _ _ _ (by omega) (by omega) h)
                     | (rw [if_neg (by omega)] at h
                        exact ih (look + 1) _ _ _ _ _ (by omega) (by omega) h)
                 · refine r_iload (pc' := 140) dX11_next_138 rfl rfl ?_
                   refine r_goto (tgt := 145) dX11_next_140 rfl ?_
                   refine r_istore (pc' := 147) dX11_next_145 rfl rfl ?_
                   refine r_iinc (pc' := 150) dX11_next_147 rfl rfl rfl ?_
                   refine r_goto (tgt := 18) dX11_next_150 rfl ?_
                   first
                     | (exfalso; omega)
                     | (rw [if_pos (by omega), show max (popN (ansN u s look)) (popN s - popN (ansN u s look)) = popN (ansN u s look) by omega] at h
                        exact ih (look + 1) _ _ _ _ _ (by omega) (by omega) h)
                     | (rw [if_pos (by omega), show max (popN (ansN u s look)) (popN s - popN (ansN u s look)) = popN s - popN (ansN u s look) by omega] at h
                        rw [show (popN s : Int) - (popN (ansN u s look) : Int) = ((popN s - popN (ansN u s look) : Nat) : Int) by omega]
                        exact ih (look + 1) _ _ _ _ _ (by omega) (by omega) h)
                     | (rw [if_neg (by omega)] at h
                        exact ih (look + 1) _ _ _ _ _ (by omega) (by omega) h)
               · refine r_iload (pc' := 126) dX11_next_124 rfl rfl ?_
                 refine r_goto (tgt := 130) dX11_next_126 rfl ?_
                 refine r_istore_n (pc' := 131) dX11_next_130 rfl rfl ?_
                 refine r_iload (pc' := 133) dX11_next_131 rfl rfl ?_
                 refine r_iload (pc' := 135) dX11_next_133 rfl rfl ?_
                 refine r_icmp_ge (tgt := 143) (pc' := 138) dX11_next_135 rfl rfl (by omega) (by omega) (fun c135 => ?_) (fun c135 => ?_)
                 · refine r_iload (pc' := 145) dX11_next_143 rfl rfl ?_
                   refine r_istore (pc' := 147) dX11_next_145 rfl rfl ?_
                   refine r_iinc (pc' := 150) dX11_next_147 rfl rfl rfl ?_
                   refine r_goto (tgt := 18) dX11_next_150 rfl ?_
                   first
                     | (exfalso; omega)
                     | (rw [if_pos (by omega), show max (popN (ansN u s look)) (popN s - popN (ansN u s look)) = popN (ansN u s look) by omega] at h
                        exact ih (look + 1) _ _ _ _ _ (by omega) (by omega) h)
                     | (rw [if_pos (by omega), show max (popN (ansN u s look)) (popN s - popN (ansN u s look)) = popN s - popN (ansN u s look) by omega] at h
                        rw [show (popN s : Int) - (popN (ansN u s look) : Int) = ((popN s - popN (ansN u s look) : Nat) : Int) by omega]
                        exact ih (look + 1) _ _ _ _ _ (by omega) (by omega) h)
                     | (rw [if_neg (by omega)] at h
                        exact ih (look + 1) _ _ _ _ _ (by omega) (by omega) h)
                 · refine r_iload (pc' := 140) dX11_next_138 rfl rfl ?_
                   refine r_goto (tgt := 145) dX11_next_140 rfl ?_
                   refine r_istore (pc' := 147) dX11_next_145 rfl rfl ?_
                   refine r_iinc (pc' := 150) dX11_next_147 rfl rfl rfl ?_
                   refine r_goto (tgt := 18) dX11_next_150 rfl ?_
                   first
                     | (exfalso; omega)
                     | (rw [if_pos (by omega), show max (popN (ansN u s look)) (popN s - popN (ansN u s look)) = popN (ansN u s look) by omega] at h
                        exact ih (look + 1) _ _ _ _ _ (by omega) (by omega) h)
                     | (rw [if_pos (by omega), show max (popN (ansN u s look)) (popN s - popN (ansN u s look)) = popN s - popN (ansN u s look) by omega] at h
                        rw [show (popN s : Int) - (popN (ansN u s look) : Int) = ((popN s - popN (ansN u s look) : Nat) : Int) by omega]
                        exact ih (look + 1) _ _ _ _ _ (by omega) (by omega) h)
                     | (rw [if_neg (by omega)] at h
                        exact ih (look + 1) _ _ _ _ _ (by omega) (by omega) h)
             · refine r_iload (pc' := 108) dX11_next_106 rfl rfl ?_
               refine r_goto (tgt := 115) dX11_next_108 rfl ?_
               refine r_istore (pc' := 117) dX11_next_115 rfl rfl ?_
               refine r_iload (pc' := 119) dX11_next_117 rfl rfl ?_
               refine r_iload (pc' := 121) dX11_next_119 rfl rfl ?_
               refine r_icmp_ge (tgt := 129) (pc' := 124) dX11_next_121 rfl rfl (by omega) (by omega) (fun c121 => ?_) (fun c121 => ?_)
               · refine r_iload_n (pc' := 130) dX11_next_129 rfl rfl ?_
                 refine r_istore_n (pc' := 131) dX11_next_130 rfl rfl ?_
                 refine r_iload (pc' := 133) dX11_next_131 rfl rfl ?_
                 refine r_iload (pc' := 135) dX11_next_133 rfl rfl ?_
                 refine r_icmp_ge (tgt := 143) (pc' := 138) dX11_next_135 rfl rfl (by omega) (by omega) (fun c135 => ?_) (fun c135 => ?_)
                 · refine r_iload (pc' := 145) dX11_next_143 rfl rfl ?_
                   refine r_istore (pc' := 147) dX11_next_145 rfl rfl ?_
                   refine r_iinc (pc' := 150) dX11_next_147 rfl rfl rfl ?_
                   refine r_goto (tgt := 18) dX11_next_150 rfl ?_
                   first
                     | (exfalso; omega)
                     | (rw [if_pos (by omega), show max (popN (ansN u s look)) (popN s - popN (ansN u s look)) = popN (ansN u s look) by omega] at h
                        exact ih (look + 1) _ _ _ _ _ (by omega) (by omega) h)
                     | (rw [if_pos (by omega), show max (popN (ansN u s look)) (popN s - popN (ansN u s look)) = popN s - popN (ansN u s look) by omega] at h
                        rw [show (popN s : Int) - (popN (ansN u s look) : Int) = ((popN s - popN (ansN u s look) : Nat) : Int) by omega]
                        exact ih (look + 1) _ _ _ _ _ (by omega) (by omega) h)
                     | (rw [if_neg (by omega)] at h
                        exact ih (look + 1) _ _ _ _ _ (by omega) (by omega) h)
                 · refine r_iload (pc' := 140) dX11_next_138 rfl rfl ?_
                   refine r_goto (tgt := 145) dX11_next_140 rfl ?_
                   refine r_istore (pc' := 147) dX11_next_145 rfl rfl ?_
                   refine r_iinc (pc' := 150) dX11_next_147 rfl rfl rfl ?_
                   refine r_goto (tgt := 18) dX11_next_150 rfl ?_
                   first
                     | (exfalso; omega)
                     | (rw [if_pos (by omega), show max (popN (ansN u s look)) (popN s - popN (ansN u s look)) = popN (ansN u s look) by omega] at h
                        exact ih (look + 1) _ _ _ _ _ (by omega) (by omega) h)
                     | (rw [if_pos (by omega), show max (popN (ansN u s look)) (popN s - popN (ansN u s look)) = popN s - popN (ansN u s look) by omega] at h
                        rw [show (popN s : Int) - (popN (ansN u s look) : Int) = ((popN s - popN (ansN u s look) : Nat) : Int) by omega]
                        exact ih (look + 1) _ _ _ _ _ (by omega) (by omega) h)
                     | (rw [if_neg (by omega)] at h
                        exact ih (look + 1) _ _ _ _ _ (by omega) (by omega) h)
               · refine r_iload (pc' := 126) dX11_next_124 rfl rfl ?_
                 refine r_goto (tgt := 130) dX11_next_126 rfl ?_
                 refine r_istore_n (pc' := 131) dX11_next_130 rfl rfl ?_
                 refine r_iload (pc' := 133) dX11_next_131 rfl rfl ?_
                 refine r_iload (pc' := 135) dX11_next_133 rfl rfl ?_
                 refine r_icmp_ge (tgt := 143) (pc' := 138) dX11_next_135 rfl rfl (by omega) (by omega) (fun c135 => ?_) (fun c135 => ?_)
                 · refine r_iload (pc' := 145) dX11_next_143 rfl rfl ?_
                   refine r_istore (pc' := 147) dX11_next_145 rfl rfl ?_
                   refine r_iinc (pc' := 150) dX11_next_147 rfl rfl rfl ?_
                   refine r_goto (tgt := 18) dX11_next_150 rfl ?_
                   first
                     | (exfalso; omega)
                     | (rw [if_pos (by omega), show max (popN (ansN u s look)) (popN s - popN (ansN u s look)) = popN (ansN u s look) by omega] at h
                        exact ih (look + 1) _ _ _ _ _ (by omega) (by omega) h)
                     | (rw [if_pos (by omega), show max (popN (ansN u s look)) (popN s - popN (ansN u s look)) = popN s - popN (ansN u s look) by omega] at h
                        rw [show (popN s : Int) - (popN (ansN u s look) : Int) = ((popN s - popN (ansN u s look) : Nat) : Int) by omega]
                        exact ih (look + 1) _ _ _ _ _ (by omega) (by omega) h)
                     | (rw [if_neg (by omega)] at h
                        exact ih (look + 1) _ _ _ _ _ (by omega) (by omega) h)
                 · refine r_iload (pc' := 140) dX11_next_138 rfl rfl ?_
                   refine r_goto (tgt := 145) dX11_next_140 rfl ?_
                   refine r_istore (pc' := 147) dX11_next_145 rfl rfl ?_
                   refine r_iinc (pc' := 150) dX11_next_147 rfl rfl rfl ?_
                   refine r_goto (tgt := 18) dX11_next_150 rfl ?_
                   first
                     | (exfalso; omega)
                     | (rw [if_pos (by omega), show max (popN (ansN u s look)) (popN s - popN (ansN u s look)) = popN (ansN u s look) by omega] at h
                        exact ih (look + 1) _ _ _ _ _ (by omega) (by omega) h)
                     | (rw [if_pos (by omega), show max (popN (ansN u s look)) (popN s - popN (ansN u s look)) = popN s - popN (ansN u s look) by omega] at h
                        rw [show (popN s : Int) - (popN (ansN u s look) : Int) = ((popN s - popN (ansN u s look) : Nat) : Int) by omega]
                        exact ih (look + 1) _ _ _ _ _ (by omega) (by omega) h)
                     | (rw [if_neg (by omega)] at h
                        exact ih (look + 1) _ _ _ _ _ (by omega) (by omega) h))
          | (have hw0 : 10 ≤ look := (by omega)
             refine lm_nexI hB hs (by omega) (w := 1) (by omega) (Pf u) 0 0 (by omega) ?_
             rw [cn_ans hU (by omega) (by omega) rfl]
             refine r_iload (pc' := 99) dX11_next_97 rfl rfl ?_
             refine r_iload_n (pc' := 100) dX11_next_99 rfl rfl ?_
             refine r_iload (pc' := 102) dX11_next_100 rfl rfl ?_
             refine r_isub (pc' := 103) dX11_next_102 rfl ?_
             refine r_icmp_le (tgt := 111) (pc' := 106) dX11_next_103 rfl rfl (by omega) (by omega) (fun c103 => ?_) (fun c103 => ?_)
             · refine r_iload_n (pc' := 112) dX11_next_111 rfl rfl ?_
               refine r_iload (pc' := 114) dX11_next_112 rfl rfl ?_
               refine r_isub (pc' := 115) dX11_next_114 rfl ?_
               refine r_istore (pc' := 117) dX11_next_115 rfl rfl ?_
               refine r_iload (pc' := 119) dX11_next_117 rfl rfl ?_
               refine r_iload (pc' := 121) dX11_next_119 rfl rfl ?_
               refine r_icmp_ge (tgt := 129) (pc' := 124) dX11_next_121 rfl rfl (by omega) (by omega) (fun c121 => ?_) (fun c121 => ?_)
               · refine r_iload_n (pc' := 130) dX11_next_129 rfl rfl ?_
                 refine r_istore_n (pc' := 131) dX11_next_130 rfl rfl ?_
                 refine r_iload (pc' := 133) dX11_next_131 rfl rfl ?_
                 refine r_iload (pc' := 135) dX11_next_133 rfl rfl ?_
                 refine r_icmp_ge (tgt := 143) (pc' := 138) dX11_next_135 rfl rfl (by omega) (by omega) (fun c135 => ?_) (fun c135 => ?_)
                 · refine r_iload (pc' := 145) dX11_next_143 rfl rfl ?_
                   refine r_istore (pc' := 147) dX11_next_145 rfl rfl ?_
                   refine r_iinc (pc' := 150) dX11_next_147 rfl rfl rfl ?_
                   refine r_goto (tgt := 18) dX11_next_150 rfl ?_
                   first
                     | (exfalso; omega)
                     | (rw [if_pos (by omega), show max (popN (ansN u s look)) (popN s - popN (ansN u s look)) = popN (ansN u s look) by omega] at h
                        exact ih (look + 1) _ _ _ _ _ (by omega) (by omega) h)
                     | (rw [if_pos (by omega), show max (popN (ansN u s look)) (popN s - popN (ansN u s look)) = popN s - popN (ansN u s look) by omega] at h
                        rw [show (popN s : Int) - (popN (ansN u s look) : Int) = ((popN s - popN (ansN u s look) : Nat) : Int) by omega]
                        exact ih (look + 1) _ _ _ _ _ (by omega) (by omega) h)
                     | (rw [if_neg (by omega)] at h
                        exact ih (look + 1) _ _ _ _ _ (by omega) (by omega) h)
                 · refine r_iload (pc' := 140) dX11_next_138 rfl rfl ?_
                   refine r_goto (tgt := 145) dX11_next_140 rfl ?_
                   refine r_istore (pc' := 147) dX11_next_145 rfl rfl ?_
                   refine r_iinc (pc' := 150) dX11_next_147 rfl rfl rfl ?_
                   refine r_goto (tgt := 18) dX11_next_150 rfl ?_
                   first
                     | (exfalso; omega)
                     | (rw [if_pos (by omega), show max (popN (ansN u s look)) (popN s - popN (ansN u s look)) = popN (ansN u s look) by omega] at h
                        exact ih (look + 1) _ _ _ _ _ (by omega) (by omega) h)
                     | (rw [if_pos (by omega), show max (popN (ansN u s look)) (popN s - popN (ansN u s look)) = popN s - popN (ansN u s look) by omega] at h
                        rw [show (popN s : Int) - (popN (ansN u s look) : Int) = ((popN s - popN (ansN u s look) : Nat) : Int) by omega]
                        exact ih (look + 1) _ _ _ _ _ (by omega) (by omega) h)
                     | (rw [if_neg (by omega)] at h
                        exact ih (look + 1) _ _ _ _ _ (by omega) (by omega) h)
               · refine r_iload (pc' := 126) dX11_next_124 rfl rfl ?_
                 refine r_goto (tgt := 130) dX11_next_126 rfl ?_
                 refine r_istore_n (pc' := 131) dX11_next_130 rfl rfl ?_
                 refine r_iload (pc' := 133) dX11_next_131 rfl rfl ?_
                 refine r_iload (pc' := 135) dX11_next_133 rfl rfl ?_
                 refine r_icmp_ge (tgt := 143) (pc' := 138) dX11_next_135 rfl rfl (by omega) (by omega) (fun c135 => ?_) (fun c135 => ?_)
                 · refine r_iload (pc' := 145) dX11_next_143 rfl rfl ?_
                   refine r_istore (pc' := 147) dX11_next_145 rfl rfl ?_
                   refine r_iinc (pc' := 150) dX11_next_147 rfl rfl rfl ?_
                   refine r_goto (tgt := 18) dX11_next_150 rfl ?_
                   first
                     | (exfalso; omega)
                     | (rw [if_pos (by omega), show max (popN (ansN u s look)) (popN s - popN (ansN u s look)) = popN (ansN u s look) by omega] at h
                        exact ih (look + 1) _ _ _ _ _ (by omega) (by omega) h)
                     | (rw [if_pos (by omega), show max (popN (ansN u s look)) (popN s - popN (ansN u s look)) = popN s - popN (ansN u s look) by omega] at h
                        rw [show (popN s : Int) - (popN (ansN u s look) : Int) = ((popN s - popN (ansN u s look) : Nat) : Int) by omega]
                        exact ih (look + 1) _ _ _ _ _ (by omega) (by omega) h)
                     | (rw [if_neg (by omega)] at h
                        exact ih (look + 1) _ _ _ _ _ (by omega) (by omega) h)
                 · refine r_iload (pc' := 140) dX11_next_138 rfl rfl ?_
                   refine r_goto (tgt := 145) dX11_next_140 rfl ?_
                   refine r_istore (pc' := 147) dX11_next_145 rfl rfl ?_
                   refine r_iinc (pc' := 150) dX11_next_147 rfl rfl rfl ?_
                   refine r_goto (tgt := 18) dX11_next_150 rfl ?_
                   first
                     | (exfalso; omega)
                     | (rw [if_pos (by omega), show max (popN (ansN u s look)) (popN s - popN (ansN u s look)) = popN (ansN u s look) by omega] at h
                        exact ih (look + 1) _ _ _ _ _ (by omega) (by omega) h)
                     | (rw [if_pos (by omega), show max (popN (ansN u s look)) (popN s - popN (ansN u s look)) = popN s - popN (ansN u s look) by omega] at h
                        rw [show (popN s : Int) - (popN (ansN u s look) : Int) = ((popN s - popN (ansN u s look) : Nat) : Int) by omega]
                        exact ih (look + 1) _ _ _ _ _ (by omega) (by omega) h)
                     | (rw [if_neg (by omega)] at h
                        exact ih (look + 1) _ _ _ _ _ (by omega) (by omega) h)
             · refine r_iload (pc' := 108) dX11_next_106 rfl rfl ?_
               refine r_goto (tgt := 115) dX11_next_108 rfl ?_
               refine r_istore (pc' := 117) dX11_next_115 rfl rfl ?_
               refine r_iload (pc' := 119) dX11_next_117 rfl rfl ?_
               refine r_iload (pc' := 121) dX11_next_119 rfl rfl ?_
               refine r_icmp_ge (tgt := 129) (pc' := 124) dX11_next_121 rfl rfl (by omega) (by omega) (fun c121 => ?_) (fun c121 => ?_)
               · refine r_iload_n (pc' := 130) dX11_next_129 rfl rfl ?_
                 refine r_istore_n (pc' := 131) dX11_next_130 rfl rfl ?_
                 refine r_iload (pc' := 133) dX11_next_131 rfl rfl ?_
                 refine r_iload (pc' := 135) dX11_next_133 rfl rfl ?_
                 refine r_icmp_ge (tgt := 143) (pc' := 138) dX11_next_135 rfl rfl (by omega) (by omega) (fun c135 => ?_) (fun c135 => ?_)
                 · refine r_iload (pc' := 145) dX11_next_143 rfl rfl ?_
                   refine r_istore (pc' := 147) dX11_next_145 rfl rfl ?_
                   refine r_iinc (pc' := 150) dX11_next_147 rfl rfl rfl ?_
                   refine r_goto (tgt := 18) dX11_next_150 rfl ?_
                   first
                     | (exfalso; omega)
                     | (rw [if_pos (by omega), show max (popN (ansN u s look)) (popN s - popN (ansN u s look)) = popN (ansN u s look) by omega] at h
                        exact ih (look + 1) _ _ _ _ _ (by omega) (by omega) h)
                     | (rw [if_pos (by omega), show max (popN (ansN u s look)) (popN s - popN (ansN u s look)) = popN s - popN (ansN u s look) by omega] at h
                        rw [show (popN s : Int) - (popN (ansN u s look) : Int) = ((popN s - popN (ansN u s look) : Nat) : Int) by omega]
                        exact ih (look + 1) _ _ _ _ _ (by omega) (by omega) h)
                     | (rw [if_neg (by omega)] at h
                        exact ih (look + 1) _ _ _ _ _ (by omega) (by omega) h)
                 · refine r_iload (pc' := 140) dX11_next_138 rfl rfl ?_
                   refine r_goto (tgt := 145) dX11_next_140 rfl ?_
                   refine r_istore (pc' := 147) dX11_next_145 rfl rfl ?_
                   refine r_iinc (pc' := 150) dX11_next_147 rfl rfl rfl ?_
                   refine r_goto (tgt := 18) dX11_next_150 rfl ?_
                   first
                     | (exfalso; omega)
                     | (rw [if_pos (by omega), show max (popN (ansN u s look)) (popN s - popN (ansN u s look)) = popN (ansN u s look) by omega] at h
                        exact ih (look + 1) _ _ _ _ _ (by omega) (by omega) h)
                     | (rw [if_pos (by omega), show max (popN (ansN u s look)) (popN s - popN (ansN u s look)) = popN s - popN (ansN u s look) by omega] at h
                        rw [show (popN s : Int) - (popN (ansN u s look) : Int) = ((popN s - popN (ansN u s look) : Nat) : Int) by omega]
                        exact ih (look + 1) _ _ _ _ _ (by omega) (by omega) h)
                     | (rw [if_neg (by omega)] at h
                        exact ih (look + 1) _ _ _ _ _ (by omega) (by omega) h)
               · refine r_iload (pc' := 126) dX11_next_124 rfl rfl ?_
                 refine r_goto (tgt := 130) dX11_next_126 rfl ?_
                 refine r_istore_n (pc' := 131) dX11_next_130 rfl rfl ?_
                 refine r_iload (pc' := 133) dX11_next_131 rfl rfl ?_
                 refine r_iload (pc' := 135) dX11_next_133 rfl rfl ?_
                 refine r_icmp_ge (tgt := 143) (pc' := 138) dX11_next_135 rfl rfl (by omega) (by omega) (fun c135 => ?_) (fun c135 => ?_)
                 · refine r_iload (pc' := 145) dX11_next_143 rfl rfl ?_
                   refine r_istore (pc' := 147) dX11_next_145 rfl rfl ?_
                   refine r_iinc (pc' := 150) dX11_next_147 rfl rfl rfl ?_
                   refine r_goto (tgt := 18) dX11_next_150 rfl ?_
                   first
                     | (exfalso; omega)
                     | (rw [if_pos (by omega), show max (popN (ansN u s look)) (popN s - popN (ansN u s look)) = popN (ansN u s look) by omega] at h
                        exact ih (look + 1) _ _ _ _ _ (by omega) (by omega) h)
                     | (rw [if_pos (by omega), show max (popN (ansN u s look)) (popN s - popN (ansN u s look)) = popN s - popN (ansN u s look) by omega] at h
                        rw [show (popN s : Int) - (popN (ansN u s look) : Int) = ((popN s - popN (ansN u s look) : Nat) : Int) by omega]
                        exact ih (look + 1) _ _ _ _ _ (by omega) (by omega) h)
                     | (rw [if_neg (by omega)] at h
                        exact ih (look + 1) _ _ _ _ _ (by omega) (by omega) h)
                 · refine r_iload (pc' := 140) dX11_next_138 rfl rfl ?_
                   refine r_goto (tgt := 145) dX11_next_140 rfl ?_
                   refine r_istore (pc' := 147) dX11_next_145 rfl rfl ?_
                   refine r_iinc (pc' := 150) dX11_next_147 rfl rfl rfl ?_
                   refine r_goto (tgt := 18) dX11_next_150 rfl ?_
                   first
                     | (exfalso; omega)
                     | (rw [if_pos (by omega), show max (popN (ansN u s look)) (popN s - popN (ansN u s look)) = popN (ansN u s look) by omega] at h
                        exact ih (look + 1) _ _ _ _ _ (by omega) (by omega) h)
                     | (rw [if_pos (by omega), show max (popN (ansN u s look)) (popN s - popN (ansN u s look)) = popN s - popN (ansN u s look) by omega] at h
                        rw [show (popN s : Int) - (popN (ansN u s look) : Int) = ((popN s - popN (ansN u s look) : Nat) : Int) by omega]
                        exact ih (look + 1) _ _ _ _ _ (by omega) (by omega) h)
                     | (rw [if_neg (by omega)] at h
                        exact ih (look + 1) _ _ _ _ _ (by omega) (by omega) h))
theorem M_next {X : CX} {d : Nat} {g : Mem} {K : Int → Mem → Prop} {tN : Nat} {tX : Nat → Int} {flt : Int} {u : PV} {v : LV} {kn : Nat} {kL : Nat → LV} {im : Nat → Bool × Int × LV} {sd : Int} {ln : Nat} {la : Nat → Nat} {lr : Nat → Bool} {bn : Nat} {bp : Nat → Nat} {bf : Nat → Int} (hM : MS g tN tX flt u v kn kL im sd ln la lr bn bp bf) (hS : WS tN tX flt u v kn kL im sd ln la lr bn bp bf) (h : ∀ g' : Mem, MS g' tN tX flt u v kn kL im sd ln la lr bn bp bf → FrM g g' → K (E_next u v ln la lr) g') : EI X (d + 2) mX11_next [vr 166] Z0 g K := by
  show AJ X (d + 2) mX11_next 0 0 (QI Z0 K) 0 0 0 [some (vr 166), none, none, none, none, none, none, none, none] [] Z0 g
  obtain ⟨⟨m1, m2⟩, m3, m4, m5, ⟨m6, m7⟩, m8, m9, ⟨m10, m11⟩, ⟨m12, m13⟩⟩ := id hM
  obtain ⟨⟨s1, s2⟩, s3, s4, s5, ⟨s6, s7⟩, s8, ⟨s9, s10⟩, ⟨s11, s12⟩, ⟨s13, s14⟩⟩ := id hS
  have hB : MB g u v := ⟨m4, s4, m5, s5⟩
  obtain ⟨hQ, hU, hC, hW⟩ := id hB
  obtain ⟨hy, hi, hc, ht, ho, hf, hw_⟩ := id hC
  obtain ⟨w0, w1, w2, w3, w4, w5, w6, w7⟩ := id hW
  obtain ⟨p6, p7, p8, p9, p10, pk, pg, px, py⟩ := id hQ
  obtain ⟨u0, u1, u2, u3, u4, u5, u6, u7⟩ := id hU
  have hcl : cldN u v ln la lr < 128 := fitF_lt hU _ _ _ (offN_lt hU v)
  refine r_aload_n (pc' := 1) dX11_next_0 rfl rfl ?_
  refine r_vi0 (pc' := 4) dX11_next_1 rfl qX11_could lX11_232 z166 rfl rfl rfl (Nat.zero_le _) (Nat.zero_le _) (m_could hB m10 m11 s11 s12 ?_)
  refine r_istore_n (pc' := 5) dX11_next_4 rfl rfl ?_
  refine r_iload_n (pc' := 6) dX11_next_5 rfl rfl ?_
  refine r_si1 (pc' := 9) dX11_next_6 rfl qX11_ones lX11_174 rfl rfl rfl (Nat.zero_le _) (Nat.zero_le _) (m_ones hcl ?_)
  refine r_istore_n (pc' := 10) dX11_next_9 rfl rfl ?_
  refine r_iconst (pc' := 11) dX11_next_10 rfl ?_
  refine r_istore_n (pc' := 12) dX11_next_11 rfl rfl ?_
  refine r_iload_n (pc' := 13) dX11_next_12 rfl rfl ?_
  refine r_istore (pc' := 15) dX11_next_13 rfl rfl ?_
  refine r_iconst (pc' := 16) dX11_next_15 rfl ?_
  refine r_istore (pc' := 18) dX11_next_16 rfl rfl ?_
  exact lm_nex hB hcl 20 0 _ _ none none none (by omega) (popN_le _) (h g hM (FrM.rf g))
