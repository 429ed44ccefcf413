theorem outP_4 {u : PV} {v : LV} {y : Nat} (h : Pk u y = 4) : outP u v y = (!(Lt v).testBit y && decide (Ph u y ≤ Li v)) := by
  unfold outP outB
  cases (Lt v).testBit y <;> simp [h]
theorem outP_5 {u : PV} {v : LV} {y : Nat} (h : Pk u y = 5) : outP u v y = decide (1 ≤ Li v) := by
  unfold outP outB
  simp [h]
theorem outP_o {u : PV} {v : LV} {y : Nat} (h4 : Pk u y ≠ 4) (h5 : Pk u y ≠ 5) : outP u v y = decide (Ph u y + (if (Lt v).testBit y = true then 2 else 0) ≤ Li v) := by
  unfold outP outB
  simp [h4, h5]
theorem m_isOut {X : CX} {d : Nat} {g : Mem} {K : Int → Mem → Prop} {u : PV} {v : LV} (hB : MB g u v) {y : Nat} (hy1 : y < Pf u) (h : K (b01 (outP u v y)) g) : EI X (d + 1) mX11_isOut [vr 166, vi (y : Int)] Z0 g K := by
  show AJ X (d + 1) mX11_isOut 0 0 (QI Z0 K) 0 0 0 [some (vr 166), some (vi (y : Int)), none] [] Z0 g
  obtain ⟨hQ, hU, hC, hW⟩ := id hB
  obtain ⟨hy, hi, hc, ht, ho, hf, hw_⟩ := id hC
  obtain ⟨w0, w1, w2, w3, w4, w5, w6, w7⟩ := id hW
  obtain ⟨p6, p7, p8, p9, p10, pk, pg, px, py⟩ := id hQ
  obtain ⟨u0, u1, u2, u3, u4, u5, u6, u7⟩ := id hU
  have hk := pk y (by omega)
  have hg := pg y (by omega)
  have hkb := u5 y hy1
  refine r_aload_n (pc' := 1) dX11_isOut_0 rfl rfl ?_
  refine r_getr (pc' := 4) dX11_isOut_1 rfl fX11_19 z166 rfl ?_
  refine r_iconst (pc' := 5) dX11_isOut_4 rfl ?_
  refine r_iaload (pc' := 6) dX11_isOut_5 rfl z170 (by decide) (by omega) (by omega) ht ?_
  refine r_iload_n (pc' := 7) dX11_isOut_6 rfl rfl ?_
  refine r_si2 (pc' := 10) dX11_isOut_7 rfl qX11_has lX11_118 rfl rfl rfl (Nat.zero_le _) (Nat.zero_le _) (m_has w4 (by omega) ?_)
  refine r_istore_n (pc' := 11) dX11_isOut_10 rfl rfl ?_
  refine r_aload_n (pc' := 12) dX11_isOut_11 rfl rfl ?_
  refine r_getr (pc' := 15) dX11_isOut_12 rfl fX11_13 z166 rfl ?_
  refine r_iconst (pc' := 16) dX11_isOut_15 rfl ?_
  refine r_iload_n (pc' := 17) dX11_isOut_16 rfl rfl ?_
  refine r_iadd (pc' := 18) dX11_isOut_17 rfl ?_
  refine r_iaload (pc' := 19) dX11_isOut_18 rfl z168 (by decide) (by omega) (by omega) hk ?_
  have hsw : Pk u y = 4 ∨ Pk u y = 5 ∨ (Pk u y ≠ 4 ∧ Pk u y ≠ 5) := by omega
  rcases hsw with e | e | ⟨e, e'⟩
  · rw [outP_4 e] at h
    refine r_look (off := 40) (tgt := 59) dX11_isOut_19 (by decide) (by omega) (by simp only [Op.lookupswitch.offset_cons, Op.lookupswitch.offset_nil]; (repeat' split) <;> first | rfl | (exfalso; omega)) rfl ?_
    refine r_iload_n (pc' := 60) dX11_isOut_59 rfl rfl ?_
    refine r_if_ne (tgt := 85) (pc' := 63) dX11_isOut_60 rfl rfl (b01_R _) (fun c60 => ?_) (fun c60 => ?_)
    · refine r_iconst (pc' := 86) dX11_isOut_85 rfl ?_
      refine r_reti dX11_isOut_86 rfl (Or.inr ⟨rfl, by first | exact Or.inl rfl | exact Or.inr rfl | omega⟩) ?_
      first
        | (rw [b01_ne c60] at h; exact h)
        | (rw [b01_eq c60, Bool.not_false, Bool.true_and, decide_eq_true (by omega)] at h; exact h)
        | (rw [b01_eq c60, Bool.not_false, Bool.true_and, decide_eq_false (by omega)] at h; exact h)
    · refine r_aload_n (pc' := 64) dX11_isOut_63 rfl rfl ?_
      refine r_getr (pc' := 67) dX11_isOut_64 rfl fX11_19 z166 rfl ?_
      refine r_iconst (pc' := 68) dX11_isOut_67 rfl ?_
      refine r_iaload (pc' := 69) dX11_isOut_68 rfl z170 (by decide) (by omega) (by omega) hi ?_
      refine r_aload_n (pc' := 70) dX11_isOut_69 rfl rfl ?_
      refine r_getr (pc' := 73) dX11_isOut_70 rfl fX11_13 z166 rfl ?_
      refine r_bipush (pc' := 75) dX11_isOut_73 rfl (by decide) ?_
      refine r_iload_n (pc' := 76) dX11_isOut_75 rfl rfl ?_
      refine r_iadd (pc' := 77) dX11_isOut_76 rfl ?_
      refine r_iaload (pc' := 78) dX11_isOut_77 rfl z168 (by decide) (by omega) (by omega) hg ?_
      refine r_icmp_lt (tgt := 85) (pc' := 81) dX11_isOut_78 rfl rfl (by omega) (by omega) (fun c78 => ?_) (fun c78 => ?_)
      · refine r_iconst (pc' := 86) dX11_isOut_85 rfl ?_
        refine r_reti dX11_isOut_86 rfl (Or.inr ⟨rfl, by first | exact Or.inl rfl | exact Or.inr rfl | omega⟩) ?_
        first
          | (rw [b01_ne c60] at h; exact h)
          | (rw [b01_eq c60, Bool.not_false, Bool.true_and, decide_eq_true (by omega)] at h; exact h)
          | (rw [b01_eq c60, Bool.not_false, Bool.true_and, decide_eq_false (by omega)] at h; exact h)
      · refine r_iconst (pc' := 82) dX11_isOut_81 rfl ?_
        refine r_goto (tgt := 86) dX11_isOut_82 rfl ?_
        refine r_reti dX11_isOut_86 rfl (Or.inr ⟨rfl, by first | exact Or.inl rfl | exact Or.inr rfl | omega⟩) ?_
        first
          | (rw [b01_ne c60] at h; exact h)
          | (rw [b01_eq c60, Bool.not_false, Bool.true_and, decide_eq_true (by omega)] at h; exact h)
          | (rw [b01_eq c60, Bool.not_false, Bool.true_and, decide_eq_false (by omega)] at h; exact h)
  · rw [outP_5 e] at h
    refine r_look (off := 25) (tgt := 44) dX11_isOut_19 (by decide) (by omega) (by simp only [Op.lookupswitch.offset_cons, Op.lookupswitch.offset_nil]; (repeat' split) <;> first | rfl | (exfalso; omega)) rfl ?_
    refine r_aload_n (pc' := 45) dX11_isOut_44 rfl rfl ?_
    refine r_getr (pc' := 48) dX11_isOut_45 rfl fX11_19 z166 rfl ?_
    refine r_iconst (pc' := 49) dX11_isOut_48 rfl ?_
    refine r_iaload (pc' := 50) dX11_isOut_49 rfl z170 (by decide) (by omega) (by omega) hi ?_
    refine r_if_le (tgt := 57) (pc' := 53) dX11_isOut_50 rfl rfl (by omega) (fun c50 => ?_) (fun c50 => ?_)
    · refine r_iconst (pc' := 58) dX11_isOut_57 rfl ?_
      refine r_reti dX11_isOut_58 rfl (Or.inr ⟨rfl, by first | exact Or.inl rfl | exact Or.inr rfl | omega⟩) ?_
      first | (rw [decide_eq_true (by omega)] at h; exact h) | (rw [decide_eq_false (by omega)] at h; exact h)
    · refine r_iconst (pc' := 54) dX11_isOut_53 rfl ?_
      refine r_goto (tgt := 58) dX11_isOut_54 rfl ?_
      refine r_reti dX11_isOut_58 rfl (Or.inr ⟨rfl, by first | exact Or.inl rfl | exact Or.inr rfl | omega⟩) ?_
      first | (rw [decide_eq_true (by omega)] at h; exact h) | (rw [decide_eq_false (by omega)] at h; exact h)
  · rw [outP_o e e'] at h
    refine r_look (off := 68) (tgt := 87) dX11_isOut_19 (by decide) (by omega) (by simp only [Op.lookupswitch.offset_cons, Op.lookupswitch.offset_nil]; (repeat' split) <;> first | rfl | (exfalso; omega)) rfl ?_
    refine r_aload_n (pc' := 88) dX11_isOut_87 rfl rfl ?_
    refine r_getr (pc' := 91) dX11_isOut_88 rfl fX11_19 z166 rfl ?_
    refine r_iconst (pc' := 92) dX11_isOut_91 rfl ?_
    refine r_iaload (pc' := 93) dX11_isOut_92 rfl z170 (by decide) (by omega) (by omega) hi ?_
    refine r_aload_n (pc' := 94) dX11_isOut_93 rfl rfl ?_
    refine r_getr (pc' := 97) dX11_isOut_94 rfl fX11_13 z166 rfl ?_
    refine r_bipush (pc' := 99) dX11_isOut_97 rfl (by decide) ?_
    refine r_iload_n (pc' := 100) dX11_isOut_99 rfl rfl ?_
    refine r_iadd (pc' := 101) dX11_isOut_100 rfl ?_
    refine r_iaload (pc' := 102) dX11_isOut_101 rfl z168 (by decide) (by omega) (by omega) hg ?_
    refine r_iload_n (pc' := 103) dX11_isOut_102 rfl rfl ?_
    refine r_if_eq (tgt := 110) (pc' := 106) dX11_isOut_103 rfl rfl (b01_R _) (fun c103 => ?_) (fun c103 => ?_)
    · refine r_iconst (pc' := 111) dX11_isOut_110 rfl ?_
      refine r_iadd (pc' := 112) dX11_isOut_111 rfl ?_
      refine r_icmp_lt (tgt := 119) (pc' := 115) dX11_isOut_112 rfl rfl (by omega) (by omega) (fun c112 => ?_) (fun c112 => ?_)
      · refine r_iconst (pc' := 120) dX11_isOut_119 rfl ?_
        refine r_reti dX11_isOut_120 rfl (Or.inr ⟨rfl, by first | exact Or.inl rfl | exact Or.inr rfl | omega⟩) ?_
        first
          | (rw [b01_eq c103, if_neg (by decide)] at h; first | (rw [decide_eq_true (by omega)] at h; exact h) | (rw [decide_eq_false (by omega)] at h; exact h))
          | (rw [b01_ne c103, if_pos rfl] at h; first | (rw [decide_eq_true (by omega)] at h; exact h) | (rw [decide_eq_false (by omega)] at h; exact h))
      · refine r_iconst (pc' := 116) dX11_isOut_115 rfl ?_
        refine r_goto (tgt := 120) dX11_isOut_116 rfl ?_
        refine r_reti dX11_isOut_120 rfl (Or.inr ⟨rfl, by first | exact Or.inl rfl | exact Or.inr rfl | omega⟩) ?_
        first
          | (rw [b01_eq c103, if_neg (by decide)] at h; first | (rw [decide_eq_true (by omega)] at h; exact h) | (rw [decide_eq_false (by omega)] at h; exact h))
          | (rw [b01_ne c103, if_pos rfl] at h; first | (rw [decide_eq_true (by omega)] at h; exact h) | (rw [decide_eq_false (by omega)] at h; exact h))
    · refine r_iconst (pc' := 107) dX11_isOut_106 rfl ?_
      refine r_goto (tgt := 111) dX11_isOut_107 rfl ?_
      refine r_iadd (pc' := 112) dX11_isOut_111 rfl ?_
      refine r_icmp_lt (tgt := 119) (pc' := 115) dX11_isOut_112 rfl rfl (by omega) (by omega) (fun c112 => ?_) (fun c112 => ?_)
      · refine r_iconst (pc' := 120) dX11_isOut_119 rfl ?_
        refine r_reti dX11_isOut_120 rfl (Or.inr ⟨rfl, by first | exact Or.inl rfl | exact Or.inr rfl | omega⟩) ?_
        first
          | (rw [b01_eq c103, if_neg (by decide)] at h; first | (rw [decide_eq_true (by omega)] at h; exact h) | (rw [decide_eq_false (by omega)] at h; exact h))
          | (rw [b01_ne c103, if_pos rfl] at h; first | (rw [decide_eq_true (by omega)] at h; exact h) | (rw [decide_eq_false (by omega)] at h; exact h))
      · refine r_iconst (pc' := 116) dX11_isOut_115 rfl ?_
        refine r_goto (tgt := 120) dX11_isOut_116 rfl ?_
        refine r_reti dX11_isOut_120 rfl (Or.inr ⟨rfl, by first | exact Or.inl rfl | exact Or.inr rfl | omega⟩) ?_
        first
          | (rw [b01_eq c103, if_neg (by decide)] at h; first | (rw [decide_eq_true (by omega)] at h; exact h) | (rw [decide_eq_false (by omega)] at h; exact h))
          | (rw [b01_ne c103, if_pos rfl] at h; first | (rw [decide_eq_true (by omega)] at h; exact h) | (rw [decide_eq_false (by omega)] at h; exact h))
theorem lm_outs {X : CX} {d : Nat} {g : Mem} {K : Int → Mem → Prop} {u : PV} {v : LV} (hB : MB g u v)  : ∀ (k p acc : Nat), p + k = Ln v → acc < 128 → K ((orF (fun p => outP u v (Lo v p)) (fun p => 2 ^ Lo v p) k p acc : Nat) : Int) g → AJ X (d + 2) mX11_outs 0 0 (QI Z0 K) 0 0 4 [some (vr 166), some (vi (acc : Int)), some (vi (p : Int))] [] Z0 g := by
  obtain ⟨hQ, hU, hC, hW⟩ := id hB
  obtain ⟨hy, hi, hc, ht, ho, hf, hw_⟩ := id hC
  obtain ⟨w0, w1, w2, w3, w4, w5, w6, w7⟩ := id hW
  obtain ⟨p6, p7, p8, p9, p10, pk, pg, px, py⟩ := id hQ
  obtain ⟨u0, u1, u2, u3, u4, u5, u6, u7⟩ := id hU
  intro k
  induction k with
  | zero =>
    intro p acc hp ha h
    refine r_iload_n (pc' := 5) dX11_outs_4 rfl rfl ?_
    refine r_aload_n (pc' := 6) dX11_outs_5 rfl rfl ?_
    refine r_getr (pc' := 9) dX11_outs_6 rfl fX11_19 z166 rfl ?_
    refine r_iconst (pc' := 10) dX11_outs_9 rfl ?_
    refine r_iaload (pc' := 11) dX11_outs_10 rfl z170 (by decide) (by omega) (by omega) hc ?_
    refine r_icmp_ge (tgt := 52) (pc' := 14) dX11_outs_11 rfl rfl (by omega) (by omega) (fun c11 => ?_) (fun c11 => ?_)
    · refine r_iload_n (pc' := 53) dX11_outs_52 rfl rfl ?_
      refine r_reti dX11_outs_53 rfl (Or.inl rfl) ?_
      exact h
    · exact absurd c11 (by omega)
  | succ k ih =>
    intro p acc hp ha h
    have q1 := ho p (by omega)
    have q2 := w2 p (by omega)
    have e1 := shl1 (k := Lo v p) (by omega)
    have e2 := or_n ha (pow7 (show Lo v p < 7 by omega))
    have e3 := or_n ha (show 0 < 128 by decide)
    have e4 := or128 ha (pow7 (show Lo v p < 7 by omega))
    unfold orF at h
    refine r_iload_n (pc' := 5) dX11_outs_4 rfl rfl ?_
    refine r_aload_n (pc' := 6) dX11_outs_5 rfl rfl ?_
    refine r_getr (pc' := 9) dX11_outs_6 rfl fX11_19 z166 rfl ?_
    refine r_iconst (pc' := 10) dX11_outs_9 rfl ?_
    refine r_iaload (pc' := 11) dX11_outs_10 rfl z170 (by decide) (by omega) (by omega) hc ?_
    refine r_icmp_ge (tgt := 52) (pc' := 14) dX11_outs_11 rfl rfl (by omega) (by omega) (fun c11 => ?_) (fun c11 => ?_)
    · exact absurd c11 (by omega)
    · refine r_iload_n (pc' := 15) dX11_outs_14 rfl rfl ?_
      refine r_aload_n (pc' := 16) dX11_outs_15 rfl rfl ?_
      refine r_aload_n (pc' := 17) dX11_outs_16 rfl rfl ?_
      refine r_getr (pc' := 20) dX11_outs_17 rfl fX11_19 z166 rfl ?_
      refine r_iconst (pc' := 21) dX11_outs_20 rfl ?_
      refine r_iload_n (pc' := 22) dX11_outs_21 rfl rfl ?_
      refine r_iadd (pc' := 23) dX11_outs_22 rfl ?_
      refine r_iaload (pc' := 24) dX11_outs_23 rfl z170 (by decide) (by omega) (by omega) q1 ?_
      refine r_vi1 (pc' := 27) dX11_outs_24 rfl qX11_isOut lX11_122 z166 rfl rfl rfl rfl (Nat.zero_le _) (Nat.zero_le _) (m_isOut hB q2 ?_)
      refine r_if_eq (tgt := 43) (pc' := 30) dX11_outs_27 rfl rfl (b01_R _) (fun c27 => ?_) (fun c27 => ?_)
      · refine r_iconst (pc' := 44) dX11_outs_43 rfl ?_
        refine r_ior (pc' := 45) dX11_outs_44 rfl ?_
        refine r_istore_n (pc' := 46) dX11_outs_45 rfl rfl ?_
        refine r_iinc (pc' := 49) dX11_outs_46 rfl rfl rfl ?_
        refine r_goto (tgt := 4) dX11_outs_49 rfl ?_
        first
          | (rw [e1, e2]; rw [if_pos (b01_ne c27)] at h; exact ih (p + 1) _ (by omega) e4 h)
          | (rw [if_neg (by rw [b01_eq c27]; decide)] at h; rw [show b_or (acc : Int) 0 = (acc : Int) from e3.trans (by rw [Nat.or_zero])]; exact ih (p + 1) _ (by omega) ha h)
      · refine r_iconst (pc' := 31) dX11_outs_30 rfl ?_
        refine r_aload_n (pc' := 32) dX11_outs_31 rfl rfl ?_
        refine r_getr (pc' := 35) dX11_outs_32 rfl fX11_19 z166 rfl ?_
        refine r_iconst (pc' := 36) dX11_outs_35 rfl ?_
        refine r_iload_n (pc' := 37) dX11_outs_36 rfl rfl ?_
        refine r_iadd (pc' := 38) dX11_outs_37 rfl ?_
        refine r_iaload (pc' := 39) dX11_outs_38 rfl z170 (by decide) (by omega) (by omega) q1 ?_
        refine r_ishl (pc' := 40) dX11_outs_39 rfl ?_
        refine r_goto (tgt := 44) dX11_outs_40 rfl ?_
        refine r_ior (pc' := 45) dX11_outs_44 rfl ?_
        refine r_istore_n (pc' := 46) dX11_outs_45 rfl rfl ?_
        refine r_iinc (pc' := 49) dX11_outs_46 rfl rfl rfl ?_
        refine r_goto (tgt := 4) dX11_outs_49 rfl ?_
        first
          | (rw [e1, e2]; rw [if_pos (b01_ne c27)] at h; exact ih (p + 1) _ (by omega) e4 h)
          | (rw [if_neg (by rw [b01_eq c27]; decide)] at h; rw [show b_or (acc : Int) 0 = (acc : Int) from e3.trans (by rw [Nat.or_zero])]; exact ih (p + 1) _ (by omega) ha h)
theorem m_outs {X : CX} {d : Nat} {g : Mem} {K : Int → Mem → Prop} {u : PV} {v : LV} (hB : MB g u v) (h : K (outN u v) g) : EI X (d + 2) mX11_outs [vr 166] Z0 g K := by
  show AJ X (d + 2) mX11_outs 0 0 (QI Z0 K) 0 0 0 [some (vr 166), none, none] [] Z0 g
  refine r_iconst (pc' := 1) dX11_outs_0 rfl ?_
  refine r_istore_n (pc' := 2) dX11_outs_1 rfl rfl ?_
  refine r_iconst (pc' := 3) dX11_outs_2 rfl ?_
  refine r_istore_n (pc' := 4) dX11_outs_3 rfl rfl ?_
  exact lm_outs hB (Ln v) 0 0 (by omega) (by decide) h
theorem M_flag {X : CX} {d : Nat} {g : Mem} {K : Int → Mem → Prop} {tN : Nat} {tX : Nat → Int} {flt : Int} {u : PV} {v : LV} {kn : Nat} {kL : Nat → LV} {im : Nat → Bool × Int × LV} {sd : Int} {ln : Nat} {la : Nat → Nat} {lr : Nat → Bool} {bn : Nat} {bp : Nat → Nat} {bf : Nat → Int} (hM : MS g tN tX flt u v kn kL im sd ln la lr bn bp bf) (hS : WS tN tX flt u v kn kL im sd ln la lr bn bp bf) (f w : Int) (hf0 : R32 f) (hw0 : R32 w) (h : ∀ g' : Mem, MS g' tN tX flt u v kn kL im sd ln la lr bn bp bf → FrM g g' → K (E_flag u v f w) g') : EI X (d + 2) mX11_flag [vr 166, vi f, vi w] Z0 g K := by
  show AJ X (d + 2) mX11_flag 0 0 (QI Z0 K) 0 0 0 [some (vr 166), some (vi f), some (vi w)] [] Z0 g
  obtain ⟨⟨m1, m2⟩, m3, m4, m5, ⟨m6, m7⟩, m8, m9, ⟨m10, m11⟩, ⟨m12, m13⟩⟩ := id hM
  obtain ⟨⟨s1, s2⟩, s3, s4, s5, ⟨s6, s7⟩, s8, ⟨s9, s10⟩, ⟨s11, s12⟩, ⟨s13, s14⟩⟩ := id hS
  have hB : MB g u v := ⟨m4, s4, m5, s5⟩
  obtain ⟨hQ, hU, hC, hW⟩ := id hB
  obtain ⟨hy, hi, hc, ht, ho, hf, hw_⟩ := id hC
  obtain ⟨w0, w1, w2, w3, w4, w5, w6, w7⟩ := id hW
  obtain ⟨p6, p7, p8, p9, p10, pk, pg, px, py⟩ := id hQ
  obtain ⟨u0, u1, u2, u3, u4, u5, u6, u7⟩ := id hU
  have h9 := h g hM (FrM.rf g)
  unfold E_flag at h9
  refine r_aload_n (pc' := 1) dX11_flag_0 rfl rfl ?_
  refine r_iload_n (pc' := 2) dX11_flag_1 rfl rfl ?_
  refine r_vi1 (pc' := 5) dX11_flag_2 rfl qX11_isFlag lX11_153 z166 rfl rfl rfl rfl (Nat.zero_le _) (Nat.zero_le _) (m_isFlag hB f hf0 ?_)
  refine r_if_ne (tgt := 11) (pc' := 8) dX11_flag_5 rfl rfl (b01_R _) (fun c5 => ?_) (fun c5 => ?_)
  · have hd := of_decide_eq_true (b01_ne c5)
    have ef : ((f.toNat : Nat) : Int) = f := by omega
    have hk1 := pk f.toNat (by omega)
    have hg1 := pg f.toNat (by omega)
    have hf1 := hf f.toNat (by omega)
    have hw1 := hw_ f.toNat (by omega)
    rw [ef] at hk1 hg1 hf1 hw1
    refine r_iload_n (pc' := 12) dX11_flag_11 rfl rfl ?_
    by_cases hsw : w = 0 ∨ w = 1 ∨ w = 2 ∨ w = 3 ∨ w = 4
    · rcases hsw with rfl | rfl | rfl | rfl | rfl
      · refine r_tabI (tgt := 48) dX11_flag_12 (by decide) (by decide) (by decide) rfl rfl ?_
        refine r_aload_n (pc' := 49) dX11_flag_48 rfl rfl ?_
        refine r_getr (pc' := 52) dX11_flag_49 rfl fX11_13 z166 rfl ?_
        refine r_iconst (pc' := 53) dX11_flag_52 rfl ?_
        refine r_iload_n (pc' := 54) dX11_flag_53 rfl rfl ?_
        refine r_iadd (pc' := 55) dX11_flag_54 rfl ?_
        refine r_iaload (pc' := 56) dX11_flag_55 rfl z168 (by decide) (by omega) (by omega) hk1 ?_
        refine r_reti dX11_flag_56 rfl (Or.inl rfl) ?_
        rw [if_pos (by omega), if_pos (by omega)] at h9
        exact h9
      · refine r_tabI (tgt := 57) dX11_flag_12 (by decide) (by decide) (by decide) rfl rfl ?_
        refine r_aload_n (pc' := 58) dX11_flag_57 rfl rfl ?_
        refine r_getr (pc' := 61) dX11_flag_58 rfl fX11_13 z166 rfl ?_
        refine r_bipush (pc' := 63) dX11_flag_61 rfl (by decide) ?_
        refine r_iload_n (pc' := 64) dX11_flag_63 rfl rfl ?_
        refine r_iadd (pc' := 65) dX11_flag_64 rfl ?_
        refine r_iaload (pc' := 66) dX11_flag_65 rfl z168 (by decide) (by omega) (by omega) hg1 ?_
        refine r_reti dX11_flag_66 rfl (Or.inl rfl) ?_
        rw [if_pos (by omega), if_neg (by omega), if_pos (by omega)] at h9
        exact h9
      · refine r_tabI (tgt := 67) dX11_flag_12 (by decide) (by decide) (by decide) rfl rfl ?_
        refine r_aload_n (pc' := 68) dX11_flag_67 rfl rfl ?_
        refine r_iload_n (pc' := 69) dX11_flag_68 rfl rfl ?_
        refine r_vi1 (pc' := 72) dX11_flag_69 rfl qX11_placeOf lX11_157 z166 rfl rfl rfl rfl (Nat.zero_le _) (Nat.zero_le _) (m_placeOf hB f hf0 ?_)
        refine r_reti dX11_flag_72 rfl (Or.inl rfl) ?_
        rw [if_pos (by omega), if_neg (by omega), if_neg (by omega), if_pos (by omega)] at h9
        exact h9
      · refine r_tabI (tgt := 73) dX11_flag_12 (by decide) (by decide) (by decide) rfl rfl ?_
        refine r_aload_n (pc' := 74) dX11_flag_73 rfl rfl ?_
        refine r_getr (pc' := 77) dX11_flag_74 rfl fX11_19 z166 rfl ?_
        refine r_bipush (pc' := 79) dX11_flag_77 rfl (by decide) ?_
        refine r_iload_n (pc' := 80) dX11_flag_79 rfl rfl ?_
        refine r_iadd (pc' := 81) dX11_flag_80 rfl ?_
        refine r_iaload (pc' := 82) dX11_flag_81 rfl z170 (by decide) (by omega) (by omega) hf1 ?_
        refine r_reti dX11_flag_82 rfl (Or.inl rfl) ?_
        rw [if_pos (by omega), if_neg (by omega), if_neg (by omega), if_neg (by omega), if_pos (by omega)] at h9
        exact h9
      · refine r_tabI (tgt := 83) dX11_flag_12 (by decide) (by decide) (by decide) rfl rfl ?_
        refine r_aload_n (pc' := 84) dX11_flag_83 rfl rfl ?_
        refine r_getr (pc' := 87) dX11_flag_84 rfl fX11_19 z166 rfl ?_
        refine r_bipush (pc' := 89) dX11_flag_87 rfl (by decide) ?_
        refine r_iload_n (pc' := 90) dX11_flag_89 rfl rfl ?_
        refine r_iadd (pc' := 91) dX11_flag_90 rfl ?_
        refine r_iaload (pc' := 92) dX11_flag_91 rfl z170 (by decide) (by omega) (by omega) hw1 ?_
        refine r_reti dX11_flag_92 rfl (Or.inl rfl) ?_
        rw [if_pos (by omega), if_neg (by omega), if_neg (by omega), if_neg (by omega), if_neg (by omega), if_pos (by omega)] at h9
        exact h9
    · refine r_tabO (tgt := 93) dX11_flag_12 (by omega) (by omega) rfl ?_
      refine r_ldc (z := -1000000002) (pc' := 95) dX11_flag_93 rfl kX11_71 ?_
      refine r_reti dX11_flag_95 rfl (Or.inl rfl) ?_
      rw [if_pos (by omega), if_neg (by omega), if_neg (by omega), if_neg (by omega), if_neg (by omega), if_neg (by omega)] at h9
      exact h9
  · refine r_ldc (z := -1000000001) (pc' := 10) dX11_flag_8 rfl kX11_156 ?_
    refine r_reti dX11_flag_10 rfl (Or.inl rfl) ?_
    have hd := of_decide_eq_false (b01_eq c5)
    rw [if_neg hd] at h9
    exact h9
theorem lm_felt {X : CX} {d : Nat} {g : Mem} {K : Int → Mem → Prop} {u : PV} {v : LV} (hB : MB g u v)  (s : Int) (y : Nat) (hy7 : y ≤ 7) : ∀ (k p : Nat) (left : Int) (z : Option VV), min (Ln v) y - p = k → p ≤ min (Ln v) y → -500 + 18 * k ≤ left → left ≤ 99 → K (max 0 (plF (Lo v) (Ph u) (Lt v) k p left)) g → AJ X (d + 1) mX11_feltAt 0 0 (QI Z0 K) 0 0 5 [some (vr 166), some (vi s), some (vi (y : Int)), some (vi left), some (vi (p : Int)), z] [] Z0 g := by
  obtain ⟨hQ, hU, hC, hW⟩ := id hB
  obtain ⟨hy, hi, hc, ht, ho, hf, hw_⟩ := id hC
  obtain ⟨w0, w1, w2, w3, w4, w5, w6, w7⟩ := id hW
  obtain ⟨p6, p7, p8, p9, p10, pk, pg, px, py⟩ := id hQ
  obtain ⟨u0, u1, u2, u3, u4, u5, u6, u7⟩ := id hU
  intro k
  induction k with
  | zero =>
    intro p left z hp hp2 h0 h1 h
    unfold plF at h
    refine r_iload (pc' := 7) dX11_feltAt_5 rfl rfl ?_
    refine r_aload_n (pc' := 8) dX11_feltAt_7 rfl rfl ?_
    refine r_getr (pc' := 11) dX11_feltAt_8 rfl fX11_19 z166 rfl ?_
    refine r_iconst (pc' := 12) dX11_feltAt_11 rfl ?_
    refine r_iaload (pc' := 13) dX11_feltAt_12 rfl z170 (by decide) (by omega) (by omega) hc ?_
    refine r_icmp_ge (tgt := 81) (pc' := 16) dX11_feltAt_13 rfl rfl (by omega) (by omega) (fun c13 => ?_) (fun c13 => ?_)
    · refine r_iload_n (pc' := 82) dX11_feltAt_81 rfl rfl ?_
      refine r_if_ge (tgt := 89) (pc' := 85) dX11_feltAt_82 rfl rfl (by omega) (fun c82 => ?_) (fun c82 => ?_)
      · refine r_iload_n (pc' := 90) dX11_feltAt_89 rfl rfl ?_
        refine r_reti dX11_feltAt_90 rfl (Or.inl rfl) ?_
        first | (rw [show max (0 : Int) left = 0 by omega] at h; exact h) | (rw [show max (0 : Int) left = left by omega] at h; exact h)
      · refine r_iconst (pc' := 86) dX11_feltAt_85 rfl ?_
        refine r_goto (tgt := 90) dX11_feltAt_86 rfl ?_
        refine r_reti dX11_feltAt_90 rfl (Or.inl rfl) ?_
        first | (rw [show max (0 : Int) left = 0 by omega] at h; exact h) | (rw [show max (0 : Int) left = left by omega] at h; exact h)
    · refine r_iload (pc' := 18) dX11_feltAt_16 rfl rfl ?_
      refine r_iload_n (pc' := 19) dX11_feltAt_18 rfl rfl ?_
      refine r_icmp_ge (tgt := 81) (pc' := 22) dX11_feltAt_19 rfl rfl (by omega) (by omega) (fun c19 => ?_) (fun c19 => ?_)
      · refine r_iload_n (pc' := 82) dX11_feltAt_81 rfl rfl ?_
        refine r_if_ge (tgt := 89) (pc' := 85) dX11_feltAt_82 rfl rfl (by omega) (fun c82 => ?_) (fun c82 => ?_)
        · refine r_iload_n (pc' := 90) dX11_feltAt_89 rfl rfl ?_
          refine r_reti dX11_feltAt_90 rfl (Or.inl rfl) ?_
          first | (rw [show max (0 : Int) left = 0 by omega] at h; exact h) | (rw [show max (0 : Int) left = left by omega] at h; exact h)
        · refine r_iconst (pc' := 86) dX11_feltAt_85 rfl ?_
          refine r_goto (tgt := 90) dX11_feltAt_86 rfl ?_
          refine r_reti dX11_feltAt_90 rfl (Or.inl rfl) ?_
          first | (rw [show max (0 : Int) left = 0 by omega] at h; exact h) | (rw [show max (0 : Int) left = left by omega] at h; exact h)
      · exact absurd c19 (by omega)
  | succ k ih =>
    intro p left z hp hp2 h0 h1 h
    have q1 := ho p (by omega)
    have q2 := w2 p (by omega)
    have q3 := pg (Lo v p) q2
    have q4 := u5 (Lo v p) q2
    unfold plF at h
    refine r_iload (pc' := 7) dX11_feltAt_5 rfl rfl ?_
    refine r_aload_n (pc' := 8) dX11_feltAt_7 rfl rfl ?_
    refine r_getr (pc' := 11) dX11_feltAt_8 rfl fX11_19 z166 rfl ?_
    refine r_iconst (pc' := 12) dX11_feltAt_11 rfl ?_
    refine r_iaload (pc' := 13) dX11_feltAt_12 rfl z170 (by decide) (by omega) (by omega) hc ?_
    refine r_icmp_ge (tgt := 81) (pc' := 16) dX11_feltAt_13 rfl rfl (by omega) (by omega) (fun c13 => ?_) (fun c13 => ?_)
    · exact absurd c13 (by omega)
    · refine r_iload (pc' := 18) dX11_feltAt_16 rfl rfl ?_
      refine r_iload_n (pc' := 19) dX11_feltAt_18 rfl rfl ?_
      refine r_icmp_ge (tgt := 81) (pc' := 22) dX11_feltAt_19 rfl rfl (by omega) (by omega) (fun c19 => ?_) (fun c19 => ?_)
      · exact absurd c19 (by omega)
      · refine r_aload_n (pc' := 23) dX11_feltAt_22 rfl rfl ?_
        refine r_getr (pc' := 26) dX11_feltAt_23 rfl fX11_19 z166 rfl ?_
        refine r_iconst (pc' := 27) dX11_feltAt_26 rfl ?_
        refine r_iload (pc' := 29) dX11_feltAt_27 rfl rfl ?_
        refine r_iadd (pc' := 30) dX11_feltAt_29 rfl ?_
        refine r_iaload (pc' := 31) dX11_feltAt_30 rfl z170 (by decide) (by omega) (by omega) q1 ?_
        refine r_istore (pc' := 33) dX11_feltAt_31 rfl rfl ?_
        refine r_iload_n (pc' := 34) dX11_feltAt_33 rfl rfl ?_
        refine r_aload_n (pc' := 35) dX11_feltAt_34 rfl rfl ?_
        refine r_getr (pc' := 38) dX11_feltAt_35 rfl fX11_19 z166 rfl ?_
        refine r_iconst (pc' := 39) dX11_feltAt_38 rfl ?_
        refine r_iaload (pc' := 40) dX11_feltAt_39 rfl z170 (by decide) (by omega) (by omega) ht ?_
        refine r_iload (pc' := 42) dX11_feltAt_40 rfl rfl ?_
        refine r_si2 (pc' := 45) dX11_feltAt_42 rfl qX11_has lX11_118 rfl rfl rfl (Nat.zero_le _) (Nat.zero_le _) (m_has w4 (by omega) ?_)
        refine r_if_eq (tgt := 63) (pc' := 48) dX11_feltAt_45 rfl rfl (b01_R _) (fun c45 => ?_) (fun c45 => ?_)
        · refine r_aload_n (pc' := 64) dX11_feltAt_63 rfl rfl ?_
          refine r_getr (pc' := 67) dX11_feltAt_64 rfl fX11_13 z166 rfl ?_
          refine r_bipush (pc' := 69) dX11_feltAt_67 rfl (by decide) ?_
          refine r_iload (pc' := 71) dX11_feltAt_69 rfl rfl ?_
          refine r_iadd (pc' := 72) dX11_feltAt_71 rfl ?_
          refine r_iaload (pc' := 73) dX11_feltAt_72 rfl z168 (by decide) (by omega) (by omega) q3 ?_
          refine r_isub (pc' := 74) dX11_feltAt_73 rfl ?_
          refine r_istore_n (pc' := 75) dX11_feltAt_74 rfl rfl ?_
          refine r_iinc (pc' := 78) dX11_feltAt_75 rfl rfl rfl ?_
          refine r_goto (tgt := 5) dX11_feltAt_78 rfl ?_
          first
            | (rw [if_pos (b01_ne c45)] at h; exact ih (p + 1) _ _ (by omega) (by omega) (by omega) (by omega) h)
            | (rw [if_neg (by rw [b01_eq c45]; decide)] at h; exact ih (p + 1) _ _ (by omega) (by omega) (by omega) (by omega) h)
        · refine r_iconst (pc' := 49) dX11_feltAt_48 rfl ?_
          refine r_aload_n (pc' := 50) dX11_feltAt_49 rfl rfl ?_
          refine r_getr (pc' := 53) dX11_feltAt_50 rfl fX11_13 z166 rfl ?_
          refine r_bipush (pc' := 55) dX11_feltAt_53 rfl (by decide) ?_
          refine r_iload (pc' := 57) dX11_feltAt_55 rfl rfl ?_
          refine r_iadd (pc' := 58) dX11_feltAt_57 rfl ?_
          refine r_iaload (pc' := 59) dX11_feltAt_58 rfl z168 (by decide) (by omega) (by omega) q3 ?_
          refine r_imul (pc' := 60) dX11_feltAt_59 rfl ?_
          refine r_goto (tgt := 73) dX11_feltAt_60 rfl ?_
          refine r_isub (pc' := 74) dX11_feltAt_73 rfl ?_
          refine r_istore_n (pc' := 75) dX11_feltAt_74 rfl rfl ?_
          refine r_iinc (pc' := 78) dX11_feltAt_75 rfl rfl rfl ?_
          refine r_goto (tgt := 5) dX11_feltAt_78 rfl ?_
          first
            | (rw [if_pos (b01_ne c45)] at h; exact ih (p + 1) _ _ (by omega) (by omega) (by omega) (by omega) h)
            | (rw [if_neg (by rw [b01_eq c45]; decide)] at h; exact ih (p + 1) _ _ (by omega) (by omega) (by omega) (by omega) h)
theorem m_felt {X : CX} {d : Nat} {g : Mem} {K : Int → Mem → Prop} {u : PV} {v : LV} (hB : MB g u v) {s : Int} (hs0 : 0 ≤ s) (hs1 : s ≤ 99) {y : Nat} (hy7 : y ≤ 7) (h : K (max 0 (plF (Lo v) (Ph u) (Lt v) (min (Ln v) y) 0 s)) g) : EI X (d + 1) mX11_feltAt [vr 166, vi s, vi (y : Int)] Z0 g K := by
  show AJ X (d + 1) mX11_feltAt 0 0 (QI Z0 K) 0 0 0 [some (vr 166), some (vi s), some (vi (y : Int)), none, none, none] [] Z0 g
  obtain ⟨hQ, hU, hC, hW⟩ := id hB
  obtain ⟨hy, hi, hc, ht, ho, hf, hw_⟩ := id hC
  obtain ⟨w0, w1, w2, w3, w4, w5, w6, w7⟩ := id hW
  obtain ⟨p6, p7, p8, p9, p10, pk, pg, px, py⟩ := id hQ
  obtain ⟨u0, u1, u2, u3, u4, u5, u6, u7⟩ := id hU
  refine r_iload_n (pc' := 1) dX11_feltAt_0 rfl rfl ?_
  refine r_istore_n (pc' := 2) dX11_feltAt_1 rfl rfl ?_
  refine r_iconst (pc' := 3) dX11_feltAt_2 rfl ?_
  refine r_istore (pc' := 5) dX11_feltAt_3 rfl rfl ?_
  exact lm_felt hB s y hy7 (min (Ln v) y) 0 s none (by omega) (by omega) (by omega) (by omega) h
theorem M_felt {X : CX} {d : Nat} {g : Mem} {K : Int → Mem → Prop} {tN : Nat} {tX : Nat → Int} {flt : Int} {u : PV} {v : LV} {kn : Nat} {kL : Nat → LV} {im : Nat → Bool × Int × LV} {sd : Int} {ln : Nat} {la : Nat → Nat} {lr : Nat → Bool} {bn : Nat} {bp : Nat → Nat} {bf : Nat → Int} (hM : MS g tN tX flt u v kn kL im sd ln la lr bn bp bf) (hS : WS tN tX flt u v kn kL im sd ln la lr bn bp bf) (s p : Int) (hs0 : R32 s) (hp0 : R32 p) (h : ∀ g' : Mem, MS g' tN tX flt u v kn kL im sd ln la lr bn bp bf → FrM g g' → K (E_felt u v s p) g') : EI X (d + 2) mX11_felt [vr 166, vi s, vi p] Z0 g K := by
  show AJ X (d + 2) mX11_felt 0 0 (QI Z0 K) 0 0 0 [some (vr 166), some (vi s), some (vi p)] [] Z0 g
  obtain ⟨⟨m1, m2⟩, m3, m4, m5, ⟨m6, m7⟩, m8, m9, ⟨m10, m11⟩, ⟨m12, m13⟩⟩ := id hM
  obtain ⟨⟨s1, s2⟩, s3, s4, s5, ⟨s6, s7⟩, s8, ⟨s9, s10⟩, ⟨s11, s12⟩, ⟨s13, s14⟩⟩ := id hS
  have hB : MB g u v := ⟨m4, s4, m5, s5⟩
  obtain ⟨hQ, hU, hC, hW⟩ := id hB
  obtain ⟨hy, hi, hc, ht, ho, hf, hw_⟩ := id hC
  obtain ⟨w0, w1, w2, w3, w4, w5, w6, w7⟩ := id hW
  obtain ⟨p6, p7, p8, p9, p10, pk, pg, px, py⟩ := id hQ
  obtain ⟨u0, u1, u2, u3, u4, u5, u6, u7⟩ := id hU
  have h9 := h g hM (FrM.rf g)
  unfold E_felt at h9
  refine r_iload_n (pc' := 1) dX11_felt_0 rfl rfl ?_
  refine r_iconst (pc' := 2) dX11_felt_1 rfl ?_
  refine r_bipush (pc' := 4) dX11_felt_2 rfl (by decide) ?_
  refine r_si3 (pc' := 7) dX11_felt_4 rfl qX11_in lX11_67 rfl rfl rfl (Nat.zero_le _) (Nat.zero_le _) (m_in s 0 99 (by omega) (by omega) (by omega) ?_)
  refine r_if_eq (tgt := 29) (pc' := 10) dX11_felt_7 rfl rfl (b01_R _) (fun c7 => ?_) (fun c7 => ?_)
  · have hd := of_decide_eq_false (b01_eq c7)
    refine r_ldc (z := -1000000002) (pc' := 31) dX11_felt_29 rfl kX11_71 ?_
    refine r_reti dX11_felt_31 rfl (Or.inl rfl) ?_
    first | (rw [if_neg (by omega)] at h9; exact h9) | exact hk
  · have hd := of_decide_eq_true (b01_ne c7)
    refine r_iload_n (pc' := 11) dX11_felt_10 rfl rfl ?_
    refine r_iconst (pc' := 12) dX11_felt_11 rfl ?_
    refine r_bipush (pc' := 14) dX11_felt_12 rfl (by decide) ?_
    refine r_si3 (pc' := 17) dX11_felt_14 rfl qX11_in lX11_67 rfl rfl rfl (Nat.zero_le _) (Nat.zero_le _) (m_in p 0 7 (by omega) (by omega) (by omega) ?_)
    refine r_if_eq (tgt := 29) (pc' := 20) dX11_felt_17 rfl rfl (b01_R _) (fun c17 => ?_) (fun c17 => ?_)
    · have hd2 := of_decide_eq_false (b01_eq c17)
      refine r_ldc (z := -1000000002) (pc' := 31) dX11_felt_29 rfl kX11_71 ?_
      refine r_reti dX11_felt_31 rfl (Or.inl rfl) ?_
      first | (rw [if_neg (by omega)] at h9; exact h9) | exact hk
    · have hd2 := of_decide_eq_true (b01_ne c17)
      rw [if_pos ⟨hd, hd2⟩] at h9
      have hm := m_felt (X := X) (d := d) (K := K) hB (s := s) (by omega) (by omega) (y := p.toNat) (by omega) h9
      rw [show ((p.toNat : Nat) : Int) = p by omega] at hm
      refine r_aload_n (pc' := 21) dX11_felt_20 rfl rfl ?_
      refine r_iload_n (pc' := 22) dX11_felt_21 rfl rfl ?_
      refine r_iload_n (pc' := 23) dX11_felt_22 rfl rfl ?_
      refine r_vi2 (pc' := 26) dX11_felt_23 rfl qX11_feltAt lX11_215 z166 rfl rfl rfl rfl (Nat.zero_le _) (Nat.zero_le _) ((show EI X (d + 1) mX11_feltAt [vr 166, vi s, vi p] Z0 g _ from EI.mono hm (fun r g1 hk => ?_)))
      refine r_goto (tgt := 31) dX11_felt_26 rfl ?_
      refine r_reti dX11_felt_31 rfl (Or.inl rfl) ?_
      first | (rw [if_neg (by omega)] at h9; exact h9) | exact hk
