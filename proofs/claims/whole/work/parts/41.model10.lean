def shB (g : Mem) (n i : Nat) : Mem := fun j q => if j = 170 ∧ 4 + (n : Int) - i < q ∧ q ≤ 4 + n then g 170 (q - 1) else g j q
theorem shB_0 (g : Mem) (n : Nat) : shB g n 0 = g := by
  funext j q
  unfold shB
  rw [if_neg (by omega)]
theorem shB_succ {g : Mem} {n i : Nat} {j x : Int} (hj : j = 4 + ((n : Int) - i)) (hx : x = g 170 (4 + ((n : Int) - i) - 1)) : mu (shB g n i) 170 j x = shB g n (i + 1) := by
  funext c q
  subst hj
  subst hx
  unfold mu shB
  by_cases h : c = 170 ∧ q = 4 + ((n : Int) - i)
  · rw [if_pos h, if_pos ⟨h.1, by omega, by omega⟩, h.2]
  · rw [if_neg h]
    by_cases h2 : c = 170 ∧ 4 + (n : Int) - i < q ∧ q ≤ 4 + n
    · rw [if_pos h2, if_pos ⟨h2.1, by omega, by omega⟩]
    · rw [if_neg h2, if_neg (by rintro ⟨h3, h4, h5⟩; exact h2 ⟨h3, by have : ¬ q = 4 + ((n : Int) - i) := fun e => h ⟨h3, e⟩; omega, h5⟩)]
theorem shB_off {g : Mem} {n i j : Nat} (h : j ≠ 170) : shB g n i j = g j := by
  funext q
  unfold shB
  rw [if_neg (fun e => h e.1)]
theorem shB_at {g : Mem} {n i : Nat} {q : Int} (h1 : 4 + (n : Int) - i < q) (h2 : q ≤ 4 + n) : shB g n i 170 q = g 170 (q - 1) := by
  unfold shB
  rw [if_pos ⟨rfl, h1, h2⟩]
theorem shB_out {g : Mem} {n i : Nat} {q : Int} (h : q ≤ 4 + (n : Int) - i ∨ 4 + (n : Int) < q) : shB g n i 170 q = g 170 q := by
  unfold shB
  rw [if_neg (by omega)]
theorem lm_sew {X : CX} {d : Nat} {g : Mem} {K : Int → Mem → Prop} {f : Int} {p n : Nat} (hp : p ≤ n) (h7 : n < 7) (hk : ∀ y : Option VV, AJ X (d + 2) mX11_sew 0 0 (QI Z0 K) 0 0 80 [some (vr 166), some (vi f), some (vi (p : Int)), y] [] Z0 (shB g n (n - p))) : ∀ (k i : Nat), i + k = n - p → AJ X (d + 2) mX11_sew 0 0 (QI Z0 K) 0 0 51 [some (vr 166), some (vi f), some (vi (p : Int)), some (vi ((n : Int) - (i : Int)))] [] Z0 (shB g n i) := by
  intro k
  induction k with
  | zero =>
    intro i hi
    have e : i = n - p := by omega
    subst e
    refine r_iload_n (pc' := 52) dX11_sew_51 rfl rfl ?_
    refine r_iload_n (pc' := 53) dX11_sew_52 rfl rfl ?_
    refine r_icmp_le (tgt := 80) (pc' := 56) dX11_sew_53 rfl rfl (by omega) (by omega) (fun c53 => ?_) (fun c53 => ?_)
    · exact hk _
    · exact absurd c53 (by omega)
  | succ k ih =>
    intro i hi
    have ih1 := ih (i + 1) (by omega)
    rw [show (n : Int) - ((i + 1 : Nat) : Int) = (n : Int) - (i : Int) + -1 by omega] at ih1
    refine r_iload_n (pc' := 52) dX11_sew_51 rfl rfl ?_
    refine r_iload_n (pc' := 53) dX11_sew_52 rfl rfl ?_
    refine r_icmp_le (tgt := 80) (pc' := 56) dX11_sew_53 rfl rfl (by omega) (by omega) (fun c53 => ?_) (fun c53 => ?_)
    · exact absurd c53 (by omega)
    · refine r_aload_n (pc' := 57) dX11_sew_56 rfl rfl ?_
      refine r_getr (pc' := 60) dX11_sew_57 rfl fX11_19 z166 rfl ?_
      refine r_iconst (pc' := 61) dX11_sew_60 rfl ?_
      refine r_iload_n (pc' := 62) dX11_sew_61 rfl rfl ?_
      refine r_iadd (pc' := 63) dX11_sew_62 rfl ?_
      refine r_aload_n (pc' := 64) dX11_sew_63 rfl rfl ?_
      refine r_getr (pc' := 67) dX11_sew_64 rfl fX11_19 z166 rfl ?_
      refine r_iconst (pc' := 68) dX11_sew_67 rfl ?_
      refine r_iload_n (pc' := 69) dX11_sew_68 rfl rfl ?_
      refine r_iadd (pc' := 70) dX11_sew_69 rfl ?_
      refine r_iconst (pc' := 71) dX11_sew_70 rfl ?_
      refine r_isub (pc' := 72) dX11_sew_71 rfl ?_
      refine r_iaload (pc' := 73) (x := g 170 (4 + ((n : Int) - i) - 1)) dX11_sew_72 rfl z170 (by decide) (by omega) (by omega) (by rw [shB_out (by omega)]) ?_
      refine r_iastore (pc' := 74) (g' := (shB g n (i + 1))) dX11_sew_73 rfl z170 (by decide) (by omega) (by omega) (shB_succ rfl rfl) ?_
      refine r_iinc (pc' := 77) dX11_sew_74 rfl rfl rfl ?_
      refine r_goto (tgt := 51) dX11_sew_77 rfl ?_
      exact ih1
theorem M_sew {X : CX} {d : Nat} {g : Mem} {K : Int → Mem → Prop} {tN : Nat} {tX : Nat → Int} {flt : Int} {u : PV} {v : LV} {kn : Nat} {kL : Nat → LV} {im : Nat → Bool × Int × LV} {sd : Int} {ln : Nat} {la : Nat → Nat} {lr : Nat → Bool} {bn : Nat} {bp : Nat → Nat} {bf : Nat → Int} (hM : MS g tN tX flt u v kn kL im sd ln la lr bn bp bf) (hS : WS tN tX flt u v kn kL im sd ln la lr bn bp bf) (f p : Int) (hf0 : R32 f) (hp0 : R32 p) (h : ∀ g' : Mem, MS g' tN tX flt u (if ((0 ≤ f ∧ f < Pf u) ∧ (0 ≤ p ∧ p ≤ Ln v)) ∧ plc (Lo v) f (Ln v) 0 = -1 then sewV v f.toNat p.toNat else v) (if ((0 ≤ f ∧ f < Pf u) ∧ (0 ≤ p ∧ p ≤ Ln v)) ∧ plc (Lo v) f (Ln v) 0 = -1 then pN kn else kn) (if ((0 ≤ f ∧ f < Pf u) ∧ (0 ≤ p ∧ p ≤ Ln v)) ∧ plc (Lo v) f (Ln v) 0 = -1 then pL kn kL v else kL) im sd ln la lr bn bp bf → FrM g g' → K (E_sew u v f p) g') : EI X (d + 2) mX11_sew [vr 166, vi f, vi p] Z0 g K := by
  show AJ X (d + 2) mX11_sew 0 0 (QI Z0 K) 0 0 0 [some (vr 166), some (vi f), some (vi p), none] [] Z0 g
  obtain ⟨⟨m1, m2⟩, m3, m4, m5, ⟨m6, m7⟩, m8, m9, ⟨m10, m11⟩, ⟨m12, m13⟩⟩ := id hM
  obtain ⟨⟨s1, s2⟩, s3, s4, s5, ⟨s6, s7⟩, s8, ⟨s9, s10⟩, ⟨s11, s12⟩, ⟨s13, s14⟩⟩ := id hS
  have hB : MB g u v := ⟨m4, s4, m5, s5⟩
  obtain ⟨hQ, hU, hC, hW⟩ := id hB
  obtain ⟨hy, hi, hc, ht, ho, hf, hw_⟩ := id hC
  obtain ⟨w0, w1, w2, w3, w4, w5, w6, w7⟩ := id hW
  obtain ⟨p6, p7, p8, p9, p10, pk, pg, px, py⟩ := id hQ
  obtain ⟨u0, u1, u2, u3, u4, u5, u6, u7⟩ := id hU
  have hpb := plc_b (o := Lo v) (f := f) (Ln v) 0
  refine r_aload_n (pc' := 1) dX11_sew_0 rfl rfl ?_
  refine r_iload_n (pc' := 2) dX11_sew_1 rfl rfl ?_
  refine r_vi1 (pc' := 5) dX11_sew_2 rfl qX11_isFlag lX11_153 z166 rfl rfl rfl rfl (Nat.zero_le _) (Nat.zero_le _) (m_isFlag hB f hf0 ?_)
  refine r_if_ne (tgt := 11) (pc' := 8) dX11_sew_5 rfl rfl (b01_R _) (fun c5 => ?_) (fun c5 => ?_)
  · have hd5 := of_decide_eq_true (b01_ne c5)
    refine r_iload_n (pc' := 12) dX11_sew_11 rfl rfl ?_
    refine r_iconst (pc' := 13) dX11_sew_12 rfl ?_
    refine r_aload_n (pc' := 14) dX11_sew_13 rfl rfl ?_
    refine r_getr (pc' := 17) dX11_sew_14 rfl fX11_19 z166 rfl ?_
    refine r_iconst (pc' := 18) dX11_sew_17 rfl ?_
    refine r_iaload (pc' := 19) dX11_sew_18 rfl z170 (by decide) (by omega) (by omega) hc ?_
    refine r_si3 (pc' := 22) dX11_sew_19 rfl qX11_in lX11_67 rfl rfl rfl (Nat.zero_le _) (Nat.zero_le _) (m_in p 0 (Ln v : Int) (by omega) (by omega) (by omega) ?_)
    refine r_if_ne (tgt := 28) (pc' := 25) dX11_sew_22 rfl rfl (b01_R _) (fun c22 => ?_) (fun c22 => ?_)
    · have hd22 := of_decide_eq_true (b01_ne c22)
      refine r_aload_n (pc' := 29) dX11_sew_28 rfl rfl ?_
      refine r_iload_n (pc' := 30) dX11_sew_29 rfl rfl ?_
      refine r_vi1 (pc' := 33) dX11_sew_30 rfl qX11_placeOf lX11_157 z166 rfl rfl rfl rfl (Nat.zero_le _) (Nat.zero_le _) (m_placeOf hB f hf0 ?_)
      refine r_iconst (pc' := 34) dX11_sew_33 rfl ?_
      refine r_icmp_eq (tgt := 40) (pc' := 37) dX11_sew_34 rfl rfl (by omega) (by omega) (fun c34 => ?_) (fun c34 => ?_)
      · have hon : ∀ q, q < Ln v → Lo v q ≠ f.toNat := fun q hq e => plc_no (Ln v) 0 c34 q (by omega) (by omega) (by omega)
        have h7 := room_of hW (x := f.toNat) (by omega) hon
        obtain ⟨pN_, rfl⟩ : ∃ pN_ : Nat, p = (pN_ : Int) := ⟨p.toNat, by omega⟩
        refine r_aload_n (pc' := 41) dX11_sew_40 rfl rfl ?_
        refine r_vv0 (pc' := 44) dX11_sew_41 rfl qX11_keeps lX11_163 z166 rfl rfl rfl (Nat.zero_le _) (Nat.zero_le _) (m_keeps hM hS (fun g1 hM1 fm1 => ?_))
        obtain ⟨⟨k1, k2⟩, k3, k4, k5, ⟨k6, k7⟩, k8, k9, ⟨k10, k11⟩, ⟨k12, k13⟩⟩ := id hM1
        have hB1 : MB g1 u v := ⟨k4, s4, k5, s5⟩
        obtain ⟨jy, ji, jc, jt, jo, jf, jw⟩ := id k5
        refine r_aload_n (pc' := 45) dX11_sew_44 rfl rfl ?_
        refine r_getr (pc' := 48) dX11_sew_45 rfl fX11_19 z166 rfl ?_
        refine r_iconst (pc' := 49) dX11_sew_48 rfl ?_
        refine r_iaload (pc' := 50) dX11_sew_49 rfl z170 (by decide) (by omega) (by omega) jc ?_
        refine r_istore_n (pc' := 51) dX11_sew_50 rfl rfl ?_
        have tl : ∀ y : Option VV, AJ X (d + 2) mX11_sew 0 0 (QI Z0 K) 0 0 80 [some (vr 166), some (vi f), some (vi (pN_ : Int)), y] [] Z0 (shB g1 (Ln v) (Ln v - pN_)) := fun y => by
          refine r_aload_n (pc' := 81) dX11_sew_80 rfl rfl ?_
          refine r_getr (pc' := 84) dX11_sew_81 rfl fX11_19 z166 rfl ?_
          refine r_iconst (pc' := 85) dX11_sew_84 rfl ?_
          refine r_iload_n (pc' := 86) dX11_sew_85 rfl rfl ?_
          refine r_iadd (pc' := 87) dX11_sew_86 rfl ?_
          refine r_iload_n (pc' := 88) dX11_sew_87 rfl rfl ?_
          refine r_iastore (pc' := 89) dX11_sew_88 rfl z170 (by decide) (by omega) (by omega) rfl ?_
          refine r_aload_n (pc' := 90) dX11_sew_89 rfl rfl ?_
          refine r_getr (pc' := 93) dX11_sew_90 rfl fX11_19 z166 rfl ?_
          refine r_iconst (pc' := 94) dX11_sew_93 rfl ?_
          refine r_dup2 (pc' := 95) dX11_sew_94 rfl rfl rfl ?_
          refine r_iaload (pc' := 96) (x := (Ln v : Int)) dX11_sew_95 rfl z170 (by decide) (by omega) (by omega) (by rw [mu_at' (by omega), shB_out (by omega)]; exact jc) ?_
          refine r_iconst (pc' := 97) dX11_sew_96 rfl ?_
          refine r_iadd (pc' := 98) dX11_sew_97 rfl ?_
          refine r_iastore (pc' := 99) dX11_sew_98 rfl z170 (by decide) (by omega) (by omega) rfl ?_
          refine r_aload_n (pc' := 100) dX11_sew_99 rfl rfl ?_
          refine r_getr (pc' := 103) dX11_sew_100 rfl fX11_19 z166 rfl ?_
          refine r_bipush (pc' := 105) dX11_sew_103 rfl (by decide) ?_
          refine r_iload_n (pc' := 106) dX11_sew_105 rfl rfl ?_
          refine r_iadd (pc' := 107) dX11_sew_106 rfl ?_
          refine r_iconst (pc' := 108) dX11_sew_107 rfl ?_
          refine r_iastore (pc' := 109) dX11_sew_108 rfl z170 (by decide) (by omega) (by omega) rfl ?_
          refine r_aload_n (pc' := 110) dX11_sew_109 rfl rfl ?_
          refine r_getr (pc' := 113) dX11_sew_110 rfl fX11_19 z166 rfl ?_
          refine r_bipush (pc' := 115) dX11_sew_113 rfl (by decide) ?_
          refine r_iload_n (pc' := 116) dX11_sew_115 rfl rfl ?_
          refine r_iadd (pc' := 117) dX11_sew_116 rfl ?_
          refine r_dup2 (pc' := 118) dX11_sew_117 rfl rfl rfl ?_
          refine r_iaload (pc' := 119) (x := Lw v f.toNat) dX11_sew_118 rfl z170 (by decide) (by omega) (by omega) (by rw [mu_at' (by omega), mu_at' (by omega), mu_at' (by omega), shB_out (by omega)]; have q := jw f.toNat (by omega); rw [show ((f.toNat : Nat) : Int) = f by omega] at q; exact q) ?_
          refine r_iconst (pc' := 120) dX11_sew_119 rfl ?_
          refine r_iadd (pc' := 121) dX11_sew_120 rfl ?_
          refine r_iastore (pc' := 122) dX11_sew_121 rfl z170 (by decide) (by omega) (by omega) rfl ?_
          refine r_aload_n (pc' := 123) dX11_sew_122 rfl rfl ?_
          refine r_getr (pc' := 126) dX11_sew_123 rfl fX11_19 z166 rfl ?_
          refine r_iconst (pc' := 127) dX11_sew_126 rfl ?_
          refine r_iaload (pc' := 128) (x := (Ln v : Int) + 1) dX11_sew_127 rfl z170 (by decide) (by omega) (by omega) (by rw [mu_at' (by omega), mu_at' (by omega), mu_at]) ?_
          refine r_reti dX11_sew_128 rfl (Or.inl rfl) ?_
          have hok : ((0 ≤ f ∧ f < Pf u) ∧ (0 ≤ (pN_ : Int) ∧ (pN_ : Int) ≤ Ln v)) ∧ plc (Lo v) f (Ln v) 0 = -1 := by omega
          have hfj : ∀ j, j ≠ 170 → j ≠ 177 → (mu (mu (mu (mu (shB g1 (Ln v) (Ln v - pN_)) 170 (4 + (pN_ : Int)) f) 170 2 ((Ln v : Int) + 1)) 170 (11 + f) 0) 170 (18 + f) (Lw v f.toNat + 1)) j = g1 j := fun j a _ => by rw [mu_ne a, mu_ne a, mu_ne a, mu_ne a, shB_off a]
          have out_ : ∀ q : Int, q ≠ 18 + f → q ≠ 11 + f → q ≠ 2 → q ≠ 4 + (pN_ : Int) → (q ≤ 4 + (pN_ : Int) ∨ 4 + (Ln v : Int) < q) → (mu (mu (mu (mu (shB g1 (Ln v) (Ln v - pN_)) 170 (4 + (pN_ : Int)) f) 170 2 ((Ln v : Int) + 1)) 170 (11 + f) 0) 170 (18 + f) (Lw v f.toNat + 1)) 170 q = g1 170 q := fun q a b c e hq => by rw [mu_at' a, mu_at' b, mu_at' c, mu_at' e, shB_out (by omega)]
          have hl : LSr (mu (mu (mu (mu (shB g1 (Ln v) (Ln v - pN_)) 170 (4 + (pN_ : Int)) f) 170 2 ((Ln v : Int) + 1)) 170 (11 + f) 0) 170 (18 + f) (Lw v f.toNat + 1)) (sewV v f.toNat (pN_ : Int).toNat) := by
            refine ⟨by rw [out_ 0 (by omega) (by omega) (by omega) (by omega) (by omega)]; exact jy, by rw [out_ 1 (by omega) (by omega) (by omega) (by omega) (by omega)]; exact ji, by rw [mu_at' (by omega), mu_at' (by omega), mu_at]; rfl, by rw [out_ 3 (by omega) (by omega) (by omega) (by omega) (by omega)]; exact jt, fun q hq => ?_, fun k hk => ?_, fun k hk => ?_⟩
            · have hq1 : q < Ln v + 1 := hq
              show _ = (((if q < (pN_ : Int).toNat then Lo v q else if q = (pN_ : Int).toNat then f.toNat else Lo v (q - 1)) : Nat) : Int)
              by_cases h1 : q < pN_
              · rw [if_pos (by omega), out_ _ (by omega) (by omega) (by omega) (by omega) (by omega)]; exact jo q (by omega)
              · by_cases h2 : q = pN_
                · rw [if_neg (by omega), if_pos (by omega), mu_at' (by omega), mu_at' (by omega), mu_at' (by omega), h2, mu_at]; omega
                · rw [if_neg (by omega), if_neg (by omega), mu_at' (by omega), mu_at' (by omega), mu_at' (by omega), mu_at' (by omega), shB_at (by omega) (by omega), show (4 : Int) + (q : Int) - 1 = 4 + ((q - 1 : Nat) : Int) by omega]
                  exact jo _ (by omega)
            · show _ = (if k = f.toNat then 0 else Lf v k)
              by_cases h1 : k = f.toNat
              · rw [if_pos h1, mu_at' (by omega), show (11 : Int) + (k : Int) = 11 + f by omega, mu_at]
              · rw [if_neg h1, out_ _ (by omega) (by omega) (by omega) (by omega) (by omega)]; exact jf k hk
            · show _ = (if k = f.toNat then Lw v k + 1 else Lw v k)
              by_cases h1 : k = f.toNat
              · rw [if_pos h1, show (18 : Int) + (k : Int) = 18 + f by omega, mu_at, h1]
              · rw [if_neg h1, out_ _ (by omega) (by omega) (by omega) (by omega) (by omega)]; exact jw k hk
          have h9 := h _ (by simp only [if_pos hok]; exact hM1.line hl (fun j _ a b => hfj j a b)) (fm1.tr (FrM.line hfj))
          unfold E_sew at h9
          rw [if_pos hd5, if_pos (by omega), if_pos hok.2] at h9
          exact h9
        have e0 := lm_sew (X := X) (d := d) (K := K) (g := g1) (f := f) (p := pN_) (n := Ln v) (by omega) h7 tl (Ln v - pN_) 0 (by omega)
        rw [shB_0, show (Ln v : Int) - ((0 : Nat) : Int) = (Ln v : Int) by omega] at e0
        exact e0
      · refine r_ldc (z := -1000000003) (pc' := 39) dX11_sew_37 rfl kX11_170 ?_
        refine r_reti dX11_sew_39 rfl (Or.inl rfl) ?_
        have hno : ¬ (((0 ≤ f ∧ f < Pf u) ∧ (0 ≤ p ∧ p ≤ Ln v)) ∧ plc (Lo v) f (Ln v) 0 = -1) := by omega
        have h9 := h g (by simp only [if_neg hno]; exact hM) (FrM.rf g)
        unfold E_sew at h9
        rw [if_pos hd5, if_pos (by omega), if_neg c34] at h9
        exact h9
    · have hd22 := of_decide_eq_false (b01_eq c22)
      refine r_ldc (z := -1000000002) (pc' := 27) dX11_sew_25 rfl kX11_71 ?_
      refine r_reti dX11_sew_27 rfl (Or.inl rfl) ?_
      have hno : ¬ (((0 ≤ f ∧ f < Pf u) ∧ (0 ≤ p ∧ p ≤ Ln v)) ∧ plc (Lo v) f (Ln v) 0 = -1) := by omega
      have h9 := h g (by simp only [if_neg hno]; exact hM) (FrM.rf g)
      unfold E_sew at h9
      rw [if_pos hd5, if_neg (by omega)] at h9
      exact h9
  · have hd5 := of_decide_eq_false (b01_eq c5)
    refine r_ldc (z := -1000000001) (pc' := 10) dX11_sew_8 rfl kX11_156 ?_
    refine r_reti dX11_sew_10 rfl (Or.inl rfl) ?_
    have hno : ¬ (((0 ≤ f ∧ f < Pf u) ∧ (0 ≤ p ∧ p ≤ Ln v)) ∧ plc (Lo v) f (Ln v) 0 = -1) := by omega
    have h9 := h g (by simp only [if_neg hno]; exact hM) (FrM.rf g)
    unfold E_sew at h9
    rw [if_neg hd5] at h9
    exact h9
