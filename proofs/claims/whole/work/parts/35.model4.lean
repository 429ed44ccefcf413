theorem M_write {X : CX} {d : Nat} {g : Mem} {K : Int → Mem → Prop} {tN : Nat} {tX : Nat → Int} {flt : Int} {u : PV} {v : LV} {kn : Nat} {kL : Nat → LV} {im : Nat → Bool × Int × LV} {sd : Int} {ln : Nat} {la : Nat → Nat} {lr : Nat → Bool} {bn : Nat} {bp : Nat → Nat} {bf : Nat → Int} (hM : MS g tN tX flt u v kn kL im sd ln la lr bn bp bf) (hS : WS tN tX flt u v kn kL im sd ln la lr bn bp bf) (p f : Int) (hp : R32 p) (hf0 : R32 f) (h : ∀ g' : Mem, MS g' tN tX flt u v kn kL im sd ln la lr (if ((f = -1 ∨ (0 ≤ f ∧ f < Pf u)) ∧ (0 ≤ p ∧ p ≤ 6)) ∧ bn < 20 then bn + 1 else bn) (if ((f = -1 ∨ (0 ≤ f ∧ f < Pf u)) ∧ (0 ≤ p ∧ p ≤ 6)) ∧ bn < 20 then (fun i => if i = bn then p.toNat else bp i) else bp) (if ((f = -1 ∨ (0 ≤ f ∧ f < Pf u)) ∧ (0 ≤ p ∧ p ≤ 6)) ∧ bn < 20 then (fun i => if i = bn then f else bf i) else bf) → FrM g g' → K (E_write u bn p f) g') : EI X (d + 2) mX11_write [vr 166, vi p, vi f] Z0 g K := by
  show AJ X (d + 2) mX11_write 0 0 (QI Z0 K) 0 0 0 [some (vr 166), some (vi p), some (vi f)] [] Z0 g
  obtain ⟨⟨m1, m2⟩, m3, m4, m5, ⟨m6, m7⟩, m8, m9, ⟨m10, m11⟩, ⟨m12, m13⟩⟩ := id hM
  obtain ⟨⟨s1, s2⟩, s3, s4, s5, ⟨s6, s7⟩, s8, ⟨s9, s10⟩, ⟨s11, s12⟩, ⟨s13, s14⟩⟩ := id hS
  have hB : MB g u v := ⟨m4, s4, m5, s5⟩
  obtain ⟨hQ, hU, hC, hW⟩ := id hB
  obtain ⟨hy, hi, hc, ht, ho, hf, hw_⟩ := id hC
  obtain ⟨w0, w1, w2, w3, w4, w5, w6, w7⟩ := id hW
  obtain ⟨p6, p7, p8, p9, p10, pk, pg, px, py⟩ := id hQ
  obtain ⟨u0, u1, u2, u3, u4, u5, u6, u7⟩ := id hU
  refine r_iload_n (pc' := 1) dX11_write_0 rfl rfl ?_
  refine r_iconst (pc' := 2) dX11_write_1 rfl ?_
  refine r_icmp_eq (tgt := 16) (pc' := 5) dX11_write_2 rfl rfl (by omega) (by omega) (fun c2 => ?_) (fun c2 => ?_)
  · have hd : f = -1 ∨ (0 ≤ f ∧ f < Pf u) := Or.inl c2
    refine r_iload_n (pc' := 17) dX11_write_16 rfl rfl ?_
    refine r_iconst (pc' := 18) dX11_write_17 rfl ?_
    refine r_bipush (pc' := 20) dX11_write_18 rfl (by decide) ?_
    refine r_si3 (pc' := 23) dX11_write_20 rfl qX11_in lX11_67 rfl rfl rfl (Nat.zero_le _) (Nat.zero_le _) (m_in p 0 6 (by omega) (by omega) (by omega) ?_)
    refine r_if_ne (tgt := 29) (pc' := 26) dX11_write_23 rfl rfl (b01_R _) (fun c23 => ?_) (fun c23 => ?_)
    · have hd23 := of_decide_eq_true (b01_ne c23)
      refine r_aload_n (pc' := 30) dX11_write_29 rfl rfl ?_
      refine r_getf (pc' := 33) (kI := 13) dX11_write_30 rfl fX11_115 z166 rfl rfl m12 ?_
      refine r_bipush (pc' := 35) dX11_write_33 rfl (by decide) ?_
      refine r_icmp_ne (tgt := 41) (pc' := 38) dX11_write_35 rfl rfl (by omega) (by omega) (fun c35 => ?_) (fun c35 => ?_)
      · refine r_aload_n (pc' := 42) dX11_write_41 rfl rfl ?_
        refine r_getr (pc' := 45) dX11_write_42 rfl fX11_35 z166 rfl ?_
        refine r_iconst (pc' := 46) dX11_write_45 rfl ?_
        refine r_aload_n (pc' := 47) dX11_write_46 rfl rfl ?_
        refine r_getf (pc' := 50) (kI := 13) dX11_write_47 rfl fX11_115 z166 rfl rfl m12 ?_
        refine r_imul (pc' := 51) dX11_write_50 rfl ?_
        refine r_iload_n (pc' := 52) dX11_write_51 rfl rfl ?_
        refine r_iastore (pc' := 53) dX11_write_52 rfl z175 (by decide) (by omega) (by omega) rfl ?_
        refine r_aload_n (pc' := 54) dX11_write_53 rfl rfl ?_
        refine r_getr (pc' := 57) dX11_write_54 rfl fX11_35 z166 rfl ?_
        refine r_iconst (pc' := 58) dX11_write_57 rfl ?_
        refine r_aload_n (pc' := 59) dX11_write_58 rfl rfl ?_
        refine r_getf (pc' := 62) (kI := 13) (x := (bn : Int)) dX11_write_59 rfl fX11_115 z166 rfl rfl (by rw [mu_ne (by decide)]; exact m12) ?_
        refine r_imul (pc' := 63) dX11_write_62 rfl ?_
        refine r_iconst (pc' := 64) dX11_write_63 rfl ?_
        refine r_iadd (pc' := 65) dX11_write_64 rfl ?_
        refine r_iload_n (pc' := 66) dX11_write_65 rfl rfl ?_
        refine r_iastore (pc' := 67) dX11_write_66 rfl z175 (by decide) (by omega) (by omega) rfl ?_
        refine r_aload_n (pc' := 68) dX11_write_67 rfl rfl ?_
        refine r_dup (pc' := 69) dX11_write_68 rfl rfl ?_
        refine r_getf (pc' := 72) (kI := 13) (x := (bn : Int)) dX11_write_69 rfl fX11_115 z166 rfl rfl (by rw [mu_ne (by decide), mu_ne (by decide)]; exact m12) ?_
        refine r_iconst (pc' := 73) dX11_write_72 rfl ?_
        refine r_iadd (pc' := 74) dX11_write_73 rfl ?_
        refine r_putf (pc' := 77) (kI := 13) dX11_write_74 rfl fX11_115 z166 rfl (Or.inl rfl) rfl rfl ?_
        refine r_aload_n (pc' := 78) dX11_write_77 rfl rfl ?_
        refine r_getf (pc' := 81) (kI := 13) (x := (bn : Int) + 1) dX11_write_78 rfl fX11_115 z166 rfl rfl mu_at ?_
        refine r_reti dX11_write_81 rfl (Or.inl rfl) ?_
        have hok : ((f = -1 ∨ (0 ≤ f ∧ f < Pf u)) ∧ (0 ≤ p ∧ p ≤ 6)) ∧ bn < 20 := ⟨⟨hd, by omega⟩, by omega⟩
        have q : ∀ j, j ≠ 166 → j ≠ 175 → mu (mu (mu g 175 (2 * (bn : Int)) p) 175 (2 * (bn : Int) + 1) f) 166 13 ((bn : Int) + 1) j = g j := fun j a b => by rw [mu_ne a, mu_ne b, mu_ne b]
        have r : ∀ k, k ≠ 13 → mu (mu (mu g 175 (2 * (bn : Int)) p) 175 (2 * (bn : Int) + 1) f) 166 13 ((bn : Int) + 1) 166 k = g 166 k := fun k a => by rw [mu_at' a, mu_ne (by decide), mu_ne (by decide)]
        have hbk : ∀ i : Nat, i < bn + 1 → (mu (mu (mu g 175 (2 * (bn : Int)) p) 175 (2 * (bn : Int) + 1) f) 166 13 ((bn : Int) + 1)) 175 (2 * i) = (((if i = bn then p.toNat else bp i : Nat)) : Int) ∧ (mu (mu (mu g 175 (2 * (bn : Int)) p) 175 (2 * (bn : Int) + 1) f) 166 13 ((bn : Int) + 1)) 175 (2 * i + 1) = (if i = bn then f else bf i) := fun i hi => by
          rw [mu_ne (by decide)]
          by_cases e : i = bn
          · subst e
            rw [if_pos rfl, if_pos rfl, mu_at' (by omega), mu_at, mu_at]
            exact ⟨by omega, rfl⟩
          · rw [if_neg e, if_neg e, mu_at' (by omega), mu_at' (by omega), mu_at' (by omega), mu_at' (by omega)]
            exact m13 i (by omega)
        have h9 := h _ (by simp only [if_pos hok]; exact ⟨⟨(r 1 (by decide)).trans m1, fun k hk => (congrFun (q 167 (by decide) (by decide)) _).trans (m2 k hk)⟩, (r 15 (by decide)).trans m3, m4.fr (q 168 (by decide) (by decide)), m5.fr (q 170 (by decide) (by decide)), ⟨(r 6 (by decide)).trans m6, fun j hj => (m7 j hj).fr (q 171 (by decide) (by decide))⟩, MIm.fr m8 (q 172 (by decide) (by decide)) (q 173 (by decide) (by decide)), (r 9 (by decide)).trans m9, ⟨(r 11 (by decide)).trans m10, fun i hi => by rw [q 174 (by decide) (by decide)]; exact m11 i hi⟩, ⟨by rw [mu_at]; omega, hbk⟩⟩) ((FrM.row (by decide) (by decide)).tr ((FrM.row (by decide) (by decide)).tr (FrM.fld (by decide))))
        unfold E_write at h9
        rw [if_pos hd, if_pos (by omega), if_pos (by omega)] at h9
        exact h9
      · refine r_ldc (z := -1000000004) (pc' := 40) dX11_write_38 rfl kX11_75 ?_
        refine r_reti dX11_write_40 rfl (Or.inl rfl) ?_
        have hno : ¬ (((f = -1 ∨ (0 ≤ f ∧ f < Pf u)) ∧ (0 ≤ p ∧ p ≤ 6)) ∧ bn < 20) := by omega
        have h9 := h g (by simp only [if_neg hno]; exact hM) (FrM.rf g)
        unfold E_write at h9
        rw [if_pos hd, if_pos (by omega), if_neg (by omega)] at h9
        exact h9
    · have hd23 := of_decide_eq_false (b01_eq c23)
      refine r_ldc (z := -1000000002) (pc' := 28) dX11_write_26 rfl kX11_71 ?_
      refine r_reti dX11_write_28 rfl (Or.inl rfl) ?_
      have hno : ¬ (((f = -1 ∨ (0 ≤ f ∧ f < Pf u)) ∧ (0 ≤ p ∧ p ≤ 6)) ∧ bn < 20) := by omega
      have h9 := h g (by simp only [if_neg hno]; exact hM) (FrM.rf g)
      unfold E_write at h9
      rw [if_pos hd, if_neg (by omega)] at h9
      exact h9
  · refine r_aload_n (pc' := 6) dX11_write_5 rfl rfl ?_
    refine r_iload_n (pc' := 7) dX11_write_6 rfl rfl ?_
    refine r_vi1 (pc' := 10) dX11_write_7 rfl qX11_isFlag lX11_153 z166 rfl rfl rfl rfl (Nat.zero_le _) (Nat.zero_le _) (m_isFlag hB f hf0 ?_)
    refine r_if_ne (tgt := 16) (pc' := 13) dX11_write_10 rfl rfl (b01_R _) (fun c10 => ?_) (fun c10 => ?_)
    · have hd : f = -1 ∨ (0 ≤ f ∧ f < Pf u) := Or.inr (of_decide_eq_true (b01_ne c10))
      refine r_iload_n (pc' := 17) dX11_write_16 rfl rfl ?_
      refine r_iconst (pc' := 18) dX11_write_17 rfl ?_
      refine r_bipush (pc' := 20) dX11_write_18 rfl (by decide) ?_
      refine r_si3 (pc' := 23) dX11_write_20 rfl qX11_in lX11_67 rfl rfl rfl (Nat.zero_le _) (Nat.zero_le _) (m_in p 0 6 (by omega) (by omega) (by omega) ?_)
      refine r_if_ne (tgt := 29) (pc' := 26) dX11_write_23 rfl rfl (b01_R _) (fun c23 => ?_) (fun c23 => ?_)
      · have hd23 := of_decide_eq_true (b01_ne c23)
        refine r_aload_n (pc' := 30) dX11_write_29 rfl rfl ?_
        refine r_getf (pc' := 33) (kI := 13) dX11_write_30 rfl fX11_115 z166 rfl rfl m12 ?_
        refine r_bipush (pc' := 35) dX11_write_33 rfl (by decide) ?_
        refine r_icmp_ne (tgt := 41) (pc' := 38) dX11_write_35 rfl rfl (by omega) (by omega) (fun c35 => ?_) (fun c35 => ?_)
        · refine r_aload_n (pc' := 42) dX11_write_41 rfl rfl ?_
          refine r_getr (pc' := 45) dX11_write_42 rfl fX11_35 z166 rfl ?_
          refine r_iconst (pc' := 46) dX11_write_45 rfl ?_
          refine r_aload_n (pc' := 47) dX11_write_46 rfl rfl ?_
          refine r_getf (pc' := 50) (kI := 13) dX11_write_47 rfl fX11_115 z166 rfl rfl m12 ?_
          refine r_imul (pc' := 51) dX11_write_50 rfl ?_
          refine r_iload_n (pc' := 52) dX11_write_51 rfl rfl ?_
          refine r_iastore (pc' := 53) dX11_write_52 rfl z175 (by decide) (by omega) (by omega) rfl ?_
          refine r_aload_n (pc' := 54) dX11_write_53 rfl rfl ?_
          refine r_getr (pc' := 57) dX11_write_54 rfl fX11_35 z166 rfl ?_
          refine r_iconst (pc' := 58) dX11_write_57 rfl ?_
          refine r_aload_n (pc' := 59) dX11_write_58 rfl rfl ?_
          refine r_getf (pc' := 62) (kI := 13) (x := (bn : Int)) dX11_write_59 rfl fX11_115 z166 rfl rfl (by rw [mu_ne (by decide)]; exact m12) ?_
          refine r_imul (pc' := 63) dX11_write_62 rfl ?_
          refine r_iconst (pc' := 64) dX11_write_63 rfl ?_
          refine r_iadd (pc' := 65) dX11_write_64 rfl ?_
          refine r_iload_n (pc' := 66) dX11_write_65 rfl rfl ?_
          refine r_iastore (pc' := 67) dX11_write_66 rfl z175 (by decide) (by omega) (by omega) rfl ?_
          refine r_aload_n (pc' := 68) dX11_write_67 rfl rfl ?_
          refine r_dup (pc' := 69) dX11_write_68 rfl rfl ?_
          refine r_getf (pc' := 72) (kI := 13) (x := (bn : Int)) dX11_write_69 rfl fX11_115 z166 rfl rfl (by rw [mu_ne (by decide), mu_ne (by decide)]; exact m12) ?_
          refine r_iconst (pc' := 73) dX11_write_72 rfl ?_
          refine r_iadd (pc' := 74) dX11_write_73 rfl ?_
          refine r_putf (pc' := 77) (kI := 13) dX11_write_74 rfl fX11_115 z166 rfl (Or.inl rfl) rfl rfl ?_
          refine r_aload_n (pc' := 78) dX11_write_77 rfl rfl ?_
          refine r_getf (pc' := 81) (kI := 13) (x := (bn : Int) + 1) dX11_write_78 rfl fX11_115 z166 rfl rfl mu_at ?_
          refine r_reti dX11_write_81 rfl (Or.inl rfl) ?_
          have hok : ((f = -1 ∨ (0 ≤ f ∧ f < Pf u)) ∧ (0 ≤ p ∧ p ≤ 6)) ∧ bn < 20 := ⟨⟨hd, by omega⟩, by omega⟩
          have q : ∀ j, j ≠ 166 → j ≠ 175 → mu (mu (mu g 175 (2 * (bn : Int)) p) 175 (2 * (bn : Int) + 1) f) 166 13 ((bn : Int) + 1) j = g j := fun j a b => by rw [mu_ne a, mu_ne b, mu_ne b]
          have r : ∀ k, k ≠ 13 → mu (mu (mu g 175 (2 * (bn : Int)) p) 175 (2 * (bn : Int) + 1) f) 166 13 ((bn : Int) + 1) 166 k = g 166 k := fun k a => by rw [mu_at' a, mu_ne (by decide), mu_ne (by decide)]
          have hbk : ∀ i : Nat, i < bn + 1 → (mu (mu (mu g 175 (2 * (bn : Int)) p) 175 (2 * (bn : Int) + 1) f) 166 13 ((bn : Int) + 1)) 175 (2 * i) = (((if i = bn then p.toNat else bp i : Nat)) : Int) ∧ (mu (mu (mu g 175 (2 * (bn : Int)) p) 175 (2 * (bn : Int) + 1) f) 166 13 ((bn : Int) + 1)) 175 (2 * i + 1) = (if i = bn then f else bf i) := fun i hi => by
            rw [mu_ne (by decide)]
            by_cases e : i = bn
            · subst e
              rw [if_pos rfl, if_pos rfl, mu_at' (by omega), mu_at, mu_at]
              exact ⟨by omega, rfl⟩
            · rw [if_neg e, if_neg e, mu_at' (by omega), mu_at' (by omega), mu_at' (by omega), mu_at' (by omega)]
              exact m13 i (by omega)
          have h9 := h _ (by simp only [if_pos hok]; exact ⟨⟨(r 1 (by decide)).trans m1, fun k hk => (congrFun (q 167 (by decide) (by decide)) _).trans (m2 k hk)⟩, (r 15 (by decide)).trans m3, m4.fr (q 168 (by decide) (by decide)), m5.fr (q 170 (by decide) (by decide)), ⟨(r 6 (by decide)).trans m6, fun j hj => (m7 j hj).fr (q 171 (by decide) (by decide))⟩, MIm.fr m8 (q 172 (by decide) (by decide)) (q 173 (by decide) (by decide)), (r 9 (by decide)).trans m9, ⟨(r 11 (by decide)).trans m10, fun i hi => by rw [q 174 (by decide) (by decide)]; exact m11 i hi⟩, ⟨by rw [mu_at]; omega, hbk⟩⟩) ((FrM.row (by decide) (by decide)).tr ((FrM.row (by decide) (by decide)).tr (FrM.fld (by decide))))
          unfold E_write at h9
          rw [if_pos hd, if_pos (by omega), if_pos (by omega)] at h9
          exact h9
        · refine r_ldc (z := -1000000004) (pc' := 40) dX11_write_38 rfl kX11_75 ?_
          refine r_reti dX11_write_40 rfl (Or.inl rfl) ?_
          have hno : ¬ (((f = -1 ∨ (0 ≤ f ∧ f < Pf u)) ∧ (0 ≤ p ∧ p ≤ 6)) ∧ bn < 20) := by omega
          have h9 := h g (by simp only [if_neg hno]; exact hM) (FrM.rf g)
          unfold E_write at h9
          rw [if_pos hd, if_pos (by omega), if_neg (by omega)] at h9
          exact h9
      · have hd23 := of_decide_eq_false (b01_eq c23)
        refine r_ldc (z := -1000000002) (pc' := 28) dX11_write_26 rfl kX11_71 ?_
        refine r_reti dX11_write_28 rfl (Or.inl rfl) ?_
        have hno : ¬ (((f = -1 ∨ (0 ≤ f ∧ f < Pf u)) ∧ (0 ≤ p ∧ p ≤ 6)) ∧ bn < 20) := by omega
        have h9 := h g (by simp only [if_neg hno]; exact hM) (FrM.rf g)
        unfold E_write at h9
        rw [if_pos hd, if_neg (by omega)] at h9
        exact h9
    · refine r_ldc (z := -1000000001) (pc' := 15) dX11_write_13 rfl kX11_156 ?_
      refine r_reti dX11_write_15 rfl (Or.inl rfl) ?_
      have hd := of_decide_eq_false (b01_eq c10)
      have hno : ¬ (((f = -1 ∨ (0 ≤ f ∧ f < Pf u)) ∧ (0 ≤ p ∧ p ≤ 6)) ∧ bn < 20) := by omega
      have h9 := h g (by simp only [if_neg hno]; exact hM) (FrM.rf g)
      unfold E_write at h9
      rw [if_neg (by omega)] at h9
      exact h9
theorem M_old {X : CX} {d : Nat} {g : Mem} {K : Int → Mem → Prop} {tN : Nat} {tX : Nat → Int} {flt : Int} {u : PV} {v : LV} {kn : Nat} {kL : Nat → LV} {im : Nat → Bool × Int × LV} {sd : Int} {ln : Nat} {la : Nat → Nat} {lr : Nat → Bool} {bn : Nat} {bp : Nat → Nat} {bf : Nat → Int} (hM : MS g tN tX flt u v kn kL im sd ln la lr bn bp bf) (hS : WS tN tX flt u v kn kL im sd ln la lr bn bp bf) (k n : Int) (y : Bool) (hk : R32 k) (hn : R32 n) (h : ∀ g' : Mem, MS g' tN tX flt u v kn kL im sd (if ((k = 0 ∧ 0 ≤ n ∧ n ≤ 5) ∨ (k = 1 ∧ 1 ≤ n ∧ n ≤ 9)) ∧ ln < 6 then ln + 1 else ln) (if ((k = 0 ∧ 0 ≤ n ∧ n ≤ 5) ∨ (k = 1 ∧ 1 ≤ n ∧ n ≤ 9)) ∧ ln < 6 then (fun i => if i = ln then oldN k n else la i) else la) (if ((k = 0 ∧ 0 ≤ n ∧ n ≤ 5) ∨ (k = 1 ∧ 1 ≤ n ∧ n ≤ 9)) ∧ ln < 6 then (fun i => if i = ln then y else lr i) else lr) bn bp bf → FrM g g' → K (E_old ln k n) g') : EI X (d + 1) mX11_old [vr 166, vi k, vi n, vi (b01 y)] Z0 g K := by
  show AJ X (d + 1) mX11_old 0 0 (QI Z0 K) 0 0 0 [some (vr 166), some (vi k), some (vi n), some (vi (b01 y))] [] Z0 g
  obtain ⟨⟨m1, m2⟩, m3, m4, m5, ⟨m6, m7⟩, m8, m9, ⟨m10, m11⟩, ⟨m12, m13⟩⟩ := id hM
  obtain ⟨⟨s1, s2⟩, s3, s4, s5, ⟨s6, s7⟩, s8, ⟨s9, s10⟩, ⟨s11, s12⟩, ⟨s13, s14⟩⟩ := id hS
  have hB : MB g u v := ⟨m4, s4, m5, s5⟩
  obtain ⟨hQ, hU, hC, hW⟩ := id hB
  obtain ⟨hy, hi, hc, ht, ho, hf, hw_⟩ := id hC
  obtain ⟨w0, w1, w2, w3, w4, w5, w6, w7⟩ := id hW
  obtain ⟨p6, p7, p8, p9, p10, pk, pg, px, py⟩ := id hQ
  obtain ⟨u0, u1, u2, u3, u4, u5, u6, u7⟩ := id hU
  refine r_iload_n (pc' := 1) dX11_old_0 rfl rfl ?_
  refine r_iconst (pc' := 2) dX11_old_1 rfl ?_
  refine r_iconst (pc' := 3) dX11_old_2 rfl ?_
  refine r_si3 (pc' := 6) dX11_old_3 rfl qX11_in lX11_67 rfl rfl rfl (Nat.zero_le _) (Nat.zero_le _) (m_in k 0 1 (by omega) (by omega) (by omega) ?_)
  refine r_if_eq (tgt := 35) (pc' := 9) dX11_old_6 rfl rfl (b01_R _) (fun c6 => ?_) (fun c6 => ?_)
  · have hd6 := of_decide_eq_false (b01_eq c6)
    refine r_ldc (z := -1000000002) (pc' := 37) dX11_old_35 rfl kX11_71 ?_
    refine r_reti dX11_old_37 rfl (Or.inl rfl) ?_
    have hno : ¬ (((k = 0 ∧ 0 ≤ n ∧ n ≤ 5) ∨ (k = 1 ∧ 1 ≤ n ∧ n ≤ 9)) ∧ ln < 6) := by omega
    have h9 := h g (by simp only [if_neg hno]; exact hM) (FrM.rf g)
    unfold E_old at h9
    rw [if_neg (by omega)] at h9
    exact h9
  · have hd6 := of_decide_eq_true (b01_ne c6)
    refine r_iload_n (pc' := 10) dX11_old_9 rfl rfl ?_
    refine r_iload_n (pc' := 11) dX11_old_10 rfl rfl ?_
    refine r_if_ne (tgt := 18) (pc' := 14) dX11_old_11 rfl rfl (by omega) (fun c11 => ?_) (fun c11 => ?_)
    · refine r_iconst (pc' := 19) dX11_old_18 rfl ?_
      refine r_iload_n (pc' := 20) dX11_old_19 rfl rfl ?_
      refine r_if_ne (tgt := 27) (pc' := 23) dX11_old_20 rfl rfl (by omega) (fun c20 => ?_) (fun c20 => ?_)
      · refine r_bipush (pc' := 29) dX11_old_27 rfl (by decide) ?_
        refine r_si3 (pc' := 32) dX11_old_29 rfl qX11_in lX11_67 rfl rfl rfl (Nat.zero_le _) (Nat.zero_le _) (m_in n _ _ (by omega) (by decide) (by decide) ?_)
        refine r_if_ne (tgt := 38) (pc' := 35) dX11_old_32 rfl rfl (b01_R _) (fun c32 => ?_) (fun c32 => ?_)
        · have hd32 := of_decide_eq_true (b01_ne c32)
          refine r_aload_n (pc' := 39) dX11_old_38 rfl rfl ?_
          refine r_getf (pc' := 42) (kI := 11) dX11_old_39 rfl fX11_112 z166 rfl rfl m10 ?_
          refine r_bipush (pc' := 44) dX11_old_42 rfl (by decide) ?_
          refine r_icmp_ne (tgt := 50) (pc' := 47) dX11_old_44 rfl rfl (by omega) (by omega) (fun c44 => ?_) (fun c44 => ?_)
          · refine r_aload_n (pc' := 51) dX11_old_50 rfl rfl ?_
            refine r_getr (pc' := 54) dX11_old_51 rfl fX11_32 z166 rfl ?_
            refine r_iconst (pc' := 55) dX11_old_54 rfl ?_
            refine r_aload_n (pc' := 56) dX11_old_55 rfl rfl ?_
            refine r_getf (pc' := 59) (kI := 11) dX11_old_56 rfl fX11_112 z166 rfl rfl m10 ?_
            refine r_imul (pc' := 60) dX11_old_59 rfl ?_
            refine r_iload_n (pc' := 61) dX11_old_60 rfl rfl ?_
            refine r_iastore (pc' := 62) dX11_old_61 rfl z174 (by decide) (by omega) (by omega) rfl ?_
            refine r_aload_n (pc' := 63) dX11_old_62 rfl rfl ?_
            refine r_getr (pc' := 66) dX11_old_63 rfl fX11_32 z166 rfl ?_
            refine r_iconst (pc' := 67) dX11_old_66 rfl ?_
            refine r_aload_n (pc' := 68) dX11_old_67 rfl rfl ?_
            refine r_getf (pc' := 71) (kI := 11) (x := (ln : Int)) dX11_old_68 rfl fX11_112 z166 rfl rfl (by rw [mu_ne (by decide)]; exact m10) ?_
            refine r_imul (pc' := 72) dX11_old_71 rfl ?_
            refine r_iconst (pc' := 73) dX11_old_72 rfl ?_
            refine r_iadd (pc' := 74) dX11_old_73 rfl ?_
            refine r_iload_n (pc' := 75) dX11_old_74 rfl rfl ?_
            refine r_iastore (pc' := 76) dX11_old_75 rfl z174 (by decide) (by omega) (by omega) rfl ?_
            refine r_aload_n (pc' := 77) dX11_old_76 rfl rfl ?_
            refine r_getr (pc' := 80) dX11_old_77 rfl fX11_32 z166 rfl ?_
            refine r_iconst (pc' := 81) dX11_old_80 rfl ?_
            refine r_aload_n (pc' := 82) dX11_old_81 rfl rfl ?_
            refine r_getf (pc' := 85) (kI := 11) (x := (ln : Int)) dX11_old_82 rfl fX11_112 z166 rfl rfl (by rw [mu_ne (by decide), mu_ne (by decide)]; exact m10) ?_
            refine r_imul (pc' := 86) dX11_old_85 rfl ?_
            refine r_iconst (pc' := 87) dX11_old_86 rfl ?_
            refine r_iadd (pc' := 88) dX11_old_87 rfl ?_
            refine r_iload_n (pc' := 89) dX11_old_88 rfl rfl ?_
            refine r_if_eq (tgt := 96) (pc' := 92) dX11_old_89 rfl rfl (b01_R _) (fun c89 => ?_) (fun c89 => ?_)
            · refine r_iconst (pc' := 97) dX11_old_96 rfl ?_
              refine r_iastore (pc' := 98) dX11_old_97 rfl z174 (by decide) (by omega) (by omega) rfl ?_
              refine r_aload_n (pc' := 99) dX11_old_98 rfl rfl ?_
              refine r_dup (pc' := 100) dX11_old_99 rfl rfl ?_
              refine r_getf (pc' := 103) (kI := 11) (x := (ln : Int)) dX11_old_100 rfl fX11_112 z166 rfl rfl (by rw [mu_ne (by decide), mu_ne (by decide), mu_ne (by decide)]; exact m10) ?_
              refine r_iconst (pc' := 104) dX11_old_103 rfl ?_
              refine r_iadd (pc' := 105) dX11_old_104 rfl ?_
              refine r_putf (pc' := 108) (kI := 11) dX11_old_105 rfl fX11_112 z166 rfl (Or.inl rfl) rfl rfl ?_
              refine r_aload_n (pc' := 109) dX11_old_108 rfl rfl ?_
              refine r_getf (pc' := 112) (kI := 11) (x := (ln : Int) + 1) dX11_old_109 rfl fX11_112 z166 rfl rfl mu_at ?_
              refine r_reti dX11_old_112 rfl (Or.inl rfl) ?_
              first
                | (exfalso; omega)
                | (first
                     | (have hyb : y = false := by first | exact b01_eq c89 | exact b01_ne c89
                        have hok : ((k = 0 ∧ 0 ≤ n ∧ n ≤ 5) ∨ (k = 1 ∧ 1 ≤ n ∧ n ≤ 9)) ∧ ln < 6 := by omega
                        have q : ∀ j, j ≠ 166 → j ≠ 174 → mu (mu (mu (mu g 174 (3 * (ln : Int)) k) 174 (3 * (ln : Int) + 1) n) 174 (3 * (ln : Int) + 2) 0) 166 11 ((ln : Int) + 1) j = g j := fun j a b => by rw [mu_ne a, mu_ne b, mu_ne b, mu_ne b]
                        have r : ∀ k_, k_ ≠ 11 → mu (mu (mu (mu g 174 (3 * (ln : Int)) k) 174 (3 * (ln : Int) + 1) n) 174 (3 * (ln : Int) + 2) 0) 166 11 ((ln : Int) + 1) 166 k_ = g 166 k_ := fun k_ a => by rw [mu_at' a, mu_ne (by decide), mu_ne (by decide), mu_ne (by decide)]
                        have ho1 : ((oldN k n / 10 : Nat) : Int) = k ∧ ((oldN k n % 10 : Nat) : Int) = n := by
                          unfold oldN
                          split <;> omega
                        have hlk : ∀ i : Nat, i < ln + 1 → (mu (mu (mu (mu g 174 (3 * (ln : Int)) k) 174 (3 * (ln : Int) + 1) n) 174 (3 * (ln : Int) + 2) 0) 166 11 ((ln : Int) + 1)) 174 (3 * i) = (((if i = ln then oldN k n else la i) / 10 : Nat) : Int) ∧ (mu (mu (mu (mu g 174 (3 * (ln : Int)) k) 174 (3 * (ln : Int) + 1) n) 174 (3 * (ln : Int) + 2) 0) 166 11 ((ln : Int) + 1)) 174 (3 * i + 1) = (((if i = ln then oldN k n else la i) % 10 : Nat) : Int) ∧ (mu (mu (mu (mu g 174 (3 * (ln : Int)) k) 174 (3 * (ln : Int) + 1) n) 174 (3 * (ln : Int) + 2) 0) 166 11 ((ln : Int) + 1)) 174 (3 * i + 2) = b01 (if i = ln then y else lr i) := fun i hi => by
                          rw [mu_ne (by decide)]
                          by_cases e : i = ln
                          · subst e
                            simp only [if_true]
                            rw [mu_at' (by omega), mu_at' (by omega), mu_at, mu_at' (by omega), mu_at, mu_at, hyb]
                            exact ⟨ho1.1.symm, ho1.2.symm, rfl⟩
                          · simp only [if_neg e]
                            rw [mu_at' (by omega), mu_at' (by omega), mu_at' (by omega), mu_at' (by omega), mu_at' (by omega), mu_at' (by omega), mu_at' (by omega), mu_at' (by omega), mu_at' (by omega)]
                            exact m11 i (by omega)
                        have h9 := h _ (by simp only [if_pos hok]; exact ⟨⟨(r 1 (by decide)).trans m1, fun k hk => (congrFun (q 167 (by decide) (by decide)) _).trans (m2 k hk)⟩, (r 15 (by decide)).trans m3, m4.fr (q 168 (by decide) (by decide)), m5.fr (q 170 (by decide) (by decide)), ⟨(r 6 (by decide)).trans m6, fun j hj => (m7 j hj).fr (q 171 (by decide) (by decide))⟩, MIm.fr m8 (q 172 (by decide) (by decide)) (q 173 (by decide) (by decide)), (r 9 (by decide)).trans m9, ⟨by rw [mu_at]; omega, hlk⟩, ⟨(r 13 (by decide)).trans m12, fun i hi => by rw [q 175 (by decide) (by decide)]; exact m13 i hi⟩⟩) ((FrM.row (by decide) (by decide)).tr ((FrM.row (by decide) (by decide)).tr ((FrM.row (by decide) (by decide)).tr (FrM.fld (by decide)))))
                        unfold E_old at h9
                        rw [if_pos (by omega), if_pos (by omega)] at h9
                        exact h9)
                     | (have hyb : y = true := by first | exact b01_eq c89 | exact b01_ne c89
                        have hok : ((k = 0 ∧ 0 ≤ n ∧ n ≤ 5) ∨ (k = 1 ∧ 1 ≤ n ∧ n ≤ 9)) ∧ ln < 6 := by omega
                        have q : ∀ j, j ≠ 166 → j ≠ 174 → mu (mu (mu (mu g 174 (3 * (ln : Int)) k) 174 (3 * (ln : Int) + 1) n) 174 (3 * (ln : Int) + 2) 1) 166 11 ((ln : Int) + 1) j = g j := fun j a b => by rw [mu_ne a, mu_ne b, mu_ne b, mu_ne b]
                        have r : ∀ k_, k_ ≠ 11 → mu (mu (mu (mu g 174 (3 * (ln : Int)) k) 174 (3 * (ln : Int) + 1) n) 174 (3 * (ln : Int) + 2) 1) 166 11 ((ln : Int) + 1) 166 k_ = g 166 k_ := fun k_ a => by rw [mu_at' a, mu_ne (by decide), mu_ne (by decide), mu_ne (by decide)]
                        have ho1 : ((oldN k n / 10 : Nat) : Int) = k ∧ ((oldN k n % 10 : Nat) : Int) = n := by
                          unfold oldN
                          split <;> omega
                        have hlk : ∀ i : Nat, i < ln + 1 → (mu (mu (mu (mu g 174 (3 * (ln : Int)) k) 174 (3 * (ln : Int) + 1) n) 174 (3 * (ln : Int) + 2) 1) 166 11 ((ln : Int) + 1)) 174 (3 * i) = (((if i = ln then oldN k n else la i) / 10 : Nat) : Int) ∧ (mu (mu (mu (mu g 174 (3 * (ln : Int)) k) 174 (3 * (ln : Int) + 1) n) 174 (3 * (ln : Int) + 2) 1) 166 11 ((ln : Int) + 1)) 174 (3 * i + 1) = (((if i = ln then oldN k n else la i) % 10 : Nat) : Int) ∧ (mu (mu (mu (mu g 174 (3 * (ln : Int)) k) 174 (3 * (ln : Int) + 1) n) 174 (3 * (ln : Int) + 2) 1) 166 11 ((ln : Int) + 1)) 174 (3 * i + 2) = b01 (if i = ln then y else lr i) := fun i hi => by
                          rw [mu_ne (by decide)]
                          by_cases e : i = ln
                          · subst e
                            simp only [if_true]
                            rw [mu_at' (by omega), mu_at' (by omega), mu_at, mu_at' (by omega), mu_at, mu_at, hyb]
                            exact ⟨ho1.1.symm, ho1.2.symm, rfl⟩
                          · simp only [if_neg e]
                            rw [mu_at' (by omega), mu_at' (by omega), mu_at' (by omega), mu_at' (by omega), mu_at' (by omega), mu_at' (by omega), mu_at' (by omega), mu_at' (by omega), mu_at' (by omega)]
                            exact m11 i (by omega)
                        have h9 := h _ (by simp only [if_pos hok]; exact ⟨⟨(r 1 (by decide)).trans m1, fun k hk => (congrFun (q 167 (by decide) (by decide)) _).trans (m2 k hk)⟩, (r 15 (by decide)).trans m3, m4.fr (q 168 (by decide) (by decide)), m5.fr (q 170 (by decide) (by decide)), ⟨(r 6 (by decide)).trans m6, fun j hj => (m7 j hj).fr (q 171 (by decide) (by decide))⟩, MIm.fr m8 (q 172 (by decide) (by decide)) (q 173 (by decide) (by decide)), (r 9 (by decide)).trans m9, ⟨by rw [mu_at]; omega, hlk⟩, ⟨(r 13 (by decide)).trans m12, fun i hi => by rw [q 175 (by decide) (by decide)]; exact m13 i hi⟩⟩) ((FrM.row (by decide) (by decide)).tr ((FrM.row (by decide) (by decide)).tr ((FrM.row (by decide) (by decide)).tr (FrM.fld (by decide)))))
                        unfold E_old at h9
                        rw [if_pos (by omega), if_pos (by omega)] at h9
                        exact h9))
            · refine r_iconst (pc' := 93) dX11_old_92 rfl ?_
              refine r_goto (tgt := 97) dX11_old_93 rfl ?_
              refine r_iastore (pc' := 98) dX11_old_97 rfl z174 (by decide) (by omega) (by omega) rfl ?_
              refine r_aload_n (pc' := 99) dX11_old_98 rfl rfl ?_
              refine r_dup (pc' := 100) dX11_old_99 rfl rfl ?_
              refine r_getf (pc' := 103) (kI := 11) (x := (ln : Int)) dX11_old_100 rfl fX11_112 z166 rfl rfl (by rw [mu_ne (by decide), mu_ne (by decide), mu_ne (by decide)]; exact m10) ?_
              refine r_iconst (pc' := 104) dX11_old_103 rfl ?_
              refine r_iadd (pc' := 105) dX11_old_104 rfl ?_
              refine r_putf (pc' := 108) (kI := 11) dX11_old_105 rfl fX11_112 z166 rfl (Or.inl rfl) rfl rfl ?_
              refine r_aload_n (pc' := 109) dX11_old_108 rfl rfl ?_
              refine r_getf (pc' := 112) (kI := 11) (x := (ln : Int) + 1) dX11_old_109 rfl fX11_112 z166 rfl rfl mu_at ?_
              refine r_reti dX11_old_112 rfl (Or.inl rfl) ?_
              first
                | (exfalso; omega)
                | (first
                     | (have hyb : y = false := by first | exact b01_eq c89 | exact b01_ne c89
                        have hok : ((k = 0 ∧ 0 ≤ n ∧ n ≤ 5) ∨ (k = 1 ∧ 1 ≤ n ∧ n ≤ 9)) ∧ ln < 6 := by omega
                        have q : ∀ j, j ≠ 166 → j ≠ 174 → mu (mu (mu (mu g 174 (3 * (ln : Int)) k) 174 (3 * (ln : Int) + 1) n) 174 (3 * (ln : Int) + 2) 0) 166 11 ((ln : Int) + 1) j = g j := fun j a b => by rw [mu_ne a, mu_ne b, mu_ne b, mu_ne b]
                        have r : ∀ k_, k_ ≠ 11 → mu (mu (mu (mu g 174 (3 * (ln : Int)) k) 174 (3 * (ln : Int) + 1) n) 174 (3 * (ln : Int) + 2) 0) 166 11 ((ln : Int) + 1) 166 k_ = g 166 k_ := fun k_ a => by rw [mu_at' a, mu_ne (by decide), mu_ne (by decide), mu_ne (by decide)]
                        have ho1 : ((oldN k n / 10 : Nat) : Int) = k ∧ ((oldN k n % 10 : Nat) : Int) = n := by
                          unfold oldN
                          split <;> omega
                        have hlk : ∀ i : Nat, i < ln + 1 → (mu (mu (mu (mu g 174 (3 * (ln : Int)) k) 174 (3 * (ln : Int) + 1) n) 174 (3 * (ln : Int) + 2) 0) 166 11 ((ln : Int) + 1)) 174 (3 * i) = (((if i = ln then oldN k n else la i) / 10 : Nat) : Int) ∧ (mu (mu (mu (mu g 174 (3 * (ln : Int)) k) 174 (3 * (ln : Int) + 1) n) 174 (3 * (ln : Int) + 2) 0) 166 11 ((ln : Int) + 1)) 174 (3 * i + 1) = (((if i = ln then oldN k n else la i) % 10 : Nat) : Int) ∧ (mu (mu (mu (mu g 174 (3 * (ln : Int)) k) 174 (3 * (ln : Int) + 1) n) 174 (3 * (ln : Int) + 2) 0) 166 11 ((ln : Int) + 1)) 174 (3 * i + 2) = b01 (if i = ln then y else lr i) := fun i hi => by
                          rw [mu_ne (by decide)]
                          by_cases e : i = ln
                          · subst e
                            simp only [if_true]
                            rw [mu_at' (by omega), mu_at' (by omega), mu_at, mu_at' (by omega), mu_at, mu_at, hyb]
                            exact ⟨ho1.1.symm, ho1.2.symm, rfl⟩
                          · simp only [if_neg e]
                            rw [mu_at' (by omega), mu_at' (by omega), mu_at' (by omega), mu_at' (by omega), mu_at' (by omega), mu_at' (by omega), mu_at' (by omega), mu_at' (by omega), mu_at' (by omega)]
                            exact m11 i (by omega)
                        have h9 := h _ (by simp only [if_pos hok]; exact ⟨⟨(r 1 (by decide)).trans m1, fun k hk => (congrFun (q 167 (by decide) (by decide)) _).trans (m2 k hk)⟩, (r 15 (by decide)).trans m3, m4.fr (q 168 (by decide) (by decide)), m5.fr (q 170 (by decide) (by decide)), ⟨(r 6 (by decide)).trans m6, fun j hj => (m7 j hj).fr (q 171 (by decide) (by decide))⟩, MIm.fr m8 (q 172 (by decide) (by decide)) (q 173 (by decide) (by decide)), (r 9 (by decide)).trans m9, ⟨by rw [mu_at]; omega, hlk⟩, ⟨(r 13 (by decide)).trans m12, fun i hi => by rw [q 175 (by decide) (by decide)]; exact m13 i hi⟩⟩) ((FrM.row (by decide) (by decide)).tr ((FrM.row (by decide) (by decide)).tr ((FrM.row (by decide) (by decide)).tr (FrM.fld (by decide)))))
                        unfold E_old at h9
                        rw [if_pos (by omega), if_pos (by omega)] at h9
                        exact h9)
                     | (have hyb : y = true := by first | exact b01_eq c89 | exact b01_ne c89
                        have hok : ((k = 0 ∧ 0 ≤ n ∧ n ≤ 5) ∨ (k = 1 ∧ 1 ≤ n ∧ n ≤ 9)) ∧ ln < 6 := by omega
                        have q : ∀ j, j ≠ 166 → j ≠ 174 → mu (mu (mu (mu g 174 (3 * (ln : Int)) k) 174 (3 * (ln : Int) + 1) n) 174 (3 * (ln : Int) + 2) 1) 166 11 ((ln : Int) + 1) j = g j := fun j a b => by rw [mu_ne a, mu_ne b, mu_ne b, mu_ne b]
                        have r : ∀ k_, k_ ≠ 11 → mu (mu (mu (mu g 174 (3 * (ln : Int)) k) 174 (3 * (ln : Int) + 1) n) 174 (3 * (ln : Int) + 2) 1) 166 11 ((ln : Int) + 1) 166 k_ = g 166 k_ := fun k_ a => by rw [mu_at' a, mu_ne (by decide), mu_ne (by decide), mu_ne (by decide)]
                        have ho1 : ((oldN k n / 10 : Nat) : Int) = k ∧ ((oldN k n % 10 : Nat) : Int) = n := by
                          unfold oldN
                          split <;> omega
                        have hlk : ∀ i : Nat, i < ln + 1 → (mu (mu (mu (mu g 174 (3 * (ln : Int)) k) 174 (3 * (ln : Int) + 1) n) 174 (3 * (ln : Int) + 2) 1) 166 11 ((ln : Int) + 1)) 174 (3 * i) = (((if i = ln then oldN k n else la i) / 10 : Nat) : Int) ∧ (mu (mu (mu (mu g 174 (3 * (ln : Int)) k) 174 (3 * (ln : Int) + 1) n) 174 (3 * (ln : Int) + 2) 1) 166 11 ((ln : Int) + 1)) 174 (3 * i + 1) = (((if i = ln then oldN k n else la i) % 10 : Nat) : Int) ∧ (mu (mu (mu (mu g 174 (3 * (ln : Int)) k) 174 (3 * (ln : Int) + 1) n) 174 (3 * (ln : Int) + 2) 1) 166 11 ((ln : Int) + 1)) 174 (3 * i + 2) = b01 (if i = ln then y else lr i) := fun i hi => by
                          rw [mu_ne (by decide)]
                          by_cases e : i = ln
                          · subst e
                            simp only [if_true]
                            rw [mu_at' (by omega), mu_at' (by omega), mu_at, mu_at' (by omega), mu_at, mu_at, hyb]
                            exact ⟨ho1.1.symm, ho1.2.symm, rfl⟩
                          · simp only [if_neg e]
                            rw [mu_at' (by omega), mu_at' (by omega), mu_at' (by omega), mu_at' (by omega), mu_at' (by omega), mu_at' (by omega), mu_at' (by omega), mu_at' (by omega), mu_at' (by omega)]
                            exact m11 i (by omega)
                        have h9 := h _ (by simp only [if_pos hok]; exact ⟨⟨(r 1 (by decide)).trans m1, fun k hk => (congrFun (q 167 (by decide) (by decide)) _).trans (m2 k hk)⟩, (r 15 (by decide)).trans m3, m4.fr (q 168 (by decide) (by decide)), m5.fr (q 170 (by decide) (by decide)), ⟨(r 6 (by decide)).trans m6, fun j hj => (m7 j hj).fr (q 171 (by decide) (by decide))⟩, MIm.fr m8 (q 172 (by decide) (by decide)) (q 173 (by decide) (by decide)), (r 9 (by decide)).trans m9, ⟨by rw [mu_at]; omega, hlk⟩, ⟨(r 13 (by decide)).trans m12, fun i hi => by rw [q 175 (by decide) (by decide)]; exact m13 i hi⟩⟩) ((FrM.row (by decide) (by decide)).tr ((FrM.row (by decide) (by decide)).tr ((FrM.row (by decide) (by decide)).tr (FrM.fld (by decide)))))
                        unfold E_old at h9
                        rw [if_pos (by omega), if_pos (by omega)] at h9
                        exact h9))
          · refine r_ldc (z := -1000000004) (pc' := 49) dX11_old_47 rfl kX11_75 ?_
            refine r_reti dX11_old_49 rfl (Or.inl rfl) ?_
            have hno : ¬ (((k = 0 ∧ 0 ≤ n ∧ n ≤ 5) ∨ (k = 1 ∧ 1 ≤ n ∧ n ≤ 9)) ∧ ln < 6) := by omega
            have h9 := h g (by simp only [if_neg hno]; exact hM) (FrM.rf g)
            unfold E_old at h9
            first | (exfalso; omega) | (rw [if_pos (by omega), if_neg (by omega)] at h9; exact h9)
        · have hd32 := of_decide_eq_false (b01_eq c32)
          refine r_ldc (z := -1000000002) (pc' := 37) dX11_old_35 rfl kX11_71 ?_
          refine r_reti dX11_old_37 rfl (Or.inl rfl) ?_
          have hno : ¬ (((k = 0 ∧ 0 ≤ n ∧ n ≤ 5) ∨ (k = 1 ∧ 1 ≤ n ∧ n ≤ 9)) ∧ ln < 6) := by omega
          have h9 := h g (by simp only [if_neg hno]; exact hM) (FrM.rf g)
          unfold E_old at h9
          rw [if_neg (by omega)] at h9
          exact h9
      · refine r_iconst (pc' := 24) dX11_old_23 rfl ?_
        refine r_goto (tgt := 29) dX11_old_24 rfl ?_
        refine r_si3 (pc' := 32) dX11_old_29 rfl qX11_in lX11_67 rfl rfl rfl (Nat.zero_le _) (Nat.zero_le _) (m_in n _ _ (by omega) (by decide) (by decide) ?_)
        refine r_if_ne (tgt := 38) (pc' := 35) dX11_old_32 rfl rfl (b01_R _) (fun c32 => ?_) (fun c32 => ?_)
        · have hd32 := of_decide_eq_true (b01_ne c32)
          refine r_aload_n (pc' := 39) dX11_old_38 rfl rfl ?_
          refine r_getf (pc' := 42) (kI := 11) dX11_old_39 rfl fX11_112 z166 rfl rfl m10 ?_
          refine r_bipush (pc' := 44) dX11_old_42 rfl (by decide) ?_
          refine r_icmp_ne (tgt := 50) (pc' := 47) dX11_old_44 rfl rfl (by omega) (by omega) (fun c44 => ?_) (fun c44 => ?_)
          · refine r_aload_n (pc' := 51) dX11_old_50 rfl rfl ?_
            refine r_getr (pc' := 54) dX11_old_51 rfl fX11_32 z166 rfl ?_
            refine r_iconst (pc' := 55) dX11_old_54 rfl ?_
            refine r_aload_n (pc' := 56) dX11_old_55 rfl rfl ?_
            refine r_getf (pc' := 59) (kI := 11) dX11_old_56 rfl fX11_112 z166 rfl rfl m10 ?_
            refine r_imul (pc' := 60) dX11_old_59 rfl ?_
            refine r_iload_n (pc' := 61) dX11_old_60 rfl rfl ?_
            refine r_iastore (pc' := 62) dX11_old_61 rfl z174 (by decide) (by omega) (by omega) rfl ?_
            refine r_aload_n (pc' := 63) dX11_old_62 rfl rfl ?_
            refine r_getr (pc' := 66) dX11_old_63 rfl fX11_32 z166 rfl ?_
            refine r_iconst (pc' := 67) dX11_old_66 rfl ?_
            refine r_aload_n (pc' := 68) dX11_old_67 rfl rfl ?_
            refine r_getf (pc' := 71) (kI := 11) (x := (ln : Int)) dX11_old_68 rfl fX11_112 z166 rfl rfl (by rw [mu_ne (by decide)]; exact m10) ?_
            refine r_imul (pc' := 72) dX11_old_71 rfl ?_
            refine r_iconst (pc' := 73) dX11_old_72 rfl ?_
            refine r_iadd (pc' := 74) dX11_old_73 rfl ?_
            refine r_iload_n (pc' := 75) dX11_old_74 rfl rfl ?_
            refine r_iastore (pc' := 76) dX11_old_75 rfl z174 (by decide) (by omega) (by omega) rfl ?_
            refine r_aload_n (pc' := 77) dX11_old_76 rfl rfl ?_
            refine r_getr (pc' := 80) dX11_old_77 rfl fX11_32 z166 rfl ?_
            refine r_iconst (pc' := 81) dX11_old_80 rfl ?_
            refine r_aload_n (pc' := 82) dX11_old_81 rfl rfl ?_
            refine r_getf (pc' := 85) (kI := 11) (x := (ln : Int)) dX11_old_82 rfl fX11_112 z166 rfl rfl (by rw [mu_ne (by decide), mu_ne (by decide)]; exact m10) ?_
            refine r_imul (pc' := 86) dX11_old_85 rfl ?_
            refine r_iconst (pc' := 87) dX11_old_86 rfl ?_
            refine r_iadd (pc' := 88) dX11_old_87 rfl ?_
            refine r_iload_n (pc' := 89) dX11_old_88 rfl rfl ?_
            refine r_if_eq (tgt := 96) (pc' := 92) dX11_old_89 rfl rfl (b01_R _) (fun c89 => ?_) (fun c89 => ?_)
            · refine r_iconst (pc' := 97) dX11_old_96 rfl ?_
              refine r_iastore (pc' := 98) dX11_old_97 rfl z174 (by decide) (by omega) (by omega) rfl ?_
              refine r_aload_n (pc' := 99) dX11_old_98 rfl rfl ?_
              refine r_dup (pc' := 100) dX11_old_99 rfl rfl ?_
              refine r_getf (pc' := 103) (kI := 11) (x := (ln : Int)) dX11_old_100 rfl fX11_112 z166 rfl rfl (by rw [mu_ne (by decide), mu_ne (by decide), mu_ne (by decide)]; exact m10) ?_
              refine r_iconst (pc' := 104) dX11_old_103 rfl ?_
              refine r_iadd (pc' := 105) dX11_old_104 rfl ?_
              refine r_putf (pc' := 108) (kI := 11) dX11_old_105 rfl fX11_112 z166 rfl (Or.inl rfl) rfl rfl ?_
              refine r_aload_n (pc' := 109) dX11_old_108 rfl rfl ?_
              refine r_getf (pc' := 112) (kI := 11) (x := (ln : Int) + 1) dX11_old_109 rfl fX11_112 z166 rfl rfl mu_at ?_
              refine r_reti dX11_old_112 rfl (Or.inl rfl) ?_
              first
                | (exfalso; omega)
                | (first
                     | (have hyb : y = false := by first | exact b01_eq c89 | exact b01_ne c89
                        have hok : ((k = 0 ∧ 0 ≤ n ∧ n ≤ 5) ∨ (k = 1 ∧ 1 ≤ n ∧ n ≤ 9)) ∧ ln < 6 := by omega
                        have q : ∀ j, j ≠ 166 → j ≠ 174 → mu (mu (mu (mu g 174 (3 * (ln : Int)) k) 174 (3 * (ln : Int) + 1) n) 174 (3 * (ln : Int) + 2) 0) 166 11 ((ln : Int) + 1) j = g j := fun j a b => by rw [mu_ne a, mu_ne b, mu_ne b, mu_ne b]
                        have r : ∀ k_, k_ ≠ 11 → mu (mu (mu (mu g 174 (3 * (ln : Int)) k) 174 (3 * (ln : Int) + 1) n) 174 (3 * (ln : Int) + 2) 0) 166 11 ((ln : Int) + 1) 166 k_ = g 166 k_ := fun k_ a => by rw [mu_at' a, mu_ne (by decide), mu_ne (by decide), mu_ne (by decide)]
                        have ho1 : ((oldN k n / 10 : Nat) : Int) = k ∧ ((oldN k n % 10 : Nat) : Int) = n := by
                          unfold oldN
                          split <;> omega
                        have hlk : ∀ i : Nat, i < ln + 1 → (mu (mu (mu (mu g 174 (3 * (ln : Int)) k) 174 (3 * (ln : Int) + 1) n) 174 (3 * (ln : Int) + 2) 0) 166 11 ((ln : Int) + 1)) 174 (3 * i) = (((if i = ln then oldN k n else la i) / 10 : Nat) : Int) ∧ (mu (mu (mu (mu g 174 (3 * (ln : Int)) k) 174 (3 * (ln : Int) + 1) n) 174 (3 * (ln : Int) + 2) 0) 166 11 ((ln : Int) + 1)) 174 (3 * i + 1) = (((if i = ln then oldN k n else la i) % 10 : Nat) : Int) ∧ (mu (mu (mu (mu g 174 (3 * (ln : Int)) k) 174 (3 * (ln : Int) + 1) n) 174 (3 * (ln : Int) + 2) 0) 166 11 ((ln : Int) + 1)) 174 (3 * i + 2) = b01 (if i = ln then y else lr i) := fun i hi => by
                          rw [mu_ne (by decide)]
                          by_cases e : i = ln
                          · subst e
                            simp only [if_true]
                            rw [mu_at' (by omega), mu_at' (by omega), mu_at, mu_at' (by omega), mu_at, mu_at, hyb]
                            exact ⟨ho1.1.symm, ho1.2.symm, rfl⟩
                          · simp only [if_neg e]
                            rw [mu_at' (by omega), mu_at' (by omega), mu_at' (by omega), mu_at' (by omega), mu_at' (by omega), mu_at' (by omega), mu_at' (by omega), mu_at' (by omega), mu_at' (by omega)]
                            exact m11 i (by omega)
                        have h9 := h _ (by simp only [if_pos hok]; exact ⟨⟨(r 1 (by decide)).trans m1, fun k hk => (congrFun (q 167 (by decide) (by decide)) _).trans (m2 k hk)⟩, (r 15 (by decide)).trans m3, m4.fr (q 168 (by decide) (by decide)), m5.fr (q 170 (by decide) (by decide)), ⟨(r 6 (by decide)).trans m6, fun j hj => (m7 j hj).fr (q 171 (by decide) (by decide))⟩, MIm.fr m8 (q 172 (by decide) (by decide)) (q 173 (by decide) (by decide)), (r 9 (by decide)).trans m9, ⟨by rw [mu_at]; omega, hlk⟩, ⟨(r 13 (by decide)).trans m12, fun i hi => by rw [q 175 (by decide) (by decide)]; exact m13 i hi⟩⟩) ((FrM.row (by decide) (by decide)).tr ((FrM.row (by decide) (by decide)).tr ((FrM.row (by decide) (by decide)).tr (FrM.fld (by decide)))))
                        unfold E_old at h9
                        rw [if_pos (by omega), if_pos (by omega)] at h9
                        exact h9)
                     | (have hyb : y = true := by first | exact b01_eq c89 | exact b01_ne c89
                        have hok : ((k = 0 ∧ 0 ≤ n ∧ n ≤ 5) ∨ (k = 1 ∧ 1 ≤ n ∧ n ≤ 9)) ∧ ln < 6 := by omega
                        have q : ∀ j, j ≠ 166 → j ≠ 174 → mu (mu (mu (mu g 174 (3 * (ln : Int)) k) 174 (3 * (ln : Int) + 1) n) 174 (3 * (ln : Int) + 2) 1) 166 11 ((ln : Int) + 1) j = g j := fun j a b => by rw [mu_ne a, mu_ne b, mu_ne b, mu_ne b]
                        have r : ∀ k_, k_ ≠ 11 → mu (mu (mu (mu g 174 (3 * (ln : Int)) k) 174 (3 * (ln : Int) + 1) n) 174 (3 * (ln : Int) + 2) 1) 166 11 ((ln : Int) + 1) 166 k_ = g 166 k_ := fun k_ a => by rw [mu_at' a, mu_ne (by decide), mu_ne (by decide), mu_ne (by decide)]
                        have ho1 : ((oldN k n / 10 : Nat) : Int) = k ∧ ((oldN k n % 10 : Nat) : Int) = n := by
                          unfold oldN
                          split <;> omega
                        have hlk : ∀ i : Nat, i < ln + 1 → (mu (mu (mu (mu g 174 (3 * (ln : Int)) k) 174 (3 * (ln : Int) + 1) n) 174 (3 * (ln : Int) + 2) 1) 166 11 ((ln : Int) + 1)) 174 (3 * i) = (((if i = ln then oldN k n else la i) / 10 : Nat) : Int) ∧ (mu (mu (mu (mu g 174 (3 * (ln : Int)) k) 174 (3 * (ln : Int) + 1) n) 174 (3 * (ln : Int) + 2) 1) 166 11 ((ln : Int) + 1)) 174 (3 * i + 1) = (((if i = ln then oldN k n else la i) % 10 : Nat) : Int) ∧ (mu (mu (mu (mu g 174 (3 * (ln : Int)) k) 174 (3 * (ln : Int) + 1) n) 174 (3 * (ln : Int) + 2) 1) 166 11 ((ln : Int) + 1)) 174 (3 * i + 2) = b01 (if i = ln then y else lr i) := fun i hi => by
                          rw [mu_ne (by decide)]
                          by_cases e : i = ln
                          · subst e
                            simp only [if_true]
                            rw [mu_at' (by omega), mu_at' (by omega), mu_at, mu_at' (by omega), mu_at, mu_at, hyb]
                            exact ⟨ho1.1.symm, ho1.2.symm, rfl⟩
                          · simp only [if_neg e]
                            rw [mu_at' (by omega), mu_at' (by omega), mu_at' (by omega), mu_at' (by omega), mu_at' (by omega), mu_at' (by omega), mu_at' (by omega), mu_at' (by omega), mu_at' (by omega)]
                            exact m11 i (by omega)
                        have h9 := h _ (by simp only [if_pos hok]; exact ⟨⟨(r 1 (by decide)).trans m1, fun k hk => (congrFun (q 167 (by decide) (by decide)) _).trans (m2 k hk)⟩, (r 15 (by decide)).trans m3, m4.fr (q 168 (by decide) (by decide)), m5.fr (q 170 (by decide) (by decide)), ⟨(r 6 (by decide)).trans m6, fun j hj => (m7 j hj).fr (q 171 (by decide) (by decide))⟩, MIm.fr m8 (q 172 (by decide) (by decide)) (q 173 (by decide) (by decide)), (r 9 (by decide)).trans m9, ⟨by rw [mu_at]; omega, hlk⟩, ⟨(r 13 (by decide)).trans m12, fun i hi => by rw [q 175 (by decide) (by decide)]; exact m13 i hi⟩⟩) ((FrM.row (by decide) (by decide)).tr ((FrM.row (by decide) (by decide)).tr ((FrM.row (by decide) (by decide)).tr (FrM.fld (by decide)))))
                        unfold E_old at h9
                        rw [if_pos (by omega), if_pos (by omega)] at h9
                        exact h9))
            · refine r_iconst (pc' := 93) dX11_old_92 rfl ?_
              refine r_goto (tgt := 97) dX11_old_93 rfl ?_
              refine r_iastore (pc' := 98) dX11_old_97 rfl z174 (by decide) (by omega) (by omega) rfl ?_
              refine r_aload_n (pc' := 99) dX11_old_98 rfl rfl ?_
              refine r_dup (pc' := 100) dX11_old_99 rfl rfl ?_
              refine r_getf (pc' := 103) (kI := 11) (x := (ln : Int)) dX11_old_100 rfl fX11_112 z166 rfl rfl (by rw [mu_ne (by decide), mu_ne (by decide), mu_ne (by decide)]; exact m10) ?_
              refine r_iconst (pc' := 104) dX11_old_103 rfl ?_
              refine r_iadd (pc' := 105) dX11_old_104 rfl ?_
              refine r_putf (pc' := 108) (kI := 11) dX11_old_105 rfl fX11_112 z166 rfl (Or.inl rfl) rfl rfl ?_
              refine r_aload_n (pc' := 109) dX11_old_108 rfl rfl ?_
              refine r_getf (pc' := 112) (kI := 11) (x := (ln : Int) + 1) dX11_old_109 rfl fX11_112 z166 rfl rfl mu_at ?_
              refine r_reti dX11_old_112 rfl (Or.inl rfl) ?_
              first
                | (exfalso; omega)
                | (first
                     | (have hyb : y = false := by first | exact b01_eq c89 | exact b01_ne c89
                        have hok : ((k = 0 ∧ 0 ≤ n ∧ n ≤ 5) ∨ (k = 1 ∧ 1 ≤ n ∧ n ≤ 9)) ∧ ln < 6 := by omega
                        have q : ∀ j, j ≠ 166 → j ≠ 174 → mu (mu (mu (mu g 174 (3 * (ln : Int)) k) 174 (3 * (ln : Int) + 1) n) 174 (3 * (ln : Int) + 2) 0) 166 11 ((ln : Int) + 1) j = g j := fun j a b => by rw [mu_ne a, mu_ne b, mu_ne b, mu_ne b]
                        have r : ∀ k_, k_ ≠ 11 → mu (mu (mu (mu g 174 (3 * (ln : Int)) k) 174 (3 * (ln : Int) + 1) n) 174 (3 * (ln : Int) + 2) 0) 166 11 ((ln : Int) + 1) 166 k_ = g 166 k_ := fun k_ a => by rw [mu_at' a, mu_ne (by decide), mu_ne (by decide), mu_ne (by decide)]
                        have ho1 : ((oldN k n / 10 : Nat) : Int) = k ∧ ((oldN k n % 10 : Nat) : Int) = n := by
                          unfold oldN
                          split <;> omega
                        have hlk : ∀ i : Nat, i < ln + 1 → (mu (mu (mu (mu g 174 (3 * (ln : Int)) k) 174 (3 * (ln : Int) + 1) n) 174 (3 * (ln : Int) + 2) 0) 166 11 ((ln : Int) + 1)) 174 (3 * i) = (((if i = ln then oldN k n else la i) / 10 : Nat) : Int) ∧ (mu (mu (mu (mu g 174 (3 * (ln : Int)) k) 174 (3 * (ln : Int) + 1) n) 174 (3 * (ln : Int) + 2) 0) 166 11 ((ln : Int) + 1)) 174 (3 * i + 1) = (((if i = ln then oldN k n else la i) % 10 : Nat) : Int) ∧ (mu (mu (mu (mu g 174 (3 * (ln : Int)) k) 174 (3 * (ln : Int) + 1) n) 174 (3 * (ln : Int) + 2) 0) 166 11 ((ln : Int) + 1)) 174 (3 * i + 2) = b01 (if i = ln then y else lr i) := fun i hi => by
                          rw [mu_ne (by decide)]
                          by_cases e : i = ln
                          · subst e
                            simp only [if_true]
                            rw [mu_at' (by omega), mu_at' (by omega), mu_at, mu_at' (by omega), mu_at, mu_at, hyb]
                            exact ⟨ho1.1.symm, ho1.2.symm, rfl⟩
                          · simp only [if_neg e]
                            rw [mu_at' (by omega), mu_at' (by omega), mu_at' (by omega), mu_at' (by omega), mu_at' (by omega), mu_at' (by omega), mu_at' (by omega), mu_at' (by omega), mu_at' (by omega)]
                            exact m11 i (by omega)
                        have h9 := h _ (by simp only [if_pos hok]; exact ⟨⟨(r 1 (by decide)).trans m1, fun k hk => (congrFun (q 167 (by decide) (by decide)) _).trans (m2 k hk)⟩, (r 15 (by decide)).trans m3, m4.fr (q 168 (by decide) (by decide)), m5.fr (q 170 (by decide) (by decide)), ⟨(r 6 (by decide)).trans m6, fun j hj => (m7 j hj).fr (q 171 (by decide) (by decide))⟩, MIm.fr m8 (q 172 (by decide) (by decide)) (q 173 (by decide) (by decide)), (r 9 (by decide)).trans m9, ⟨by rw [mu_at]; omega, hlk⟩, ⟨(r 13 (by decide)).trans m12, fun i hi => by rw [q 175 (by decide) (by decide)]; exact m13 i hi⟩⟩) ((FrM.row (by decide) (by decide)).tr ((FrM.row (by decide) (by decide)).tr ((FrM.row (by decide) (by decide)).tr (FrM.fld (by decide)))))
                        unfold E_old at h9
                        rw [if_pos (by omega), if_pos (by omega)] at h9
                        exact h9)
                     | (have hyb : y = true := by first | exact b01_eq c89 | exact b01_ne c89
                        have hok : ((k = 0 ∧ 0 ≤ n ∧ n ≤ 5) ∨ (k = 1 ∧ 1 ≤ n ∧ n ≤ 9)) ∧ ln < 6 := by omega
                        have q : ∀ j, j ≠ 166 → j ≠ 174 → mu (mu (mu (mu g 174 (3 * (ln : Int)) k) 174 (3 * (ln : Int) + 1) n) 174 (3 * (ln : Int) + 2) 1) 166 11 ((ln : Int) + 1) j = g j := fun j a b => by rw [mu_ne a, mu_ne b, mu_ne b, mu_ne b]
                        have r : ∀ k_, k_ ≠ 11 → mu (mu (mu (mu g 174 (3 * (ln : Int)) k) 174 (3 * (ln : Int) + 1) n) 174 (3 * (ln : Int) + 2) 1) 166 11 ((ln : Int) + 1) 166 k_ = g 166 k_ := fun k_ a => by rw [mu_at' a, mu_ne (by decide), mu_ne (by decide), mu_ne (by decide)]
                        have ho1 : ((oldN k n / 10 : Nat) : Int) = k ∧ ((oldN k n % 10 : Nat) : Int) = n := by
                          unfold oldN
                          split <;> omega
                        have hlk : ∀ i : Nat, i < ln + 1 → (mu (mu (mu (mu g 174 (3 * (ln : Int)) k) 174 (3 * (ln : Int) + 1) n) 174 (3 * (ln : Int) + 2) 1) 166 11 ((ln : Int) + 1)) 174 (3 * i) = (((if i = ln then oldN k n else la i) / 10 : Nat) : Int) ∧ (mu (mu (mu (mu g 174 (3 * (ln : Int)) k) 174 (3 * (ln : Int) + 1) n) 174 (3 * (ln : Int) + 2) 1) 166 11 ((ln : Int) + 1)) 174 (3 * i + 1) = (((if i = ln then oldN k n else la i) % 10 : Nat) : Int) ∧ (mu (mu (mu (mu g 174 (3 * (ln : Int)) k) 174 (3 * (ln : Int) + 1) n) 174 (3 * (ln : Int) + 2) 1) 166 11 ((ln : Int) + 1)) 174 (3 * i + 2) = b01 (if i = ln then y else lr i) := fun i hi => by
                          rw [mu_ne (by decide)]
                          by_cases e : i = ln
                          · subst e
                            simp only [if_true]
                            rw [mu_at' (by omega), mu_at' (by omega), mu_at, mu_at' (by omega), mu_at, mu_at, hyb]
                            exact ⟨ho1.1.symm, ho1.2.symm, rfl⟩
                          · simp only [if_neg e]
                            rw [mu_at' (by omega), mu_at' (by omega), mu_at' (by omega), mu_at' (by omega), mu_at' (by omega), mu_at' (by omega), mu_at' (by omega), mu_at' (by omega), mu_at' (by omega)]
                            exact m11 i (by omega)
                        have h9 := h _ (by simp only [if_pos hok]; exact ⟨⟨(r 1 (by decide)).trans m1, fun k hk => (congrFun (q 167 (by decide) (by decide)) _).trans (m2 k hk)⟩, (r 15 (by decide)).trans m3, m4.fr (q 168 (by decide) (by decide)), m5.fr (q 170 (by decide) (by decide)), ⟨(r 6 (by decide)).trans m6, fun j hj => (m7 j hj).fr (q 171 (by decide) (by decide))⟩, MIm.fr m8 (q 172 (by decide) (by decide)) (q 173 (by decide) (by decide)), (r 9 (by decide)).trans m9, ⟨by rw [mu_at]; omega, hlk⟩, ⟨(r 13 (by decide)).trans m12, fun i hi => by rw [q 175 (by decide) (by decide)]; exact m13 i hi⟩⟩) ((FrM.row (by decide) (by decide)).tr ((FrM.row (by decide) (by decide)).tr ((FrM.row (by decide) (by decide)).tr (FrM.fld (by decide)))))
                        unfold E_old at h9
                        rw [if_pos (by omega), if_pos (by omega)] at h9
                        exact h9))
          · refine r_ldc (z := -1000000004) (pc' := 49) dX11_old_47 rfl kX11_75 ?_
            refine r_reti dX11_old_49 rfl (Or.inl rfl) ?_
            have hno : ¬ (((k = 0 ∧ 0 ≤ n ∧ n ≤ 5) ∨ (k = 1 ∧ 1 ≤ n ∧ n ≤ 9)) ∧ ln < 6) := by omega
            have h9 := h g (by simp only [if_neg hno]; exact hM) (FrM.rf g)
            unfold E_old at h9
            first | (exfalso; omega) | (rw [if_pos (by omega), if_neg (by omega)] at h9; exact h9)
        · have hd32 := of_decide_eq_false (b01_eq c32)
          refine r_ldc (z := -1000000002) (pc' := 37) dX11_old_35 rfl kX11_71 ?_
          refine r_reti dX11_old_37 rfl (Or.inl rfl) ?_
          have hno : ¬ (((k = 0 ∧ 0 ≤ n ∧ n ≤ 5) ∨ (k = 1 ∧ 1 ≤ n ∧ n ≤ 9)) ∧ ln < 6) := by omega
          have h9 := h g (by simp only [if_neg hno]; exact hM) (FrM.rf g)
          unfold E_old at h9
          rw [if_neg (by omega)] at h9
          exact h9
    · refine r_iconst (pc' := 15) dX11_old_14 rfl ?_
      refine r_goto (tgt := 19) dX11_old_15 rfl ?_
      refine r_iload_n (pc' := 20) dX11_old_19 rfl rfl ?_
      refine r_if_ne (tgt := 27) (pc' := 23) dX11_old_20 rfl rfl (by omega) (fun c20 => ?_) (fun c20 => ?_)
      · refine r_bipush (pc' := 29) dX11_old_27 rfl (by decide) ?_
        refine r_si3 (pc' := 32) dX11_old_29 rfl qX11_in lX11_67 rfl rfl rfl (Nat.zero_le _) (Nat.zero_le _) (m_in n _ _ (by omega) (by decide) (by decide) ?_)
        refine r_if_ne (tgt := 38) (pc' := 35) dX11_old_32 rfl rfl (b01_R _) (fun c32 => ?_) (fun c32 => ?_)
        · have hd32 := of_decide_eq_true (b01_ne c32)
          refine r_aload_n (pc' := 39) dX11_old_38 rfl rfl ?_
          refine r_getf (pc' := 42) (kI := 11) dX11_old_39 rfl fX11_112 z166 rfl rfl m10 ?_
          refine r_bipush (pc' := 44) dX11_old_42 rfl (by decide) ?_
          refine r_icmp_ne (tgt := 50) (pc' := 47) dX11_old_44 rfl rfl (by omega) (by omega) (fun c44 => ?_) (fun c44 => ?_)
          · refine r_aload_n (pc' := 51) dX11_old_50 rfl rfl ?_
            refine r_getr (pc' := 54) dX11_old_51 rfl fX11_32 z166 rfl ?_
            refine r_iconst (pc' := 55) dX11_old_54 rfl ?_
            refine r_aload_n (pc' := 56) dX11_old_55 rfl rfl ?_
            refine r_getf (pc' := 59) (kI := 11) dX11_old_56 rfl fX11_112 z166 rfl rfl m10 ?_
            refine r_imul (pc' := 60) dX11_old_59 rfl ?_
            refine r_iload_n (pc' := 61) dX11_old_60 rfl rfl ?_
            refine r_iastore (pc' := 62) dX11_old_61 rfl z174 (by decide) (by omega) (by omega) rfl ?_
            refine r_aload_n (pc' := 63) dX11_old_62 rfl rfl ?_
            refine r_getr (pc' := 66) dX11_old_63 rfl fX11_32 z166 rfl ?_
            refine r_iconst (pc' := 67) dX11_old_66 rfl ?_
            refine r_aload_n (pc' := 68) dX11_old_67 rfl rfl ?_
            refine r_getf (pc' := 71) (kI := 11) (x := (ln : Int)) dX11_old_68 rfl fX11_112 z166 rfl rfl (by rw [mu_ne (by decide)]; exact m10) ?_
            refine r_imul (pc' := 72) dX11_old_71 rfl ?_
            refine r_iconst (pc' := 73) dX11_old_72 rfl ?_
            refine r_iadd (pc' := 74) dX11_old_73 rfl ?_
            refine r_iload_n (pc' := 75) dX11_old_74 rfl rfl ?_
            refine r_iastore (pc' := 76) dX11_old_75 rfl z174 (by decide) (by omega) (by omega) rfl ?_
            refine r_aload_n (pc' := 77) dX11_old_76 rfl rfl ?_
            refine r_getr (pc' := 80) dX11_old_77 rfl fX11_32 z166 rfl ?_
            refine r_iconst (pc' := 81) dX11_old_80 rfl ?_
            refine r_aload_n (pc' := 82) dX11_old_81 rfl rfl ?_
            refine r_getf (pc' := 85) (kI := 11) (x := (ln : Int)) dX11_old_82 rfl fX11_112 z166 rfl rfl (by rw [mu_ne (by decide), mu_ne (by decide)]; exact m10) ?_
            refine r_imul (pc' := 86) dX11_old_85 rfl ?_
            refine r_iconst (pc' := 87) dX11_old_86 rfl ?_
            refine r_iadd (pc' := 88) dX11_old_87 rfl ?_
            refine r_iload_n (pc' := 89) dX11_old_88 rfl rfl ?_
            refine r_if_eq (tgt := 96) (pc' := 92) dX11_old_89 rfl rfl (b01_R _) (fun c89 => ?_) (fun c89 => ?_)
            · refine r_iconst (pc' := 97) dX11_old_96 rfl ?_
              refine r_iastore (pc' := 98) dX11_old_97 rfl z174 (by decide) (by omega) (by omega) rfl ?_
              refine r_aload_n (pc' := 99) dX11_old_98 rfl rfl ?_
              refine r_dup (pc' := 100) dX11_old_99 rfl rfl ?_
              refine r_getf (pc' := 103) (kI := 11) (x := (ln : Int)) dX11_old_100 rfl fX11_112 z166 rfl rfl (by rw [mu_ne (by decide), mu_ne (by decide), mu_ne (by decide)]; exact m10) ?_
              refine r_iconst (pc' := 104) dX11_old_103 rfl ?_
              refine r_iadd (pc' := 105) dX11_old_104 rfl ?_
              refine r_putf (pc' := 108) (kI := 11) dX11_old_105 rfl fX11_112 z166 rfl (Or.inl rfl) rfl rfl ?_
              refine r_aload_n (pc' := 109) dX11_old_108 rfl rfl ?_
              refine r_getf (pc' := 112) (kI := 11) (x := (ln : Int) + 1) dX11_old_109 rfl fX11_112 z166 rfl rfl mu_at ?_
              refine r_reti dX11_old_112 rfl (Or.inl rfl) ?_
              first
                | (exfalso; omega)
                | (first
                     | (have hyb : y = false := by first | exact b01_eq c89 | exact b01_ne c89
                        have hok : ((k = 0 ∧ 0 ≤ n ∧ n ≤ 5) ∨ (k = 1 ∧ 1 ≤ n ∧ n ≤ 9)) ∧ ln < 6 := by omega
                        have q : ∀ j, j ≠ 166 → j ≠ 174 → mu (mu (mu (mu g 174 (3 * (ln : Int)) k) 174 (3 * (ln : Int) + 1) n) 174 (3 * (ln : Int) + 2) 0) 166 11 ((ln : Int) + 1) j = g j := fun j a b => by rw [mu_ne a, mu_ne b, mu_ne b, mu_ne b]
                        have r : ∀ k_, k_ ≠ 11 → mu (mu (mu (mu g 174 (3 * (ln : Int)) k) 174 (3 * (ln : Int) + 1) n) 174 (3 * (ln : Int) + 2) 0) 166 11 ((ln : Int) + 1) 166 k_ = g 166 k_ := fun k_ a => by rw [mu_at' a, mu_ne (by decide), mu_ne (by decide), mu_ne (by decide)]
                        have ho1 : ((oldN k n / 10 : Nat) : Int) = k ∧ ((oldN k n % 10 : Nat) : Int) = n := by
                          unfold oldN
                          split <;> omega
                        have hlk : ∀ i : Nat, i < ln + 1 → (mu (mu (mu (mu g 174 (3 * (ln : Int)) k) 174 (3 * (ln : Int) + 1) n) 174 (3 * (ln : Int) + 2) 0) 166 11 ((ln : Int) + 1)) 174 (3 * i) = (((if i = ln then oldN k n else la i) / 10 : Nat) : Int) ∧ (mu (mu (mu (mu g 174 (3 * (ln : Int)) k) 174 (3 * (ln : Int) + 1) n) 174 (3 * (ln : Int) + 2) 0) 166 11 ((ln : Int) + 1)) 174 (3 * i + 1) = (((if i = ln then oldN k n else la i) % 10 : Nat) : Int) ∧ (mu (mu (mu (mu g 174 (3 * (ln : Int)) k) 174 (3 * (ln : Int) + 1) n) 174 (3 * (ln : Int) + 2) 0) 166 11 ((ln : Int) + 1)) 174 (3 * i + 2) = b01 (if i = ln then y else lr i) := fun i hi => by
                          rw [mu_ne (by decide)]
                          by_cases e : i = ln
                          · subst e
                            simp only [if_true]
                            rw [mu_at' (by omega), mu_at' (by omega), mu_at, mu_at' (by omega), mu_at, mu_at, hyb]
                            exact ⟨ho1.1.symm, ho1.2.symm, rfl⟩
                          · simp only [if_neg e]
                            rw [mu_at' (by omega), mu_at' (by omega), mu_at' (by omega), mu_at' (by omega), mu_at' (by omega), mu_at' (by omega), mu_at' (by omega), mu_at' (by omega), mu_at' (by omega)]
                            exact m11 i (by omega)
                        have h9 := h _ (by simp only [if_pos hok]; exact ⟨⟨(r 1 (by decide)).trans m1, fun k hk => (congrFun (q 167 (by decide) (by decide)) _).trans (m2 k hk)⟩, (r 15 (by decide)).trans m3, m4.fr (q 168 (by decide) (by decide)), m5.fr (q 170 (by decide) (by decide)), ⟨(r 6 (by decide)).trans m6, fun j hj => (m7 j hj).fr (q 171 (by decide) (by decide))⟩, MIm.fr m8 (q 172 (by decide) (by decide)) (q 173 (by decide) (by decide)), (r 9 (by decide)).trans m9, ⟨by rw [mu_at]; omega, hlk⟩, ⟨(r 13 (by decide)).trans m12, fun i hi => by rw [q 175 (by decide) (by decide)]; exact m13 i hi⟩⟩) ((FrM.row (by decide) (by decide)).tr ((FrM.row (by decide) (by decide)).tr ((FrM.row (by decide) (by decide)).tr (FrM.fld (by decide)))))
                        unfold E_old at h9
                        rw [if_pos (by omega), if_pos (by omega)] at h9
                        exact h9)
                     | (have hyb : y = true := by first | exact b01_eq c89 | exact b01_ne c89
                        have hok : ((k = 0 ∧ 0 ≤ n ∧ n ≤ 5) ∨ (k = 1 ∧ 1 ≤ n ∧ n ≤ 9)) ∧ ln < 6 := by omega
                        have q : ∀ j, j ≠ 166 → j ≠ 174 → mu (mu (mu (mu g 174 (3 * (ln : Int)) k) 174 (3 * (ln : Int) + 1) n) 174 (3 * (ln : Int) + 2) 1) 166 11 ((ln : Int) + 1) j = g j := fun j a b => by rw [mu_ne a, mu_ne b, mu_ne b, mu_ne b]
                        have r : ∀ k_, k_ ≠ 11 → mu (mu (mu (mu g 174 (3 * (ln : Int)) k) 174 (3 * (ln : Int) + 1) n) 174 (3 * (ln : Int) + 2) 1) 166 11 ((ln : Int) + 1) 166 k_ = g 166 k_ := fun k_ a => by rw [mu_at' a, mu_ne (by decide), mu_ne (by decide), mu_ne (by decide)]
                        have ho1 : ((oldN k n / 10 : Nat) : Int) = k ∧ ((oldN k n % 10 : Nat) : Int) = n := by
                          unfold oldN
                          split <;> omega
                        have hlk : ∀ i : Nat, i < ln + 1 → (mu (mu (mu (mu g 174 (3 * (ln : Int)) k) 174 (3 * (ln : Int) + 1) n) 174 (3 * (ln : Int) + 2) 1) 166 11 ((ln : Int) + 1)) 174 (3 * i) = (((if i = ln then oldN k n else la i) / 10 : Nat) : Int) ∧ (mu (mu (mu (mu g 174 (3 * (ln : Int)) k) 174 (3 * (ln : Int) + 1) n) 174 (3 * (ln : Int) + 2) 1) 166 11 ((ln : Int) + 1)) 174 (3 * i + 1) = (((if i = ln then oldN k n else la i) % 10 : Nat) : Int) ∧ (mu (mu (mu (mu g 174 (3 * (ln : Int)) k) 174 (3 * (ln : Int) + 1) n) 174 (3 * (ln : Int) + 2) 1) 166 11 ((ln : Int) + 1)) 174 (3 * i + 2) = b01 (if i = ln then y else lr i) := fun i hi => by
                          rw [mu_ne (by decide)]
                          by_cases e : i = ln
                          · subst e
                            simp only [if_true]
                            rw [mu_at' (by omega), mu_at' (by omega), mu_at, mu_at' (by omega), mu_at, mu_at, hyb]
                            exact ⟨ho1.1.symm, ho1.2.symm, rfl⟩
                          · simp only [if_neg e]
                            rw [mu_at' (by omega), mu_at' (by omega), mu_at' (by omega), mu_at' (by omega), mu_at' (by omega), mu_at' (by omega), mu_at' (by omega), mu_at' (by omega), mu_at' (by omega)]
                            exact m11 i (by omega)
                        have h9 := h _ (by simp only [if_pos hok]; exact ⟨⟨(r 1 (by decide)).trans m1, fun k hk => (congrFun (q 167 (by decide) (by decide)) _).trans (m2 k hk)⟩, (r 15 (by decide)).trans m3, m4.fr (q 168 (by decide) (by decide)), m5.fr (q 170 (by decide) (by decide)), ⟨(r 6 (by decide)).trans m6, fun j hj => (m7 j hj).fr (q 171 (by decide) (by decide))⟩, MIm.fr m8 (q 172 (by decide) (by decide)) (q 173 (by decide) (by decide)), (r 9 (by decide)).trans m9, ⟨by rw [mu_at]; omega, hlk⟩, ⟨(r 13 (by decide)).trans m12, fun i hi => by rw [q 175 (by decide) (by decide)]; exact m13 i hi⟩⟩) ((FrM.row (by decide) (by decide)).tr ((FrM.row (by decide) (by decide)).tr ((FrM.row (by decide) (by decide)).tr (FrM.fld (by decide)))))
                        unfold E_old at h9
                        rw [if_pos (by omega), if_pos (by omega)] at h9
                        exact h9))
            · refine r_iconst (pc' := 93) dX11_old_92 rfl ?_
              refine r_goto (tgt := 97) dX11_old_93 rfl ?_
              refine r_iastore (pc' := 98) dX11_old_97 rfl z174 (by decide) (by omega) (by omega) rfl ?_
              refine r_aload_n (pc' := 99) dX11_old_98 rfl rfl ?_
              refine r_dup (pc' := 100) dX11_old_99 rfl rfl ?_
              refine r_getf (pc' := 103) (kI := 11) (x := (ln : Int)) dX11_old_100 rfl fX11_112 z166 rfl rfl (by rw [mu_ne (by decide), mu_ne (by decide), mu_ne (by decide)]; exact m10) ?_
              refine r_iconst (pc' := 104) dX11_old_103 rfl ?_
              refine r_iadd (pc' := 105) dX11_old_104 rfl ?_
              refine r_putf (pc' := 108) (kI := 11) dX11_old_105 rfl fX11_112 z166 rfl (Or.inl rfl) rfl rfl ?_
              refine r_aload_n (pc' := 109) dX11_old_108 rfl rfl ?_
              refine r_getf (pc' := 112) (kI := 11) (x := (ln : Int) + 1) dX11_old_109 rfl fX11_112 z166 rfl rfl mu_at ?_
              refine r_reti dX11_old_112 rfl (Or.inl rfl) ?_
              first
                | (exfalso; omega)
                | (first
                     | (have hyb : y = false := by first | exact b01_eq c89 | exact b01_ne c89
                        have hok : ((k = 0 ∧ 0 ≤ n ∧ n ≤ 5) ∨ (k = 1 ∧ 1 ≤ n ∧ n ≤ 9)) ∧ ln < 6 := by omega
                        have q : ∀ j, j ≠ 166 → j ≠ 174 → mu (mu (mu (mu g 174 (3 * (ln : Int)) k) 174 (3 * (ln : Int) + 1) n) 174 (3 * (ln : Int) + 2) 0) 166 11 ((ln : Int) + 1) j = g j := fun j a b => by rw [mu_ne a, mu_ne b, mu_ne b, mu_ne b]
                        have r : ∀ k_, k_ ≠ 11 → mu (mu (mu (mu g 174 (3 * (ln : Int)) k) 174 (3 * (ln : Int) + 1) n) 174 (3 * (ln : Int) + 2) 0) 166 11 ((ln : Int) + 1) 166 k_ = g 166 k_ := fun k_ a => by rw [mu_at' a, mu_ne (by decide), mu_ne (by decide), mu_ne (by decide)]
                        have ho1 : ((oldN k n / 10 : Nat) : Int) = k ∧ ((oldN k n % 10 : Nat) : Int) = n := by
                          unfold oldN
                          split <;> omega
                        have hlk : ∀ i : Nat, i < ln + 1 → (mu (mu (mu (mu g 174 (3 * (ln : Int)) k) 174 (3 * (ln : Int) + 1) n) 174 (3 * (ln : Int) + 2) 0) 166 11 ((ln : Int) + 1)) 174 (3 * i) = (((if i = ln then oldN k n else la i) / 10 : Nat) : Int) ∧ (mu (mu (mu (mu g 174 (3 * (ln : Int)) k) 174 (3 * (ln : Int) + 1) n) 174 (3 * (ln : Int) + 2) 0) 166 11 ((ln : Int) + 1)) 174 (3 * i + 1) = (((if i = ln then oldN k n else la i) % 10 : Nat) : Int) ∧ (mu (mu (mu (mu g 174 (3 * (ln : Int)) k) 174 (3 * (ln : Int) + 1) n) 174 (3 * (ln : Int) + 2) 0) 166 11 ((ln : Int) + 1)) 174 (3 * i + 2) = b01 (if i = ln then y else lr i) := fun i hi => by
                          rw [mu_ne (by decide)]
                          by_cases e : i = ln
                          · subst e
                            simp only [if_true]
                            rw [mu_at' (by omega), mu_at' (by omega), mu_at, mu_at' (by omega), mu_at, mu_at, hyb]
                            exact ⟨ho1.1.symm, ho1.2.symm, rfl⟩
                          · simp only [if_neg e]
                            rw [mu_at' (by omega), mu_at' (by omega), mu_at' (by omega), mu_at' (by omega), mu_at' (by omega), mu_at' (by omega), mu_at' (by omega), mu_at' (by omega), mu_at' (by omega)]
                            exact m11 i (by omega)
                        have h9 := h _ (by simp only [if_pos hok]; exact ⟨⟨(r 1 (by decide)).trans m1, fun k hk => (congrFun (q 167 (by decide) (by decide)) _).trans (m2 k hk)⟩, (r 15 (by decide)).trans m3, m4.fr (q 168 (by decide) (by decide)), m5.fr (q 170 (by decide) (by decide)), ⟨(r 6 (by decide)).trans m6, fun j hj => (m7 j hj).fr (q 171 (by decide) (by decide))⟩, MIm.fr m8 (q 172 (by decide) (by decide)) (q 173 (by decide) (by decide)), (r 9 (by decide)).trans m9, ⟨by rw [mu_at]; omega, hlk⟩, ⟨(r 13 (by decide)).trans m12, fun i hi => by rw [q 175 (by decide) (by decide)]; exact m13 i hi⟩⟩) ((FrM.row (by decide) (by decide)).tr ((FrM.row (by decide) (by decide)).tr ((FrM.row (by decide) (by decide)).tr (FrM.fld (by decide)))))
                        unfold E_old at h9
                        rw [if_pos (by omega), if_pos (by omega)] at h9
                        exact h9)
                     | (have hyb : y = true := by first | exact b01_eq c89 | exact b01_ne c89
                        have hok : ((k = 0 ∧ 0 ≤ n ∧ n ≤ 5) ∨ (k = 1 ∧ 1 ≤ n ∧ n ≤ 9)) ∧ ln < 6 := by omega
                        have q : ∀ j, j ≠ 166 → j ≠ 174 → mu (mu (mu (mu g 174 (3 * (ln : Int)) k) 174 (3 * (ln : Int) + 1) n) 174 (3 * (ln : Int) + 2) 1) 166 11 ((ln : Int) + 1) j = g j := fun j a b => by rw [mu_ne a, mu_ne b, mu_ne b, mu_ne b]
                        have r : ∀ k_, k_ ≠ 11 → mu (mu (mu (mu g 174 (3 * (ln : Int)) k) 174 (3 * (ln : Int) + 1) n) 174 (3 * (ln : Int) + 2) 1) 166 11 ((ln : Int) + 1) 166 k_ = g 166 k_ := fun k_ a => by rw [mu_at' a, mu_ne (by decide), mu_ne (by decide), mu_ne (by decide)]
                        have ho1 : ((oldN k n / 10 : Nat) : Int) = k ∧ ((oldN k n % 10 : Nat) : Int) = n := by
                          unfold oldN
                          split <;> omega
                        have hlk : ∀ i : Nat, i < ln + 1 → (mu (mu (mu (mu g 174 (3 * (ln : Int)) k) 174 (3 * (ln : Int) + 1) n) 174 (3 * (ln : Int) + 2) 1) 166 11 ((ln : Int) + 1)) 174 (3 * i) = (((if i = ln then oldN k n else la i) / 10 : Nat) : Int) ∧ (mu (mu (mu (mu g 174 (3 * (ln : Int)) k) 174 (3 * (ln : Int) + 1) n) 174 (3 * (ln : Int) + 2) 1) 166 11 ((ln : Int) + 1)) 174 (3 * i + 1) = (((if i = ln then oldN k n else la i) % 10 : Nat) : Int) ∧ (mu (mu (mu (mu g 174 (3 * (ln : Int)) k) 174 (3 * (ln : Int) + 1) n) 174 (3 * (ln : Int) + 2) 1) 166 11 ((ln : Int) + 1)) 174 (3 * i + 2) = b01 (if i = ln then y else lr i) := fun i hi => by
                          rw [mu_ne (by decide)]
                          by_cases e : i = ln
                          · subst e
                            simp only [if_true]
                            rw [mu_at' (by omega), mu_at' (by omega), mu_at, mu_at' (by omega), mu_at, mu_at, hyb]
                            exact ⟨ho1.1.symm, ho1.2.symm, rfl⟩
                          · simp only [if_neg e]
                            rw [mu_at' (by omega), mu_at' (by omega), mu_at' (by omega), mu_at' (by omega), mu_at' (by omega), mu_at' (by omega), mu_at' (by omega), mu_at' (by omega), mu_at' (by omega)]
                            exact m11 i (by omega)
                        have h9 := h _ (by simp only [if_pos hok]; exact ⟨⟨(r 1 (by decide)).trans m1, fun k hk => (congrFun (q 167 (by decide) (by decide)) _).trans (m2 k hk)⟩, (r 15 (by decide)).trans m3, m4.fr (q 168 (by decide) (by decide)), m5.fr (q 170 (by decide) (by decide)), ⟨(r 6 (by decide)).trans m6, fun j hj => (m7 j hj).fr (q 171 (by decide) (by decide))⟩, MIm.fr m8 (q 172 (by decide) (by decide)) (q 173 (by decide) (by decide)), (r 9 (by decide)).trans m9, ⟨by rw [mu_at]; omega, hlk⟩, ⟨(r 13 (by decide)).trans m12, fun i hi => by rw [q 175 (by decide) (by decide)]; exact m13 i hi⟩⟩) ((FrM.row (by decide) (by decide)).tr ((FrM.row (by decide) (by decide)).tr ((FrM.row (by decide) (by decide)).tr (FrM.fld (by decide)))))
                        unfold E_old at h9
                        rw [if_pos (by omega), if_pos (by omega)] at h9
                        exact h9))
          · refine r_ldc (z := -1000000004) (pc' := 49) dX11_old_47 rfl kX11_75 ?_
            refine r_reti dX11_old_49 rfl (Or.inl rfl) ?_
            have hno : ¬ (((k = 0 ∧ 0 ≤ n ∧ n ≤ 5) ∨ (k = 1 ∧ 1 ≤ n ∧ n ≤ 9)) ∧ ln < 6) := by omega
            have h9 := h g (by simp only [if_neg hno]; exact hM) (FrM.rf g)
            unfold E_old at h9
            first | (exfalso; omega) | (rw [if_pos (by omega), if_neg (by omega)] at h9; exact h9)
        · have hd32 := of_decide_eq_false (b01_eq c32)
          refine r_ldc (z := -1000000002) (pc' := 37) dX11_old_35 rfl kX11_71 ?_
          refine r_reti dX11_old_37 rfl (Or.inl rfl) ?_
          have hno : ¬ (((k = 0 ∧ 0 ≤ n ∧ n ≤ 5) ∨ (k = 1 ∧ 1 ≤ n ∧ n ≤ 9)) ∧ ln < 6) := by omega
          have h9 := h g (by simp only [if_neg hno]; exact hM) (FrM.rf g)
          unfold E_old at h9
          rw [if_neg (by omega)] at h9
          exact h9
      · refine r_iconst (pc' := 24) dX11_old_23 rfl ?_
        refine r_goto (tgt := 29) dX11_old_24 rfl ?_
        refine r_si3 (pc' := 32) dX11_old_29 rfl qX11_in lX11_67 rfl rfl rfl (Nat.zero_le _) (Nat.zero_le _) (m_in n _ _ (by omega) (by decide) (by decide) ?_)
        refine r_if_ne (tgt := 38) (pc' := 35) dX11_old_32 rfl rfl (b01_R _) (fun c32 => ?_) (fun c32 => ?_)
        · have hd32 := of_decide_eq_true (b01_ne c32)
          refine r_aload_n (pc' := 39) dX11_old_38 rfl rfl ?_
          refine r_getf (pc' := 42) (kI := 11) dX11_old_39 rfl fX11_112 z166 rfl rfl m10 ?_
          refine r_bipush (pc' := 44) dX11_old_42 rfl (by decide) ?_
          refine r_icmp_ne (tgt := 50) (pc' := 47) dX11_old_44 rfl rfl (by omega) (by omega) (fun c44 => ?_) (fun c44 => ?_)
          · refine r_aload_n (pc' := 51) dX11_old_50 rfl rfl ?_
            refine r_getr (pc' := 54) dX11_old_51 rfl fX11_32 z166 rfl ?_
            refine r_iconst (pc' := 55) dX11_old_54 rfl ?_
            refine r_aload_n (pc' := 56) dX11_old_55 rfl rfl ?_
            refine r_getf (pc' := 59) (kI := 11) dX11_old_56 rfl fX11_112 z166 rfl rfl m10 ?_
            refine r_imul (pc' := 60) dX11_old_59 rfl ?_
            refine r_iload_n (pc' := 61) dX11_old_60 rfl rfl ?_
            refine r_iastore (pc' := 62) dX11_old_61 rfl z174 (by decide) (by omega) (by omega) rfl ?_
            refine r_aload_n (pc' := 63) dX11_old_62 rfl rfl ?_
            refine r_getr (pc' := 66) dX11_old_63 rfl fX11_32 z166 rfl ?_
            refine r_iconst (pc' := 67) dX11_old_66 rfl ?_
            refine r_aload_n (pc' := 68) dX11_old_67 rfl rfl ?_
            refine r_getf (pc' := 71) (kI := 11) (x := (ln : Int)) dX11_old_68 rfl fX11_112 z166 rfl rfl (by rw [mu_ne (by decide)]; exact m10) ?_
            refine r_imul (pc' := 72) dX11_old_71 rfl ?_
            refine r_iconst (pc' := 73) dX11_old_72 rfl ?_
            refine r_iadd (pc' := 74) dX11_old_73 rfl ?_
            refine r_iload_n (pc' := 75) dX11_old_74 rfl rfl ?_
            refine r_iastore (pc' := 76) dX11_old_75 rfl z174 (by decide) (by omega) (by omega) rfl ?_
            refine r_aload_n (pc' := 77) dX11_old_76 rfl rfl ?_
            refine r_getr (pc' := 80) dX11_old_77 rfl fX11_32 z166 rfl ?_
            refine r_iconst (pc' := 81) dX11_old_80 rfl ?_
            refine r_aload_n (pc' := 82) dX11_old_81 rfl rfl ?_
            refine r_getf (pc' := 85) (kI := 11) (x := (ln : Int)) dX11_old_82 rfl fX11_112 z166 rfl rfl (by rw [mu_ne (by decide), mu_ne (by decide)]; exact m10) ?_
            refine r_imul (pc' := 86) dX11_old_85 rfl ?_
            refine r_iconst (pc' := 87) dX11_old_86 rfl ?_
            refine r_iadd (pc' := 88) dX11_old_87 rfl ?_
            refine r_iload_n (pc' := 89) dX11_old_88 rfl rfl ?_
            refine r_if_eq (tgt := 96) (pc' := 92) dX11_old_89 rfl rfl (b01_R _) (fun c89 => ?_) (fun c89 => ?_)
            · refine r_iconst (pc' := 97) dX11_old_96 rfl ?_
              refine r_iastore (pc' := 98) dX11_old_97 rfl z174 (by decide) (by omega) (by omega) rfl ?_
              refine r_aload_n (pc' := 99) dX11_old_98 rfl rfl ?_
              refine r_dup (pc' := 100) dX11_old_99 rfl rfl ?_
              refine r_getf (pc' := 103) (kI := 11) (x := (ln : Int)) dX11_old_100 rfl fX11_112 z166 rfl rfl (by rw [mu_ne (by decide), mu_ne (by decide), mu_ne (by decide)]; exact m10) ?_
              refine r_iconst (pc' := 104) dX11_old_103 rfl ?_
              refine r_iadd (pc' := 105) dX11_old_104 rfl ?_
              refine r_putf (pc' := 108) (kI := 11) dX11_old_105 rfl fX11_112 z166 rfl (Or.inl rfl) rfl rfl ?_
              refine r_aload_n (pc' := 109) dX11_old_108 rfl rfl ?_
              refine r_getf (pc' := 112) (kI := 11) (x := (ln : Int) + 1) dX11_old_109 rfl fX11_112 z166 rfl rfl mu_at ?_
              refine r_reti dX11_old_112 rfl (Or.inl rfl) ?_
              first
                | (exfalso; omega)
                | (first
                     | (have hyb : y = false := by first | exact b01_eq c89 | exact b01_ne c89
                        have hok : ((k = 0 ∧ 0 ≤ n ∧ n ≤ 5) ∨ (k = 1 ∧ 1 ≤ n ∧ n ≤ 9)) ∧ ln < 6 := by omega
                        have q : ∀ j, j ≠ 166 → j ≠ 174 → mu (mu (mu (mu g 174 (3 * (ln : Int)) k) 174 (3 * (ln : Int) + 1) n) 174 (3 * (ln : Int) + 2) 0) 166 11 ((ln : Int) + 1) j = g j := fun j a b => by rw [mu_ne a, mu_ne b, mu_ne b, mu_ne b]
                        have r : ∀ k_, k_ ≠ 11 → mu (mu (mu (mu g 174 (3 * (ln : Int)) k) 174 (3 * (ln : Int) + 1) n) 174 (3 * (ln : Int) + 2) 0) 166 11 ((ln : Int) + 1) 166 k_ = g 166 k_ := fun k_ a => by rw [mu_at' a, mu_ne (by decide), mu_ne (by decide), mu_ne (by decide)]
                        have ho1 : ((oldN k n / 10 : Nat) : Int) = k ∧ ((oldN k n % 10 : Nat) : Int) = n := by
                          unfold oldN
                          split <;> omega
                        have hlk : ∀ i : Nat, i < ln + 1 → (mu (mu (mu (mu g 174 (3 * (ln : Int)) k) 174 (3 * (ln : Int) + 1) n) 174 (3 * (ln : Int) + 2) 0) 166 11 ((ln : Int) + 1)) 174 (3 * i) = (((if i = ln then oldN k n else la i) / 10 : Nat) : Int) ∧ (mu (mu (mu (mu g 174 (3 * (ln : Int)) k) 174 (3 * (ln : Int) + 1) n) 174 (3 * (ln : Int) + 2) 0) 166 11 ((ln : Int) + 1)) 174 (3 * i + 1) = (((if i = ln then oldN k n else la i) % 10 : Nat) : Int) ∧ (mu (mu (mu (mu g 174 (3 * (ln : Int)) k) 174 (3 * (ln : Int) + 1) n) 174 (3 * (ln : Int) + 2) 0) 166 11 ((ln : Int) + 1)) 174 (3 * i + 2) = b01 (if i = ln then y else lr i) := fun i hi => by
                          rw [mu_ne (by decide)]
                          by_cases e : i = ln
                          · subst e
                            simp only [if_true]
                            rw [mu_at' (by omega), mu_at' (by omega), mu_at, mu_at' (by omega), mu_at, mu_at, hyb]
                            exact ⟨ho1.1.symm, ho1.2.symm, rfl⟩
                          · simp only [if_neg e]
                            rw [mu_at' (by omega), mu_at' (by omega), mu_at' (by omega), mu_at' (by omega), mu_at' (by omega), mu_at' (by omega), mu_at' (by omega), mu_at' (by omega), mu_at' (by omega)]
                            exact m11 i (by omega)
                        have h9 := h _ (by simp only [if_pos hok]; exact ⟨⟨(r 1 (by decide)).trans m1, fun k hk => (congrFun (q 167 (by decide) (by decide)) _).trans (m2 k hk)⟩, (r 15 (by decide)).trans m3, m4.fr (q 168 (by decide) (by decide)), m5.fr (q 170 (by decide) (by decide)), ⟨(r 6 (by decide)).trans m6, fun j hj => (m7 j hj).fr (q 171 (by decide) (by decide))⟩, MIm.fr m8 (q 172 (by decide) (by decide)) (q 173 (by decide) (by decide)), (r 9 (by decide)).trans m9, ⟨by rw [mu_at]; omega, hlk⟩, ⟨(r 13 (by decide)).trans m12, fun i hi => by rw [q 175 (by decide) (by decide)]; exact m13 i hi⟩⟩) ((FrM.row (by decide) (by decide)).tr ((FrM.row (by decide) (by decide)).tr ((FrM.row (by decide) (by decide)).tr (FrM.fld (by decide)))))
                        unfold E_old at h9
                        rw [if_pos (by omega), if_pos (by omega)] at h9
                        exact h9)
                     | (have hyb : y = true := by first | exact b01_eq c89 | exact b01_ne c89
                        have hok : ((k = 0 ∧ 0 ≤ n ∧ n ≤ 5) ∨ (k = 1 ∧ 1 ≤ n ∧ n ≤ 9)) ∧ ln < 6 := by omega
                        have q : ∀ j, j ≠ 166 → j ≠ 174 → mu (mu (mu (mu g 174 (3 * (ln : Int)) k) 174 (3 * (ln : Int) + 1) n) 174 (3 * (ln : Int) + 2) 1) 166 11 ((ln : Int) + 1) j = g j := fun j a b => by rw [mu_ne a, mu_ne b, mu_ne b, mu_ne b]
                        have r : ∀ k_, k_ ≠ 11 → mu (mu (mu (mu g 174 (3 * (ln : Int)) k) 174 (3 * (ln : Int) + 1) n) 174 (3 * (ln : Int) + 2) 1) 166 11 ((ln : Int) + 1) 166 k_ = g 166 k_ := fun k_ a => by rw [mu_at' a, mu_ne (by decide), mu_ne (by decide), mu_ne (by decide)]
                        have ho1 : ((oldN k n / 10 : Nat) : Int) = k ∧ ((oldN k n % 10 : Nat) : Int) = n := by
                          unfold oldN
                          split <;> omega
                        have hlk : ∀ i : Nat, i < ln + 1 → (mu (mu (mu (mu g 174 (3 * (ln : Int)) k) 174 (3 * (ln : Int) + 1) n) 174 (3 * (ln : Int) + 2) 1) 166 11 ((ln : Int) + 1)) 174 (3 * i) = (((if i = ln then oldN k n else la i) / 10 : Nat) : Int) ∧ (mu (mu (mu (mu g 174 (3 * (ln : Int)) k) 174 (3 * (ln : Int) + 1) n) 174 (3 * (ln : Int) + 2) 1) 166 11 ((ln : Int) + 1)) 174 (3 * i + 1) = (((if i = ln then oldN k n else la i) % 10 : Nat) : Int) ∧ (mu (mu (mu (mu g 174 (3 * (ln : Int)) k) 174 (3 * (ln : Int) + 1) n) 174 (3 * (ln : Int) + 2) 1) 166 11 ((ln : Int) + 1)) 174 (3 * i + 2) = b01 (if i = ln then y else lr i) := fun i hi => by
                          rw [mu_ne (by decide)]
                          by_cases e : i = ln
                          · subst e
                            simp only [if_true]
                            rw [mu_at' (by omega), mu_at' (by omega), mu_at, mu_at' (by omega), mu_at, mu_at, hyb]
                            exact ⟨ho1.1.symm, ho1.2.symm, rfl⟩
                          · simp only [if_neg e]
                            rw [mu_at' (by omega), mu_at' (by omega), mu_at' (by omega), mu_at' (by omega), mu_at' (by omega), mu_at' (by omega), mu_at' (by omega), mu_at' (by omega), mu_at' (by omega)]
                            exact m11 i (by omega)
                        have h9 := h _ (by simp only [if_pos hok]; exact ⟨⟨(r 1 (by decide)).trans m1, fun k hk => (congrFun (q 167 (by decide) (by decide)) _).trans (m2 k hk)⟩, (r 15 (by decide)).trans m3, m4.fr (q 168 (by decide) (by decide)), m5.fr (q 170 (by decide) (by decide)), ⟨(r 6 (by decide)).trans m6, fun j hj => (m7 j hj).fr (q 171 (by decide) (by decide))⟩, MIm.fr m8 (q 172 (by decide) (by decide)) (q 173 (by decide) (by decide)), (r 9 (by decide)).trans m9, ⟨by rw [mu_at]; omega, hlk⟩, ⟨(r 13 (by decide)).trans m12, fun i hi => by rw [q 175 (by decide) (by decide)]; exact m13 i hi⟩⟩) ((FrM.row (by decide) (by decide)).tr ((FrM.row (by decide) (by decide)).tr ((FrM.row (by decide) (by decide)).tr (FrM.fld (by decide)))))
                        unfold E_old at h9
                        rw [if_pos (by omega), if_pos (by omega)] at h9
                        exact h9))
            · refine r_iconst (pc' := 93) dX11_old_92 rfl ?_
              refine r_goto (tgt := 97) dX11_old_93 rfl ?_
              refine r_iastore (pc' := 98) dX11_old_97 rfl z174 (by decide) (by omega) (by omega) rfl ?_
              refine r_aload_n (pc' := 99) dX11_old_98 rfl rfl ?_
              refine r_dup (pc' := 100) dX11_old_99 rfl rfl ?_
              refine r_getf (pc' := 103) (kI := 11) (x := (ln : Int)) dX11_old_100 rfl fX11_112 z166 rfl rfl (by rw [mu_ne (by decide), mu_ne (by decide), mu_ne (by decide)]; exact m10) ?_
              refine r_iconst (pc' := 104) dX11_old_103 rfl ?_
              refine r_iadd (pc' := 105) dX11_old_104 rfl ?_
              refine r_putf (pc' := 108) (kI := 11) dX11_old_105 rfl fX11_112 z166 rfl (Or.inl rfl) rfl rfl ?_
              refine r_aload_n (pc' := 109) dX11_old_108 rfl rfl ?_
              refine r_getf (pc' := 112) (kI := 11) (x := (ln : Int) + 1) dX11_old_109 rfl fX11_112 z166 rfl rfl mu_at ?_
              refine r_reti dX11_old_112 rfl (Or.inl rfl) ?_
              first
                | (exfalso; omega)
                | (first
                     | (have hyb : y = false := by first | exact b01_eq c89 | exact b01_ne c89
                        have hok : ((k = 0 ∧ 0 ≤ n ∧ n ≤ 5) ∨ (k = 1 ∧ 1 ≤ n ∧ n ≤ 9)) ∧ ln < 6 := by omega
                        have q : ∀ j, j ≠ 166 → j ≠ 174 → mu (mu (mu (mu g 174 (3 * (ln : Int)) k) 174 (3 * (ln : Int) + 1) n) 174 (3 * (ln : Int) + 2) 0) 166 11 ((ln : Int) + 1) j = g j := fun j a b => by rw [mu_ne a, mu_ne b, mu_ne b, mu_ne b]
                        have r : ∀ k_, k_ ≠ 11 → mu (mu (mu (mu g 174 (3 * (ln : Int)) k) 174 (3 * (ln : Int) + 1) n) 174 (3 * (ln : Int) + 2) 0) 166 11 ((ln : Int) + 1) 166 k_ = g 166 k_ := fun k_ a => by rw [mu_at' a, mu_ne (by decide), mu_ne (by decide), mu_ne (by decide)]
                        have ho1 : ((oldN k n / 10 : Nat) : Int) = k ∧ ((oldN k n % 10 : Nat) : Int) = n := by
                          unfold oldN
                          split <;> omega
                        have hlk : ∀ i : Nat, i < ln + 1 → (mu (mu (mu (mu g 174 (3 * (ln : Int)) k) 174 (3 * (ln : Int) + 1) n) 174 (3 * (ln : Int) + 2) 0) 166 11 ((ln : Int) + 1)) 174 (3 * i) = (((if i = ln then oldN k n else la i) / 10 : Nat) : Int) ∧ (mu (mu (mu (mu g 174 (3 * (ln : Int)) k) 174 (3 * (ln : Int) + 1) n) 174 (3 * (ln : Int) + 2) 0) 166 11 ((ln : Int) + 1)) 174 (3 * i + 1) = (((if i = ln then oldN k n else la i) % 10 : Nat) : Int) ∧ (mu (mu (mu (mu g 174 (3 * (ln : Int)) k) 174 (3 * (ln : Int) + 1) n) 174 (3 * (ln : Int) + 2) 0) 166 11 ((ln : Int) + 1)) 174 (3 * i + 2) = b01 (if i = ln then y else lr i) := fun i hi => by
                          rw [mu_ne (by decide)]
                          by_cases e : i = ln
                          · subst e
                            simp only [if_true]
                            rw [mu_at' (by omega), mu_at' (by omega), mu_at, mu_at' (by omega), mu_at, mu_at, hyb]
                            exact ⟨ho1.1.symm, ho1.2.symm, rfl⟩
                          · simp only [if_neg e]
                            rw [mu_at' (by omega), mu_at' (by omega), mu_at' (by omega), mu_at' (by omega), mu_at' (by omega), mu_at' (by omega), mu_at' (by omega), mu_at' (by omega), mu_at' (by omega)]
                            exact m11 i (by omega)
                        have h9 := h _ (by simp only [if_pos hok]; exact ⟨⟨(r 1 (by decide)).trans m1, fun k hk => (congrFun (q 167 (by decide) (by decide)) _).trans (m2 k hk)⟩, (r 15 (by decide)).trans m3, m4.fr (q 168 (by decide) (by decide)), m5.fr (q 170 (by decide) (by decide)), ⟨(r 6 (by decide)).trans m6, fun j hj => (m7 j hj).fr (q 171 (by decide) (by decide))⟩, MIm.fr m8 (q 172 (by decide) (by decide)) (q 173 (by decide) (by decide)), (r 9 (by decide)).trans m9, ⟨by rw [mu_at]; omega, hlk⟩, ⟨(r 13 (by decide)).trans m12, fun i hi => by rw [q 175 (by decide) (by decide)]; exact m13 i hi⟩⟩) ((FrM.row (by decide) (by decide)).tr ((FrM.row (by decide) (by decide)).tr ((FrM.row (by decide) (by decide)).tr (FrM.fld (by decide)))))
                        unfold E_old at h9
                        rw [if_pos (by omega), if_pos (by omega)] at h9
                        exact h9)
                     | (have hyb : y = true := by first | exact b01_eq c89 | exact b01_ne c89
                        have hok : ((k = 0 ∧ 0 ≤ n ∧ n ≤ 5) ∨ (k = 1 ∧ 1 ≤ n ∧ n ≤ 9)) ∧ ln < 6 := by omega
                        have q : ∀ j, j ≠ 166 → j ≠ 174 → mu (mu (mu (mu g 174 (3 * (ln : Int)) k) 174 (3 * (ln : Int) + 1) n) 174 (3 * (ln : Int) + 2) 1) 166 11 ((ln : Int) + 1) j = g j := fun j a b => by rw [mu_ne a, mu_ne b, mu_ne b, mu_ne b]
                        have r : ∀ k_, k_ ≠ 11 → mu (mu (mu (mu g 174 (3 * (ln : Int)) k) 174 (3 * (ln : Int) + 1) n) 174 (3 * (ln : Int) + 2) 1) 166 11 ((ln : Int) + 1) 166 k_ = g 166 k_ := fun k_ a => by rw [mu_at' a, mu_ne (by decide), mu_ne (by decide), mu_ne (by decide)]
                        have ho1 : ((oldN k n / 10 : Nat) : Int) = k ∧ ((oldN k n % 10 : Nat) : Int) = n := by
                          unfold oldN
                          split <;> omega
                        have hlk : ∀ i : Nat, i < ln + 1 → (mu (mu (mu (mu g 174 (3 * (ln : Int)) k) 174 (3 * (ln : Int) + 1) n) 174 (3 * (ln : Int) + 2) 1) 166 11 ((ln : Int) + 1)) 174 (3 * i) = (((if i = ln then oldN k n else la i) / 10 : Nat) : Int) ∧ (mu (mu (mu (mu g 174 (3 * (ln : Int)) k) 174 (3 * (ln : Int) + 1) n) 174 (3 * (ln : Int) + 2) 1) 166 11 ((ln : Int) + 1)) 174 (3 * i + 1) = (((if i = ln then oldN k n else la i) % 10 : Nat) : Int) ∧ (mu (mu (mu (mu g 174 (3 * (ln : Int)) k) 174 (3 * (ln : Int) + 1) n) 174 (3 * (ln : Int) + 2) 1) 166 11 ((ln : Int) + 1)) 174 (3 * i + 2) = b01 (if i = ln then y else lr i) := fun i hi => by
                          rw [mu_ne (by decide)]
                          by_cases e : i = ln
                          · subst e
                            simp only [if_true]
                            rw [mu_at' (by omega), mu_at' (by omega), mu_at, mu_at' (by omega), mu_at, mu_at, hyb]
                            exact ⟨ho1.1.symm, ho1.2.symm, rfl⟩
                          · simp only [if_neg e]
                            rw [mu_at' (by omega), mu_at' (by omega), mu_at' (by omega), mu_at' (by omega), mu_at' (by omega), mu_at' (by omega), mu_at' (by omega), mu_at' (by omega), mu_at' (by omega)]
                            exact m11 i (by omega)
                        have h9 := h _ (by simp only [if_pos hok]; exact ⟨⟨(r 1 (by decide)).trans m1, fun k hk => (congrFun (q 167 (by decide) (by decide)) _).trans (m2 k hk)⟩, (r 15 (by decide)).trans m3, m4.fr (q 168 (by decide) (by decide)), m5.fr (q 170 (by decide) (by decide)), ⟨(r 6 (by decide)).trans m6, fun j hj => (m7 j hj).fr (q 171 (by decide) (by decide))⟩, MIm.fr m8 (q 172 (by decide) (by decide)) (q 173 (by decide) (by decide)), (r 9 (by decide)).trans m9, ⟨by rw [mu_at]; omega, hlk⟩, ⟨(r 13 (by decide)).trans m12, fun i hi => by rw [q 175 (by decide) (by decide)]; exact m13 i hi⟩⟩) ((FrM.row (by decide) (by decide)).tr ((FrM.row (by decide) (by decide)).tr ((FrM.row (by decide) (by decide)).tr (FrM.fld (by decide)))))
                        unfold E_old at h9
                        rw [if_pos (by omega), if_pos (by omega)] at h9
                        exact h9))
          · refine r_ldc (z := -1000000004) (pc' := 49) dX11_old_47 rfl kX11_75 ?_
            refine r_reti dX11_old_49 rfl (Or.inl rfl) ?_
            have hno : ¬ (((k = 0 ∧ 0 ≤ n ∧ n ≤ 5) ∨ (k = 1 ∧ 1 ≤ n ∧ n ≤ 9)) ∧ ln < 6) := by omega
            have h9 := h g (by simp only [if_neg hno]; exact hM) (FrM.rf g)
            unfold E_old at h9
            first | (exfalso; omega) | (rw [if_pos (by omega), if_neg (by omega)] at h9; exact h9)
        · have hd32 := of_decide_eq_false (b01_eq c32)
          refine r_ldc (z := -1000000002) (pc' := 37) dX11_old_35 rfl kX11_71 ?_
          refine r_reti dX11_old_37 rfl (Or.inl rfl) ?_
          have hno : ¬ (((k = 0 ∧ 0 ≤ n ∧ n ≤ 5) ∨ (k = 1 ∧ 1 ≤ n ∧ n ≤ 9)) ∧ ln < 6) := by omega
          have h9 := h g (by simp only [if_neg hno]; exact hM) (FrM.rf g)
          unfold E_old at h9
          rw [if_neg (by omega)] at h9
          exact h9
theorem b_mask (x : Int) : b_and x 2147483647 = x % 2147483648 := by
  show (BitVec.ofInt 32 x &&& BitVec.ofInt 32 2147483647).toInt = _
  have e2 : (BitVec.ofInt 32 x &&& BitVec.ofInt 32 2147483647).toNat = (x % 4294967296).toNat % 2147483648 := by
    rw [BitVec.toNat_and, BitVec.toNat_ofInt]
    show ((x % 4294967296).toNat &&& 2147483647) = _
    rw [show (2147483647 : Nat) = 2 ^ 31 - 1 from rfl, Nat.and_two_pow_sub_one_eq_mod]
  rw [BitVec.toInt_eq_toNat_cond, e2, if_pos (by omega)]
  omega
theorem m_draws {X : CX} {d : Nat} {g : Mem} {K : Int → Mem → Prop} {sd : Int} (hs : g 166 9 = sd) (n : Int) (hn : R32 n) (hn0 : 0 < n) (h : K (drN sd n) (mu g 166 9 (drS sd))) : EI X (d) mX11_draws [vr 166, vi n] Z0 g K := by
  show AJ X (d) mX11_draws 0 0 (QI Z0 K) 0 0 0 [some (vr 166), some (vi n)] [] Z0 g
  have e : b_and (sd * 1103515245 + 12345) 2147483647 = drS sd := b_mask _
  have hb := drS_b sd
  have hd : (drS sd).tdiv 65536 = drS sd / 65536 := Int.tdiv_eq_ediv_of_nonneg hb.1
  have hm : (drS sd / 65536).tmod n = (drS sd / 65536) % n := Int.tmod_eq_emod_of_nonneg (by omega)
  refine r_aload_n (pc' := 1) dX11_draws_0 rfl rfl ?_
  refine r_aload_n (pc' := 2) dX11_draws_1 rfl rfl ?_
  refine r_getf (pc' := 5) (kI := 9) dX11_draws_2 rfl fX11_180 z166 rfl rfl hs ?_
  refine r_ldc (z := 1103515245) (pc' := 7) dX11_draws_5 rfl kX11_183 ?_
  refine r_imul (pc' := 8) dX11_draws_7 rfl ?_
  refine r_sipush (pc' := 11) dX11_draws_8 rfl (by decide) ?_
  refine r_iadd (pc' := 12) dX11_draws_11 rfl ?_
  refine r_ldc (z := 2147483647) (pc' := 14) dX11_draws_12 rfl kX11_184 ?_
  refine r_iand (pc' := 15) dX11_draws_14 rfl ?_
  rw [e]
  refine r_putf (pc' := 18) (kI := 9) dX11_draws_15 rfl fX11_180 z166 rfl (Or.inl rfl) rfl rfl ?_
  refine r_aload_n (pc' := 19) dX11_draws_18 rfl rfl ?_
  refine r_getf (pc' := 22) (kI := 9) (x := drS sd) dX11_draws_19 rfl fX11_180 z166 rfl rfl mu_at ?_
  refine r_ldc (z := 65536) (pc' := 24) dX11_draws_22 rfl kX11_185 ?_
  refine r_idiv (pc' := 25) dX11_draws_24 rfl (by omega) (by omega) (by omega) ?_
  rw [hd]
  refine r_iload_n (pc' := 26) dX11_draws_25 rfl rfl ?_
  refine r_irem (pc' := 27) dX11_draws_26 rfl (by omega) (by omega) (by omega) ?_
  refine r_reti dX11_draws_27 rfl (Or.inl rfl) ?_
  rw [hm]
  unfold drN at h
  rw [if_pos hn0] at h
  exact h
