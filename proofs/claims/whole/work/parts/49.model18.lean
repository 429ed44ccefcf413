theorem lm_fits {X : CX} {d : Nat} {g : Mem} {K : Int → Mem → Prop} {u : PV} {v : LV} (hB : MB g u v)  {w p : Nat} (hw1 : w < Pw u) (hp : p + Pl u w ≤ Ln v) : ∀ (k i : Nat), i + k = Pl u w → K (b01 (allF (fun k => decide (Pk u (Lo v (p + k)) = Px u w k)) k i)) g → AJ X (d + 1) mX11_fits 0 0 (QI Z0 K) 0 0 28 [some (vr 166), some (vi (w : Int)), some (vi (p : Int)), some (vi (Pl u w : Int)), some (vi 1), some (vi (i : Int))] [] Z0 g := by
  obtain ⟨hQ, hU, hC, hW⟩ := id hB
  obtain ⟨hy, hi, hc, ht, ho, hf, hw_⟩ := id hC
  obtain ⟨w0, w1, w2, w3, w4, w5, w6, w7⟩ := id hW
  obtain ⟨p6, p7, p8, p9, p10, pk, pg, px, py⟩ := id hQ
  obtain ⟨u0, u1, u2, u3, u4, u5, u6, u7⟩ := id hU
  intro k
  induction k with
  | zero =>
    intro i hi1 h
    have e := u6 w hw1
    refine r_iload (pc' := 30) dX11_fits_28 rfl rfl ?_
    refine r_iload_n (pc' := 31) dX11_fits_30 rfl rfl ?_
    refine r_icmp_ge (tgt := 87) (pc' := 34) dX11_fits_31 rfl rfl (by omega) (by omega) (fun c31 => ?_) (fun c31 => ?_)
    · refine r_iload (pc' := 89) dX11_fits_87 rfl rfl ?_
      refine r_reti dX11_fits_89 rfl (Or.inr ⟨rfl, by first | exact Or.inl rfl | exact Or.inr rfl | omega⟩) ?_
      exact h
    · exact absurd c31 (by omega)
  | succ k ih =>
    intro i hi1 h
    have e := u6 w hw1
    have e5 := e.2.2 i (by omega)
    have x1 := (px w hw1 i (by omega)).trans (if_pos (by omega))
    have q1 := ho (p + i) (by omega)
    rw [show (4 : Int) + ((p + i : Nat) : Int) = 4 + (p : Int) + (i : Int) by omega] at q1
    have q2 := w2 (p + i) (by omega)
    have q3 := pk (Lo v (p + i)) q2
    have q4 := u5 (Lo v (p + i)) q2
    refine r_iload (pc' := 30) dX11_fits_28 rfl rfl ?_
    refine r_iload_n (pc' := 31) dX11_fits_30 rfl rfl ?_
    refine r_icmp_ge (tgt := 87) (pc' := 34) dX11_fits_31 rfl rfl (by omega) (by omega) (fun c31 => ?_) (fun c31 => ?_)
    · exact absurd c31 (by omega)
    · refine r_iload (pc' := 36) dX11_fits_34 rfl rfl ?_
      refine r_if_eq (tgt := 87) (pc' := 39) dX11_fits_36 rfl rfl (by decide) (fun c36 => ?_) (fun c36 => ?_)
      · exact absurd c36 (by decide)
      · refine r_aload_n (pc' := 40) dX11_fits_39 rfl rfl ?_
        refine r_getr (pc' := 43) dX11_fits_40 rfl fX11_13 z166 rfl ?_
        refine r_bipush (pc' := 45) dX11_fits_43 rfl (by decide) ?_
        refine r_iconst (pc' := 46) dX11_fits_45 rfl ?_
        refine r_iload_n (pc' := 47) dX11_fits_46 rfl rfl ?_
        refine r_imul (pc' := 48) dX11_fits_47 rfl ?_
        refine r_iadd (pc' := 49) dX11_fits_48 rfl ?_
        refine r_iload (pc' := 51) dX11_fits_49 rfl rfl ?_
        refine r_iadd (pc' := 52) dX11_fits_51 rfl ?_
        refine r_iaload (pc' := 53) dX11_fits_52 rfl z168 (by decide) (by omega) (by omega) x1 ?_
        refine r_aload_n (pc' := 54) dX11_fits_53 rfl rfl ?_
        refine r_getr (pc' := 57) dX11_fits_54 rfl fX11_13 z166 rfl ?_
        refine r_iconst (pc' := 58) dX11_fits_57 rfl ?_
        refine r_aload_n (pc' := 59) dX11_fits_58 rfl rfl ?_
        refine r_getr (pc' := 62) dX11_fits_59 rfl fX11_19 z166 rfl ?_
        refine r_iconst (pc' := 63) dX11_fits_62 rfl ?_
        refine r_iload_n (pc' := 64) dX11_fits_63 rfl rfl ?_
        refine r_iadd (pc' := 65) dX11_fits_64 rfl ?_
        refine r_iload (pc' := 67) dX11_fits_65 rfl rfl ?_
        refine r_iadd (pc' := 68) dX11_fits_67 rfl ?_
        refine r_iaload (pc' := 69) dX11_fits_68 rfl z170 (by decide) (by omega) (by omega) q1 ?_
        refine r_iadd (pc' := 70) dX11_fits_69 rfl ?_
        refine r_iaload (pc' := 71) dX11_fits_70 rfl z168 (by decide) (by omega) (by omega) q3 ?_
        refine r_icmp_ne (tgt := 78) (pc' := 74) dX11_fits_71 rfl rfl (by omega) (by omega) (fun c71 => ?_) (fun c71 => ?_)
        · refine r_iconst (pc' := 79) dX11_fits_78 rfl ?_
          refine r_istore (pc' := 81) dX11_fits_79 rfl rfl ?_
          refine r_iinc (pc' := 84) dX11_fits_81 rfl rfl rfl ?_
          refine r_goto (tgt := 28) dX11_fits_84 rfl ?_
          first
            | (rw [show allF (fun k => decide (Pk u (Lo v (p + k)) = Px u w k)) (k + 1) i = (decide (Pk u (Lo v (p + i)) = Px u w i) && allF (fun k => decide (Pk u (Lo v (p + k)) = Px u w k)) k (i + 1)) from rfl, decide_eq_true (by omega), Bool.true_and] at h
               exact ih (i + 1) (by omega) h)
            | (rw [show allF (fun k => decide (Pk u (Lo v (p + k)) = Px u w k)) (k + 1) i = (decide (Pk u (Lo v (p + i)) = Px u w i) && allF (fun k => decide (Pk u (Lo v (p + k)) = Px u w k)) k (i + 1)) from rfl, decide_eq_false (by omega), Bool.false_and] at h
               exact lm_fits0 (by omega) (i + 1) (by omega) h)
        · refine r_iconst (pc' := 75) dX11_fits_74 rfl ?_
          refine r_goto (tgt := 79) dX11_fits_75 rfl ?_
          refine r_istore (pc' := 81) dX11_fits_79 rfl rfl ?_
          refine r_iinc (pc' := 84) dX11_fits_81 rfl rfl rfl ?_
          refine r_goto (tgt := 28) dX11_fits_84 rfl ?_
          first
            | (rw [show allF (fun k => decide (Pk u (Lo v (p + k)) = Px u w k)) (k + 1) i = (decide (Pk u (Lo v (p + i)) = Px u w i) && allF (fun k => decide (Pk u (Lo v (p + k)) = Px u w k)) k (i + 1)) from rfl, decide_eq_true (by omega), Bool.true_and] at h
               exact ih (i + 1) (by omega) h)
            | (rw [show allF (fun k => decide (Pk u (Lo v (p + k)) = Px u w k)) (k + 1) i = (decide (Pk u (Lo v (p + i)) = Px u w i) && allF (fun k => decide (Pk u (Lo v (p + k)) = Px u w k)) k (i + 1)) from rfl, decide_eq_false (by omega), Bool.false_and] at h
               exact lm_fits0 (by omega) (i + 1) (by omega) h)
theorem m_fits {X : CX} {d : Nat} {g : Mem} {K : Int → Mem → Prop} {u : PV} {v : LV} (hB : MB g u v) {w p : Nat} (hw1 : w < Pw u) (hp7 : p ≤ 7) (h : K (b01 (begB u v w p)) g) : EI X (d + 1) mX11_fits [vr 166, vi (w : Int), vi (p : Int)] Z0 g K := by
  show AJ X (d + 1) mX11_fits 0 0 (QI Z0 K) 0 0 0 [some (vr 166), some (vi (w : Int)), some (vi (p : Int)), none, none, none] [] Z0 g
  obtain ⟨hQ, hU, hC, hW⟩ := id hB
  obtain ⟨hy, hi, hc, ht, ho, hf, hw_⟩ := id hC
  obtain ⟨w0, w1, w2, w3, w4, w5, w6, w7⟩ := id hW
  obtain ⟨p6, p7, p8, p9, p10, pk, pg, px, py⟩ := id hQ
  obtain ⟨u0, u1, u2, u3, u4, u5, u6, u7⟩ := id hU
  have e := u6 w hw1
  refine r_aload_n (pc' := 1) dX11_fits_0 rfl rfl ?_
  refine r_iload_n (pc' := 2) dX11_fits_1 rfl rfl ?_
  refine r_vi1 (pc' := 5) dX11_fits_2 rfl qX11_longOf lX11_125 z166 rfl rfl rfl rfl (Nat.zero_le _) (Nat.zero_le _) (m_long hB hw1 ?_)
  refine r_istore_n (pc' := 6) dX11_fits_5 rfl rfl ?_
  refine r_iload_n (pc' := 7) dX11_fits_6 rfl rfl ?_
  refine r_iload_n (pc' := 8) dX11_fits_7 rfl rfl ?_
  refine r_iadd (pc' := 9) dX11_fits_8 rfl ?_
  refine r_aload_n (pc' := 10) dX11_fits_9 rfl rfl ?_
  refine r_getr (pc' := 13) dX11_fits_10 rfl fX11_19 z166 rfl ?_
  refine r_iconst (pc' := 14) dX11_fits_13 rfl ?_
  refine r_iaload (pc' := 15) dX11_fits_14 rfl z170 (by decide) (by omega) (by omega) hc ?_
  refine r_icmp_gt (tgt := 22) (pc' := 18) dX11_fits_15 rfl rfl (by omega) (by omega) (fun c15 => ?_) (fun c15 => ?_)
  · refine r_iconst (pc' := 23) dX11_fits_22 rfl ?_
    refine r_istore (pc' := 25) dX11_fits_23 rfl rfl ?_
    refine r_iconst (pc' := 26) dX11_fits_25 rfl ?_
    refine r_istore (pc' := 28) dX11_fits_26 rfl rfl ?_
    unfold begB at h
    first
      | (rw [decide_eq_true (by omega), Bool.true_and] at h
         exact lm_fits hB hw1 (by omega) (Pl u w) 0 (by omega) h)
      | (rw [decide_eq_false (by omega), Bool.false_and] at h
         exact lm_fits0 (by omega) 0 (by omega) h)
  · refine r_iconst (pc' := 19) dX11_fits_18 rfl ?_
    refine r_goto (tgt := 23) dX11_fits_19 rfl ?_
    refine r_istore (pc' := 25) dX11_fits_23 rfl rfl ?_
    refine r_iconst (pc' := 26) dX11_fits_25 rfl ?_
    refine r_istore (pc' := 28) dX11_fits_26 rfl rfl ?_
    unfold begB at h
    first
      | (rw [decide_eq_true (by omega), Bool.true_and] at h
         exact lm_fits hB hw1 (by omega) (Pl u w) 0 (by omega) h)
      | (rw [decide_eq_false (by omega), Bool.false_and] at h
         exact lm_fits0 (by omega) 0 (by omega) h)
