theorem fulN_R {u : PV} (hU : PW u) (nm : Int) : R32 (fulN u nm) := by
  have := hU.1
  unfold fulN
  split
  · constructor <;> omega
  · repeat' split
    all_goals exact b01_R _
theorem fulN_0 {u : PV} {nm : Int} (h : fulN u nm = 0) : (nm = 102 → Pf u < 7) ∧ (nm = 119 → Pw u < 6) ∧ (nm ≠ 121 ∧ nm ≠ 102 ∧ nm ≠ 119 → Pq u < 5) := by
  unfold fulN at h
  refine ⟨fun e => ?_, fun e => ?_, fun e => ?_⟩
  · rw [if_neg (by omega), if_pos e] at h
    have := of_decide_eq_false (b01_eq h)
    omega
  · rw [if_neg (by omega), if_neg (by omega), if_pos e] at h
    have := of_decide_eq_false (b01_eq h)
    omega
  · rw [if_neg e.1, if_neg e.2.1, if_neg e.2.2] at h
    have := of_decide_eq_false (b01_eq h)
    omega
theorem FrX {g g' : Mem} (h : Fr [1] g g') : Fr [1, 3, 4, 5, 6, 7, 8, 9] g g' := h.sub (by decide)
theorem a_clause {X : CX} {d : Nat} {g : Mem} {K : Mem → Prop} {N : Nat} {T : Nat → Int} {p : Nat} {f : Nat × Int} (hR : Rdr g N T p f) {u : PV} (hQ : PC_ g 3 4 5 6 7 8 9 u) (hU : PW u) (hpN : p < N) (h : ∀ g' : Mem, Rdr g' N T (clR N T u p f).2.1 (clR N T u p f).2.2 → PC_ g' 3 4 5 6 7 8 9 (clR N T u p f).1 → PW (clR N T u p f).1 → Fr [1, 3, 4, 5, 6, 7, 8, 9] g g' → K g') : EV X (d + 4) mX6_readClause [vr 1, vr 3] Z0 g K := by
  show AJ X (d + 4) mX6_readClause 0 0 (QV Z0 K) 0 0 0 [some (vr 1), some (vr 3), none] [] Z0 g
  obtain ⟨r1, r2, r3, r4, r5, r6, r7, r8, r9⟩ := id hR
  obtain ⟨p6, p7, p8, p9, p10, pk, pg, px, py⟩ := id hQ
  obtain ⟨u0, u1, u2, u3, u4, u5, u6, u7⟩ := id hU
  refine r_aload_n (pc' := 1) dX6_readClause_0 rfl rfl ?_
  refine r_vi0 (pc' := 4) dX6_readClause_1 rfl qX6_letterHere lX6_40 z1 rfl rfl rfl (Nat.zero_le _) (Nat.zero_le _) (a_here hR ?_)
  refine r_istore_n (pc' := 5) dX6_readClause_4 rfl rfl ?_
  refine r_iload_n (pc' := 6) dX6_readClause_5 rfl rfl ?_
  refine r_bipush (pc' := 8) dX6_readClause_6 rfl (by decide) ?_
  refine r_icmp_eq (tgt := 48) (pc' := 11) dX6_readClause_8 rfl rfl (hereT_R hR _).1 (by decide) (fun c8 => ?_) (fun c8 => ?_)
  · refine r_aload_n (pc' := 49) dX6_readClause_48 rfl rfl ?_
    refine r_iload_n (pc' := 50) dX6_readClause_49 rfl rfl ?_
    refine r_si2 (pc' := 53) dX6_readClause_50 rfl qX6_isFullFor lX6_52 rfl rfl rfl (Nat.zero_le _) (Nat.zero_le _) (a_full hQ hU _ (hereT_R hR _).1 ?_)
    refine r_if_eq (tgt := 68) (pc' := 56) dX6_readClause_53 rfl rfl (fulN_R hU _) (fun c53 => ?_) (fun c53 => ?_)
    · refine r_aload_n (pc' := 69) dX6_readClause_68 rfl rfl ?_
      refine r_dup (pc' := 70) dX6_readClause_69 rfl rfl ?_
      refine r_getf (pc' := 73) (kI := 4) dX6_readClause_70 rfl fX6_25 z1 rfl rfl r4 ?_
      refine r_iconst (pc' := 74) dX6_readClause_73 rfl ?_
      refine r_iadd (pc' := 75) dX6_readClause_74 rfl ?_
      refine r_putf (pc' := 78) (kI := 4) dX6_readClause_75 rfl fX6_25 z1 rfl (Or.inl rfl) rfl rfl ?_
      refine r_aload_n (pc' := 79) dX6_readClause_78 rfl rfl ?_
      refine r_aload_n (pc' := 80) dX6_readClause_79 rfl rfl ?_
      refine r_iload_n (pc' := 81) dX6_readClause_80 rfl rfl ?_
      refine r_vv2 (pc' := 84) dX6_readClause_81 rfl qX6_readRest lX6_56 z1 rfl rfl rfl rfl (Nat.zero_le _) (Nat.zero_le _) (a_rest (hR.pos (q := p + 1) (x := (p : Int) + 1) (by omega) (by omega)) (PD.fr hQ (Fr1 _ _ _)) hU _ (hereT_R hR _).1 (fulN_0 c53).1 (fulN_0 c53).2.1 (fulN_0 c53).2.2 (fun g2 hR2 hQ2 hU2 fr2 => ?_))
      refine r_aload_n (pc' := 85) dX6_readClause_84 rfl rfl ?_
      refine r_bipush (pc' := 87) dX6_readClause_85 rfl (by decide) ?_
      refine r_vv1 (pc' := 90) dX6_readClause_87 rfl qX6_readMark lX6_60 z1 rfl rfl rfl rfl (Nat.zero_le _) (Nat.zero_le _) (a_mark hR2 (fun g3 hR3 fr3 => ?_))
      refine r_retn dX6_readClause_90 rfl ?_
      first
        | (have e : clR N T u p f = (u, p, blm f 1 p) := by unfold clR; rw [if_pos (by omega)]
           rw [e] at h
           exact h g1 hR1 (PD.fr hQ fr1) hU (FrX fr1))
        | (have e : clR N T u p f = (u, p, blm f 3 p) := by unfold clR; rw [if_neg (by omega), if_pos c53]
           rw [e] at h
           exact h g1 hR1 (PD.fr hQ fr1) hU (FrX fr1))
        | (have e : clR N T u p f = ((restR N T (hereT N T p) u (p + 1) f).1, mrkR N T 59 (restR N T (hereT N T p) u (p + 1) f).2.1 (restR N T (hereT N T p) u (p + 1) f).2.2) := by unfold clR; rw [if_neg (by omega), if_neg (by omega)]
           rw [e] at h
           exact h g3 hR3 (PD.fr hQ2 fr3) hU2 ((FrX (Fr1 _ _ _)).tr (fr2.tr (FrX fr3))))
    · refine r_aload_n (pc' := 57) dX6_readClause_56 rfl rfl ?_
      refine r_iconst (pc' := 58) dX6_readClause_57 rfl ?_
      refine r_aload_n (pc' := 59) dX6_readClause_58 rfl rfl ?_
      refine r_getf (pc' := 62) (kI := 4) dX6_readClause_59 rfl fX6_25 z1 rfl rfl r4 ?_
      refine r_vv2 (pc' := 65) dX6_readClause_62 rfl qX6_blame lX6_48 z1 rfl rfl rfl rfl (Nat.zero_le _) (Nat.zero_le _) (a_blame hR (k := 3) (q := p) (by decide) (by omega) (fun g1 hR1 fr1 => ?_))
      refine r_goto (tgt := 90) dX6_readClause_65 rfl ?_
      refine r_retn dX6_readClause_90 rfl ?_
      first
        | (have e : clR N T u p f = (u, p, blm f 1 p) := by unfold clR; rw [if_pos (by omega)]
           rw [e] at h
           exact h g1 hR1 (PD.fr hQ fr1) hU (FrX fr1))
        | (have e : clR N T u p f = (u, p, blm f 3 p) := by unfold clR; rw [if_neg (by omega), if_pos c53]
           rw [e] at h
           exact h g1 hR1 (PD.fr hQ fr1) hU (FrX fr1))
        | (have e : clR N T u p f = ((restR N T (hereT N T p) u (p + 1) f).1, mrkR N T 59 (restR N T (hereT N T p) u (p + 1) f).2.1 (restR N T (hereT N T p) u (p + 1) f).2.2) := by unfold clR; rw [if_neg (by omega), if_neg (by omega)]
           rw [e] at h
           exact h g3 hR3 (PD.fr hQ2 fr3) hU2 ((FrX (Fr1 _ _ _)).tr (fr2.tr (FrX fr3))))
  · refine r_iload_n (pc' := 12) dX6_readClause_11 rfl rfl ?_
    refine r_bipush (pc' := 14) dX6_readClause_12 rfl (by decide) ?_
    refine r_icmp_eq (tgt := 29) (pc' := 17) dX6_readClause_14 rfl rfl (hereT_R hR _).1 (by decide) (fun c14 => ?_) (fun c14 => ?_)
    · refine r_aload_n (pc' := 30) dX6_readClause_29 rfl rfl ?_
      refine r_getf (pc' := 33) (kI := 6) dX6_readClause_30 rfl fX6_44 z3 rfl rfl p6 ?_
      refine r_if_ne (tgt := 48) (pc' := 36) dX6_readClause_33 rfl rfl (by omega) (fun c33 => ?_) (fun c33 => ?_)
      · refine r_aload_n (pc' := 49) dX6_readClause_48 rfl rfl ?_
        refine r_iload_n (pc' := 50) dX6_readClause_49 rfl rfl ?_
        refine r_si2 (pc' := 53) dX6_readClause_50 rfl qX6_isFullFor lX6_52 rfl rfl rfl (Nat.zero_le _) (Nat.zero_le _) (a_full hQ hU _ (hereT_R hR _).1 ?_)
        refine r_if_eq (tgt := 68) (pc' := 56) dX6_readClause_53 rfl rfl (fulN_R hU _) (fun c53 => ?_) (fun c53 => ?_)
        · refine r_aload_n (pc' := 69) dX6_readClause_68 rfl rfl ?_
          refine r_dup (pc' := 70) dX6_readClause_69 rfl rfl ?_
          refine r_getf (pc' := 73) (kI := 4) dX6_readClause_70 rfl fX6_25 z1 rfl rfl r4 ?_
          refine r_iconst (pc' := 74) dX6_readClause_73 rfl ?_
          refine r_iadd (pc' := 75) dX6_readClause_74 rfl ?_
          refine r_putf (pc' := 78) (kI := 4) dX6_readClause_75 rfl fX6_25 z1 rfl (Or.inl rfl) rfl rfl ?_
          refine r_aload_n (pc' := 79) dX6_readClause_78 rfl rfl ?_
          refine r_aload_n (pc' := 80) dX6_readClause_79 rfl rfl ?_
          refine r_iload_n (pc' := 81) dX6_readClause_80 rfl rfl ?_
          refine r_vv2 (pc' := 84) dX6_readClause_81 rfl qX6_readRest lX6_56 z1 rfl rfl rfl rfl (Nat.zero_le _) (Nat.zero_le _) (a_rest (hR.pos (q := p + 1) (x := (p : Int) + 1) (by omega) (by omega)) (PD.fr hQ (Fr1 _ _ _)) hU _ (hereT_R hR _).1 (fulN_0 c53).1 (fulN_0 c53).2.1 (fulN_0 c53).2.2 (fun g2 hR2 hQ2 hU2 fr2 => ?_))
          refine r_aload_n (pc' := 85) dX6_readClause_84 rfl rfl ?_
          refine r_bipush (pc' := 87) dX6_readClause_85 rfl (by decide) ?_
          refine r_vv1 (pc' := 90) dX6_readClause_87 rfl qX6_readMark lX6_60 z1 rfl rfl rfl rfl (Nat.zero_le _) (Nat.zero_le _) (a_mark hR2 (fun g3 hR3 fr3 => ?_))
          refine r_retn dX6_readClause_90 rfl ?_
          first
            | (have e : clR N T u p f = (u, p, blm f 1 p) := by unfold clR; rw [if_pos (by omega)]
               rw [e] at h
               exact h g1 hR1 (PD.fr hQ fr1) hU (FrX fr1))
            | (have e : clR N T u p f = (u, p, blm f 3 p) := by unfold clR; rw [if_neg (by omega), if_pos c53]
               rw [e] at h
               exact h g1 hR1 (PD.fr hQ fr1) hU (FrX fr1))
            | (have e : clR N T u p f = ((restR N T (hereT N T p) u (p + 1) f).1, mrkR N T 59 (restR N T (hereT N T p) u (p + 1) f).2.1 (restR N T (hereT N T p) u (p + 1) f).2.2) := by unfold clR; rw [if_neg (by omega), if_neg (by omega)]
               rw [e] at h
               exact h g3 hR3 (PD.fr hQ2 fr3) hU2 ((FrX (Fr1 _ _ _)).tr (fr2.tr (FrX fr3))))
        · refine r_aload_n (pc' := 57) dX6_readClause_56 rfl rfl ?_
          refine r_iconst (pc' := 58) dX6_readClause_57 rfl ?_
          refine r_aload_n (pc' := 59) dX6_readClause_58 rfl rfl ?_
          refine r_getf (pc' := 62) (kI := 4) dX6_readClause_59 rfl fX6_25 z1 rfl rfl r4 ?_
          refine r_vv2 (pc' := 65) dX6_readClause_62 rfl qX6_blame lX6_48 z1 rfl rfl rfl rfl (Nat.zero_le _) (Nat.zero_le _) (a_blame hR (k := 3) (q := p) (by decide) (by omega) (fun g1 hR1 fr1 => ?_))
          refine r_goto (tgt := 90) dX6_readClause_65 rfl ?_
          refine r_retn dX6_readClause_90 rfl ?_
          first
            | (have e : clR N T u p f = (u, p, blm f 1 p) := by unfold clR; rw [if_pos (by omega)]
               rw [e] at h
               exact h g1 hR1 (PD.fr hQ fr1) hU (FrX fr1))
            | (have e : clR N T u p f = (u, p, blm f 3 p) := by unfold clR; rw [if_neg (by omega), if_pos c53]
               rw [e] at h
               exact h g1 hR1 (PD.fr hQ fr1) hU (FrX fr1))
            | (have e : clR N T u p f = ((restR N T (hereT N T p) u (p + 1) f).1, mrkR N T 59 (restR N T (hereT N T p) u (p + 1) f).2.1 (restR N T (hereT N T p) u (p + 1) f).2.2) := by unfold clR; rw [if_neg (by omega), if_neg (by omega)]
               rw [e] at h
               exact h g3 hR3 (PD.fr hQ2 fr3) hU2 ((FrX (Fr1 _ _ _)).tr (fr2.tr (FrX fr3))))
      · refine r_aload_n (pc' := 37) dX6_readClause_36 rfl rfl ?_
        refine r_iconst (pc' := 38) dX6_readClause_37 rfl ?_
        refine r_aload_n (pc' := 39) dX6_readClause_38 rfl rfl ?_
        refine r_getf (pc' := 42) (kI := 4) dX6_readClause_39 rfl fX6_25 z1 rfl rfl r4 ?_
        refine r_vv2 (pc' := 45) dX6_readClause_42 rfl qX6_blame lX6_48 z1 rfl rfl rfl rfl (Nat.zero_le _) (Nat.zero_le _) (a_blame hR (k := 1) (q := p) (by decide) (by omega) (fun g1 hR1 fr1 => ?_))
        refine r_goto (tgt := 90) dX6_readClause_45 rfl ?_
        refine r_retn dX6_readClause_90 rfl ?_
        first
          | (have e : clR N T u p f = (u, p, blm f 1 p) := by unfold clR; rw [if_pos (by omega)]
             rw [e] at h
             exact h g1 hR1 (PD.fr hQ fr1) hU (FrX fr1))
          | (have e : clR N T u p f = (u, p, blm f 3 p) := by unfold clR; rw [if_neg (by omega), if_pos c53]
             rw [e] at h
             exact h g1 hR1 (PD.fr hQ fr1) hU (FrX fr1))
          | (have e : clR N T u p f = ((restR N T (hereT N T p) u (p + 1) f).1, mrkR N T 59 (restR N T (hereT N T p) u (p + 1) f).2.1 (restR N T (hereT N T p) u (p + 1) f).2.2) := by unfold clR; rw [if_neg (by omega), if_neg (by omega)]
             rw [e] at h
             exact h g3 hR3 (PD.fr hQ2 fr3) hU2 ((FrX (Fr1 _ _ _)).tr (fr2.tr (FrX fr3))))
    · refine r_iload_n (pc' := 18) dX6_readClause_17 rfl rfl ?_
      refine r_bipush (pc' := 20) dX6_readClause_18 rfl (by decide) ?_
      refine r_icmp_eq (tgt := 29) (pc' := 23) dX6_readClause_20 rfl rfl (hereT_R hR _).1 (by decide) (fun c20 => ?_) (fun c20 => ?_)
      · refine r_aload_n (pc' := 30) dX6_readClause_29 rfl rfl ?_
        refine r_getf (pc' := 33) (kI := 6) dX6_readClause_30 rfl fX6_44 z3 rfl rfl p6 ?_
        refine r_if_ne (tgt := 48) (pc' := 36) dX6_readClause_33 rfl rfl (by omega) (fun c33 => ?_) (fun c33 => ?_)
        · refine r_aload_n (pc' := 49) dX6_readClause_48 rfl rfl ?_
          refine r_iload_n (pc' := 50) dX6_readClause_49 rfl rfl ?_
          refine r_si2 (pc' := 53) dX6_readClause_50 rfl qX6_isFullFor lX6_52 rfl rfl rfl (Nat.zero_le _) (Nat.zero_le _) (a_full hQ hU _ (hereT_R hR _).1 ?_)
          refine r_if_eq (tgt := 68) (pc' := 56) dX6_readClause_53 rfl rfl (fulN_R hU _) (fun c53 => ?_) (fun c53 => ?_)
          · refine r_aload_n (pc' := 69) dX6_readClause_68 rfl rfl ?_
            refine r_dup (pc' := 70) dX6_readClause_69 rfl rfl ?_
            refine r_getf (pc' := 73) (kI := 4) dX6_readClause_70 rfl fX6_25 z1 rfl rfl r4 ?_
            refine r_iconst (pc' := 74) dX6_readClause_73 rfl ?_
            refine r_iadd (pc' := 75) dX6_readClause_74 rfl ?_
            refine r_putf (pc' := 78) (kI := 4) dX6_readClause_75 rfl fX6_25 z1 rfl (Or.inl rfl) rfl rfl ?_
            refine r_aload_n (pc' := 79) dX6_readClause_78 rfl rfl ?_
            refine r_aload_n (pc' := 80) dX6_readClause_79 rfl rfl ?_
            refine r_iload_n (pc' := 81) dX6_readClause_80 rfl rfl ?_
            refine r_vv2 (pc' := 84) dX6_readClause_81 rfl qX6_readRest lX6_56 z1 rfl rfl rfl rfl (Nat.zero_le _) (Nat.zero_le _) (a_rest (hR.pos (q := p + 1) (x := (p : Int) + 1) (by omega) (by omega)) (PD.fr hQ (Fr1 _ _ _)) hU _ (hereT_R hR _).1 (fulN_0 c53).1 (fulN_0 c53).2.1 (fulN_0 c53).2.2 (fun g2 hR2 hQ2 hU2 fr2 => ?_))
            refine r_aload_n (pc' := 85) dX6_readClause_84 rfl rfl ?_
            refine r_bipush (pc' := 87) dX6_readClause_85 rfl (by decide) ?_
            refine r_vv1 (pc' := 90) dX6_readClause_87 rfl qX6_readMark lX6_60 z1 rfl rfl rfl rfl (Nat.zero_le _) (Nat.zero_le _) (a_mark hR2 (fun g3 hR3 fr3 => ?_))
            refine r_retn dX6_readClause_90 rfl ?_
            first
              | (have e : clR N T u p f = (u, p, blm f 1 p) := by unfold clR; rw [if_pos (by omega)]
                 rw [e] at h
                 exact h g1 hR1 (PD.fr hQ fr1) hU (FrX fr1))
              | (have e : clR N T u p f = (u, p, blm f 3 p) := by unfold clR; rw [if_neg (by omega), if_pos c53]
                 rw [e] at h
                 exact h g1 hR1 (PD.fr hQ fr1) hU (FrX fr1))
              | (have e : clR N T u p f = ((restR N T (hereT N T p) u (p + 1) f).1, mrkR N T 59 (restR N T (hereT N T p) u (p + 1) f).2.1 (restR N T (hereT N T p) u (p + 1) f).2.2) := by unfold clR; rw [if_neg (by omega), if_neg (by omega)]
                 rw [e] at h
                 exact h g3 hR3 (PD.fr hQ2 fr3) hU2 ((FrX (Fr1 _ _ _)).tr (fr2.tr (FrX fr3))))
          · refine r_aload_n (pc' := 57) dX6_readClause_56 rfl rfl ?_
            refine r_iconst (pc' := 58) dX6_readClause_57 rfl ?_
            refine r_aload_n (pc' := 59) dX6_readClause_58 rfl rfl ?_
            refine r_getf (pc' := 62) (kI := 4) dX6_readClause_59 rfl fX6_25 z1 rfl rfl r4 ?_
            refine r_vv2 (pc' := 65) dX6_readClause_62 rfl qX6_blame lX6_48 z1 rfl rfl rfl rfl (Nat.zero_le _) (Nat.zero_le _) (a_blame hR (k := 3) (q := p) (by decide) (by omega) (fun g1 hR1 fr1 => ?_))
            refine r_goto (tgt := 90) dX6_readClause_65 rfl ?_
            refine r_retn dX6_readClause_90 rfl ?_
            first
              | (have e : clR N T u p f = (u, p, blm f 1 p) := by unfold clR; rw [if_pos (by omega)]
                 rw [e] at h
                 exact h g1 hR1 (PD.fr hQ fr1) hU (FrX fr1))
              | (have e : clR N T u p f = (u, p, blm f 3 p) := by unfold clR; rw [if_neg (by omega), if_pos c53]
                 rw [e] at h
                 exact h g1 hR1 (PD.fr hQ fr1) hU (FrX fr1))
              | (have e : clR N T u p f = ((restR N T (hereT N T p) u (p + 1) f).1, mrkR N T 59 (restR N T (hereT N T p) u (p + 1) f).2.1 (restR N T (hereT N T p) u (p + 1) f).2.2) := by unfold clR; rw [if_neg (by omega), if_neg (by omega)]
                 rw [e] at h
                 exact h g3 hR3 (PD.fr hQ2 fr3) hU2 ((FrX (Fr1 _ _ _)).tr (fr2.tr (FrX fr3))))
        · refine r_aload_n (pc' := 37) dX6_readClause_36 rfl rfl ?_
          refine r_iconst (pc' := 38) dX6_readClause_37 rfl ?_
          refine r_aload_n (pc' := 39) dX6_readClause_38 rfl rfl ?_
          refine r_getf (pc' := 42) (kI := 4) dX6_readClause_39 rfl fX6_25 z1 rfl rfl r4 ?_
          refine r_vv2 (pc' := 45) dX6_readClause_42 rfl qX6_blame lX6_48 z1 rfl rfl rfl rfl (Nat.zero_le _) (Nat.zero_le _) (a_blame hR (k := 1) (q := p) (by decide) (by omega) (fun g1 hR1 fr1 => ?_))
          refine r_goto (tgt := 90) dX6_readClause_45 rfl ?_
          refine r_retn dX6_readClause_90 rfl ?_
          first
            | (have e : clR N T u p f = (u, p, blm f 1 p) := by unfold clR; rw [if_pos (by omega)]
               rw [e] at h
               exact h g1 hR1 (PD.fr hQ fr1) hU (FrX fr1))
            | (have e : clR N T u p f = (u, p, blm f 3 p) := by unfold clR; rw [if_neg (by omega), if_pos c53]
               rw [e] at h
               exact h g1 hR1 (PD.fr hQ fr1) hU (FrX fr1))
            | (have e : clR N T u p f = ((restR N T (hereT N T p) u (p + 1) f).1, mrkR N T 59 (restR N T (hereT N T p) u (p + 1) f).2.1 (restR N T (hereT N T p) u (p + 1) f).2.2) := by unfold clR; rw [if_neg (by omega), if_neg (by omega)]
               rw [e] at h
               exact h g3 hR3 (PD.fr hQ2 fr3) hU2 ((FrX (Fr1 _ _ _)).tr (fr2.tr (FrX fr3))))
      · refine r_iload_n (pc' := 24) dX6_readClause_23 rfl rfl ?_
        refine r_bipush (pc' := 26) dX6_readClause_24 rfl (by decide) ?_
        refine r_icmp_ne (tgt := 36) (pc' := 29) dX6_readClause_26 rfl rfl (hereT_R hR _).1 (by decide) (fun c26 => ?_) (fun c26 => ?_)
        · refine r_aload_n (pc' := 37) dX6_readClause_36 rfl rfl ?_
          refine r_iconst (pc' := 38) dX6_readClause_37 rfl ?_
          refine r_aload_n (pc' := 39) dX6_readClause_38 rfl rfl ?_
          refine r_getf (pc' := 42) (kI := 4) dX6_readClause_39 rfl fX6_25 z1 rfl rfl r4 ?_
          refine r_vv2 (pc' := 45) dX6_readClause_42 rfl qX6_blame lX6_48 z1 rfl rfl rfl rfl (Nat.zero_le _) (Nat.zero_le _) (a_blame hR (k := 1) (q := p) (by decide) (by omega) (fun g1 hR1 fr1 => ?_))
          refine r_goto (tgt := 90) dX6_readClause_45 rfl ?_
          refine r_retn dX6_readClause_90 rfl ?_
          first
            | (have e : clR N T u p f = (u, p, blm f 1 p) := by unfold clR; rw [if_pos (by omega)]
               rw [e] at h
               exact h g1 hR1 (PD.fr hQ fr1) hU (FrX fr1))
            | (have e : clR N T u p f = (u, p, blm f 3 p) := by unfold clR; rw [if_neg (by omega), if_pos c53]
               rw [e] at h
               exact h g1 hR1 (PD.fr hQ fr1) hU (FrX fr1))
            | (have e : clR N T u p f = ((restR N T (hereT N T p) u (p + 1) f).1, mrkR N T 59 (restR N T (hereT N T p) u (p + 1) f).2.1 (restR N T (hereT N T p) u (p + 1) f).2.2) := by unfold clR; rw [if_neg (by omega), if_neg (by omega)]
               rw [e] at h
               exact h g3 hR3 (PD.fr hQ2 fr3) hU2 ((FrX (Fr1 _ _ _)).tr (fr2.tr (FrX fr3))))
        · refine r_aload_n (pc' := 30) dX6_readClause_29 rfl rfl ?_
          refine r_getf (pc' := 33) (kI := 6) dX6_readClause_30 rfl fX6_44 z3 rfl rfl p6 ?_
          refine r_if_ne (tgt := 48) (pc' := 36) dX6_readClause_33 rfl rfl (by omega) (fun c33 => ?_) (fun c33 => ?_)
          · refine r_aload_n (pc' := 49) dX6_readClause_48 rfl rfl ?_
            refine r_iload_n (pc' := 50) dX6_readClause_49 rfl rfl ?_
            refine r_si2 (pc' := 53) dX6_readClause_50 rfl qX6_isFullFor lX6_52 rfl rfl rfl (Nat.zero_le _) (Nat.zero_le _) (a_full hQ hU _ (hereT_R hR _).1 ?_)
            refine r_if_eq (tgt := 68) (pc' := 56) dX6_readClause_53 rfl rfl (fulN_R hU _) (fun c53 => ?_) (fun c53 => ?_)
            · refine r_aload_n (pc' := 69) dX6_readClause_68 rfl rfl ?_
              refine r_dup (pc' := 70) dX6_readClause_69 rfl rfl ?_
              refine r_getf (pc' := 73) (kI := 4) dX6_readClause_70 rfl fX6_25 z1 rfl rfl r4 ?_
              refine r_iconst (pc' := 74) dX6_readClause_73 rfl ?_
              refine r_iadd (pc' := 75) dX6_readClause_74 rfl ?_
              refine r_putf (pc' := 78) (kI := 4) dX6_readClause_75 rfl fX6_25 z1 rfl (Or.inl rfl) rfl rfl ?_
              refine r_aload_n (pc' := 79) dX6_readClause_78 rfl rfl ?_
              refine r_aload_n (pc' := 80) dX6_readClause_79 rfl rfl ?_
              refine r_iload_n (pc' := 81) dX6_readClause_80 rfl rfl ?_
              refine r_vv2 (pc' := 84) dX6_readClause_81 rfl qX6_readRest lX6_56 z1 rfl rfl rfl rfl (Nat.zero_le _) (Nat.zero_le _) (a_rest (hR.pos (q := p + 1) (x := (p : Int) + 1) (by omega) (by omega)) (PD.fr hQ (Fr1 _ _ _)) hU _ (hereT_R hR _).1 (fulN_0 c53).1 (fulN_0 c53).2.1 (fulN_0 c53).2.2 (fun g2 hR2 hQ2 hU2 fr2 => ?_))
              refine r_aload_n (pc' := 85) dX6_readClause_84 rfl rfl ?_
              refine r_bipush (pc' := 87) dX6_readClause_85 rfl (by decide) ?_
              refine r_vv1 (pc' := 90) dX6_readClause_87 rfl qX6_readMark lX6_60 z1 rfl rfl rfl rfl (Nat.zero_le _) (Nat.zero_le _) (a_mark hR2 (fun g3 hR3 fr3 => ?_))
              refine r_retn dX6_readClause_90 rfl ?_
              first
                | (have e : clR N T u p f = (u, p, blm f 1 p) := by unfold clR; rw [if_pos (by omega)]
                   rw [e] at h
                   exact h g1 hR1 (PD.fr hQ fr1) hU (FrX fr1))
                | (have e : clR N T u p f = (u, p, blm f 3 p) := by unfold clR; rw [if_neg (by omega), if_pos c53]
                   rw [e] at h
                   exact h g1 hR1 (PD.fr hQ fr1) hU (FrX fr1))
                | (have e : clR N T u p f = ((restR N T (hereT N T p) u (p + 1) f).1, mrkR N T 59 (restR N T (hereT N T p) u (p + 1) f).2.1 (restR N T (hereT N T p) u (p + 1) f).2.2) := by unfold clR; rw [if_neg (by omega), if_neg (by omega)]
                   rw [e] at h
                   exact h g3 hR3 (PD.fr hQ2 fr3) hU2 ((FrX (Fr1 _ _ _)).tr (fr2.tr (FrX fr3))))
            · refine r_aload_n (pc' := 57) dX6_readClause_56 rfl rfl ?_
              refine r_iconst (pc' := 58) dX6_readClause_57 rfl ?_
              refine r_aload_n (pc' := 59) dX6_readClause_58 rfl rfl ?_
              refine r_getf (pc' := 62) (kI := 4) dX6_readClause_59 rfl fX6_25 z1 rfl rfl r4 ?_
              refine r_vv2 (pc' := 65) dX6_readClause_62 rfl qX6_blame lX6_48 z1 rfl rfl rfl rfl (Nat.zero_le _) (Nat.zero_le _) (a_blame hR (k := 3) (q := p) (by decide) (by omega) (fun g1 hR1 fr1 => ?_))
              refine r_goto (tgt := 90) dX6_readClause_65 rfl ?_
              refine r_retn dX6_readClause_90 rfl ?_
              first
                | (have e : clR N T u p f = (u, p, blm f 1 p) := by unfold clR; rw [if_pos (by omega)]
                   rw [e] at h
                   exact h g1 hR1 (PD.fr hQ fr1) hU (FrX fr1))
                | (have e : clR N T u p f = (u, p, blm f 3 p) := by unfold clR; rw [if_neg (by omega), if_pos c53]
                   rw [e] at h
                   exact h g1 hR1 (PD.fr hQ fr1) hU (FrX fr1))
                | (have e : clR N T u p f = ((restR N T (hereT N T p) u (p + 1) f).1, mrkR N T 59 (restR N T (hereT N T p) u (p + 1) f).2.1 (restR N T (hereT N T p) u (p + 1) f).2.2) := by unfold clR; rw [if_neg (by omega), if_neg (by omega)]
                   rw [e] at h
                   exact h g3 hR3 (PD.fr hQ2 fr3) hU2 ((FrX (Fr1 _ _ _)).tr (fr2.tr (FrX fr3))))
          · refine r_aload_n (pc' := 37) dX6_readClause_36 rfl rfl ?_
            refine r_iconst (pc' := 38) dX6_readClause_37 rfl ?_
            refine r_aload_n (pc' := 39) dX6_readClause_38 rfl rfl ?_
            refine r_getf (pc' := 42) (kI := 4) dX6_readClause_39 rfl fX6_25 z1 rfl rfl r4 ?_
            refine r_vv2 (pc' := 45) dX6_readClause_42 rfl qX6_blame lX6_48 z1 rfl rfl rfl rfl (Nat.zero_le _) (Nat.zero_le _) (a_blame hR (k := 1) (q := p) (by decide) (by omega) (fun g1 hR1 fr1 => ?_))
            refine r_goto (tgt := 90) dX6_readClause_45 rfl ?_
            refine r_retn dX6_readClause_90 rfl ?_
            first
              | (have e : clR N T u p f = (u, p, blm f 1 p) := by unfold clR; rw [if_pos (by omega)]
                 rw [e] at h
                 exact h g1 hR1 (PD.fr hQ fr1) hU (FrX fr1))
              | (have e : clR N T u p f = (u, p, blm f 3 p) := by unfold clR; rw [if_neg (by omega), if_pos c53]
                 rw [e] at h
                 exact h g1 hR1 (PD.fr hQ fr1) hU (FrX fr1))
              | (have e : clR N T u p f = ((restR N T (hereT N T p) u (p + 1) f).1, mrkR N T 59 (restR N T (hereT N T p) u (p + 1) f).2.1 (restR N T (hereT N T p) u (p + 1) f).2.2) := by unfold clR; rw [if_neg (by omega), if_neg (by omega)]
                 rw [e] at h
                 exact h g3 hR3 (PD.fr hQ2 fr3) hU2 ((FrX (Fr1 _ _ _)).tr (fr2.tr (FrX fr3))))
theorem l_into {X : CX} {d : Nat} {K : Mem → Prop} {N : Nat} {T : Nat → Int} : ∀ (k c : Nat) (u : PV) (p : Nat) (f : Nat × Int) (g : Mem), c + k = 240 → Rdr g N T p f → PC_ g 3 4 5 6 7 8 9 u → PW u → (∀ g' : Mem, Rdr g' N T (rdI N T k u p f).2.1 (rdI N T k u p f).2.2 → PC_ g' 3 4 5 6 7 8 9 (rdI N T k u p f).1 → PW (rdI N T k u p f).1 → Fr [1, 3, 4, 5, 6, 7, 8, 9] g g' → K g') → AJ X (d + 5) mX6_readInto 0 0 (QV Z0 K) 0 0 25 [some (vr 1), some (vr 3), some (vi (c : Int))] [] Z0 g := by
  intro k
  induction k with
  | zero =>
    intro c u p f g hc hR hQ hU h
    refine r_iload_n (pc' := 26) dX6_readInto_25 rfl rfl ?_
    refine r_sipush (pc' := 29) dX6_readInto_26 rfl (by decide) ?_
    refine r_icmp_ge (tgt := 65) (pc' := 32) dX6_readInto_29 rfl rfl (by omega) (by omega) (fun c29 => ?_) (fun c29 => ?_)
    · refine r_retn dX6_readInto_65 rfl ?_
      exact h g hR hQ hU (Fr.rf _ _)
    · exact absurd c29 (by omega)
  | succ k ih =>
    intro c u p f g hc hR hQ hU h
    obtain ⟨r1, r2, r3, r4, r5, r6, r7, r8, r9⟩ := id hR
    unfold rdI at h
    refine r_iload_n (pc' := 26) dX6_readInto_25 rfl rfl ?_
    refine r_sipush (pc' := 29) dX6_readInto_26 rfl (by decide) ?_
    refine r_icmp_ge (tgt := 65) (pc' := 32) dX6_readInto_29 rfl rfl (by omega) (by omega) (fun c29 => ?_) (fun c29 => ?_)
    · exact absurd c29 (by omega)
    · refine r_aload_n (pc' := 33) dX6_readInto_32 rfl rfl ?_
      refine r_getf (pc' := 36) (kI := 4) dX6_readInto_33 rfl fX6_25 z1 rfl rfl r4 ?_
      refine r_aload_n (pc' := 37) dX6_readInto_36 rfl rfl ?_
      refine r_getf (pc' := 40) (kI := 1) dX6_readInto_37 rfl fX6_15 z1 rfl rfl r1 ?_
      refine r_icmp_ge (tgt := 65) (pc' := 43) dX6_readInto_40 rfl rfl (by omega) (by omega) (fun c40 => ?_) (fun c40 => ?_)
      · refine r_retn dX6_readInto_65 rfl ?_
        rw [if_neg (by omega)] at h
        exact h g hR hQ hU (Fr.rf _ _)
      · refine r_aload_n (pc' := 44) dX6_readInto_43 rfl rfl ?_
        refine r_getf (pc' := 47) (kI := 2) dX6_readInto_44 rfl fX6_19 z1 rfl rfl r6 ?_
        refine r_if_ne (tgt := 65) (pc' := 50) dX6_readInto_47 rfl rfl (by omega) (fun c47 => ?_) (fun c47 => ?_)
        · refine r_retn dX6_readInto_65 rfl ?_
          rw [if_neg (by omega)] at h
          exact h g hR hQ hU (Fr.rf _ _)
        · refine r_aload_n (pc' := 51) dX6_readInto_50 rfl rfl ?_
          refine r_aload_n (pc' := 52) dX6_readInto_51 rfl rfl ?_
          refine r_vv1 (pc' := 55) dX6_readInto_52 rfl qX6_readClause lX6_36 z1 rfl rfl rfl rfl (Nat.zero_le _) (Nat.zero_le _) (a_clause hR hQ hU (by omega) (fun g1 hR1 hQ1 hU1 fr1 => ?_))
          refine r_aload_n (pc' := 56) dX6_readInto_55 rfl rfl ?_
          refine r_vv0 (pc' := 59) dX6_readInto_56 rfl qX6_skipBlanks lX6_33 z1 rfl rfl rfl (Nat.zero_le _) (Nat.zero_le _) (a_skip hR1 (fun g2 hR2 fr2 => ?_))
          refine r_iinc (pc' := 62) dX6_readInto_59 rfl rfl rfl ?_
          refine r_goto (tgt := 25) dX6_readInto_62 rfl ?_
          rw [if_pos ⟨by omega, by omega⟩] at h
          exact ih (c + 1) _ _ _ g2 (by omega) hR2 (PD.fr hQ1 fr2) hU1 (fun g' a1 a2 a3 a4 => h g' a1 a2 a3 (fr1.tr ((FrX fr2).tr a4)))
theorem a_clear {X : CX} {d : Nat} {g : Mem} {K : Mem → Prop} (h : ∀ g' : Mem, PC_ g' 3 4 5 6 7 8 9 u00 → Fr [3] g g' → K g') : EV X (d) mX5_clear [vr 3] Z0 g K := by
  show AJ X (d) mX5_clear 0 0 (QV Z0 K) 0 0 0 [some (vr 3)] [] Z0 g
  refine r_aload_n (pc' := 1) dX5_clear_0 rfl rfl ?_
  refine r_iconst (pc' := 2) dX5_clear_1 rfl ?_
  refine r_putf (pc' := 5) (kI := 6) dX5_clear_2 rfl fX5_30 z3 rfl (Or.inr ⟨rfl, Or.inl rfl⟩) rfl rfl ?_
  refine r_aload_n (pc' := 6) dX5_clear_5 rfl rfl ?_
  refine r_iconst (pc' := 7) dX5_clear_6 rfl ?_
  refine r_putf (pc' := 10) (kI := 7) dX5_clear_7 rfl fX5_34 z3 rfl (Or.inl rfl) rfl rfl ?_
  refine r_aload_n (pc' := 11) dX5_clear_10 rfl rfl ?_
  refine r_iconst (pc' := 12) dX5_clear_11 rfl ?_
  refine r_putf (pc' := 15) (kI := 8) dX5_clear_12 rfl fX5_38 z3 rfl (Or.inl rfl) rfl rfl ?_
  refine r_aload_n (pc' := 16) dX5_clear_15 rfl rfl ?_
  refine r_iconst (pc' := 17) dX5_clear_16 rfl ?_
  refine r_putf (pc' := 20) (kI := 9) dX5_clear_17 rfl fX5_41 z3 rfl (Or.inl rfl) rfl rfl ?_
  refine r_aload_n (pc' := 21) dX5_clear_20 rfl rfl ?_
  refine r_iconst (pc' := 22) dX5_clear_21 rfl ?_
  refine r_putf (pc' := 25) (kI := 10) dX5_clear_22 rfl fX5_44 z3 rfl (Or.inl rfl) rfl rfl ?_
  refine r_retn dX5_clear_25 rfl ?_
  refine h _ ⟨?_, ?_, ?_, ?_, ?_, fun k hk => absurd hk (Nat.not_lt_zero k), fun k hk => absurd hk (Nat.not_lt_zero k), fun k hk => absurd hk (Nat.not_lt_zero k), fun k hk => absurd hk (Nat.not_lt_zero k)⟩ (fun j hj => ?_)
  · rw [mu_at' (by decide), mu_at' (by decide), mu_at' (by decide), mu_at' (by decide), mu_at]; rfl
  · rw [mu_at' (by decide), mu_at' (by decide), mu_at' (by decide), mu_at]; rfl
  · rw [mu_at' (by decide), mu_at' (by decide), mu_at]; rfl
  · rw [mu_at' (by decide), mu_at]; rfl
  · rw [mu_at]; rfl
  · have hj3 : j ≠ 3 := by simpa using hj
    rw [mu_ne hj3, mu_ne hj3, mu_ne hj3, mu_ne hj3, mu_ne hj3]
theorem PW_00 : PW u00 := ⟨by decide, by decide, by decide, by decide, by decide, fun k hk => absurd hk (Nat.not_lt_zero k), fun k hk => absurd hk (Nat.not_lt_zero k), fun k hk => absurd hk (Nat.not_lt_zero k)⟩
theorem a_into {X : CX} {d : Nat} {g : Mem} {K : Mem → Prop} {N : Nat} {T : Nat → Int} (hT : g 1 1 = N ∧ N ≤ 240 ∧ ∀ k : Nat, k < N → g 2 k = T k ∧ 0 ≤ T k ∧ T k ≤ 255) (h : ∀ g' : Mem, Rdr g' N T (rdA N T).2.1 (rdA N T).2.2 → PC_ g' 3 4 5 6 7 8 9 (rdA N T).1 → PW (rdA N T).1 → Fr [1, 3, 4, 5, 6, 7, 8, 9] g g' → K g') : EV X (d + 5) mX6_readInto [vr 1, vr 3] Z0 g K := by
  show AJ X (d + 5) mX6_readInto 0 0 (QV Z0 K) 0 0 0 [some (vr 1), some (vr 3), none] [] Z0 g
  refine r_aload_n (pc' := 1) dX6_readInto_0 rfl rfl ?_
  refine r_vv0 (pc' := 4) dX6_readInto_1 rfl qX5_clear lX6_28 z3 rfl rfl rfl (Nat.zero_le _) (Nat.zero_le _) (a_clear (fun g1 hQ1 fr1 => ?_))
  have hRa : Rdr (mu (mu (mu g1 1 2 0) 1 3 (-1)) 1 4 0) N T 0 (0, -1) := ⟨by rw [mu_at' (by decide), mu_at' (by decide), mu_at' (by decide), fr1 1 (by decide)]; exact hT.1, hT.2.1, fun k hk => by rw [mu_ne (by decide), mu_ne (by decide), mu_ne (by decide), fr1 2 (by decide)]; exact hT.2.2 k hk, by rw [mu_at]; rfl, Nat.zero_le _, by rw [mu_at' (by decide), mu_at' (by decide), mu_at]; rfl, by decide, by rw [mu_at' (by decide), mu_at], by decide⟩
  have fra : Fr [1] g1 (mu (mu (mu g1 1 2 0) 1 3 (-1)) 1 4 0) := (Fr1 _ _ _).tr ((Fr1 _ _ _).tr (Fr1 _ _ _))
  refine r_aload_n (pc' := 5) dX6_readInto_4 rfl rfl ?_
  refine r_iconst (pc' := 6) dX6_readInto_5 rfl ?_
  refine r_putf (pc' := 9) (kI := 2) dX6_readInto_6 rfl fX6_19 z1 rfl (Or.inl rfl) rfl rfl ?_
  refine r_aload_n (pc' := 10) dX6_readInto_9 rfl rfl ?_
  refine r_iconst (pc' := 11) dX6_readInto_10 rfl ?_
  refine r_putf (pc' := 14) (kI := 3) dX6_readInto_11 rfl fX6_22 z1 rfl (Or.inl rfl) rfl rfl ?_
  refine r_aload_n (pc' := 15) dX6_readInto_14 rfl rfl ?_
  refine r_iconst (pc' := 16) dX6_readInto_15 rfl ?_
  refine r_putf (pc' := 19) (kI := 4) dX6_readInto_16 rfl fX6_25 z1 rfl (Or.inl rfl) rfl rfl ?_
  refine r_aload_n (pc' := 20) dX6_readInto_19 rfl rfl ?_
  refine r_vv0 (pc' := 23) dX6_readInto_20 rfl qX6_skipBlanks lX6_33 z1 rfl rfl rfl (Nat.zero_le _) (Nat.zero_le _) (a_skip hRa (fun g2 hR2 fr2 => ?_))
  refine r_iconst (pc' := 24) dX6_readInto_23 rfl ?_
  refine r_istore_n (pc' := 25) dX6_readInto_24 rfl rfl ?_
  exact l_into 240 0 u00 _ _ g2 rfl hR2 (PD.fr hQ1 (fra.tr fr2)) PW_00 (fun g' a1 a2 a3 a4 => h g' a1 a2 a3 ((fr1.sub (by decide)).tr ((FrX (fra.tr fr2)).tr a4)))
theorem a_copyP {X : CX} {d : Nat} {g : Mem} {K : Mem → Prop} {u : PV} (hQ : PC_ g 3 4 5 6 7 8 9 u) (hU : PW u) (h : ∀ g' : Mem, PC_ g' 10 11 12 13 14 15 16 u → Fr [10, 11, 12, 13, 14, 15, 16] g g' → K g') : EV X (d + 1) mX5_copyFrom [vr 10, vr 3] Z0 g K := by
  show AJ X (d + 1) mX5_copyFrom 0 0 (QV Z0 K) 0 0 0 [some (vr 10), some (vr 3)] [] Z0 g
  obtain ⟨p6, p7, p8, p9, p10, pk, pg, px, py⟩ := id hQ
  obtain ⟨u0, u1, u2, u3, u4, u5, u6, u7⟩ := id hU
  refine r_aload_n (pc' := 1) dX5_copyFrom_0 rfl rfl ?_
  refine r_getr (pc' := 4) dX5_copyFrom_1 rfl fX5_9 z3 rfl ?_
  refine r_iconst (pc' := 5) dX5_copyFrom_4 rfl ?_
  refine r_aload_n (pc' := 6) dX5_copyFrom_5 rfl rfl ?_
  refine r_getr (pc' := 9) dX5_copyFrom_6 rfl fX5_9 isP10.1 rfl ?_
  refine r_iconst (pc' := 10) dX5_copyFrom_9 rfl ?_
  refine r_bipush (pc' := 12) dX5_copyFrom_10 rfl (by decide) ?_
  refine r_copy (pc' := 15) dX5_copyFrom_12 rfl ⟨lX5_47, acN, acS, acI⟩ z4 isP10.2.1 (by omega) (by omega) (by omega) (by omega) (by omega) (by decide) (by decide) rfl rfl ?_
  refine r_aload_n (pc' := 16) dX5_copyFrom_15 rfl rfl ?_
  refine r_getr (pc' := 19) dX5_copyFrom_16 rfl fX5_15 z3 rfl ?_
  refine r_iconst (pc' := 20) dX5_copyFrom_19 rfl ?_
  refine r_aload_n (pc' := 21) dX5_copyFrom_20 rfl rfl ?_
  refine r_getr (pc' := 24) dX5_copyFrom_21 rfl fX5_15 isP10.1 rfl ?_
  refine r_iconst (pc' := 25) dX5_copyFrom_24 rfl ?_
  refine r_bipush (pc' := 27) dX5_copyFrom_25 rfl (by decide) ?_
  refine r_copy (pc' := 30) dX5_copyFrom_27 rfl ⟨lX5_47, acN, acS, acI⟩ z5 isP10.2.2.1 (by omega) (by omega) (by omega) (by omega) (by omega) (by decide) (by decide) rfl rfl ?_
  refine r_aload_n (pc' := 31) dX5_copyFrom_30 rfl rfl ?_
  refine r_getr (pc' := 34) dX5_copyFrom_31 rfl fX5_18 z3 rfl ?_
  refine r_iconst (pc' := 35) dX5_copyFrom_34 rfl ?_
  refine r_aload_n (pc' := 36) dX5_copyFrom_35 rfl rfl ?_
  refine r_getr (pc' := 39) dX5_copyFrom_36 rfl fX5_18 isP10.1 rfl ?_
  refine r_iconst (pc' := 40) dX5_copyFrom_39 rfl ?_
  refine r_bipush (pc' := 42) dX5_copyFrom_40 rfl (by decide) ?_
  refine r_copy (pc' := 45) dX5_copyFrom_42 rfl ⟨lX5_47, acN, acS, acI⟩ z6 isP10.2.2.2.1 (by omega) (by omega) (by omega) (by omega) (by omega) (by decide) (by decide) rfl rfl ?_
  refine r_aload_n (pc' := 46) dX5_copyFrom_45 rfl rfl ?_
  refine r_getr (pc' := 49) dX5_copyFrom_46 rfl fX5_21 z3 rfl ?_
  refine r_iconst (pc' := 50) dX5_copyFrom_49 rfl ?_
  refine r_aload_n (pc' := 51) dX5_copyFrom_50 rfl rfl ?_
  refine r_getr (pc' := 54) dX5_copyFrom_51 rfl fX5_21 isP10.1 rfl ?_
  refine r_iconst (pc' := 55) dX5_copyFrom_54 rfl ?_
  refine r_bipush (pc' := 57) dX5_copyFrom_55 rfl (by decide) ?_
  refine r_copy (pc' := 60) dX5_copyFrom_57 rfl ⟨lX5_47, acN, acS, acI⟩ z7 isP10.2.2.2.2.1 (by omega) (by omega) (by omega) (by omega) (by omega) (by decide) (by decide) rfl rfl ?_
  refine r_aload_n (pc' := 61) dX5_copyFrom_60 rfl rfl ?_
  refine r_getr (pc' := 64) dX5_copyFrom_61 rfl fX5_24 z3 rfl ?_
  refine r_iconst (pc' := 65) dX5_copyFrom_64 rfl ?_
  refine r_aload_n (pc' := 66) dX5_copyFrom_65 rfl rfl ?_
  refine r_getr (pc' := 69) dX5_copyFrom_66 rfl fX5_24 isP10.1 rfl ?_
  refine r_iconst (pc' := 70) dX5_copyFrom_69 rfl ?_
  refine r_iconst (pc' := 71) dX5_copyFrom_70 rfl ?_
  refine r_copy (pc' := 74) dX5_copyFrom_71 rfl ⟨lX5_47, acN, acS, acI⟩ z8 isP10.2.2.2.2.2.1 (by omega) (by omega) (by omega) (by omega) (by omega) (by decide) (by decide) rfl rfl ?_
  refine r_aload_n (pc' := 75) dX5_copyFrom_74 rfl rfl ?_
  refine r_getr (pc' := 78) dX5_copyFrom_75 rfl fX5_27 z3 rfl ?_
  refine r_iconst (pc' := 79) dX5_copyFrom_78 rfl ?_
  refine r_aload_n (pc' := 80) dX5_copyFrom_79 rfl rfl ?_
  refine r_getr (pc' := 83) dX5_copyFrom_80 rfl fX5_27 isP10.1 rfl ?_
  refine r_iconst (pc' := 84) dX5_copyFrom_83 rfl ?_
  refine r_iconst (pc' := 85) dX5_copyFrom_84 rfl ?_
  refine r_copy (pc' := 88) dX5_copyFrom_85 rfl ⟨lX5_47, acN, acS, acI⟩ z9 isP10.2.2.2.2.2.2 (by omega) (by omega) (by omega) (by omega) (by omega) (by decide) (by decide) rfl rfl ?_
  refine r_aload_n (pc' := 89) dX5_copyFrom_88 rfl rfl ?_
  refine r_aload_n (pc' := 90) dX5_copyFrom_89 rfl rfl ?_
  refine r_getf (pc' := 93) (kI := 6) (x := (Pp u : Int)) dX5_copyFrom_90 rfl fX5_30 z3 rfl rfl (by rw [cpy_ne (by decide), cpy_ne (by decide), cpy_ne (by decide), cpy_ne (by decide), cpy_ne (by decide), cpy_ne (by decide)]; exact p6) ?_
  refine r_putf (pc' := 96) (kI := 6) dX5_copyFrom_93 rfl fX5_30 isP10.1 rfl (Or.inr ⟨rfl, by omega⟩) rfl rfl ?_
  refine r_aload_n (pc' := 97) dX5_copyFrom_96 rfl rfl ?_
  refine r_aload_n (pc' := 98) dX5_copyFrom_97 rfl rfl ?_
  refine r_getf (pc' := 101) (kI := 7) (x := (Pi u : Int)) dX5_copyFrom_98 rfl fX5_34 z3 rfl rfl (by rw [mu_ne (by decide), cpy_ne (by decide), cpy_ne (by decide), cpy_ne (by decide), cpy_ne (by decide), cpy_ne (by decide), cpy_ne (by decide)]; exact p7) ?_
  refine r_putf (pc' := 104) (kI := 7) dX5_copyFrom_101 rfl fX5_34 isP10.1 rfl (Or.inl rfl) rfl rfl ?_
  refine r_aload_n (pc' := 105) dX5_copyFrom_104 rfl rfl ?_
  refine r_aload_n (pc' := 106) dX5_copyFrom_105 rfl rfl ?_
  refine r_getf (pc' := 109) (kI := 8) (x := (Pf u : Int)) dX5_copyFrom_106 rfl fX5_38 z3 rfl rfl (by rw [mu_ne (by decide), mu_ne (by decide), cpy_ne (by decide), cpy_ne (by decide), cpy_ne (by decide), cpy_ne (by decide), cpy_ne (by decide), cpy_ne (by decide)]; exact p8) ?_
  refine r_putf (pc' := 112) (kI := 8) dX5_copyFrom_109 rfl fX5_38 isP10.1 rfl (Or.inl rfl) rfl rfl ?_
  refine r_aload_n (pc' := 113) dX5_copyFrom_112 rfl rfl ?_
  refine r_aload_n (pc' := 114) dX5_copyFrom_113 rfl rfl ?_
  refine r_getf (pc' := 117) (kI := 9) (x := (Pw u : Int)) dX5_copyFrom_114 rfl fX5_41 z3 rfl rfl (by rw [mu_ne (by decide), mu_ne (by decide), mu_ne (by decide), cpy_ne (by decide), cpy_ne (by decide), cpy_ne (by decide), cpy_ne (by decide), cpy_ne (by decide), cpy_ne (by decide)]; exact p9) ?_
  refine r_putf (pc' := 120) (kI := 9) dX5_copyFrom_117 rfl fX5_41 isP10.1 rfl (Or.inl rfl) rfl rfl ?_
  refine r_aload_n (pc' := 121) dX5_copyFrom_120 rfl rfl ?_
  refine r_aload_n (pc' := 122) dX5_copyFrom_121 rfl rfl ?_
  refine r_getf (pc' := 125) (kI := 10) (x := (Pq u : Int)) dX5_copyFrom_122 rfl fX5_44 z3 rfl rfl (by rw [mu_ne (by decide), mu_ne (by decide), mu_ne (by decide), mu_ne (by decide), cpy_ne (by decide), cpy_ne (by decide), cpy_ne (by decide), cpy_ne (by decide), cpy_ne (by decide), cpy_ne (by decide)]; exact p10) ?_
  refine r_putf (pc' := 128) (kI := 10) dX5_copyFrom_125 rfl fX5_44 isP10.1 rfl (Or.inl rfl) rfl rfl ?_
  refine r_retn dX5_copyFrom_128 rfl ?_
  refine h _ ⟨?_, ?_, ?_, ?_, ?_, fun k hk => ?_, fun k hk => ?_, fun x hx => ⟨?_, fun k hk => ?_⟩, fun k hk => ⟨?_, ?_⟩⟩ (fun j hj => ?_)
  · rw [mu_at' (by decide), mu_at' (by decide), mu_at' (by decide), mu_at' (by decide), mu_at]
  · rw [mu_at' (by decide), mu_at' (by decide), mu_at' (by decide), mu_at]
  · rw [mu_at' (by decide), mu_at' (by decide), mu_at]
  · rw [mu_at' (by decide), mu_at]
  · rw [mu_at]
  · rw [mu_ne (by decide), mu_ne (by decide), mu_ne (by decide), mu_ne (by decide), mu_ne (by decide), cpy_ne (by decide), cpy_ne (by decide), cpy_ne (by decide), cpy_ne (by decide), cpy_ne (by decide), cpy_at (by omega) (by omega)]; exact pk k hk
  · rw [mu_ne (by decide), mu_ne (by decide), mu_ne (by decide), mu_ne (by decide), mu_ne (by decide), cpy_ne (by decide), cpy_ne (by decide), cpy_ne (by decide), cpy_ne (by decide), cpy_at (by omega) (by omega), cpy_ne (by decide)]; exact pg k hk
  · rw [mu_ne (by decide), mu_ne (by decide), mu_ne (by decide), mu_ne (by decide), mu_ne (by decide), cpy_ne (by decide), cpy_ne (by decide), cpy_at (by omega) (by omega), cpy_ne (by decide), cpy_ne (by decide), cpy_ne (by decide)]; exact (px x hx).1
  · have := u6 x hx
    rw [mu_ne (by decide), mu_ne (by decide), mu_ne (by decide), mu_ne (by decide), mu_ne (by decide), cpy_ne (by decide), cpy_ne (by decide), cpy_ne (by decide), cpy_at (by omega) (by omega), cpy_ne (by decide), cpy_ne (by decide)]; exact (px x hx).2 k hk
  · rw [mu_ne (by decide), mu_ne (by decide), mu_ne (by decide), mu_ne (by decide), mu_ne (by decide), cpy_ne (by decide), cpy_at (by omega) (by omega), cpy_ne (by decide), cpy_ne (by decide), cpy_ne (by decide), cpy_ne (by decide)]; exact (py k hk).1
  · rw [mu_ne (by decide), mu_ne (by decide), mu_ne (by decide), mu_ne (by decide), mu_ne (by decide), cpy_at (by omega) (by omega), cpy_ne (by decide), cpy_ne (by decide), cpy_ne (by decide), cpy_ne (by decide), cpy_ne (by decide)]; exact (py k hk).2
  · simp only [List.mem_cons, List.not_mem_nil, or_false, not_or] at hj
    obtain ⟨j0, j1, j2, j3, j4, j5, j6⟩ := hj
    rw [mu_ne j0, mu_ne j0, mu_ne j0, mu_ne j0, mu_ne j0, cpy_ne j6, cpy_ne j5, cpy_ne j4, cpy_ne j3, cpy_ne j2, cpy_ne j1]
