theorem l_mask {x : Int} (h0 : 0 ≤ x) (h1 : x < 9223372036854775808) : l_and x 2147483647 = x % 2147483648 := by
  have hn : ((x.toNat : Nat) : Int) = x := by omega
  rw [← hn]
  generalize x.toNat = n at *
  have e : l_and (n : Int) 2147483647 = ((n &&& 2147483647 : Nat) : Int) := by
    show (BitVec.ofInt 64 (n : Int) &&& BitVec.ofInt 64 2147483647).toInt = _
    rw [BitVec.ofInt_natCast]
    have e2 : (BitVec.ofNat 64 n &&& BitVec.ofInt 64 2147483647).toNat = n &&& 2147483647 := by
      rw [BitVec.toNat_and, BitVec.toNat_ofNat, Nat.mod_eq_of_lt (by omega)]
      rfl
    rw [BitVec.toInt_eq_toNat_cond, e2]
    have : n &&& 2147483647 ≤ 2147483647 := Nat.and_le_right
    rw [if_pos (by omega)]
  rw [e, show (2147483647 : Nat) = 2 ^ 31 - 1 from rfl, Nat.and_two_pow_sub_one_eq_mod]
  omega
def drS (sd : Int) : Int := (sd * 1103515245 + 12345) % 2147483648
def drN (sd n : Int) : Int := if 0 < n then (drS sd / 65536) % n else 0
theorem drS_b (sd : Int) : 0 ≤ drS sd ∧ drS sd < 2147483648 := by unfold drS; omega
theorem drN_b (sd : Int) {n : Int} (h : 0 < n) : 0 ≤ drN sd n ∧ drN sd n < n := by
  unfold drN
  rw [if_pos h]
  exact ⟨Int.emod_nonneg _ (by omega), Int.emod_lt_of_pos _ h⟩
theorem a_draw {X : CX} {d : Nat} {g : Mem} {K : Int → Mem → Prop} {sd : Int} (hs : g 0 11 = sd) (h0 : 0 ≤ sd) (h1 : sd < 2147483648) (n : Int) (hn : R32 n) (h : K (drN sd n) (mu g 0 11 (drS sd))) : EI X (d) mX10_draw [vr 0, vi n] Z0 g K := by
  show AJ X (d) mX10_draw 0 0 (QI Z0 K) 0 0 0 [some (vr 0), some (vi n)] [] Z0 g
  have e : l_and (sd * 1103515245 + 12345) 2147483647 = drS sd := l_mask (by omega) (by omega)
  have hb := drS_b sd
  have hd : (drS sd).tdiv 65536 = drS sd / 65536 := Int.tdiv_eq_ediv_of_nonneg hb.1
  have hm : (drS sd / 65536).tmod n = (drS sd / 65536) % n := Int.tmod_eq_emod_of_nonneg (by omega)
  refine r_aload_n (pc' := 1) dX10_draw_0 rfl rfl ?_
  refine r_aload_n (pc' := 2) dX10_draw_1 rfl rfl ?_
  refine r_getf (pc' := 5) (kI := 11) dX10_draw_2 rfl fX10_82 z0 rfl rfl hs ?_
  refine r_i2l (pc' := 6) dX10_draw_5 rfl (by omega) ?_
  refine r_ldc2_w (z := 1103515245) (pc' := 9) dX10_draw_6 rfl kX10_313 ?_
  refine r_lmul (pc' := 10) dX10_draw_9 rfl ?_
  refine r_ldc2_w (z := 12345) (pc' := 13) dX10_draw_10 rfl kX10_315 ?_
  refine r_ladd (pc' := 14) dX10_draw_13 rfl ?_
  refine r_ldc2_w (z := 2147483647) (pc' := 17) dX10_draw_14 rfl kX10_317 ?_
  refine r_land (pc' := 18) dX10_draw_17 rfl ?_
  rw [e]
  refine r_l2i (pc' := 19) dX10_draw_18 rfl ?_
  refine r_putf (pc' := 22) (kI := 11) dX10_draw_19 rfl fX10_82 z0 rfl (Or.inl rfl) rfl rfl ?_
  refine r_iload_n (pc' := 23) dX10_draw_22 rfl rfl ?_
  refine r_if_le (tgt := 39) (pc' := 26) dX10_draw_23 rfl rfl (by omega) (fun c23 => ?_) (fun c23 => ?_)
  · refine r_iconst (pc' := 40) dX10_draw_39 rfl ?_
    refine r_reti dX10_draw_40 rfl (Or.inl rfl) ?_
    unfold drN at h
    first | (rw [if_pos (by omega)] at h; exact h) | (rw [if_neg (by omega)] at h; exact h)
  · refine r_aload_n (pc' := 27) dX10_draw_26 rfl rfl ?_
    refine r_getf (pc' := 30) (kI := 11) (x := drS sd) dX10_draw_27 rfl fX10_82 z0 rfl rfl mu_at ?_
    refine r_ldc_w (z := 65536) (pc' := 33) dX10_draw_30 rfl kX10_319 ?_
    refine r_idiv (pc' := 34) dX10_draw_33 rfl (by omega) (by omega) (by omega) ?_
    rw [hd]
    refine r_iload_n (pc' := 35) dX10_draw_34 rfl rfl ?_
    refine r_irem (pc' := 36) dX10_draw_35 rfl (by omega) (by omega) (by omega) ?_
    rw [hm]
    refine r_goto (tgt := 40) dX10_draw_36 rfl ?_
    refine r_reti dX10_draw_40 rfl (Or.inl rfl) ?_
    unfold drN at h
    first | (rw [if_pos (by omega)] at h; exact h) | (rw [if_neg (by omega)] at h; exact h)
theorem CS.line {g g2 : Mem} {tN : Nat} {tX : Nat → Int} {flt : Int} {u : PV} {v : LV} {kn : Nat} {kL : Nat → LV} {im : Nat → Bool × Int × LV} {sd : Int} {ln : Nat} {la : Nat → Nat} {lr : Nat → Bool} {bn : Nat} {bp : Nat → Nat} {bf : Nat → Int} {v' : LV} {sd' : Int} (hS : CS g tN tX flt u v kn kL im sd ln la lr bn bp bf) (hlc : LC g2 17 18 19 20 v') (hw : LW (Pf u) v') (hs : g2 0 11 = sd') (h0 : 0 ≤ sd') (h1 : sd' < 2147483648) (hfr : ∀ j, j ≠ 0 → ¬ (17 ≤ j ∧ j ≤ 20) → g2 j = g j) : CS g2 tN tX flt u v' kn kL im sd' ln la lr bn bp bf := by
  obtain ⟨⟨t1, t2, t3⟩, ⟨f1, f2⟩, hB, ⟨top, hP⟩, hI, ⟨sd1, sd2, sd3⟩, hK, hN⟩ := id hS
  have hQ2 : PC_ g2 10 11 12 13 14 15 16 u := by
    unfold PC_
    rw [hfr 10 (by decide) (by decide), hfr 11 (by decide) (by decide), hfr 12 (by decide) (by decide), hfr 13 (by decide) (by decide), hfr 14 (by decide) (by decide), hfr 15 (by decide) (by decide), hfr 16 (by decide) (by decide)]
    exact hB.1
  exact ⟨TX.fr ⟨t1, t2, t3⟩ (hfr 1 (by omega) (by omega)) (hfr 2 (by omega) (by omega)), ⟨by rw [hfr 1 (by omega) (by omega)]; exact f1, f2⟩, ⟨hQ2, hB.2.1, hlc, hw⟩, ⟨top, hP.fr (fun j hj => by unfold pastB at hj; exact hfr j (by omega) (by omega))⟩, IMs.fr hI (fun j a1 a2 => hfr j (by omega) (by omega)), ⟨hs, h0, h1⟩, hK.fr (hfr 160 (by omega) (by omega)) (hfr 161 (by omega) (by omega)) (hfr 162 (by omega) (by omega)), hN.fr (hfr 163 (by omega) (by omega)) (hfr 164 (by omega) (by omega)) (hfr 165 (by omega) (by omega))⟩
def chS (v : LV) (sd : Int) : LV × Int := if drN sd 6 = 0 then (winV v (drN (drS sd) 10).toNat, drS (drS sd)) else if drN sd 6 = 1 then (wetV v (onN v), drS sd) else if drN sd 6 = 2 ∧ 2 ≤ Ln v then (cutV v (drN (drS sd) (Ln v)).toNat, drS (drS sd)) else if drN sd 6 = 3 ∧ 1 ≤ Ln v then (dropV v (drN (drS sd) (Ln v)).toNat, drS (drS sd)) else (v, drS sd)
theorem chS_y (v : LV) (sd : Int) : Ly (chS v sd).1 = Ly v := by
  unfold chS
  repeat' split
  all_goals rfl
theorem a_chance {X : CX} {d : Nat} {g : Mem} {K : Mem → Prop} {tN : Nat} {tX : Nat → Int} {flt : Int} {u : PV} {v : LV} {kn : Nat} {kL : Nat → LV} {im : Nat → Bool × Int × LV} {sd : Int} {ln : Nat} {la : Nat → Nat} {lr : Nat → Bool} {bn : Nat} {bp : Nat → Nat} {bf : Nat → Int} (hS : CS g tN tX flt u v kn kL im sd ln la lr bn bp bf) (h : ∀ g' : Mem, CS g' tN tX flt u ((chS v sd).1) kn kL im ((chS v sd).2) ln la lr bn bp bf → FrC g g' → K g') : EV X (d + 3) mX10_chance [vr 0] Z0 g K := by
  show AJ X (d + 3) mX10_chance 0 0 (QV Z0 K) 0 0 0 [some (vr 0), none] [] Z0 g
  obtain ⟨⟨t1, t2, t3⟩, ⟨f1, f2⟩, hB, ⟨top, hP⟩, hI, ⟨sd1, sd2, sd3⟩, hK, hN⟩ := id hS
  obtain ⟨hQ, hU, hC, hW⟩ := id hB
  obtain ⟨hc, ho, hf, hw_, ht, hi, hy⟩ := id hC
  obtain ⟨w0, w1, w2, w3, w4, w5, w6, w7⟩ := id hW
  obtain ⟨p6, p7, p8, p9, p10, pk, pg, px, py⟩ := id hQ
  obtain ⟨u0, u1, u2, u3, u4, u5, u6, u7⟩ := id hU
  refine r_aload_n (pc' := 1) dX10_chance_0 rfl rfl ?_
  refine r_bipush (pc' := 3) dX10_chance_1 rfl (by decide) ?_
  refine r_vi1 (pc' := 6) dX10_chance_3 rfl qX10_draw lX10_320 z0 rfl rfl rfl rfl (Nat.zero_le _) (Nat.zero_le _) (a_draw sd1 sd2 sd3 6 (by decide) ?_)
  have hC1 : LC (mu g 0 11 (drS sd)) 17 18 19 20 v := hC.fr (by rw [mu_ne (by decide)]) (by rw [mu_ne (by decide)]) (by rw [mu_ne (by decide)]) (by rw [mu_ne (by decide)])
  have hb6 := drN_b sd (n := 6) (by decide)
  refine r_istore_n (pc' := 7) dX10_chance_6 rfl rfl ?_
  refine r_iload_n (pc' := 8) dX10_chance_7 rfl rfl ?_
  refine r_if_ne (tgt := 27) (pc' := 11) dX10_chance_8 rfl rfl (by omega) (fun c8 => ?_) (fun c8 => ?_)
  · refine r_iload_n (pc' := 28) dX10_chance_27 rfl rfl ?_
    refine r_iconst (pc' := 29) dX10_chance_28 rfl ?_
    refine r_icmp_ne (tgt := 49) (pc' := 32) dX10_chance_29 rfl rfl (by omega) (by omega) (fun c29 => ?_) (fun c29 => ?_)
    · refine r_iload_n (pc' := 50) dX10_chance_49 rfl rfl ?_
      refine r_iconst (pc' := 51) dX10_chance_50 rfl ?_
      refine r_icmp_ne (tgt := 86) (pc' := 54) dX10_chance_51 rfl rfl (by omega) (by omega) (fun c51 => ?_) (fun c51 => ?_)
      · refine r_iload_n (pc' := 87) dX10_chance_86 rfl rfl ?_
        refine r_iconst (pc' := 88) dX10_chance_87 rfl ?_
        refine r_icmp_ne (tgt := 120) (pc' := 91) dX10_chance_88 rfl rfl (by omega) (by omega) (fun c88 => ?_) (fun c88 => ?_)
        · refine r_retn dX10_chance_120 rfl ?_
          first
            | (have hch : chS v sd = (winV v (drN (drS sd) 10).toNat, drS (drS sd)) := by unfold chS; rw [if_pos c8]
               have hfr : ∀ j, j ≠ 17 → mu (mu (mu g 0 11 (drS sd)) 0 11 (drS (drS sd))) 17 5 (drN (drS sd) 10) j = (mu (mu g 0 11 (drS sd)) 0 11 (drS (drS sd))) j := fun j a => mu_ne a
               have hlc : LC (mu (mu (mu g 0 11 (drS sd)) 0 11 (drS (drS sd))) 17 5 (drN (drS sd) 10)) 17 18 19 20 (winV v (drN (drS sd) 10).toNat) := by
                 obtain ⟨a1, a2, a3, a4, a5, a6, a7⟩ := hCd
                 refine ⟨?_, fun p hp => by rw [hfr 18 (by decide)]; exact a2 p hp, fun p hp => by rw [hfr 19 (by decide)]; exact a3 p hp, fun p hp => by rw [hfr 20 (by decide)]; exact a4 p hp, ?_, ?_, ?_⟩
                 all_goals first | (rw [mu_at]; show drN (drS sd) 10 = (((drN (drS sd) 10).toNat : Nat) : Int); omega) | (rw [mu_at' (by decide)]; assumption)
               have hcs := hS.line hlc (LW_win hW (by omega)) (by rw [mu_ne (by decide), mu_at]) (drS_b _).1 (drS_b _).2 (fun j a b => by rw [mu_ne (by omega), mu_ne a, mu_ne a])
               have h9 := h _ (by rw [hch]; exact hcs) (fun j hj => by rw [mu_ne (by omega), mu_ne (by omega), mu_ne (by omega)])
               exact h9)
            | (have hch : chS v sd = (wetV v (onN v), drS sd) := by unfold chS; rw [if_neg c8, if_pos c29]
               have hfr : ∀ j, j ≠ 17 → mu (mu g 0 11 (drS sd)) 17 4 ((onN v : Int)) j = (mu g 0 11 (drS sd)) j := fun j a => mu_ne a
               have hlc : LC (mu (mu g 0 11 (drS sd)) 17 4 ((onN v : Int))) 17 18 19 20 (wetV v (onN v)) := by
                 obtain ⟨a1, a2, a3, a4, a5, a6, a7⟩ := hCd
                 refine ⟨?_, fun p hp => by rw [hfr 18 (by decide)]; exact a2 p hp, fun p hp => by rw [hfr 19 (by decide)]; exact a3 p hp, fun p hp => by rw [hfr 20 (by decide)]; exact a4 p hp, ?_, ?_, ?_⟩
                 all_goals first | (rw [mu_at]; rfl) | (rw [mu_at' (by decide)]; assumption)
               have hcs := hS.line hlc (LW_wet hW (onN_lt hW)) (by rw [mu_ne (by decide), mu_at]) (drS_b _).1 (drS_b _).2 (fun j a b => by rw [mu_ne (by omega), mu_ne a])
               have h9 := h _ (by rw [hch]; exact hcs) (fun j hj => by rw [mu_ne (by omega), mu_ne (by omega)])
               exact h9)
            | (have hch : chS v sd = (cutV v (drN (drS sd) (Ln v)).toNat, drS (drS sd)) := by unfold chS; rw [if_neg c8, if_neg c29, if_pos ⟨c51, by omega⟩]
               have hcs := hS.line hC2 (LW_cut hW (by omega)) (by rw [fr2 0 (by decide), mu_at]) (drS_b _).1 (drS_b _).2 (fun j a b => by rw [fr2 j (by simp only [List.mem_cons, List.not_mem_nil, or_false, not_or]; omega), mu_ne a, mu_ne a])
               exact h g2 (by rw [hch]; exact hcs) (fun j hj => by rw [fr2 j (by simp only [List.mem_cons, List.not_mem_nil, or_false, not_or]; omega), mu_ne (by omega), mu_ne (by omega)]))
            | (have hch : chS v sd = (dropV v (drN (drS sd) (Ln v)).toNat, drS (drS sd)) := by unfold chS; rw [if_neg c8, if_neg c29, if_neg (by omega), if_pos ⟨c88, by omega⟩]
               have hcs := hS.line hC2 (LW_drop hW (by omega)) (by rw [fr2 0 (by decide), mu_at]) (drS_b _).1 (drS_b _).2 (fun j a b => by rw [fr2 j (by simp only [List.mem_cons, List.not_mem_nil, or_false, not_or]; omega), mu_ne a, mu_ne a])
               exact h g2 (by rw [hch]; exact hcs) (fun j hj => by rw [fr2 j (by simp only [List.mem_cons, List.not_mem_nil, or_false, not_or]; omega), mu_ne (by omega), mu_ne (by omega)]))
            | (have hch : chS v sd = (v, drS sd) := by unfold chS; rw [if_neg c8, if_neg c29, if_neg (by omega), if_neg (by omega)]
               have hcs := hS.line (g2 := (mu g 0 11 (drS sd))) (sd' := drS sd) hC1 hW mu_at (drS_b _).1 (drS_b _).2 (fun j a b => mu_ne a)
               exact h _ (by rw [hch]; exact hcs) (fun j hj => mu_ne (by omega)))
        · refine r_aload_n (pc' := 92) dX10_chance_91 rfl rfl ?_
          refine r_getr (pc' := 95) dX10_chance_92 rfl fX10_29 z0 rfl ?_
          refine r_getf (pc' := 98) (kI := 3) dX10_chance_95 rfl fX10_140 isL17.1 rfl rfl hC1.1 ?_
          refine r_iconst (pc' := 99) dX10_chance_98 rfl ?_
          refine r_icmp_lt (tgt := 120) (pc' := 102) dX10_chance_99 rfl rfl (by omega) (by omega) (fun c99 => ?_) (fun c99 => ?_)
          · refine r_retn dX10_chance_120 rfl ?_
            first
              | (have hch : chS v sd = (winV v (drN (drS sd) 10).toNat, drS (drS sd)) := by unfold chS; rw [if_pos c8]
                 have hfr : ∀ j, j ≠ 17 → mu (mu (mu g 0 11 (drS sd)) 0 11 (drS (drS sd))) 17 5 (drN (drS sd) 10) j = (mu (mu g 0 11 (drS sd)) 0 11 (drS (drS sd))) j := fun j a => mu_ne a
                 have hlc : LC (mu (mu (mu g 0 11 (drS sd)) 0 11 (drS (drS sd))) 17 5 (drN (drS sd) 10)) 17 18 19 20 (winV v (drN (drS sd) 10).toNat) := by
                   obtain ⟨a1, a2, a3, a4, a5, a6, a7⟩ := hCd
                   refine ⟨?_, fun p hp => by rw [hfr 18 (by decide)]; exact a2 p hp, fun p hp => by rw [hfr 19 (by decide)]; exact a3 p hp, fun p hp => by rw [hfr 20 (by decide)]; exact a4 p hp, ?_, ?_, ?_⟩
                   all_goals first | (rw [mu_at]; show drN (drS sd) 10 = (((drN (drS sd) 10).toNat : Nat) : Int); omega) | (rw [mu_at' (by decide)]; assumption)
                 have hcs := hS.line hlc (LW_win hW (by omega)) (by rw [mu_ne (by decide), mu_at]) (drS_b _).1 (drS_b _).2 (fun j a b => by rw [mu_ne (by omega), mu_ne a, mu_ne a])
                 have h9 := h _ (by rw [hch]; exact hcs) (fun j hj => by rw [mu_ne (by omega), mu_ne (by omega), mu_ne (by omega)])
                 exact h9)
              | (have hch : chS v sd = (wetV v (onN v), drS sd) := by unfold chS; rw [if_neg c8, if_pos c29]
                 have hfr : ∀ j, j ≠ 17 → mu (mu g 0 11 (drS sd)) 17 4 ((onN v : Int)) j = (mu g 0 11 (drS sd)) j := fun j a => mu_ne a
                 have hlc : LC (mu (mu g 0 11 (drS sd)) 17 4 ((onN v : Int))) 17 18 19 20 (wetV v (onN v)) := by
                   obtain ⟨a1, a2, a3, a4, a5, a6, a7⟩ := hCd
                   refine ⟨?_, fun p hp => by rw [hfr 18 (by decide)]; exact a2 p hp, fun p hp => by rw [hfr 19 (by decide)]; exact a3 p hp, fun p hp => by rw [hfr 20 (by decide)]; exact a4 p hp, ?_, ?_, ?_⟩
                   all_goals first | (rw [mu_at]; rfl) | (rw [mu_at' (by decide)]; assumption)
                 have hcs := hS.line hlc (LW_wet hW (onN_lt hW)) (by rw [mu_ne (by decide), mu_at]) (drS_b _).1 (drS_b _).2 (fun j a b => by rw [mu_ne (by omega), mu_ne a])
                 have h9 := h _ (by rw [hch]; exact hcs) (fun j hj => by rw [mu_ne (by omega), mu_ne (by omega)])
                 exact h9)
              | (have hch : chS v sd = (cutV v (drN (drS sd) (Ln v)).toNat, drS (drS sd)) := by unfold chS; rw [if_neg c8, if_neg c29, if_pos ⟨c51, by omega⟩]
                 have hcs := hS.line hC2 (LW_cut hW (by omega)) (by rw [fr2 0 (by decide), mu_at]) (drS_b _).1 (drS_b _).2 (fun j a b => by rw [fr2 j (by simp only [List.mem_cons, List.not_mem_nil, or_false, not_or]; omega), mu_ne a, mu_ne a])
                 exact h g2 (by rw [hch]; exact hcs) (fun j hj => by rw [fr2 j (by simp only [List.mem_cons, List.not_mem_nil, or_false, not_or]; omega), mu_ne (by omega), mu_ne (by omega)]))
              | (have hch : chS v sd = (dropV v (drN (drS sd) (Ln v)).toNat, drS (drS sd)) := by unfold chS; rw [if_neg c8, if_neg c29, if_neg (by omega), if_pos ⟨c88, by omega⟩]
                 have hcs := hS.line hC2 (LW_drop hW (by omega)) (by rw [fr2 0 (by decide), mu_at]) (drS_b _).1 (drS_b _).2 (fun j a b => by rw [fr2 j (by simp only [List.mem_cons, List.not_mem_nil, or_false, not_or]; omega), mu_ne a, mu_ne a])
                 exact h g2 (by rw [hch]; exact hcs) (fun j hj => by rw [fr2 j (by simp only [List.mem_cons, List.not_mem_nil, or_false, not_or]; omega), mu_ne (by omega), mu_ne (by omega)]))
              | (have hch : chS v sd = (v, drS sd) := by unfold chS; rw [if_neg c8, if_neg c29, if_neg (by omega), if_neg (by omega)]
                 have hcs := hS.line (g2 := (mu g 0 11 (drS sd))) (sd' := drS sd) hC1 hW mu_at (drS_b _).1 (drS_b _).2 (fun j a b => mu_ne a)
                 exact h _ (by rw [hch]; exact hcs) (fun j hj => mu_ne (by omega)))
          · refine r_aload_n (pc' := 103) dX10_chance_102 rfl rfl ?_
            refine r_getr (pc' := 106) dX10_chance_103 rfl fX10_29 z0 rfl ?_
            refine r_aload_n (pc' := 107) dX10_chance_106 rfl rfl ?_
            refine r_aload_n (pc' := 108) dX10_chance_107 rfl rfl ?_
            refine r_getr (pc' := 111) dX10_chance_108 rfl fX10_29 z0 rfl ?_
            refine r_getf (pc' := 114) (kI := 3) dX10_chance_111 rfl fX10_140 isL17.1 rfl rfl hC1.1 ?_
            refine r_vi1 (pc' := 117) dX10_chance_114 rfl qX10_draw lX10_320 z0 rfl rfl rfl rfl (Nat.zero_le _) (Nat.zero_le _) (a_draw (g := (mu g 0 11 (drS sd))) (sd := drS sd) mu_at (drS_b sd).1 (drS_b sd).2 (Ln v : Int) (by omega) ?_)
            have hbn := drN_b (drS sd) (n := (Ln v : Int)) (by omega)
            have hCd : LC (mu (mu g 0 11 (drS sd)) 0 11 (drS (drS sd))) 17 18 19 20 v := hC.fr (by rw [mu_ne (by decide), mu_ne (by decide)]) (by rw [mu_ne (by decide), mu_ne (by decide)]) (by rw [mu_ne (by decide), mu_ne (by decide)]) (by rw [mu_ne (by decide), mu_ne (by decide)])
            refine r_vv1 (pc' := 120) dX10_chance_117 rfl qX2_takeOff lX10_228 isL17.1 rfl rfl rfl rfl (Nat.zero_le _) (Nat.zero_le _) (a_takeOffI isL17 hCd hW isD17 (p := drN (drS sd) (Ln v)) (by omega) (by omega) (fun g2 hC2 fr2 => ?_))
            refine r_retn dX10_chance_120 rfl ?_
            first
              | (have hch : chS v sd = (winV v (drN (drS sd) 10).toNat, drS (drS sd)) := by unfold chS; rw [if_pos c8]
                 have hfr : ∀ j, j ≠ 17 → mu (mu (mu g 0 11 (drS sd)) 0 11 (drS (drS sd))) 17 5 (drN (drS sd) 10) j = (mu (mu g 0 11 (drS sd)) 0 11 (drS (drS sd))) j := fun j a => mu_ne a
                 have hlc : LC (mu (mu (mu g 0 11 (drS sd)) 0 11 (drS (drS sd))) 17 5 (drN (drS sd) 10)) 17 18 19 20 (winV v (drN (drS sd) 10).toNat) := by
                   obtain ⟨a1, a2, a3, a4, a5, a6, a7⟩ := hCd
                   refine ⟨?_, fun p hp => by rw [hfr 18 (by decide)]; exact a2 p hp, fun p hp => by rw [hfr 19 (by decide)]; exact a3 p hp, fun p hp => by rw [hfr 20 (by decide)]; exact a4 p hp, ?_, ?_, ?_⟩
                   all_goals first | (rw [mu_at]; show drN (drS sd) 10 = (((drN (drS sd) 10).toNat : Nat) : Int); omega) | (rw [mu_at' (by decide)]; assumption)
                 have hcs := hS.line hlc (LW_win hW (by omega)) (by rw [mu_ne (by decide), mu_at]) (drS_b _).1 (drS_b _).2 (fun j a b => by rw [mu_ne (by omega), mu_ne a, mu_ne a])
                 have h9 := h _ (by rw [hch]; exact hcs) (fun j hj => by rw [mu_ne (by omega), mu_ne (by omega), mu_ne (by omega)])
                 exact h9)
              | (have hch : chS v sd = (wetV v (onN v), drS sd) := by unfold chS; rw [if_neg c8, if_pos c29]
                 have hfr : ∀ j, j ≠ 17 → mu (mu g 0 11 (drS sd)) 17 4 ((onN v : Int)) j = (mu g 0 11 (drS sd)) j := fun j a => mu_ne a
                 have hlc : LC (mu (mu g 0 11 (drS sd)) 17 4 ((onN v : Int))) 17 18 19 20 (wetV v (onN v)) := by
                   obtain ⟨a1, a2, a3, a4, a5, a6, a7⟩ := hCd
                   refine ⟨?_, fun p hp => by rw [hfr 18 (by decide)]; exact a2 p hp, fun p hp => by rw [hfr 19 (by decide)]; exact a3 p hp, fun p hp => by rw [hfr 20 (by decide)]; exact a4 p hp, ?_, ?_, ?_⟩
                   all_goals first | (rw [mu_at]; rfl) | (rw [mu_at' (by decide)]; assumption)
                 have hcs := hS.line hlc (LW_wet hW (onN_lt hW)) (by rw [mu_ne (by decide), mu_at]) (drS_b _).1 (drS_b _).2 (fun j a b => by rw [mu_ne (by omega), mu_ne a])
                 have h9 := h _ (by rw [hch]; exact hcs) (fun j hj => by rw [mu_ne (by omega), mu_ne (by omega)])
                 exact h9)
              | (have hch : chS v sd = (cutV v (drN (drS sd) (Ln v)).toNat, drS (drS sd)) := by unfold chS; rw [if_neg c8, if_neg c29, if_pos ⟨c51, by omega⟩]
                 have hcs := hS.line hC2 (LW_cut hW (by omega)) (by rw [fr2 0 (by decide), mu_at]) (drS_b _).1 (drS_b _).2 (fun j a b => by rw [fr2 j (by simp only [List.mem_cons, List.not_mem_nil, or_false, not_or]; omega), mu_ne a, mu_ne a])
                 exact h g2 (by rw [hch]; exact hcs) (fun j hj => by rw [fr2 j (by simp only [List.mem_cons, List.not_mem_nil, or_false, not_or]; omega), mu_ne (by omega), mu_ne (by omega)]))
              | (have hch : chS v sd = (dropV v (drN (drS sd) (Ln v)).toNat, drS (drS sd)) := by unfold chS; rw [if_neg c8, if_neg c29, if_neg (by omega), if_pos ⟨c88, by omega⟩]
                 have hcs := hS.line hC2 (LW_drop hW (by omega)) (by rw [fr2 0 (by decide), mu_at]) (drS_b _).1 (drS_b _).2 (fun j a b => by rw [fr2 j (by simp only [List.mem_cons, List.not_mem_nil, or_false, not_or]; omega), mu_ne a, mu_ne a])
                 exact h g2 (by rw [hch]; exact hcs) (fun j hj => by rw [fr2 j (by simp only [List.mem_cons, List.not_mem_nil, or_false, not_or]; omega), mu_ne (by omega), mu_ne (by omega)]))
              | (have hch : chS v sd = (v, drS sd) := by unfold chS; rw [if_neg c8, if_neg c29, if_neg (by omega), if_neg (by omega)]
                 have hcs := hS.line (g2 := (mu g 0 11 (drS sd))) (sd' := drS sd) hC1 hW mu_at (drS_b _).1 (drS_b _).2 (fun j a b => mu_ne a)
                 exact h _ (by rw [hch]; exact hcs) (fun j hj => mu_ne (by omega)))
      · refine r_aload_n (pc' := 55) dX10_chance_54 rfl rfl ?_
        refine r_getr (pc' := 58) dX10_chance_55 rfl fX10_29 z0 rfl ?_
        refine r_getf (pc' := 61) (kI := 3) dX10_chance_58 rfl fX10_140 isL17.1 rfl rfl hC1.1 ?_
        refine r_iconst (pc' := 62) dX10_chance_61 rfl ?_
        refine r_icmp_lt (tgt := 86) (pc' := 65) dX10_chance_62 rfl rfl (by omega) (by omega) (fun c62 => ?_) (fun c62 => ?_)
        · refine r_iload_n (pc' := 87) dX10_chance_86 rfl rfl ?_
          refine r_iconst (pc' := 88) dX10_chance_87 rfl ?_
          refine r_icmp_ne (tgt := 120) (pc' := 91) dX10_chance_88 rfl rfl (by omega) (by omega) (fun c88 => ?_) (fun c88 => ?_)
          · refine r_retn dX10_chance_120 rfl ?_
            first
              | (have hch : chS v sd = (winV v (drN (drS sd) 10).toNat, drS (drS sd)) := by unfold chS; rw [if_pos c8]
                 have hfr : ∀ j, j ≠ 17 → mu (mu (mu g 0 11 (drS sd)) 0 11 (drS (drS sd))) 17 5 (drN (drS sd) 10) j = (mu (mu g 0 11 (drS sd)) 0 11 (drS (drS sd))) j := fun j a => mu_ne a
                 have hlc : LC (mu (mu (mu g 0 11 (drS sd)) 0 11 (drS (drS sd))) 17 5 (drN (drS sd) 10)) 17 18 19 20 (winV v (drN (drS sd) 10).toNat) := by
                   obtain ⟨a1, a2, a3, a4, a5, a6, a7⟩ := hCd
                   refine ⟨?_, fun p hp => by rw [hfr 18 (by decide)]; exact a2 p hp, fun p hp => by rw [hfr 19 (by decide)]; exact a3 p hp, fun p hp => by rw [hfr 20 (by decide)]; exact a4 p hp, ?_, ?_, ?_⟩
                   all_goals first | (rw [mu_at]; show drN (drS sd) 10 = (((drN (drS sd) 10).toNat : Nat) : Int); omega) | (rw [mu_at' (by decide)]; assumption)
                 have hcs := hS.line hlc (LW_win hW (by omega)) (by rw [mu_ne (by decide), mu_at]) (drS_b _).1 (drS_b _).2 (fun j a b => by rw [mu_ne (by omega), mu_ne a, mu_ne a])
                 have h9 := h _ (by rw [hch]; exact hcs) (fun j hj => by rw [mu_ne (by omega), mu_ne (by omega), mu_ne (by omega)])
                 exact h9)
              | (have hch : chS v sd = (wetV v (onN v), drS sd) := by unfold chS; rw [if_neg c8, if_pos c29]
                 have hfr : ∀ j, j ≠ 17 → mu (mu g 0 11 (drS sd)) 17 4 ((onN v : Int)) j = (mu g 0 11 (drS sd)) j := fun j a => mu_ne a
                 have hlc : LC (mu (mu g 0 11 (drS sd)) 17 4 ((onN v : Int))) 17 18 19 20 (wetV v (onN v)) := by
                   obtain ⟨a1, a2, a3, a4, a5, a6, a7⟩ := hCd
                   refine ⟨?_, fun p hp => by rw [hfr 18 (by decide)]; exact a2 p hp, fun p hp => by rw [hfr 19 (by decide)]; exact a3 p hp, fun p hp => by rw [hfr 20 (by decide)]; exact a4 p hp, ?_, ?_, ?_⟩
                   all_goals first | (rw [mu_at]; rfl) | (rw [mu_at' (by decide)]; assumption)
                 have hcs := hS.line hlc (LW_wet hW (onN_lt hW)) (by rw [mu_ne (by decide), mu_at]) (drS_b _).1 (drS_b _).2 (fun j a b => by rw [mu_ne (by omega), mu_ne a])
                 have h9 := h _ (by rw [hch]; exact hcs) (fun j hj => by rw [mu_ne (by omega), mu_ne (by omega)])
                 exact h9)
              | (have hch : chS v sd = (cutV v (drN (drS sd) (Ln v)).toNat, drS (drS sd)) := by unfold chS; rw [if_neg c8, if_neg c29, if_pos ⟨c51, by omega⟩]
                 have hcs := hS.line hC2 (LW_cut hW (by omega)) (by rw [fr2 0 (by decide), mu_at]) (drS_b _).1 (drS_b _).2 (fun j a b => by rw [fr2 j (by simp only [List.mem_cons, List.not_mem_nil, or_false, not_or]; omega), mu_ne a, mu_ne a])
                 exact h g2 (by rw [hch]; exact hcs) (fun j hj => by rw [fr2 j (by simp only [List.mem_cons, List.not_mem_nil, or_false, not_or]; omega), mu_ne (by omega), mu_ne (by omega)]))
              | (have hch : chS v sd = (dropV v (drN (drS sd) (Ln v)).toNat, drS (drS sd)) := by unfold chS; rw [if_neg c8, if_neg c29, if_neg (by omega), if_pos ⟨c88, by omega⟩]
                 have hcs := hS.line hC2 (LW_drop hW (by omega)) (by rw [fr2 0 (by decide), mu_at]) (drS_b _).1 (drS_b _).2 (fun j a b => by rw [fr2 j (by simp only [List.mem_cons, List.not_mem_nil, or_false, not_or]; omega), mu_ne a, mu_ne a])
                 exact h g2 (by rw [hch]; exact hcs) (fun j hj => by rw [fr2 j (by simp only [List.mem_cons, List.not_mem_nil, or_false, not_or]; omega), mu_ne (by omega), mu_ne (by omega)]))
              | (have hch : chS v sd = (v, drS sd) := by unfold chS; rw [if_neg c8, if_neg c29, if_neg (by omega), if_neg (by omega)]
                 have hcs := hS.line (g2 := (mu g 0 11 (drS sd))) (sd' := drS sd) hC1 hW mu_at (drS_b _).1 (drS_b _).2 (fun j a b => mu_ne a)
                 exact h _ (by rw [hch]; exact hcs) (fun j hj => mu_ne (by omega)))
          · refine r_aload_n (pc' := 92) dX10_chance_91 rfl rfl ?_
            refine r_getr (pc' := 95) dX10_chance_92 rfl fX10_29 z0 rfl ?_
            refine r_getf (pc' := 98) (kI := 3) dX10_chance_95 rfl fX10_140 isL17.1 rfl rfl hC1.1 ?_
            refine r_iconst (pc' := 99) dX10_chance_98 rfl ?_
            refine r_icmp_lt (tgt := 120) (pc' := 102) dX10_chance_99 rfl rfl (by omega) (by omega) (fun c99 => ?_) (fun c99 => ?_)
            · refine r_retn dX10_chance_120 rfl ?_
              first
                | (have hch : chS v sd = (winV v (drN (drS sd) 10).toNat, drS (drS sd)) := by unfold chS; rw [if_pos c8]
                   have hfr : ∀ j, j ≠ 17 → mu (mu (mu g 0 11 (drS sd)) 0 11 (drS (drS sd))) 17 5 (drN (drS sd) 10) j = (mu (mu g 0 11 (drS sd)) 0 11 (drS (drS sd))) j := fun j a => mu_ne a
                   have hlc : LC (mu (mu (mu g 0 11 (drS sd)) 0 11 (drS (drS sd))) 17 5 (drN (drS sd) 10)) 17 18 19 20 (winV v (drN (drS sd) 10).toNat) := by
                     obtain ⟨a1, a2, a3, a4, a5, a6, a7⟩ := hCd
                     refine ⟨?_, fun p hp => by rw [hfr 18 (by decide)]; exact a2 p hp, fun p hp => by rw [hfr 19 (by decide)]; exact a3 p hp, fun p hp => by rw [hfr 20 (by decide)]; exact a4 p hp, ?_, ?_, ?_⟩
                     all_goals first | (rw [mu_at]; show drN (drS sd) 10 = (((drN (drS sd) 10).toNat : Nat) : Int); omega) | (rw [mu_at' (by decide)]; assumption)
                   have hcs := hS.line hlc (LW_win hW (by omega)) (by rw [mu_ne (by decide), mu_at]) (drS_b _).1 (drS_b _).2 (fun j a b => by rw [mu_ne (by omega), mu_ne a, mu_ne a])
                   have h9 := h _ (by rw [hch]; exact hcs) (fun j hj => by rw [mu_ne (by omega), mu_ne (by omega), mu_ne (by omega)])
                   exact h9)
                | (have hch : chS v sd = (wetV v (onN v), drS sd) := by unfold chS; rw [if_neg c8, if_pos c29]
                   have hfr : ∀ j, j ≠ 17 → mu (mu g 0 11 (drS sd)) 17 4 ((onN v : Int)) j = (mu g 0 11 (drS sd)) j := fun j a => mu_ne a
                   have hlc : LC (mu (mu g 0 11 (drS sd)) 17 4 ((onN v : Int))) 17 18 19 20 (wetV v (onN v)) := by
                     obtain ⟨a1, a2, a3, a4, a5, a6, a7⟩ := hCd
                     refine ⟨?_, fun p hp => by rw [hfr 18 (by decide)]; exact a2 p hp, fun p hp => by rw [hfr 19 (by decide)]; exact a3 p hp, fun p hp => by rw [hfr 20 (by decide)]; exact a4 p hp, ?_, ?_, ?_⟩
                     all_goals first | (rw [mu_at]; rfl) | (rw [mu_at' (by decide)]; assumption)
                   have hcs := hS.line hlc (LW_wet hW (onN_lt hW)) (by rw [mu_ne (by decide), mu_at]) (drS_b _).1 (drS_b _).2 (fun j a b => by rw [mu_ne (by omega), mu_ne a])
                   have h9 := h _ (by rw [hch]; exact hcs) (fun j hj => by rw [mu_ne (by omega), mu_ne (by omega)])
                   exact h9)
                | (have hch : chS v sd = (cutV v (drN (drS sd) (Ln v)).toNat, drS (drS sd)) := by unfold chS; rw [if_neg c8, if_neg c29, if_pos ⟨c51, by omega⟩]
                   have hcs := hS.line hC2 (LW_cut hW (by omega)) (by rw [fr2 0 (by decide), mu_at]) (drS_b _).1 (drS_b _).2 (fun j a b => by rw [fr2 j (by simp only [List.mem_cons, List.not_mem_nil, or_false, not_or]; omega), mu_ne a, mu_ne a])
                   exact h g2 (by rw [hch]; exact hcs) (fun j hj => by rw [fr2 j (by simp only [List.mem_cons, List.not_mem_nil, or_false, not_or]; omega), mu_ne (by omega), mu_ne (by omega)]))
                | (have hch : chS v sd = (dropV v (drN (drS sd) (Ln v)).toNat, drS (drS sd)) := by unfold chS; rw [if_neg c8, if_neg c29, if_neg (by omega), if_pos ⟨c88, by omega⟩]
                   have hcs := hS.line hC2 (LW_drop hW (by omega)) (by rw [fr2 0 (by decide), mu_at]) (drS_b _).1 (drS_b _).2 (fun j a b => by rw [fr2 j (by simp only [List.mem_cons, List.not_mem_nil, or_false, not_or]; omega), mu_ne a, mu_ne a])
                   exact h g2 (by rw [hch]; exact hcs) (fun j hj => by rw [fr2 j (by simp only [List.mem_cons, List.not_mem_nil, or_false, not_or]; omega), mu_ne (by omega), mu_ne (by omega)]))
                | (have hch : chS v sd = (v, drS sd) := by unfold chS; rw [if_neg c8, if_neg c29, if_neg (by omega), if_neg (by omega)]
                   have hcs := hS.line (g2 := (mu g 0 11 (drS sd))) (sd' := drS sd) hC1 hW mu_at (drS_b _).1 (drS_b _).2 (fun j a b => mu_ne a)
                   exact h _ (by rw [hch]; exact hcs) (fun j hj => mu_ne (by omega)))
            · refine r_aload_n (pc' := 103) dX10_chance_102 rfl rfl ?_
              refine r_getr (pc' := 106) dX10_chance_103 rfl fX10_29 z0 rfl ?_
              refine r_aload_n (pc' := 107) dX10_chance_106 rfl rfl ?_
              refine r_aload_n (pc' := 108) dX10_chance_107 rfl rfl ?_
              refine r_getr (pc' := 111) dX10_chance_108 rfl fX10_29 z0 rfl ?_
              refine r_getf (pc' := 114) (kI := 3) dX10_chance_111 rfl fX10_140 isL17.1 rfl rfl hC1.1 ?_
              refine r_vi1 (pc' := 117) dX10_chance_114 rfl qX10_draw lX10_320 z0 rfl rfl rfl rfl (Nat.zero_le _) (Nat.zero_le _) (a_draw (g := (mu g 0 11 (drS sd))) (sd := drS sd) mu_at (drS_b sd).1 (drS_b sd).2 (Ln v : Int) (by omega) ?_)
              have hbn := drN_b (drS sd) (n := (Ln v : Int)) (by omega)
              have hCd : LC (mu (mu g 0 11 (drS sd)) 0 11 (drS (drS sd))) 17 18 19 20 v := hC.fr (by rw [mu_ne (by decide), mu_ne (by decide)]) (by rw [mu_ne (by decide), mu_ne (by decide)]) (by rw [mu_ne (by decide), mu_ne (by decide)]) (by rw [mu_ne (by decide), mu_ne (by decide)])
              refine r_vv1 (pc' := 120) dX10_chance_117 rfl qX2_takeOff lX10_228 isL17.1 rfl rfl rfl rfl (Nat.zero_le _) (Nat.zero_le _) (a_takeOffI isL17 hCd hW isD17 (p := drN (drS sd) (Ln v)) (by omega) (by omega) (fun g2 hC2 fr2 => ?_))
              refine r_retn dX10_chance_120 rfl ?_
              first
                | (have hch : chS v sd = (winV v (drN (drS sd) 10).toNat, drS (drS sd)) := by unfold chS; rw [if_pos c8]
                   have hfr : ∀ j, j ≠ 17 → mu (mu (mu g 0 11 (drS sd)) 0 11 (drS (drS sd))) 17 5 (drN (drS sd) 10) j = (mu (mu g 0 11 (drS sd)) 0 11 (drS (drS sd))) j := fun j a => mu_ne a
                   have hlc : LC (mu (mu (mu g 0 11 (drS sd)) 0 11 (drS (drS sd))) 17 5 (drN (drS sd) 10)) 17 18 19 20 (winV v (drN (drS sd) 10).toNat) := by
                     obtain ⟨a1, a2, a3, a4, a5, a6, a7⟩ := hCd
                     refine ⟨?_, fun p hp => by rw [hfr 18 (by decide)]; exact a2 p hp, fun p hp => by rw [hfr 19 (by decide)]; exact a3 p hp, fun p hp => by rw [hfr 20 (by decide)]; exact a4 p hp, ?_, ?_, ?_⟩
                     all_goals first | (rw [mu_at]; show drN (drS sd) 10 = (((drN (drS sd) 10).toNat : Nat) : Int); omega) | (rw [mu_at' (by decide)]; assumption)
                   have hcs := hS.line hlc (LW_win hW (by omega)) (by rw [mu_ne (by decide), mu_at]) (drS_b _).1 (drS_b _).2 (fun j a b => by rw [mu_ne (by omega), mu_ne a, mu_ne a])
                   have h9 := h _ (by rw [hch]; exact hcs) (fun j hj => by rw [mu_ne (by omega), mu_ne (by omega), mu_ne (by omega)])
                   exact h9)
                | (have hch : chS v sd = (wetV v (onN v), drS sd) := by unfold chS; rw [if_neg c8, if_pos c29]
                   have hfr : ∀ j, j ≠ 17 → mu (mu g 0 11 (drS sd)) 17 4 ((onN v : Int)) j = (mu g 0 11 (drS sd)) j := fun j a => mu_ne a
                   have hlc : LC (mu (mu g 0 11 (drS sd)) 17 4 ((onN v : Int))) 17 18 19 20 (wetV v (onN v)) := by
                     obtain ⟨a1, a2, a3, a4, a5, a6, a7⟩ := hCd
                     refine ⟨?_, fun p hp => by rw [hfr 18 (by decide)]; exact a2 p hp, fun p hp => by rw [hfr 19 (by decide)]; exact a3 p hp, fun p hp => by rw [hfr 20 (by decide)]; exact a4 p hp, ?_, ?_, ?_⟩
                     all_goals first | (rw [mu_at]; rfl) | (rw [mu_at' (by decide)]; assumption)
                   have hcs := hS.line hlc (LW_wet hW (onN_lt hW)) (by rw [mu_ne (by decide), mu_at]) (drS_b _).1 (drS_b _).2 (fun j a b => by rw [mu_ne (by omega), mu_ne a])
                   have h9 := h _ (by rw [hch]; exact hcs) (fun j hj => by rw [mu_ne (by omega), mu_ne (by omega)])
                   exact h9)
                | (have hch : chS v sd = (cutV v (drN (drS sd) (Ln v)).toNat, drS (drS sd)) := by unfold chS; rw [if_neg c8, if_neg c29, if_pos ⟨c51, by omega⟩]
                   have hcs := hS.line hC2 (LW_cut hW (by omega)) (by rw [fr2 0 (by decide), mu_at]) (drS_b _).1 (drS_b _).2 (fun j a b => by rw [fr2 j (by simp only [List.mem_cons, List.not_mem_nil, or_false, not_or]; omega), mu_ne a, mu_ne a])
                   exact h g2 (by rw [hch]; exact hcs) (fun j hj => by rw [fr2 j (by simp only [List.mem_cons, List.not_mem_nil, or_false, not_or]; omega), mu_ne (by omega), mu_ne (by omega)]))
                | (have hch : chS v sd = (dropV v (drN (drS sd) (Ln v)).toNat, drS (drS sd)) := by unfold chS; rw [if_neg c8, if_neg c29, if_neg (by omega), if_pos ⟨c88, by omega⟩]
                   have hcs := hS.line hC2 (LW_drop hW (by omega)) (by rw [fr2 0 (by decide), mu_at]) (drS_b _).1 (drS_b _).2 (fun j a b => by rw [fr2 j (by simp only [List.mem_cons, List.not_mem_nil, or_false, not_or]; omega), mu_ne a, mu_ne a])
                   exact h g2 (by rw [hch]; exact hcs) (fun j hj => by rw [fr2 j (by simp only [List.mem_cons, List.not_mem_nil, or_false, not_or]; omega), mu_ne (by omega), mu_ne (by omega)]))
                | (have hch : chS v sd = (v, drS sd) := by unfold chS; rw [if_neg c8, if_neg c29, if_neg (by omega), if_neg (by omega)]
                   have hcs := hS.line (g2 := (mu g 0 11 (drS sd))) (sd' := drS sd) hC1 hW mu_at (drS_b _).1 (drS_b _).2 (fun j a b => mu_ne a)
                   exact h _ (by rw [hch]; exact hcs) (fun j hj => mu_ne (by omega)))
        · refine r_aload_n (pc' := 66) dX10_chance_65 rfl rfl ?_
          refine r_getr (pc' := 69) dX10_chance_66 rfl fX10_29 z0 rfl ?_
          refine r_aload_n (pc' := 70) dX10_chance_69 rfl rfl ?_
          refine r_aload_n (pc' := 71) dX10_chance_70 rfl rfl ?_
          refine r_getr (pc' := 74) dX10_chance_71 rfl fX10_29 z0 rfl ?_
          refine r_getf (pc' := 77) (kI := 3) dX10_chance_74 rfl fX10_140 isL17.1 rfl rfl hC1.1 ?_
          refine r_vi1 (pc' := 80) dX10_chance_77 rfl qX10_draw lX10_320 z0 rfl rfl rfl rfl (Nat.zero_le _) (Nat.zero_le _) (a_draw (g := (mu g 0 11 (drS sd))) (sd := drS sd) mu_at (drS_b sd).1 (drS_b sd).2 (Ln v : Int) (by omega) ?_)
          have hbn := drN_b (drS sd) (n := (Ln v : Int)) (by omega)
          have hCd : LC (mu (mu g 0 11 (drS sd)) 0 11 (drS (drS sd))) 17 18 19 20 v := hC.fr (by rw [mu_ne (by decide), mu_ne (by decide)]) (by rw [mu_ne (by decide), mu_ne (by decide)]) (by rw [mu_ne (by decide), mu_ne (by decide)]) (by rw [mu_ne (by decide), mu_ne (by decide)])
          refine r_vv1 (pc' := 83) dX10_chance_80 rfl qX2_cutAt lX10_224 isL17.1 rfl rfl rfl rfl (Nat.zero_le _) (Nat.zero_le _) (a_cutAtI isL17 hCd hW isD17 (p := drN (drS sd) (Ln v)) (by omega) (by omega) (fun g2 hC2 fr2 => ?_))
          refine r_goto (tgt := 120) dX10_chance_83 rfl ?_
          refine r_retn dX10_chance_120 rfl ?_
          first
            | (have hch : chS v sd = (winV v (drN (drS sd) 10).toNat, drS (drS sd)) := by unfold chS; rw [if_pos c8]
               have hfr : ∀ j, j ≠ 17 → mu (mu (mu g 0 11 (drS sd)) 0 11 (drS (drS sd))) 17 5 (drN (drS sd) 10) j = (mu (mu g 0 11 (drS sd)) 0 11 (drS (drS sd))) j := fun j a => mu_ne a
               have hlc : LC (mu (mu (mu g 0 11 (drS sd)) 0 11 (drS (drS sd))) 17 5 (drN (drS sd) 10)) 17 18 19 20 (winV v (drN (drS sd) 10).toNat) := by
                 obtain ⟨a1, a2, a3, a4, a5, a6, a7⟩ := hCd
                 refine ⟨?_, fun p hp => by rw [hfr 18 (by decide)]; exact a2 p hp, fun p hp => by rw [hfr 19 (by decide)]; exact a3 p hp, fun p hp => by rw [hfr 20 (by decide)]; exact a4 p hp, ?_, ?_, ?_⟩
                 all_goals first | (rw [mu_at]; show drN (drS sd) 10 = (((drN (drS sd) 10).toNat : Nat) : Int); omega) | (rw [mu_at' (by decide)]; assumption)
               have hcs := hS.line hlc (LW_win hW (by omega)) (by rw [mu_ne (by decide), mu_at]) (drS_b _).1 (drS_b _).2 (fun j a b => by rw [mu_ne (by omega), mu_ne a, mu_ne a])
               have h9 := h _ (by rw [hch]; exact hcs) (fun j hj => by rw [mu_ne (by omega), mu_ne (by omega), mu_ne (by omega)])
               exact h9)
            | (have hch : chS v sd = (wetV v (onN v), drS sd) := by unfold chS; rw [if_neg c8, if_pos c29]
               have hfr : ∀ j, j ≠ 17 → mu (mu g 0 11 (drS sd)) 17 4 ((onN v : Int)) j = (mu g 0 11 (drS sd)) j := fun j a => mu_ne a
               have hlc : LC (mu (mu g 0 11 (drS sd)) 17 4 ((onN v : Int))) 17 18 19 20 (wetV v (onN v)) := by
                 obtain ⟨a1, a2, a3, a4, a5, a6, a7⟩ := hCd
                 refine ⟨?_, fun p hp => by rw [hfr 18 (by decide)]; exact a2 p hp, fun p hp => by rw [hfr 19 (by decide)]; exact a3 p hp, fun p hp => by rw [hfr 20 (by decide)]; exact a4 p hp, ?_, ?_, ?_⟩
                 all_goals first | (rw [mu_at]; rfl) | (rw [mu_at' (by decide)]; assumption)
               have hcs := hS.line hlc (LW_wet hW (onN_lt hW)) (by rw [mu_ne (by decide), mu_at]) (drS_b _).1 (drS_b _).2 (fun j a b => by rw [mu_ne (by omega), mu_ne a])
               have h9 := h _ (by rw [hch]; exact hcs) (fun j hj => by rw [mu_ne (by omega), mu_ne (by omega)])
               exact h9)
            | (have hch : chS v sd = (cutV v (drN (drS sd) (Ln v)).toNat, drS (drS sd)) := by unfold chS; rw [if_neg c8, if_neg c29, if_pos ⟨c51, by omega⟩]
               have hcs := hS.line hC2 (LW_cut hW (by omega)) (by rw [fr2 0 (by decide), mu_at]) (drS_b _).1 (drS_b _).2 (fun j a b => by rw [fr2 j (by simp only [List.mem_cons, List.not_mem_nil, or_false, not_or]; omega), mu_ne a, mu_ne a])
               exact h g2 (by rw [hch]; exact hcs) (fun j hj => by rw [fr2 j (by simp only [List.mem_cons, List.not_mem_nil, or_false, not_or]; omega), mu_ne (by omega), mu_ne (by omega)]))
            | (have hch : chS v sd = (dropV v (drN (drS sd) (Ln v)).toNat, drS (drS sd)) := by unfold chS; rw [if_neg c8, if_neg c29, if_neg (by omega), if_pos ⟨c88, by omega⟩]
               have hcs := hS.line hC2 (LW_drop hW (by omega)) (by rw [fr2 0 (by decide), mu_at]) (drS_b _).1 (drS_b _).2 (fun j a b => by rw [fr2 j (by simp only [List.mem_cons, List.not_mem_nil, or_false, not_or]; omega), mu_ne a, mu_ne a])
               exact h g2 (by rw [hch]; exact hcs) (fun j hj => by rw [fr2 j (by simp only [List.mem_cons, List.not_mem_nil, or_false, not_or]; omega), mu_ne (by omega), mu_ne (by omega)]))
            | (have hch : chS v sd = (v, drS sd) := by unfold chS; rw [if_neg c8, if_neg c29, if_neg (by omega), if_neg (by omega)]
               have hcs := hS.line (g2 := (mu g 0 11 (drS sd))) (sd' := drS sd) hC1 hW mu_at (drS_b _).1 (drS_b _).2 (fun j a b => mu_ne a)
               exact h _ (by rw [hch]; exact hcs) (fun j hj => mu_ne (by omega)))
    · refine r_aload_n (pc' := 33) dX10_chance_32 rfl rfl ?_
      refine r_getr (pc' := 36) dX10_chance_33 rfl fX10_29 z0 rfl ?_
      refine r_aload_n (pc' := 37) dX10_chance_36 rfl rfl ?_
      refine r_getr (pc' := 40) dX10_chance_37 rfl fX10_29 z0 rfl ?_
      refine r_vi0 (pc' := 43) dX10_chance_40 rfl qX2_onSet lX10_141 isL17.1 rfl rfl rfl (Nat.zero_le _) (Nat.zero_le _) (a_onSet isL17 hC1 hW ?_)
      have hCd := hC1
      refine r_putf (pc' := 46) (kI := 4) dX10_chance_43 rfl fX10_149 isL17.1 rfl (Or.inl rfl) rfl rfl ?_
      refine r_goto (tgt := 120) dX10_chance_46 rfl ?_
      refine r_retn dX10_chance_120 rfl ?_
      first
        | (have hch : chS v sd = (winV v (drN (drS sd) 10).toNat, drS (drS sd)) := by unfold chS; rw [if_pos c8]
           have hfr : ∀ j, j ≠ 17 → mu (mu (mu g 0 11 (drS sd)) 0 11 (drS (drS sd))) 17 5 (drN (drS sd) 10) j = (mu (mu g 0 11 (drS sd)) 0 11 (drS (drS sd))) j := fun j a => mu_ne a
           have hlc : LC (mu (mu (mu g 0 11 (drS sd)) 0 11 (drS (drS sd))) 17 5 (drN (drS sd) 10)) 17 18 19 20 (winV v (drN (drS sd) 10).toNat) := by
             obtain ⟨a1, a2, a3, a4, a5, a6, a7⟩ := hCd
             refine ⟨?_, fun p hp => by rw [hfr 18 (by decide)]; exact a2 p hp, fun p hp => by rw [hfr 19 (by decide)]; exact a3 p hp, fun p hp => by rw [hfr 20 (by decide)]; exact a4 p hp, ?_, ?_, ?_⟩
             all_goals first | (rw [mu_at]; show drN (drS sd) 10 = (((drN (drS sd) 10).toNat : Nat) : Int); omega) | (rw [mu_at' (by decide)]; assumption)
           have hcs := hS.line hlc (LW_win hW (by omega)) (by rw [mu_ne (by decide), mu_at]) (drS_b _).1 (drS_b _).2 (fun j a b => by rw [mu_ne (by omega), mu_ne a, mu_ne a])
           have h9 := h _ (by rw [hch]; exact hcs) (fun j hj => by rw [mu_ne (by omega), mu_ne (by omega), mu_ne (by omega)])
           exact h9)
        | (have hch : chS v sd = (wetV v (onN v), drS sd) := by unfold chS; rw [if_neg c8, if_pos c29]
           have hfr : ∀ j, j ≠ 17 → mu (mu g 0 11 (drS sd)) 17 4 ((onN v : Int)) j = (mu g 0 11 (drS sd)) j := fun j a => mu_ne a
           have hlc : LC (mu (mu g 0 11 (drS sd)) 17 4 ((onN v : Int))) 17 18 19 20 (wetV v (onN v)) := by
             obtain ⟨a1, a2, a3, a4, a5, a6, a7⟩ := hCd
             refine ⟨?_, fun p hp => by rw [hfr 18 (by decide)]; exact a2 p hp, fun p hp => by rw [hfr 19 (by decide)]; exact a3 p hp, fun p hp => by rw [hfr 20 (by decide)]; exact a4 p hp, ?_, ?_, ?_⟩
             all_goals first | (rw [mu_at]; rfl) | (rw [mu_at' (by decide)]; assumption)
           have hcs := hS.line hlc (LW_wet hW (onN_lt hW)) (by rw [mu_ne (by decide), mu_at]) (drS_b _).1 (drS_b _).2 (fun j a b => by rw [mu_ne (by omega), mu_ne a])
           have h9 := h _ (by rw [hch]; exact hcs) (fun j hj => by rw [mu_ne (by omega), mu_ne (by omega)])
           exact h9)
        | (have hch : chS v sd = (cutV v (drN (drS sd) (Ln v)).toNat, drS (drS sd)) := by unfold chS; rw [if_neg c8, if_neg c29, if_pos ⟨c51, by omega⟩]
           have hcs := hS.line hC2 (LW_cut hW (by omega)) (by rw [fr2 0 (by decide), mu_at]) (drS_b _).1 (drS_b _).2 (fun j a b => by rw [fr2 j (by simp only [List.mem_cons, List.not_mem_nil, or_false, not_or]; omega), mu_ne a, mu_ne a])
           exact h g2 (by rw [hch]; exact hcs) (fun j hj => by rw [fr2 j (by simp only [List.mem_cons, List.not_mem_nil, or_false, not_or]; omega), mu_ne (by omega), mu_ne (by omega)]))
        | (have hch : chS v sd = (dropV v (drN (drS sd) (Ln v)).toNat, drS (drS sd)) := by unfold chS; rw [if_neg c8, if_neg c29, if_neg (by omega), if_pos ⟨c88, by omega⟩]
           have hcs := hS.line hC2 (LW_drop hW (by omega)) (by rw [fr2 0 (by decide), mu_at]) (drS_b _).1 (drS_b _).2 (fun j a b => by rw [fr2 j (by simp only [List.mem_cons, List.not_mem_nil, or_false, not_or]; omega), mu_ne a, mu_ne a])
           exact h g2 (by rw [hch]; exact hcs) (fun j hj => by rw [fr2 j (by simp only [List.mem_cons, List.not_mem_nil, or_false, not_or]; omega), mu_ne (by omega), mu_ne (by omega)]))
        | (have hch : chS v sd = (v, drS sd) := by unfold chS; rw [if_neg c8, if_neg c29, if_neg (by omega), if_neg (by omega)]
           have hcs := hS.line (g2 := (mu g 0 11 (drS sd))) (sd' := drS sd) hC1 hW mu_at (drS_b _).1 (drS_b _).2 (fun j a b => mu_ne a)
           exact h _ (by rw [hch]; exact hcs) (fun j hj => mu_ne (by omega)))
  · refine r_aload_n (pc' := 12) dX10_chance_11 rfl rfl ?_
    refine r_getr (pc' := 15) dX10_chance_12 rfl fX10_29 z0 rfl ?_
    refine r_aload_n (pc' := 16) dX10_chance_15 rfl rfl ?_
    refine r_bipush (pc' := 18) dX10_chance_16 rfl (by decide) ?_
    refine r_vi1 (pc' := 21) dX10_chance_18 rfl qX10_draw lX10_320 z0 rfl rfl rfl rfl (Nat.zero_le _) (Nat.zero_le _) (a_draw (g := (mu g 0 11 (drS sd))) (sd := drS sd) mu_at (drS_b sd).1 (drS_b sd).2 10 (by decide) ?_)
    have hb10 := drN_b (drS sd) (n := 10) (by decide)
    have hCd : LC (mu (mu g 0 11 (drS sd)) 0 11 (drS (drS sd))) 17 18 19 20 v := hC.fr (by rw [mu_ne (by decide), mu_ne (by decide)]) (by rw [mu_ne (by decide), mu_ne (by decide)]) (by rw [mu_ne (by decide), mu_ne (by decide)]) (by rw [mu_ne (by decide), mu_ne (by decide)])
    refine r_putf (pc' := 24) (kI := 5) dX10_chance_21 rfl fX10_137 isL17.1 rfl (Or.inl rfl) rfl rfl ?_
    refine r_goto (tgt := 120) dX10_chance_24 rfl ?_
    refine r_retn dX10_chance_120 rfl ?_
    first
      | (have hch : chS v sd = (winV v (drN (drS sd) 10).toNat, drS (drS sd)) := by unfold chS; rw [if_pos c8]
         have hfr : ∀ j, j ≠ 17 → mu (mu (mu g 0 11 (drS sd)) 0 11 (drS (drS sd))) 17 5 (drN (drS sd) 10) j = (mu (mu g 0 11 (drS sd)) 0 11 (drS (drS sd))) j := fun j a => mu_ne a
         have hlc : LC (mu (mu (mu g 0 11 (drS sd)) 0 11 (drS (drS sd))) 17 5 (drN (drS sd) 10)) 17 18 19 20 (winV v (drN (drS sd) 10).toNat) := by
           obtain ⟨a1, a2, a3, a4, a5, a6, a7⟩ := hCd
           refine ⟨?_, fun p hp => by rw [hfr 18 (by decide)]; exact a2 p hp, fun p hp => by rw [hfr 19 (by decide)]; exact a3 p hp, fun p hp => by rw [hfr 20 (by decide)]; exact a4 p hp, ?_, ?_, ?_⟩
           all_goals first | (rw [mu_at]; show drN (drS sd) 10 = (((drN (drS sd) 10).toNat : Nat) : Int); omega) | (rw [mu_at' (by decide)]; assumption)
         have hcs := hS.line hlc (LW_win hW (by omega)) (by rw [mu_ne (by decide), mu_at]) (drS_b _).1 (drS_b _).2 (fun j a b => by rw [mu_ne (by omega), mu_ne a, mu_ne a])
         have h9 := h _ (by rw [hch]; exact hcs) (fun j hj => by rw [mu_ne (by omega), mu_ne (by omega), mu_ne (by omega)])
         exact h9)
      | (have hch : chS v sd = (wetV v (onN v), drS sd) := by unfold chS; rw [if_neg c8, if_pos c29]
         have hfr : ∀ j, j ≠ 17 → mu (mu g 0 11 (drS sd)) 17 4 ((onN v : Int)) j = (mu g 0 11 (drS sd)) j := fun j a => mu_ne a
         have hlc : LC (mu (mu g 0 11 (drS sd)) 17 4 ((onN v : Int))) 17 18 19 20 (wetV v (onN v)) := by
           obtain ⟨a1, a2, a3, a4, a5, a6, a7⟩ := hCd
           refine ⟨?_, fun p hp => by rw [hfr 18 (by decide)]; exact a2 p hp, fun p hp => by rw [hfr 19 (by decide)]; exact a3 p hp, fun p hp => by rw [hfr 20 (by decide)]; exact a4 p hp, ?_, ?_, ?_⟩
           all_goals first | (rw [mu_at]; rfl) | (rw [mu_at' (by decide)]; assumption)
         have hcs := hS.line hlc (LW_wet hW (onN_lt hW)) (by rw [mu_ne (by decide), mu_at]) (drS_b _).1 (drS_b _).2 (fun j a b => by rw [mu_ne (by omega), mu_ne a])
         have h9 := h _ (by rw [hch]; exact hcs) (fun j hj => by rw [mu_ne (by omega), mu_ne (by omega)])
         exact h9)
      | (have hch : chS v sd = (cutV v (drN (drS sd) (Ln v)).toNat, drS (drS sd)) := by unfold chS; rw [if_neg c8, if_neg c29, if_pos ⟨c51, by omega⟩]
         have hcs := hS.line hC2 (LW_cut hW (by omega)) (by rw [fr2 0 (by decide), mu_at]) (drS_b _).1 (drS_b _).2 (fun j a b => by rw [fr2 j (by simp only [List.mem_cons, List.not_mem_nil, or_false, not_or]; omega), mu_ne a, mu_ne a])
         exact h g2 (by rw [hch]; exact hcs) (fun j hj => by rw [fr2 j (by simp only [List.mem_cons, List.not_mem_nil, or_false, not_or]; omega), mu_ne (by omega), mu_ne (by omega)]))
      | (have hch : chS v sd = (dropV v (drN (drS sd) (Ln v)).toNat, drS (drS sd)) := by unfold chS; rw [if_neg c8, if_neg c29, if_neg (by omega), if_pos ⟨c88, by omega⟩]
         have hcs := hS.line hC2 (LW_drop hW (by omega)) (by rw [fr2 0 (by decide), mu_at]) (drS_b _).1 (drS_b _).2 (fun j a b => by rw [fr2 j (by simp only [List.mem_cons, List.not_mem_nil, or_false, not_or]; omega), mu_ne a, mu_ne a])
         exact h g2 (by rw [hch]; exact hcs) (fun j hj => by rw [fr2 j (by simp only [List.mem_cons, List.not_mem_nil, or_false, not_or]; omega), mu_ne (by omega), mu_ne (by omega)]))
      | (have hch : chS v sd = (v, drS sd) := by unfold chS; rw [if_neg c8, if_neg c29, if_neg (by omega), if_neg (by omega)]
         have hcs := hS.line (g2 := (mu g 0 11 (drS sd))) (sd' := drS sd) hC1 hW mu_at (drS_b _).1 (drS_b _).2 (fun j a b => mu_ne a)
         exact h _ (by rw [hch]; exact hcs) (fun j hj => mu_ne (by omega)))
theorem LW_year {F : Nat} {u : PV} {v : LV} (h : LW F v) (hy : Ly v + 1 ≤ 9020) : LW F (yearV u v) := by
  have hn := (Ll_nodup h).filter (keepB u (fdP u v (Ln v)))
  have hl : ((Ll v).filter (keepB u (fdP u v (Ln v)))).length ≤ Ln v := by
    have := List.length_filter_le (keepB u (fdP u v (Ln v))) (Ll v)
    rw [Ll_len] at this
    exact this
  refine ⟨h.1, Nat.le_trans hl h.2.1, fun p hp => ?_, fun p q hp hq e => ?_, by show (0 : Nat) < 128; decide, fdP_b h _, h.2.2.2.2.2.2.1, hy⟩
  · have hp1 : p < ((Ll v).filter (keepB u (fdP u v (Ln v)))).length := hp
    show ((Ll v).filter (keepB u (fdP u v (Ln v)))).getD p 0 < F
    rw [List.getD_eq_getElem?_getD, List.getElem?_eq_getElem hp1]
    have hm := (List.mem_filter.mp (List.getElem_mem hp1)).1
    unfold Ll at hm
    obtain ⟨x, hx, ex⟩ := List.mem_map.mp hm
    show ((Ll v).filter (keepB u (fdP u v (Ln v))))[p] < F
    unfold Ll
    rw [← ex]
    exact h.2.2.1 x (List.mem_range.mp hx)
  · have hp1 : p < ((Ll v).filter (keepB u (fdP u v (Ln v)))).length := hp
    have hq1 : q < ((Ll v).filter (keepB u (fdP u v (Ln v)))).length := hq
    have e1 : ((Ll v).filter (keepB u (fdP u v (Ln v)))).getD p 0 = ((Ll v).filter (keepB u (fdP u v (Ln v)))).getD q 0 := e
    rw [List.getD_eq_getElem?_getD, List.getD_eq_getElem?_getD, List.getElem?_eq_getElem hp1, List.getElem?_eq_getElem hq1] at e1
    have e2 : ((Ll v).filter (keepB u (fdP u v (Ln v))))[p] = ((Ll v).filter (keepB u (fdP u v (Ln v))))[q] := e1
    have hpw := List.pairwise_iff_getElem.mp hn
    rcases Nat.lt_trichotomy p q with hlt | heq | hgt
    · exact absurd e2 (hpw p q hp1 hq1 hlt)
    · exact heq
    · exact absurd e2.symm (hpw q p hq1 hp1 hgt)
def yrI (u : PV) : Nat → Nat × (Nat → LV) × LV → Nat × (Nat → LV) × LV
  | 0, s => s
  | k + 1, s => yrI u k (pN s.1, pL s.1 s.2.1 s.2.2, yearV u s.2.2)
def dfI (u : PV) : Nat → Nat × (Nat → LV) × LV × Int → Nat × (Nat → LV) × LV × Int
  | 0, s => s
  | k + 1, s => dfI u k (pN s.1, pL s.1 s.2.1 s.2.2.1, yearV u (chS s.2.2.1 s.2.2.2).1, (chS s.2.2.1 s.2.2.2).2)
theorem E_yr_R (u : PV) (v : LV) (n : Int) : R32 (E_yr u v n) := by unfold E_yr; (repeat' split) <;> decide
theorem E_yr_0 {u : PV} {v : LV} {n : Int} (h : E_yr u v n = 0) : 1 ≤ n ∧ n ≤ 20 ∧ Pp u ≠ 0 ∧ Ly v ≤ 9000 := by
  unfold E_yr at h
  split at h
  · split at h
    · split at h
      · omega
      · omega
    · omega
  · omega
theorem l_years {X : CX} {d : Nat} {K : Int → Mem → Prop} {n : Int} (hn : n ≤ 20) : ∀ (k i : Nat) (g : Mem) {tN : Nat} {tX : Nat → Int} {flt : Int} {u : PV} {v : LV} {kn : Nat} {kL : Nat → LV} {im : Nat → Bool × Int × LV} {sd : Int} {ln : Nat} {la : Nat → Nat} {lr : Nat → Bool} {bn : Nat} {bp : Nat → Nat} {bf : Nat → Int} (hS : CS g tN tX flt u v kn kL im sd ln la lr bn bp bf), (i : Int) + k = n → Ly v + k ≤ 9020 → (∀ g' : Mem, CS g' tN tX flt u ((yrI u k (kn, kL, v)).2.2) ((yrI u k (kn, kL, v)).1) ((yrI u k (kn, kL, v)).2.1) im sd ln la lr bn bp bf → FrC g g' → K ((Ln (yrI u k (kn, kL, v)).2.2 : Nat) : Int) g') → AJ X (d + 3) mX10_year 0 0 (QI Z0 K) 0 0 14 [some (vr 0), some (vi n), some (vi 0), some (vi (i : Int))] [] Z0 g := by
  intro k
  induction k with
  | zero =>
    intro i g tN tX flt u v kn kL im sd ln la lr bn bp bf hS hi hy h
    obtain ⟨⟨t1, t2, t3⟩, ⟨f1, f2⟩, hB, ⟨top, hP⟩, hI, ⟨sd1, sd2, sd3⟩, hK, hN⟩ := id hS
    obtain ⟨hQ, hU, hC, hW⟩ := id hB
    obtain ⟨hc, ho, hf, hw_, ht, hi, hy⟩ := id hC
    obtain ⟨w0, w1, w2, w3, w4, w5, w6, w7⟩ := id hW
    obtain ⟨p6, p7, p8, p9, p10, pk, pg, px, py⟩ := id hQ
    obtain ⟨u0, u1, u2, u3, u4, u5, u6, u7⟩ := id hU
    refine r_iload_n (pc' := 15) dX10_year_14 rfl rfl ?_
    refine r_iload_n (pc' := 16) dX10_year_15 rfl rfl ?_
    refine r_icmp_ge (tgt := 47) (pc' := 19) dX10_year_16 rfl rfl (by omega) (by omega) (fun c16 => ?_) (fun c16 => ?_)
    · refine r_aload_n (pc' := 48) dX10_year_47 rfl rfl ?_
      refine r_getr (pc' := 51) dX10_year_48 rfl fX10_29 z0 rfl ?_
      refine r_getf (pc' := 54) (kI := 3) dX10_year_51 rfl fX10_140 isL17.1 rfl rfl hc ?_
      refine r_reti dX10_year_54 rfl (Or.inl rfl) ?_
      exact h g hS (FrC.rf g)
    · exact absurd c16 (by omega)
  | succ k ih =>
    intro i g tN tX flt u v kn kL im sd ln la lr bn bp bf hS hi hy h
    obtain ⟨⟨t1, t2, t3⟩, ⟨f1, f2⟩, hB, ⟨top, hP⟩, hI, ⟨sd1, sd2, sd3⟩, hK, hN⟩ := id hS
    obtain ⟨hQ, hU, hC, hW⟩ := id hB
    obtain ⟨hc, ho, hf, hw_, ht, hi, hy⟩ := id hC
    obtain ⟨w0, w1, w2, w3, w4, w5, w6, w7⟩ := id hW
    obtain ⟨p6, p7, p8, p9, p10, pk, pg, px, py⟩ := id hQ
    obtain ⟨u0, u1, u2, u3, u4, u5, u6, u7⟩ := id hU
    refine r_iload_n (pc' := 15) dX10_year_14 rfl rfl ?_
    refine r_iload_n (pc' := 16) dX10_year_15 rfl rfl ?_
    refine r_icmp_ge (tgt := 47) (pc' := 19) dX10_year_16 rfl rfl (by omega) (by omega) (fun c16 => ?_) (fun c16 => ?_)
    · exact absurd c16 (by omega)
    · refine r_aload_n (pc' := 20) dX10_year_19 rfl rfl ?_
      refine r_getr (pc' := 23) dX10_year_20 rfl fX10_36 z0 rfl ?_
      refine r_aload_n (pc' := 24) dX10_year_23 rfl rfl ?_
      refine r_getr (pc' := 27) dX10_year_24 rfl fX10_29 z0 rfl ?_
      refine r_vv1 (pc' := 30) dX10_year_27 rfl qX4_remember lX10_216 z21 rfl rfl rfl rfl (Nat.zero_le _) (Nat.zero_le _) (a_remember hB hP (fun g1 hP1 fr1 => ?_))
      have hl1 : ∀ j, j < 21 ∨ 143 ≤ j → g1 j = g j := fun j hj => fr1 j (by unfold pastB; omega)
      have hC1 := LC.fr hC (hl1 17 (by omega)) (hl1 18 (by omega)) (hl1 19 (by omega)) (hl1 20 (by omega))
      have hS1 := hS.deed hP1 hC1 hW (fun j h0 h1 h2 h3 h4 => fr1 j h0)
      have fc1 : FrC g g1 := fun j hj => hl1 j (by omega)
      refine r_aload_n (pc' := 31) dX10_year_30 rfl rfl ?_
      refine r_getr (pc' := 34) dX10_year_31 rfl fX10_29 z0 rfl ?_
      refine r_aload_n (pc' := 35) dX10_year_34 rfl rfl ?_
      refine r_getr (pc' := 38) dX10_year_35 rfl fX10_23 z0 rfl ?_
      refine r_vv1 (pc' := 41) dX10_year_38 rfl qX2_passYear lX10_243 isL17.1 rfl rfl rfl rfl (Nat.zero_le _) (Nat.zero_le _) (a_passYear hU rfl hW hC1 hS1.2.2.1.1 (fun g2 hC2 fr2 => ?_))
      refine r_iinc (pc' := 44) dX10_year_41 rfl rfl rfl ?_
      refine r_goto (tgt := 14) dX10_year_44 rfl ?_
      obtain ⟨top1, hP2⟩ := hS1.2.2.2.1
      have hS2 := hS1.line hC2 (LW_year hW (by omega)) (by rw [fr2 0 (by decide)]; exact hS1.2.2.2.2.2.1.1) sd2 sd3 (fun j a b => fr2 j (by simp only [List.mem_cons, List.not_mem_nil, or_false, not_or]; omega))
      have hyy : Ly (yearV u v) = Ly v + 1 := rfl
      exact ih (i + 1) g2 hS2 (by omega) (by omega) (fun g' hs hf => h g' hs (fc1.tr ((FrC.of fr2 (by decide)).tr hf)))
theorem l_drift {X : CX} {d : Nat} {K : Int → Mem → Prop} {n : Int} (hn : n ≤ 20) : ∀ (k i : Nat) (g : Mem) {tN : Nat} {tX : Nat → Int} {flt : Int} {u : PV} {v : LV} {kn : Nat} {kL : Nat → LV} {im : Nat → Bool × Int × LV} {sd : Int} {ln : Nat} {la : Nat → Nat} {lr : Nat → Bool} {bn : Nat} {bp : Nat → Nat} {bf : Nat → Int} (hS : CS g tN tX flt u v kn kL im sd ln la lr bn bp bf), (i : Int) + k = n → Ly v + k ≤ 9020 → (∀ g' : Mem, CS g' tN tX flt u ((dfI u k (kn, kL, v, sd)).2.2.1) ((dfI u k (kn, kL, v, sd)).1) ((dfI u k (kn, kL, v, sd)).2.1) im ((dfI u k (kn, kL, v, sd)).2.2.2) ln la lr bn bp bf → FrC g g' → K ((Ln (dfI u k (kn, kL, v, sd)).2.2.1 : Nat) : Int) g') → AJ X (d + 4) mX10_drift 0 0 (QI Z0 K) 0 0 14 [some (vr 0), some (vi n), some (vi 0), some (vi (i : Int))] [] Z0 g := by
  intro k
  induction k with
  | zero =>
    intro i g tN tX flt u v kn kL im sd ln la lr bn bp bf hS hi hy h
    obtain ⟨⟨t1, t2, t3⟩, ⟨f1, f2⟩, hB, ⟨top, hP⟩, hI, ⟨sd1, sd2, sd3⟩, hK, hN⟩ := id hS
    obtain ⟨hQ, hU, hC, hW⟩ := id hB
    obtain ⟨hc, ho, hf, hw_, ht, hi, hy⟩ := id hC
    obtain ⟨w0, w1, w2, w3, w4, w5, w6, w7⟩ := id hW
    obtain ⟨p6, p7, p8, p9, p10, pk, pg, px, py⟩ := id hQ
    obtain ⟨u0, u1, u2, u3, u4, u5, u6, u7⟩ := id hU
    refine r_iload_n (pc' := 15) dX10_drift_14 rfl rfl ?_
    refine r_iload_n (pc' := 16) dX10_drift_15 rfl rfl ?_
    refine r_icmp_ge (tgt := 51) (pc' := 19) dX10_drift_16 rfl rfl (by omega) (by omega) (fun c16 => ?_) (fun c16 => ?_)
    · refine r_aload_n (pc' := 52) dX10_drift_51 rfl rfl ?_
      refine r_getr (pc' := 55) dX10_drift_52 rfl fX10_29 z0 rfl ?_
      refine r_getf (pc' := 58) (kI := 3) dX10_drift_55 rfl fX10_140 isL17.1 rfl rfl hc ?_
      refine r_reti dX10_drift_58 rfl (Or.inl rfl) ?_
      exact h g hS (FrC.rf g)
    · exact absurd c16 (by omega)
  | succ k ih =>
    intro i g tN tX flt u v kn kL im sd ln la lr bn bp bf hS hi hy h
    obtain ⟨⟨t1, t2, t3⟩, ⟨f1, f2⟩, hB, ⟨top, hP⟩, hI, ⟨sd1, sd2, sd3⟩, hK, hN⟩ := id hS
    obtain ⟨hQ, hU, hC, hW⟩ := id hB
    obtain ⟨hc, ho, hf, hw_, ht, hi, hy⟩ := id hC
    obtain ⟨w0, w1, w2, w3, w4, w5, w6, w7⟩ := id hW
    obtain ⟨p6, p7, p8, p9, p10, pk, pg, px, py⟩ := id hQ
    obtain ⟨u0, u1, u2, u3, u4, u5, u6, u7⟩ := id hU
    refine r_iload_n (pc' := 15) dX10_drift_14 rfl rfl ?_
    refine r_iload_n (pc' := 16) dX10_drift_15 rfl rfl ?_
    refine r_icmp_ge (tgt := 51) (pc' := 19) dX10_drift_16 rfl rfl (by omega) (by omega) (fun c16 => ?_) (fun c16 => ?_)
    · exact absurd c16 (by omega)
    · refine r_aload_n (pc' := 20) dX10_drift_19 rfl rfl ?_
      refine r_getr (pc' := 23) dX10_drift_20 rfl fX10_36 z0 rfl ?_
      refine r_aload_n (pc' := 24) dX10_drift_23 rfl rfl ?_
      refine r_getr (pc' := 27) dX10_drift_24 rfl fX10_29 z0 rfl ?_
      refine r_vv1 (pc' := 30) dX10_drift_27 rfl qX4_remember lX10_216 z21 rfl rfl rfl rfl (Nat.zero_le _) (Nat.zero_le _) (a_remember hB hP (fun g1 hP1 fr1 => ?_))
      have hl1 : ∀ j, j < 21 ∨ 143 ≤ j → g1 j = g j := fun j hj => fr1 j (by unfold pastB; omega)
      have hC1 := LC.fr hC (hl1 17 (by omega)) (hl1 18 (by omega)) (hl1 19 (by omega)) (hl1 20 (by omega))
      have hS1 := hS.deed hP1 hC1 hW (fun j h0 h1 h2 h3 h4 => fr1 j h0)
      have fc1 : FrC g g1 := fun j hj => hl1 j (by omega)
      refine r_aload_n (pc' := 31) dX10_drift_30 rfl rfl ?_
      refine r_vv0 (pc' := 34) dX10_drift_31 rfl qX10_chance lX10_246 z0 rfl rfl rfl (Nat.zero_le _) (Nat.zero_le _) (a_chance hS1 (fun g3 hS3 fc3 => ?_))
      have hy3 := chS_y v sd
      refine r_aload_n (pc' := 35) dX10_drift_34 rfl rfl ?_
      refine r_getr (pc' := 38) dX10_drift_35 rfl fX10_29 z0 rfl ?_
      refine r_aload_n (pc' := 39) dX10_drift_38 rfl rfl ?_
      refine r_getr (pc' := 42) dX10_drift_39 rfl fX10_23 z0 rfl ?_
      refine r_vv1 (pc' := 45) dX10_drift_42 rfl qX2_passYear lX10_243 isL17.1 rfl rfl rfl rfl (Nat.zero_le _) (Nat.zero_le _) (a_passYear hU rfl hS3.2.2.1.2.2.2 hS3.2.2.1.2.2.1 hS3.2.2.1.1 (fun g2 hC2 fr2 => ?_))
      refine r_iinc (pc' := 48) dX10_drift_45 rfl rfl rfl ?_
      refine r_goto (tgt := 14) dX10_drift_48 rfl ?_
      have hs3 := hS3.2.2.2.2.2.1
      have hS2 := hS3.line hC2 (LW_year hS3.2.2.1.2.2.2 (by omega)) (by rw [fr2 0 (by decide)]; exact hs3.1) hs3.2.1 hs3.2.2 (fun j a b => fr2 j (by simp only [List.mem_cons, List.not_mem_nil, or_false, not_or]; omega))
      have hyy : Ly (yearV u (chS v sd).1) = Ly (chS v sd).1 + 1 := rfl
      exact ih (i + 1) g2 hS2 (by omega) (by omega) (fun g' hs hf => h g' hs (fc1.tr (fc3.tr ((FrC.of fr2 (by decide)).tr hf))))
theorem C_year {X : CX} {d : Nat} {g : Mem} {K : Int → Mem → Prop} {tN : Nat} {tX : Nat → Int} {flt : Int} {u : PV} {v : LV} {kn : Nat} {kL : Nat → LV} {im : Nat → Bool × Int × LV} {sd : Int} {ln : Nat} {la : Nat → Nat} {lr : Nat → Bool} {bn : Nat} {bp : Nat → Nat} {bf : Nat → Int} (hS : CS g tN tX flt u v kn kL im sd ln la lr bn bp bf) (n : Int) (hn : R32 n) (h : ∀ g' : Mem, CS g' tN tX flt u (if E_yr u v n = 0 then (yrI u n.toNat (kn, kL, v)).2.2 else v) (if E_yr u v n = 0 then (yrI u n.toNat (kn, kL, v)).1 else kn) (if E_yr u v n = 0 then (yrI u n.toNat (kn, kL, v)).2.1 else kL) im sd ln la lr bn bp bf → FrC g g' → K (if E_yr u v n = 0 then ((Ln (yrI u n.toNat (kn, kL, v)).2.2 : Nat) : Int) else E_yr u v n) g') : EI X (d + 3) mX10_year [vr 0, vi n] Z0 g K := by
  show AJ X (d + 3) mX10_year 0 0 (QI Z0 K) 0 0 0 [some (vr 0), some (vi n), none, none] [] Z0 g
  refine r_aload_n (pc' := 1) dX10_year_0 rfl rfl ?_
  refine r_iload_n (pc' := 2) dX10_year_1 rfl rfl ?_
  refine r_vi1 (pc' := 5) dX10_year_2 rfl qX10_yearsRefused lX10_240 z0 rfl rfl rfl rfl (Nat.zero_le _) (Nat.zero_le _) (a_yr hS n hn ?_)
  refine r_istore_n (pc' := 6) dX10_year_5 rfl rfl ?_
  refine r_iload_n (pc' := 7) dX10_year_6 rfl rfl ?_
  refine r_if_eq (tgt := 12) (pc' := 10) dX10_year_7 rfl rfl (E_yr_R _ _ _) (fun c7 => ?_) (fun c7 => ?_)
  · refine r_iconst (pc' := 13) dX10_year_12 rfl ?_
    refine r_istore_n (pc' := 14) dX10_year_13 rfl rfl ?_
    simp only [if_pos c7] at h
    obtain ⟨y1, y2, y3, y4⟩ := E_yr_0 c7
    rw [c7]
    exact l_years y2 n.toNat 0 g hS (by omega) (by omega) h
  · refine r_iload_n (pc' := 11) dX10_year_10 rfl rfl ?_
    refine r_reti dX10_year_11 rfl (Or.inl rfl) ?_
    simp only [if_neg c7] at h
    exact h g hS (FrC.rf g)
theorem C_drift {X : CX} {d : Nat} {g : Mem} {K : Int → Mem → Prop} {tN : Nat} {tX : Nat → Int} {flt : Int} {u : PV} {v : LV} {kn : Nat} {kL : Nat → LV} {im : Nat → Bool × Int × LV} {sd : Int} {ln : Nat} {la : Nat → Nat} {lr : Nat → Bool} {bn : Nat} {bp : Nat → Nat} {bf : Nat → Int} (hS : CS g tN tX flt u v kn kL im sd ln la lr bn bp bf) (n : Int) (hn : R32 n) (h : ∀ g' : Mem, CS g' tN tX flt u (if E_yr u v n = 0 then (dfI u n.toNat (kn, kL, v, sd)).2.2.1 else v) (if E_yr u v n = 0 then (dfI u n.toNat (kn, kL, v, sd)).1 else kn) (if E_yr u v n = 0 then (dfI u n.toNat (kn, kL, v, sd)).2.1 else kL) im (if E_yr u v n = 0 then (dfI u n.toNat (kn, kL, v, sd)).2.2.2 else sd) ln la lr bn bp bf → FrC g g' → K (if E_yr u v n = 0 then ((Ln (dfI u n.toNat (kn, kL, v, sd)).2.2.1 : Nat) : Int) else E_yr u v n) g') : EI X (d + 4) mX10_drift [vr 0, vi n] Z0 g K := by
  show AJ X (d + 4) mX10_drift 0 0 (QI Z0 K) 0 0 0 [some (vr 0), some (vi n), none, none] [] Z0 g
  refine r_aload_n (pc' := 1) dX10_drift_0 rfl rfl ?_
  refine r_iload_n (pc' := 2) dX10_drift_1 rfl rfl ?_
  refine r_vi1 (pc' := 5) dX10_drift_2 rfl qX10_yearsRefused lX10_240 z0 rfl rfl rfl rfl (Nat.zero_le _) (Nat.zero_le _) (a_yr hS n hn ?_)
  refine r_istore_n (pc' := 6) dX10_drift_5 rfl rfl ?_
  refine r_iload_n (pc' := 7) dX10_drift_6 rfl rfl ?_
  refine r_if_eq (tgt := 12) (pc' := 10) dX10_drift_7 rfl rfl (E_yr_R _ _ _) (fun c7 => ?_) (fun c7 => ?_)
  · refine r_iconst (pc' := 13) dX10_drift_12 rfl ?_
    refine r_istore_n (pc' := 14) dX10_drift_13 rfl rfl ?_
    simp only [if_pos c7] at h
    obtain ⟨y1, y2, y3, y4⟩ := E_yr_0 c7
    rw [c7]
    exact l_drift y2 n.toNat 0 g hS (by omega) (by omega) h
  · refine r_iload_n (pc' := 11) dX10_drift_10 rfl rfl ?_
    refine r_reti dX10_drift_11 rfl (Or.inl rfl) ?_
    simp only [if_neg c7] at h
    exact h g hS (FrC.rf g)
