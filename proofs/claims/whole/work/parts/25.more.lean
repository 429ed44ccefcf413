theorem LK.fr {g g' : Mem} {n : Nat} {a : Nat → Nat} {r : Nat → Bool} (h : LK g n a r) (h0 : g' 160 = g 160) (h1 : g' 161 = g 161) (h2 : g' 162 = g 162) : LK g' n a r := by
  unfold LK
  rw [h0, h1, h2]
  exact h
theorem BK.fr {g g' : Mem} {n : Nat} {p : Nat → Nat} {f : Nat → Int} (h : BK g n p f) (h0 : g' 163 = g 163) (h1 : g' 164 = g 164) (h2 : g' 165 = g 165) : BK g' n p f := by
  unfold BK
  rw [h0, h1, h2]
  exact h
def IMs (g : Mem) (F : Nat) (im : Nat → Bool × Int × LV) : Prop := ∀ i : Nat, i < 2 → g (144 + 5 * i) 2 = b01 (im i).1 ∧ ((im i).1 = true → g (144 + 5 * i) 1 = (im i).2.1 ∧ 0 ≤ (im i).2.1 ∧ (im i).2.1 < 2147483648 ∧ LC g (145 + 5 * i) (146 + 5 * i) (147 + 5 * i) (148 + 5 * i) (im i).2.2 ∧ LW F (im i).2.2)
theorem IMs.fr {g g' : Mem} {F : Nat} {im : Nat → Bool × Int × LV} (h : IMs g F im) (hf : ∀ j, 144 ≤ j → j < 154 → g' j = g j) : IMs g' F im := by
  intro i hi
  obtain ⟨h1, h2⟩ := h i hi
  refine ⟨by rw [hf _ (by omega) (by omega)]; exact h1, fun hk => ?_⟩
  obtain ⟨q1, q2, q3, q4, q5⟩ := h2 hk
  exact ⟨by rw [hf _ (by omega) (by omega)]; exact q1, q2, q3, q4.fr (hf _ (by omega) (by omega)) (hf _ (by omega) (by omega)) (hf _ (by omega) (by omega)) (hf _ (by omega) (by omega)), q5⟩
theorem CB.fr2 {g g' : Mem} {u : PV} {v : LV} (h : CB g u v) (hf : ∀ j, 10 ≤ j → j ≤ 20 → g' j = g j) : CB g' u v := by
  refine ⟨?_, h.2.1, h.2.2.1.fr (hf _ (by omega) (by omega)) (hf _ (by omega) (by omega)) (hf _ (by omega) (by omega)) (hf _ (by omega) (by omega)), h.2.2.2⟩
  unfold PC_
  rw [hf 10 (by omega) (by omega), hf 11 (by omega) (by omega), hf 12 (by omega) (by omega), hf 13 (by omega) (by omega), hf 14 (by omega) (by omega), hf 15 (by omega) (by omega), hf 16 (by omega) (by omega)]
  exact h.1
theorem TX.fr {g g' : Mem} {tN : Nat} {tX : Nat → Int} (h : g 1 1 = tN ∧ tN ≤ 240 ∧ ∀ k : Nat, k < tN → g 2 k = tX k ∧ 0 ≤ tX k ∧ tX k ≤ 255) (h1 : g' 1 = g 1) (h2 : g' 2 = g 2) : g' 1 1 = tN ∧ tN ≤ 240 ∧ ∀ k : Nat, k < tN → g' 2 k = tX k ∧ 0 ≤ tX k ∧ tX k ≤ 255 := by
  rw [h1, h2]
  exact h
def E_feed (tN : Nat) (x : Int) : Int := if 0 ≤ x ∧ x ≤ 255 then (if tN < 240 then (tN : Int) + 1 else -1000000004) else -1000000002
theorem C_feed {X : CX} {d : Nat} {g : Mem} {K : Int → Mem → Prop} {tN : Nat} {tX : Nat → Int} {flt : Int} {u : PV} {v : LV} {kn : Nat} {kL : Nat → LV} {im : Nat → Bool × Int × LV} {sd : Int} {ln : Nat} {la : Nat → Nat} {lr : Nat → Bool} {bn : Nat} {bp : Nat → Nat} {bf : Nat → Int} (hS : CS g tN tX flt u v kn kL im sd ln la lr bn bp bf) (x : Int) (hx : R32 x) (h : ∀ g' : Mem, CS g' (if (0 ≤ x ∧ x ≤ 255) ∧ tN < 240 then tN + 1 else tN) (if (0 ≤ x ∧ x ≤ 255) ∧ tN < 240 then (fun i => if i = tN then x else tX i) else tX) flt u v kn kL im sd ln la lr bn bp bf → FrC g g' → K (E_feed tN x) g') : EI X (d) mX10_feed [vr 0, vi x] Z0 g K := by
  show AJ X (d) mX10_feed 0 0 (QI Z0 K) 0 0 0 [some (vr 0), some (vi x)] [] Z0 g
  obtain ⟨⟨t1, t2, t3⟩, ⟨f1, f2⟩, hB, ⟨top, hP⟩, hI, ⟨sd1, sd2, sd3⟩, hK, hN⟩ := id hS
  obtain ⟨hQ, hU, hC, hW⟩ := id hB
  obtain ⟨hc, ho, hf, hw_, ht, hi, hy⟩ := id hC
  obtain ⟨w0, w1, w2, w3, w4, w5, w6, w7⟩ := id hW
  obtain ⟨p6, p7, p8, p9, p10, pk, pg, px, py⟩ := id hQ
  obtain ⟨u0, u1, u2, u3, u4, u5, u6, u7⟩ := id hU
  have hb20 := hN.2.1
  have hl6 := hK.2.1
  refine r_iload_n (pc' := 1) dX10_feed_0 rfl rfl ?_
  refine r_if_lt (tgt := 11) (pc' := 4) dX10_feed_1 rfl rfl (by omega) (fun c1 => ?_) (fun c1 => ?_)
  · refine r_ldc (z := -1000000002) (pc' := 13) dX10_feed_11 rfl kX10_86 ?_
    refine r_reti dX10_feed_13 rfl (Or.inl rfl) ?_
    have hno : ¬ ((0 ≤ x ∧ x ≤ 255) ∧ tN < 240) := by omega
    have h9 := h g (by simp only [if_neg hno]; exact hS) (FrC.rf g)
    unfold E_feed at h9
    rw [if_neg (by omega)] at h9
    exact h9
  · refine r_iload_n (pc' := 5) dX10_feed_4 rfl rfl ?_
    refine r_sipush (pc' := 8) dX10_feed_5 rfl (by decide) ?_
    refine r_icmp_le (tgt := 14) (pc' := 11) dX10_feed_8 rfl rfl (by omega) (by omega) (fun c8 => ?_) (fun c8 => ?_)
    · refine r_aload_n (pc' := 15) dX10_feed_14 rfl rfl ?_
      refine r_getr (pc' := 18) dX10_feed_15 rfl fX10_10 z0 rfl ?_
      refine r_getf (pc' := 21) (kI := 1) dX10_feed_18 rfl fX10_87 z1 rfl rfl t1 ?_
      refine r_sipush (pc' := 24) dX10_feed_21 rfl (by decide) ?_
      refine r_icmp_lt (tgt := 30) (pc' := 27) dX10_feed_24 rfl rfl (by omega) (by omega) (fun c24 => ?_) (fun c24 => ?_)
      · refine r_aload_n (pc' := 31) dX10_feed_30 rfl rfl ?_
        refine r_getr (pc' := 34) dX10_feed_31 rfl fX10_10 z0 rfl ?_
        refine r_getr (pc' := 37) dX10_feed_34 rfl fX10_91 z1 rfl ?_
        refine r_aload_n (pc' := 38) dX10_feed_37 rfl rfl ?_
        refine r_getr (pc' := 41) dX10_feed_38 rfl fX10_10 z0 rfl ?_
        refine r_getf (pc' := 44) (kI := 1) dX10_feed_41 rfl fX10_87 z1 rfl rfl t1 ?_
        refine r_iload_n (pc' := 45) dX10_feed_44 rfl rfl ?_
        refine r_iastore (pc' := 46) dX10_feed_45 rfl z2 (by decide) (by omega) (by omega) rfl ?_
        refine r_aload_n (pc' := 47) dX10_feed_46 rfl rfl ?_
        refine r_getr (pc' := 50) dX10_feed_47 rfl fX10_10 z0 rfl ?_
        refine r_dup (pc' := 51) dX10_feed_50 rfl rfl ?_
        refine r_getf (pc' := 54) (kI := 1) (x := (tN : Int)) dX10_feed_51 rfl fX10_87 z1 rfl rfl (by rw [mu_ne (by decide)]; exact t1) ?_
        refine r_iconst (pc' := 55) dX10_feed_54 rfl ?_
        refine r_iadd (pc' := 56) dX10_feed_55 rfl ?_
        refine r_putf (pc' := 59) (kI := 1) dX10_feed_56 rfl fX10_87 z1 rfl (Or.inl rfl) rfl rfl ?_
        refine r_aload_n (pc' := 60) dX10_feed_59 rfl rfl ?_
        refine r_getr (pc' := 63) dX10_feed_60 rfl fX10_10 z0 rfl ?_
        refine r_getf (pc' := 66) (kI := 1) (x := (tN : Int) + 1) dX10_feed_63 rfl fX10_87 z1 rfl rfl mu_at ?_
        refine r_reti dX10_feed_66 rfl (Or.inl rfl) ?_
        have hok : (0 ≤ x ∧ x ≤ 255) ∧ tN < 240 := by omega
        have hfr : ∀ j, j ≠ 1 → j ≠ 2 → mu (mu g 2 (tN : Int) x) 1 1 ((tN : Int) + 1) j = g j := fun j a b => by rw [mu_ne a, mu_ne b]
        have h9 := h _ (by simp only [if_pos hok]; exact ⟨⟨by rw [mu_at]; omega, by omega, fun k hk => by rw [mu_ne (by decide)]; by_cases hk2 : k = tN; (· subst hk2; dsimp only; rw [mu_at, if_pos rfl]; exact ⟨rfl, by omega, by omega⟩); (· dsimp only; rw [mu_at' (by omega), if_neg hk2]; exact t3 k (by omega))⟩, ⟨by rw [mu_at' (by decide), mu_ne (by decide)]; exact f1, f2⟩, hB.fr2 (fun j a1 a2 => hfr j (by omega) (by omega)), ⟨top, hP.fr (fun j hj => by unfold pastB at hj; exact hfr j (by omega) (by omega))⟩, IMs.fr hI (fun j a1 a2 => hfr j (by omega) (by omega)), ⟨by rw [hfr 0 (by omega) (by omega)]; exact sd1, sd2, sd3⟩, hK.fr (hfr 160 (by omega) (by omega)) (hfr 161 (by omega) (by omega)) (hfr 162 (by omega) (by omega)), hN.fr (hfr 163 (by omega) (by omega)) (hfr 164 (by omega) (by omega)) (hfr 165 (by omega) (by omega))⟩) (fun j hj => hfr j (by omega) (by omega))
        unfold E_feed at h9
        rw [if_pos (by omega), if_pos (by omega)] at h9
        exact h9
      · refine r_ldc (z := -1000000004) (pc' := 29) dX10_feed_27 rfl kX10_90 ?_
        refine r_reti dX10_feed_29 rfl (Or.inl rfl) ?_
        have hno : ¬ ((0 ≤ x ∧ x ≤ 255) ∧ tN < 240) := by omega
        have h9 := h g (by simp only [if_neg hno]; exact hS) (FrC.rf g)
        unfold E_feed at h9
        rw [if_pos (by omega), if_neg (by omega)] at h9
        exact h9
    · refine r_ldc (z := -1000000002) (pc' := 13) dX10_feed_11 rfl kX10_86 ?_
      refine r_reti dX10_feed_13 rfl (Or.inl rfl) ?_
      have hno : ¬ ((0 ≤ x ∧ x ≤ 255) ∧ tN < 240) := by omega
      have h9 := h g (by simp only [if_neg hno]; exact hS) (FrC.rf g)
      unfold E_feed at h9
      rw [if_neg (by omega)] at h9
      exact h9
theorem C_tear {X : CX} {d : Nat} {g : Mem} {K : Int → Mem → Prop} {tN : Nat} {tX : Nat → Int} {flt : Int} {u : PV} {v : LV} {kn : Nat} {kL : Nat → LV} {im : Nat → Bool × Int × LV} {sd : Int} {ln : Nat} {la : Nat → Nat} {lr : Nat → Bool} {bn : Nat} {bp : Nat → Nat} {bf : Nat → Int} (hS : CS g tN tX flt u v kn kL im sd ln la lr bn bp bf) (h : ∀ g' : Mem, CS g' tN tX flt u v kn kL im sd 0 la lr 0 bp bf → FrC g g' → K ((ln : Int) + bn) g') : EI X (d) mX10_tear [vr 0] Z0 g K := by
  show AJ X (d) mX10_tear 0 0 (QI Z0 K) 0 0 0 [some (vr 0), none] [] Z0 g
  obtain ⟨⟨t1, t2, t3⟩, ⟨f1, f2⟩, hB, ⟨top, hP⟩, hI, ⟨sd1, sd2, sd3⟩, hK, hN⟩ := id hS
  obtain ⟨hQ, hU, hC, hW⟩ := id hB
  obtain ⟨hc, ho, hf, hw_, ht, hi, hy⟩ := id hC
  obtain ⟨w0, w1, w2, w3, w4, w5, w6, w7⟩ := id hW
  obtain ⟨p6, p7, p8, p9, p10, pk, pg, px, py⟩ := id hQ
  obtain ⟨u0, u1, u2, u3, u4, u5, u6, u7⟩ := id hU
  have hb20 := hN.2.1
  have hl6 := hK.2.1
  refine r_aload_n (pc' := 1) dX10_tear_0 rfl rfl ?_
  refine r_getr (pc' := 4) dX10_tear_1 rfl fX10_71 z0 rfl ?_
  refine r_getf (pc' := 7) (kI := 2) dX10_tear_4 rfl fX10_111 z160 rfl rfl hK.1 ?_
  refine r_aload_n (pc' := 8) dX10_tear_7 rfl rfl ?_
  refine r_getr (pc' := 11) dX10_tear_8 rfl fX10_78 z0 rfl ?_
  refine r_getf (pc' := 14) (kI := 2) dX10_tear_11 rfl fX10_114 z163 rfl rfl hN.1 ?_
  refine r_iadd (pc' := 15) dX10_tear_14 rfl ?_
  refine r_istore_n (pc' := 16) dX10_tear_15 rfl rfl ?_
  refine r_aload_n (pc' := 17) dX10_tear_16 rfl rfl ?_
  refine r_getr (pc' := 20) dX10_tear_17 rfl fX10_71 z0 rfl ?_
  refine r_iconst (pc' := 21) dX10_tear_20 rfl ?_
  refine r_putf (pc' := 24) (kI := 2) dX10_tear_21 rfl fX10_111 z160 rfl (Or.inl rfl) rfl rfl ?_
  refine r_aload_n (pc' := 25) dX10_tear_24 rfl rfl ?_
  refine r_getr (pc' := 28) dX10_tear_25 rfl fX10_78 z0 rfl ?_
  refine r_iconst (pc' := 29) dX10_tear_28 rfl ?_
  refine r_putf (pc' := 32) (kI := 2) dX10_tear_29 rfl fX10_114 z163 rfl (Or.inl rfl) rfl rfl ?_
  refine r_iload_n (pc' := 33) dX10_tear_32 rfl rfl ?_
  refine r_reti dX10_tear_33 rfl (Or.inl rfl) ?_
  have hfr : ∀ j, j ≠ 160 → j ≠ 163 → mu (mu g 160 2 0) 163 2 0 j = g j := fun j a b => by rw [mu_ne b, mu_ne a]
  refine h _ ⟨TX.fr ⟨t1, t2, t3⟩ (hfr 1 (by omega) (by omega)) (hfr 2 (by omega) (by omega)), ⟨by rw [hfr 1 (by omega) (by omega)]; exact f1, f2⟩, hB.fr2 (fun j a1 a2 => hfr j (by omega) (by omega)), ⟨top, hP.fr (fun j hj => by unfold pastB at hj; exact hfr j (by omega) (by omega))⟩, IMs.fr hI (fun j a1 a2 => hfr j (by omega) (by omega)), ⟨by rw [hfr 0 (by omega) (by omega)]; exact sd1, sd2, sd3⟩, ⟨by rw [mu_ne (by decide), mu_at]; rfl, by decide, fun i hi => absurd hi (by omega)⟩, ⟨by rw [mu_at]; rfl, by decide, fun i hi => absurd hi (by omega)⟩⟩ (fun j hj => hfr j (by omega) (by omega))
def E_write (u : PV) (bn : Nat) (p f : Int) : Int := if f = -1 ∨ (0 ≤ f ∧ f < Pf u) then (if 0 ≤ p ∧ p ≤ 6 then (if bn < 20 then (bn : Int) + 1 else -1000000004) else -1000000002) else -1000000001
theorem a_bookAddI {X : CX} {d : Nat} {g : Mem} {K : Mem → Prop} {n : Nat} {p : Nat → Nat} {f : Nat → Int} (hK : BK g n p f) (h6 : n < 20) {x y : Int} (h0 : 0 ≤ x) (hx : x ≤ 6) (hy : R32 y) (h : ∀ g' : Mem, BK g' (n + 1) (fun i => if i = n then x.toNat else p i) (fun i => if i = n then y else f i) → Fr [163, 164, 165] g g' → K g') : EV X (d) mX0_add [vr 163, vi x, vi y] Z0 g K := by
  have e := a_bookAdd (X := X) (d := d) (K := K) hK h6 (x := x.toNat) (y := y) (by omega) hy h
  rw [show ((x.toNat : Nat) : Int) = x by omega] at e
  exact e
theorem a_lookAddI {X : CX} {d : Nat} {g : Mem} {K : Mem → Prop} {n : Nat} {a : Nat → Nat} {r : Nat → Bool} (hK : LK g n a r) (h6 : n < 6) {x : Int} {y : Bool} (h0 : 0 ≤ x) (hx : x ≤ 19) (h : ∀ g' : Mem, LK g' (n + 1) (fun i => if i = n then x.toNat else a i) (fun i => if i = n then y else r i) → Fr [160, 161, 162] g g' → K g') : EV X (d) mX3_add [vr 160, vi x, vi (b01 y)] Z0 g K := by
  have e := a_lookAdd (X := X) (d := d) (K := K) hK h6 (x := x.toNat) (y := y) (by omega) h
  rw [show ((x.toNat : Nat) : Int) = x by omega] at e
  exact e
theorem C_write {X : CX} {d : Nat} {g : Mem} {K : Int → Mem → Prop} {tN : Nat} {tX : Nat → Int} {flt : Int} {u : PV} {v : LV} {kn : Nat} {kL : Nat → LV} {im : Nat → Bool × Int × LV} {sd : Int} {ln : Nat} {la : Nat → Nat} {lr : Nat → Bool} {bn : Nat} {bp : Nat → Nat} {bf : Nat → Int} (hS : CS g tN tX flt u v kn kL im sd ln la lr bn bp bf) (p f : Int) (hp : R32 p) (hf0 : R32 f) (h : ∀ g' : Mem, CS g' tN tX flt u v kn kL im sd ln la lr (if ((f = -1 ∨ (0 ≤ f ∧ f < Pf u)) ∧ (0 ≤ p ∧ p ≤ 6)) ∧ bn < 20 then bn + 1 else bn) (if ((f = -1 ∨ (0 ≤ f ∧ f < Pf u)) ∧ (0 ≤ p ∧ p ≤ 6)) ∧ bn < 20 then (fun i => if i = bn then p.toNat else bp i) else bp) (if ((f = -1 ∨ (0 ≤ f ∧ f < Pf u)) ∧ (0 ≤ p ∧ p ≤ 6)) ∧ bn < 20 then (fun i => if i = bn then f else bf i) else bf) → FrC g g' → K (E_write u bn p f) g') : EI X (d + 1) mX10_write [vr 0, vi p, vi f] Z0 g K := by
  show AJ X (d + 1) mX10_write 0 0 (QI Z0 K) 0 0 0 [some (vr 0), some (vi p), some (vi f)] [] Z0 g
  obtain ⟨⟨t1, t2, t3⟩, ⟨f1, f2⟩, hB, ⟨top, hP⟩, hI, ⟨sd1, sd2, sd3⟩, hK, hN⟩ := id hS
  obtain ⟨hQ, hU, hC, hW⟩ := id hB
  obtain ⟨hc, ho, hf, hw_, ht, hi, hy⟩ := id hC
  obtain ⟨w0, w1, w2, w3, w4, w5, w6, w7⟩ := id hW
  obtain ⟨p6, p7, p8, p9, p10, pk, pg, px, py⟩ := id hQ
  obtain ⟨u0, u1, u2, u3, u4, u5, u6, u7⟩ := id hU
  have hb20 := hN.2.1
  have hl6 := hK.2.1
  refine r_iload_n (pc' := 1) dX10_write_0 rfl rfl ?_
  refine r_iconst (pc' := 2) dX10_write_1 rfl ?_
  refine r_icmp_eq (tgt := 19) (pc' := 5) dX10_write_2 rfl rfl (by omega) (by omega) (fun c2 => ?_) (fun c2 => ?_)
  · have hd : f = -1 ∨ (0 ≤ f ∧ f < Pf u) := Or.inl c2
    refine r_iload_n (pc' := 20) dX10_write_19 rfl rfl ?_
    refine r_if_lt (tgt := 29) (pc' := 23) dX10_write_20 rfl rfl (by omega) (fun c20 => ?_) (fun c20 => ?_)
    · refine r_ldc (z := -1000000002) (pc' := 31) dX10_write_29 rfl kX10_86 ?_
      refine r_reti dX10_write_31 rfl (Or.inl rfl) ?_
      have hno : ¬ (((f = -1 ∨ (0 ≤ f ∧ f < Pf u)) ∧ (0 ≤ p ∧ p ≤ 6)) ∧ bn < 20) := by omega
      have h9 := h g (by simp only [if_neg hno]; exact hS) (FrC.rf g)
      unfold E_write at h9
      rw [if_pos hd, if_neg (by omega)] at h9
      exact h9
    · refine r_iload_n (pc' := 24) dX10_write_23 rfl rfl ?_
      refine r_bipush (pc' := 26) dX10_write_24 rfl (by decide) ?_
      refine r_icmp_le (tgt := 32) (pc' := 29) dX10_write_26 rfl rfl (by omega) (by omega) (fun c26 => ?_) (fun c26 => ?_)
      · refine r_aload_n (pc' := 33) dX10_write_32 rfl rfl ?_
        refine r_getr (pc' := 36) dX10_write_33 rfl fX10_78 z0 rfl ?_
        refine r_getf (pc' := 39) (kI := 2) dX10_write_36 rfl fX10_114 z163 rfl rfl hN.1 ?_
        refine r_bipush (pc' := 41) dX10_write_39 rfl (by decide) ?_
        refine r_icmp_lt (tgt := 47) (pc' := 44) dX10_write_41 rfl rfl (by omega) (by omega) (fun c41 => ?_) (fun c41 => ?_)
        · refine r_aload_n (pc' := 48) dX10_write_47 rfl rfl ?_
          refine r_getr (pc' := 51) dX10_write_48 rfl fX10_78 z0 rfl ?_
          refine r_iload_n (pc' := 52) dX10_write_51 rfl rfl ?_
          refine r_iload_n (pc' := 53) dX10_write_52 rfl rfl ?_
          refine r_vv2 (pc' := 56) dX10_write_53 rfl qX0_add lX10_300 z163 rfl rfl rfl rfl (Nat.zero_le _) (Nat.zero_le _) (a_bookAddI hN (by omega) (by omega) (by omega) hf0 (fun g1 hN1 fr1 => ?_))
          refine r_aload_n (pc' := 57) dX10_write_56 rfl rfl ?_
          refine r_getr (pc' := 60) dX10_write_57 rfl fX10_78 z0 rfl ?_
          refine r_getf (pc' := 63) (kI := 2) dX10_write_60 rfl fX10_114 z163 rfl rfl hN1.1 ?_
          refine r_reti dX10_write_63 rfl (Or.inl rfl) ?_
          have hok : ((f = -1 ∨ (0 ≤ f ∧ f < Pf u)) ∧ (0 ≤ p ∧ p ≤ 6)) ∧ bn < 20 := ⟨⟨hd, by omega⟩, by omega⟩
          have h9 := h g1 (by simp only [if_pos hok]; exact ⟨TX.fr ⟨t1, t2, t3⟩ (fr1 1 (by simp only [List.mem_cons, List.not_mem_nil, or_false, not_or]; omega)) (fr1 2 (by simp only [List.mem_cons, List.not_mem_nil, or_false, not_or]; omega)), ⟨by rw [fr1 1 (by simp only [List.mem_cons, List.not_mem_nil, or_false, not_or]; omega)]; exact f1, f2⟩, hB.fr2 (fun j a1 a2 => fr1 j (by simp only [List.mem_cons, List.not_mem_nil, or_false, not_or]; omega)), ⟨top, hP.fr (fun j hj => by unfold pastB at hj; exact fr1 j (by simp only [List.mem_cons, List.not_mem_nil, or_false, not_or]; omega))⟩, IMs.fr hI (fun j a1 a2 => fr1 j (by simp only [List.mem_cons, List.not_mem_nil, or_false, not_or]; omega)), ⟨by rw [fr1 0 (by simp only [List.mem_cons, List.not_mem_nil, or_false, not_or]; omega)]; exact sd1, sd2, sd3⟩, hK.fr (fr1 160 (by simp only [List.mem_cons, List.not_mem_nil, or_false, not_or]; omega)) (fr1 161 (by simp only [List.mem_cons, List.not_mem_nil, or_false, not_or]; omega)) (fr1 162 (by simp only [List.mem_cons, List.not_mem_nil, or_false, not_or]; omega)), hN1⟩) (fun j hj => fr1 j (by simp only [List.mem_cons, List.not_mem_nil, or_false, not_or]; omega))
          unfold E_write at h9
          rw [if_pos hd, if_pos (by omega), if_pos (by omega)] at h9
          exact h9
        · refine r_ldc (z := -1000000004) (pc' := 46) dX10_write_44 rfl kX10_90 ?_
          refine r_reti dX10_write_46 rfl (Or.inl rfl) ?_
          have hno : ¬ (((f = -1 ∨ (0 ≤ f ∧ f < Pf u)) ∧ (0 ≤ p ∧ p ≤ 6)) ∧ bn < 20) := by omega
          have h9 := h g (by simp only [if_neg hno]; exact hS) (FrC.rf g)
          unfold E_write at h9
          rw [if_pos hd, if_pos (by omega), if_neg (by omega)] at h9
          exact h9
      · refine r_ldc (z := -1000000002) (pc' := 31) dX10_write_29 rfl kX10_86 ?_
        refine r_reti dX10_write_31 rfl (Or.inl rfl) ?_
        have hno : ¬ (((f = -1 ∨ (0 ≤ f ∧ f < Pf u)) ∧ (0 ≤ p ∧ p ≤ 6)) ∧ bn < 20) := by omega
        have h9 := h g (by simp only [if_neg hno]; exact hS) (FrC.rf g)
        unfold E_write at h9
        rw [if_pos hd, if_neg (by omega)] at h9
        exact h9
  · refine r_aload_n (pc' := 6) dX10_write_5 rfl rfl ?_
    refine r_getr (pc' := 9) dX10_write_6 rfl fX10_23 z0 rfl ?_
    refine r_iload_n (pc' := 10) dX10_write_9 rfl rfl ?_
    refine r_vi1 (pc' := 13) dX10_write_10 rfl qX5_hasFlag lX10_173 isP10.1 rfl rfl rfl rfl (Nat.zero_le _) (Nat.zero_le _) (a_hasFlag isP10 hQ hU f hf0 ?_)
    refine r_if_ne (tgt := 19) (pc' := 16) dX10_write_13 rfl rfl (b01_R _) (fun c13 => ?_) (fun c13 => ?_)
    · have hd : f = -1 ∨ (0 ≤ f ∧ f < Pf u) := Or.inr (of_decide_eq_true (b01_ne c13))
      refine r_iload_n (pc' := 20) dX10_write_19 rfl rfl ?_
      refine r_if_lt (tgt := 29) (pc' := 23) dX10_write_20 rfl rfl (by omega) (fun c20 => ?_) (fun c20 => ?_)
      · refine r_ldc (z := -1000000002) (pc' := 31) dX10_write_29 rfl kX10_86 ?_
        refine r_reti dX10_write_31 rfl (Or.inl rfl) ?_
        have hno : ¬ (((f = -1 ∨ (0 ≤ f ∧ f < Pf u)) ∧ (0 ≤ p ∧ p ≤ 6)) ∧ bn < 20) := by omega
        have h9 := h g (by simp only [if_neg hno]; exact hS) (FrC.rf g)
        unfold E_write at h9
        rw [if_pos hd, if_neg (by omega)] at h9
        exact h9
      · refine r_iload_n (pc' := 24) dX10_write_23 rfl rfl ?_
        refine r_bipush (pc' := 26) dX10_write_24 rfl (by decide) ?_
        refine r_icmp_le (tgt := 32) (pc' := 29) dX10_write_26 rfl rfl (by omega) (by omega) (fun c26 => ?_) (fun c26 => ?_)
        · refine r_aload_n (pc' := 33) dX10_write_32 rfl rfl ?_
          refine r_getr (pc' := 36) dX10_write_33 rfl fX10_78 z0 rfl ?_
          refine r_getf (pc' := 39) (kI := 2) dX10_write_36 rfl fX10_114 z163 rfl rfl hN.1 ?_
          refine r_bipush (pc' := 41) dX10_write_39 rfl (by decide) ?_
          refine r_icmp_lt (tgt := 47) (pc' := 44) dX10_write_41 rfl rfl (by omega) (by omega) (fun c41 => ?_) (fun c41 => ?_)
          · refine r_aload_n (pc' := 48) dX10_write_47 rfl rfl ?_
            refine r_getr (pc' := 51) dX10_write_48 rfl fX10_78 z0 rfl ?_
            refine r_iload_n (pc' := 52) dX10_write_51 rfl rfl ?_
            refine r_iload_n (pc' := 53) dX10_write_52 rfl rfl ?_
            refine r_vv2 (pc' := 56) dX10_write_53 rfl qX0_add lX10_300 z163 rfl rfl rfl rfl (Nat.zero_le _) (Nat.zero_le _) (a_bookAddI hN (by omega) (by omega) (by omega) hf0 (fun g1 hN1 fr1 => ?_))
            refine r_aload_n (pc' := 57) dX10_write_56 rfl rfl ?_
            refine r_getr (pc' := 60) dX10_write_57 rfl fX10_78 z0 rfl ?_
            refine r_getf (pc' := 63) (kI := 2) dX10_write_60 rfl fX10_114 z163 rfl rfl hN1.1 ?_
            refine r_reti dX10_write_63 rfl (Or.inl rfl) ?_
            have hok : ((f = -1 ∨ (0 ≤ f ∧ f < Pf u)) ∧ (0 ≤ p ∧ p ≤ 6)) ∧ bn < 20 := ⟨⟨hd, by omega⟩, by omega⟩
            have h9 := h g1 (by simp only [if_pos hok]; exact ⟨TX.fr ⟨t1, t2, t3⟩ (fr1 1 (by simp only [List.mem_cons, List.not_mem_nil, or_false, not_or]; omega)) (fr1 2 (by simp only [List.mem_cons, List.not_mem_nil, or_false, not_or]; omega)), ⟨by rw [fr1 1 (by simp only [List.mem_cons, List.not_mem_nil, or_false, not_or]; omega)]; exact f1, f2⟩, hB.fr2 (fun j a1 a2 => fr1 j (by simp only [List.mem_cons, List.not_mem_nil, or_false, not_or]; omega)), ⟨top, hP.fr (fun j hj => by unfold pastB at hj; exact fr1 j (by simp only [List.mem_cons, List.not_mem_nil, or_false, not_or]; omega))⟩, IMs.fr hI (fun j a1 a2 => fr1 j (by simp only [List.mem_cons, List.not_mem_nil, or_false, not_or]; omega)), ⟨by rw [fr1 0 (by simp only [List.mem_cons, List.not_mem_nil, or_false, not_or]; omega)]; exact sd1, sd2, sd3⟩, hK.fr (fr1 160 (by simp only [List.mem_cons, List.not_mem_nil, or_false, not_or]; omega)) (fr1 161 (by simp only [List.mem_cons, List.not_mem_nil, or_false, not_or]; omega)) (fr1 162 (by simp only [List.mem_cons, List.not_mem_nil, or_false, not_or]; omega)), hN1⟩) (fun j hj => fr1 j (by simp only [List.mem_cons, List.not_mem_nil, or_false, not_or]; omega))
            unfold E_write at h9
            rw [if_pos hd, if_pos (by omega), if_pos (by omega)] at h9
            exact h9
          · refine r_ldc (z := -1000000004) (pc' := 46) dX10_write_44 rfl kX10_90 ?_
            refine r_reti dX10_write_46 rfl (Or.inl rfl) ?_
            have hno : ¬ (((f = -1 ∨ (0 ≤ f ∧ f < Pf u)) ∧ (0 ≤ p ∧ p ≤ 6)) ∧ bn < 20) := by omega
            have h9 := h g (by simp only [if_neg hno]; exact hS) (FrC.rf g)
            unfold E_write at h9
            rw [if_pos hd, if_pos (by omega), if_neg (by omega)] at h9
            exact h9
        · refine r_ldc (z := -1000000002) (pc' := 31) dX10_write_29 rfl kX10_86 ?_
          refine r_reti dX10_write_31 rfl (Or.inl rfl) ?_
          have hno : ¬ (((f = -1 ∨ (0 ≤ f ∧ f < Pf u)) ∧ (0 ≤ p ∧ p ≤ 6)) ∧ bn < 20) := by omega
          have h9 := h g (by simp only [if_neg hno]; exact hS) (FrC.rf g)
          unfold E_write at h9
          rw [if_pos hd, if_neg (by omega)] at h9
          exact h9
    · refine r_ldc (z := -1000000001) (pc' := 18) dX10_write_16 rfl kX10_177 ?_
      refine r_reti dX10_write_18 rfl (Or.inl rfl) ?_
      have hd := of_decide_eq_false (b01_eq c13)
      have hno : ¬ (((f = -1 ∨ (0 ≤ f ∧ f < Pf u)) ∧ (0 ≤ p ∧ p ≤ 6)) ∧ bn < 20) := by omega
      have h9 := h g (by simp only [if_neg hno]; exact hS) (FrC.rf g)
      unfold E_write at h9
      rw [if_neg (by omega)] at h9
      exact h9
def E_old (ln : Nat) (k n : Int) : Int := if (k = 0 ∧ 0 ≤ n ∧ n ≤ 5) ∨ (k = 1 ∧ 1 ≤ n ∧ n ≤ 9) then (if ln < 6 then (ln : Int) + 1 else -1000000004) else -1000000002
def oldN (k n : Int) : Nat := if k = 1 then 10 + n.toNat else n.toNat
theorem C_old {X : CX} {d : Nat} {g : Mem} {K : Int → Mem → Prop} {tN : Nat} {tX : Nat → Int} {flt : Int} {u : PV} {v : LV} {kn : Nat} {kL : Nat → LV} {im : Nat → Bool × Int × LV} {sd : Int} {ln : Nat} {la : Nat → Nat} {lr : Nat → Bool} {bn : Nat} {bp : Nat → Nat} {bf : Nat → Int} (hS : CS g tN tX flt u v kn kL im sd ln la lr bn bp bf) (k n : Int) (y : Bool) (hk : R32 k) (hn : R32 n) (h : ∀ g' : Mem, CS g' tN tX flt u v kn kL im sd (if ((k = 0 ∧ 0 ≤ n ∧ n ≤ 5) ∨ (k = 1 ∧ 1 ≤ n ∧ n ≤ 9)) ∧ ln < 6 then ln + 1 else ln) (if ((k = 0 ∧ 0 ≤ n ∧ n ≤ 5) ∨ (k = 1 ∧ 1 ≤ n ∧ n ≤ 9)) ∧ ln < 6 then (fun i => if i = ln then oldN k n else la i) else la) (if ((k = 0 ∧ 0 ≤ n ∧ n ≤ 5) ∨ (k = 1 ∧ 1 ≤ n ∧ n ≤ 9)) ∧ ln < 6 then (fun i => if i = ln then y else lr i) else lr) bn bp bf → FrC g g' → K (E_old ln k n) g') : EI X (d + 1) mX10_old [vr 0, vi k, vi n, vi (b01 y)] Z0 g K := by
  show AJ X (d + 1) mX10_old 0 0 (QI Z0 K) 0 0 0 [some (vr 0), some (vi k), some (vi n), some (vi (b01 y)), none, none] [] Z0 g
  obtain ⟨⟨t1, t2, t3⟩, ⟨f1, f2⟩, hB, ⟨top, hP⟩, hI, ⟨sd1, sd2, sd3⟩, hK, hN⟩ := id hS
  obtain ⟨hQ, hU, hC, hW⟩ := id hB
  obtain ⟨hc, ho, hf, hw_, ht, hi, hy⟩ := id hC
  obtain ⟨w0, w1, w2, w3, w4, w5, w6, w7⟩ := id hW
  obtain ⟨p6, p7, p8, p9, p10, pk, pg, px, py⟩ := id hQ
  obtain ⟨u0, u1, u2, u3, u4, u5, u6, u7⟩ := id hU
  have hb20 := hN.2.1
  have hl6 := hK.2.1
  refine r_iload_n (pc' := 1) dX10_old_0 rfl rfl ?_
  refine r_if_ne (tgt := 17) (pc' := 4) dX10_old_1 rfl rfl (by omega) (fun c1 => ?_) (fun c1 => ?_)
  · refine r_iconst (pc' := 18) dX10_old_17 rfl ?_
    refine r_istore (pc' := 20) dX10_old_18 rfl rfl ?_
    refine r_iload_n (pc' := 21) dX10_old_20 rfl rfl ?_
    refine r_iconst (pc' := 22) dX10_old_21 rfl ?_
    refine r_icmp_ne (tgt := 40) (pc' := 25) dX10_old_22 rfl rfl (by omega) (by omega) (fun c22 => ?_) (fun c22 => ?_)
    · refine r_iconst (pc' := 41) dX10_old_40 rfl ?_
      refine r_istore (pc' := 43) dX10_old_41 rfl rfl ?_
      refine r_iload (pc' := 45) dX10_old_43 rfl rfl ?_
      refine r_if_ne (tgt := 56) (pc' := 48) dX10_old_45 rfl rfl (by decide) (fun c45 => ?_) (fun c45 => ?_)
      · refine r_aload_n (pc' := 57) dX10_old_56 rfl rfl ?_
        refine r_getr (pc' := 60) dX10_old_57 rfl fX10_71 z0 rfl ?_
        refine r_getf (pc' := 63) (kI := 2) dX10_old_60 rfl fX10_111 z160 rfl rfl hK.1 ?_
        refine r_bipush (pc' := 65) dX10_old_63 rfl (by decide) ?_
        refine r_icmp_lt (tgt := 71) (pc' := 68) dX10_old_65 rfl rfl (by omega) (by omega) (fun c65 => ?_) (fun c65 => ?_)
        · refine r_aload_n (pc' := 72) dX10_old_71 rfl rfl ?_
          refine r_getr (pc' := 75) dX10_old_72 rfl fX10_71 z0 rfl ?_
          refine r_iload (pc' := 77) dX10_old_75 rfl rfl ?_
          refine r_if_eq (tgt := 87) (pc' := 80) dX10_old_77 rfl rfl (by omega) (fun c77 => ?_) (fun c77 => ?_)
          · refine r_iload_n (pc' := 88) dX10_old_87 rfl rfl ?_
            refine r_iload_n (pc' := 89) dX10_old_88 rfl rfl ?_
            refine r_vv2 (pc' := 92) dX10_old_89 rfl qX3_add lX10_289 z160 rfl rfl rfl rfl (Nat.zero_le _) (Nat.zero_le _) (a_lookAddI hK (by omega) (by omega) (by omega) (fun g1 hK1 fr1 => ?_))
            refine r_aload_n (pc' := 93) dX10_old_92 rfl rfl ?_
            refine r_getr (pc' := 96) dX10_old_93 rfl fX10_71 z0 rfl ?_
            refine r_getf (pc' := 99) (kI := 2) dX10_old_96 rfl fX10_111 z160 rfl rfl hK1.1 ?_
            refine r_reti dX10_old_99 rfl (Or.inl rfl) ?_
            first
              | exact absurd rfl c45
              | exact absurd c45 (by decide)
              | exact absurd rfl c50
              | exact absurd c50 (by decide)
              | exact absurd rfl c77
              | exact absurd c77 (by decide)
              | (have hok : ((k = 0 ∧ 0 ≤ n ∧ n ≤ 5) ∨ (k = 1 ∧ 1 ≤ n ∧ n ≤ 9)) ∧ ln < 6 := by omega
                 have h9 := h g1 (by simp only [if_pos hok]; exact ⟨TX.fr ⟨t1, t2, t3⟩ (fr1 1 (by simp only [List.mem_cons, List.not_mem_nil, or_false, not_or]; omega)) (fr1 2 (by simp only [List.mem_cons, List.not_mem_nil, or_false, not_or]; omega)), ⟨by rw [fr1 1 (by simp only [List.mem_cons, List.not_mem_nil, or_false, not_or]; omega)]; exact f1, f2⟩, hB.fr2 (fun j a1 a2 => fr1 j (by simp only [List.mem_cons, List.not_mem_nil, or_false, not_or]; omega)), ⟨top, hP.fr (fun j hj => by unfold pastB at hj; exact fr1 j (by simp only [List.mem_cons, List.not_mem_nil, or_false, not_or]; omega))⟩, IMs.fr hI (fun j a1 a2 => fr1 j (by simp only [List.mem_cons, List.not_mem_nil, or_false, not_or]; omega)), ⟨by rw [fr1 0 (by simp only [List.mem_cons, List.not_mem_nil, or_false, not_or]; omega)]; exact sd1, sd2, sd3⟩, (by first | (rw [show oldN k n = (10 + n).toNat from by unfold oldN; rw [if_pos (by omega)]; omega]; exact hK1) | (rw [show oldN k n = n.toNat from by unfold oldN; rw [if_neg (by omega)]]; exact hK1)), hN.fr (fr1 163 (by simp only [List.mem_cons, List.not_mem_nil, or_false, not_or]; omega)) (fr1 164 (by simp only [List.mem_cons, List.not_mem_nil, or_false, not_or]; omega)) (fr1 165 (by simp only [List.mem_cons, List.not_mem_nil, or_false, not_or]; omega))⟩) (fun j hj => fr1 j (by simp only [List.mem_cons, List.not_mem_nil, or_false, not_or]; omega))
                 unfold E_old at h9
                 rw [if_pos (by omega), if_pos (by omega)] at h9
                 exact h9)
          · refine r_bipush (pc' := 82) dX10_old_80 rfl (by decide) ?_
            refine r_iload_n (pc' := 83) dX10_old_82 rfl rfl ?_
            refine r_iadd (pc' := 84) dX10_old_83 rfl ?_
            refine r_goto (tgt := 88) dX10_old_84 rfl ?_
            refine r_iload_n (pc' := 89) dX10_old_88 rfl rfl ?_
            refine r_vv2 (pc' := 92) dX10_old_89 rfl qX3_add lX10_289 z160 rfl rfl rfl rfl (Nat.zero_le _) (Nat.zero_le _) (a_lookAddI hK (by omega) (by omega) (by omega) (fun g1 hK1 fr1 => ?_))
            refine r_aload_n (pc' := 93) dX10_old_92 rfl rfl ?_
            refine r_getr (pc' := 96) dX10_old_93 rfl fX10_71 z0 rfl ?_
            refine r_getf (pc' := 99) (kI := 2) dX10_old_96 rfl fX10_111 z160 rfl rfl hK1.1 ?_
            refine r_reti dX10_old_99 rfl (Or.inl rfl) ?_
            first
              | exact absurd rfl c45
              | exact absurd c45 (by decide)
              | exact absurd rfl c50
              | exact absurd c50 (by decide)
              | exact absurd rfl c77
              | exact absurd c77 (by decide)
              | (have hok : ((k = 0 ∧ 0 ≤ n ∧ n ≤ 5) ∨ (k = 1 ∧ 1 ≤ n ∧ n ≤ 9)) ∧ ln < 6 := by omega
                 have h9 := h g1 (by simp only [if_pos hok]; exact ⟨TX.fr ⟨t1, t2, t3⟩ (fr1 1 (by simp only [List.mem_cons, List.not_mem_nil, or_false, not_or]; omega)) (fr1 2 (by simp only [List.mem_cons, List.not_mem_nil, or_false, not_or]; omega)), ⟨by rw [fr1 1 (by simp only [List.mem_cons, List.not_mem_nil, or_false, not_or]; omega)]; exact f1, f2⟩, hB.fr2 (fun j a1 a2 => fr1 j (by simp only [List.mem_cons, List.not_mem_nil, or_false, not_or]; omega)), ⟨top, hP.fr (fun j hj => by unfold pastB at hj; exact fr1 j (by simp only [List.mem_cons, List.not_mem_nil, or_false, not_or]; omega))⟩, IMs.fr hI (fun j a1 a2 => fr1 j (by simp only [List.mem_cons, List.not_mem_nil, or_false, not_or]; omega)), ⟨by rw [fr1 0 (by simp only [List.mem_cons, List.not_mem_nil, or_false, not_or]; omega)]; exact sd1, sd2, sd3⟩, (by first | (rw [show oldN k n = (10 + n).toNat from by unfold oldN; rw [if_pos (by omega)]; omega]; exact hK1) | (rw [show oldN k n = n.toNat from by unfold oldN; rw [if_neg (by omega)]]; exact hK1)), hN.fr (fr1 163 (by simp only [List.mem_cons, List.not_mem_nil, or_false, not_or]; omega)) (fr1 164 (by simp only [List.mem_cons, List.not_mem_nil, or_false, not_or]; omega)) (fr1 165 (by simp only [List.mem_cons, List.not_mem_nil, or_false, not_or]; omega))⟩) (fun j hj => fr1 j (by simp only [List.mem_cons, List.not_mem_nil, or_false, not_or]; omega))
                 unfold E_old at h9
                 rw [if_pos (by omega), if_pos (by omega)] at h9
                 exact h9)
        · refine r_ldc (z := -1000000004) (pc' := 70) dX10_old_68 rfl kX10_90 ?_
          refine r_reti dX10_old_70 rfl (Or.inl rfl) ?_
          first
            | exact absurd rfl c45
            | exact absurd c45 (by decide)
            | exact absurd rfl c50
            | exact absurd c50 (by decide)
            | exact absurd rfl c77
            | exact absurd c77 (by decide)
            | (have hno : ¬ (((k = 0 ∧ 0 ≤ n ∧ n ≤ 5) ∨ (k = 1 ∧ 1 ≤ n ∧ n ≤ 9)) ∧ ln < 6) := by omega
               have h9 := h g (by simp only [if_neg hno]; exact hS) (FrC.rf g)
               unfold E_old at h9
               rw [if_pos (by omega), if_neg (by omega)] at h9
               exact h9)
      · refine r_iload (pc' := 50) dX10_old_48 rfl rfl ?_
        refine r_if_ne (tgt := 56) (pc' := 53) dX10_old_50 rfl rfl (by omega) (fun c50 => ?_) (fun c50 => ?_)
        · refine r_aload_n (pc' := 57) dX10_old_56 rfl rfl ?_
          refine r_getr (pc' := 60) dX10_old_57 rfl fX10_71 z0 rfl ?_
          refine r_getf (pc' := 63) (kI := 2) dX10_old_60 rfl fX10_111 z160 rfl rfl hK.1 ?_
          refine r_bipush (pc' := 65) dX10_old_63 rfl (by decide) ?_
          refine r_icmp_lt (tgt := 71) (pc' := 68) dX10_old_65 rfl rfl (by omega) (by omega) (fun c65 => ?_) (fun c65 => ?_)
          · refine r_aload_n (pc' := 72) dX10_old_71 rfl rfl ?_
            refine r_getr (pc' := 75) dX10_old_72 rfl fX10_71 z0 rfl ?_
            refine r_iload (pc' := 77) dX10_old_75 rfl rfl ?_
            refine r_if_eq (tgt := 87) (pc' := 80) dX10_old_77 rfl rfl (by omega) (fun c77 => ?_) (fun c77 => ?_)
            · refine r_iload_n (pc' := 88) dX10_old_87 rfl rfl ?_
              refine r_iload_n (pc' := 89) dX10_old_88 rfl rfl ?_
              refine r_vv2 (pc' := 92) dX10_old_89 rfl qX3_add lX10_289 z160 rfl rfl rfl rfl (Nat.zero_le _) (Nat.zero_le _) (a_lookAddI hK (by omega) (by omega) (by omega) (fun g1 hK1 fr1 => ?_))
              refine r_aload_n (pc' := 93) dX10_old_92 rfl rfl ?_
              refine r_getr (pc' := 96) dX10_old_93 rfl fX10_71 z0 rfl ?_
              refine r_getf (pc' := 99) (kI := 2) dX10_old_96 rfl fX10_111 z160 rfl rfl hK1.1 ?_
              refine r_reti dX10_old_99 rfl (Or.inl rfl) ?_
              first
                | exact absurd rfl c45
                | exact absurd c45 (by decide)
                | exact absurd rfl c50
                | exact absurd c50 (by decide)
                | exact absurd rfl c77
                | exact absurd c77 (by decide)
                | (have hok : ((k = 0 ∧ 0 ≤ n ∧ n ≤ 5) ∨ (k = 1 ∧ 1 ≤ n ∧ n ≤ 9)) ∧ ln < 6 := by omega
                   have h9 := h g1 (by simp only [if_pos hok]; exact ⟨TX.fr ⟨t1, t2, t3⟩ (fr1 1 (by simp only [List.mem_cons, List.not_mem_nil, or_false, not_or]; omega)) (fr1 2 (by simp only [List.mem_cons, List.not_mem_nil, or_false, not_or]; omega)), ⟨by rw [fr1 1 (by simp only [List.mem_cons, List.not_mem_nil, or_false, not_or]; omega)]; exact f1, f2⟩, hB.fr2 (fun j a1 a2 => fr1 j (by simp only [List.mem_cons, List.not_mem_nil, or_false, not_or]; omega)), ⟨top, hP.fr (fun j hj => by unfold pastB at hj; exact fr1 j (by simp only [List.mem_cons, List.not_mem_nil, or_false, not_or]; omega))⟩, IMs.fr hI (fun j a1 a2 => fr1 j (by simp only [List.mem_cons, List.not_mem_nil, or_false, not_or]; omega)), ⟨by rw [fr1 0 (by simp only [List.mem_cons, List.not_mem_nil, or_false, not_or]; omega)]; exact sd1, sd2, sd3⟩, (by first | (rw [show oldN k n = (10 + n).toNat from by unfold oldN; rw [if_pos (by omega)]; omega]; exact hK1) | (rw [show oldN k n = n.toNat from by unfold oldN; rw [if_neg (by omega)]]; exact hK1)), hN.fr (fr1 163 (by simp only [List.mem_cons, List.not_mem_nil, or_false, not_or]; omega)) (fr1 164 (by simp only [List.mem_cons, List.not_mem_nil, or_false, not_or]; omega)) (fr1 165 (by simp only [List.mem_cons, List.not_mem_nil, or_false, not_or]; omega))⟩) (fun j hj => fr1 j (by simp only [List.mem_cons, List.not_mem_nil, or_false, not_or]; omega))
                   unfold E_old at h9
                   rw [if_pos (by omega), if_pos (by omega)] at h9
                   exact h9)
            · refine r_bipush (pc' := 82) dX10_old_80 rfl (by decide) ?_
              refine r_iload_n (pc' := 83) dX10_old_82 rfl rfl ?_
              refine r_iadd (pc' := 84) dX10_old_83 rfl ?_
              refine r_goto (tgt := 88) dX10_old_84 rfl ?_
              refine r_iload_n (pc' := 89) dX10_old_88 rfl rfl ?_
              refine r_vv2 (pc' := 92) dX10_old_89 rfl qX3_add lX10_289 z160 rfl rfl rfl rfl (Nat.zero_le _) (Nat.zero_le _) (a_lookAddI hK (by omega) (by omega) (by omega) (fun g1 hK1 fr1 => ?_))
              refine r_aload_n (pc' := 93) dX10_old_92 rfl rfl ?_
              refine r_getr (pc' := 96) dX10_old_93 rfl fX10_71 z0 rfl ?_
              refine r_getf (pc' := 99) (kI := 2) dX10_old_96 rfl fX10_111 z160 rfl rfl hK1.1 ?_
              refine r_reti dX10_old_99 rfl (Or.inl rfl) ?_
              first
                | exact absurd rfl c45
                | exact absurd c45 (by decide)
                | exact absurd rfl c50
                | exact absurd c50 (by decide)
                | exact absurd rfl c77
                | exact absurd c77 (by decide)
                | (have hok : ((k = 0 ∧ 0 ≤ n ∧ n ≤ 5) ∨ (k = 1 ∧ 1 ≤ n ∧ n ≤ 9)) ∧ ln < 6 := by omega
                   have h9 := h g1 (by simp only [if_pos hok]; exact ⟨TX.fr ⟨t1, t2, t3⟩ (fr1 1 (by simp only [List.mem_cons, List.not_mem_nil, or_false, not_or]; omega)) (fr1 2 (by simp only [List.mem_cons, List.not_mem_nil, or_false, not_or]; omega)), ⟨by rw [fr1 1 (by simp only [List.mem_cons, List.not_mem_nil, or_false, not_or]; omega)]; exact f1, f2⟩, hB.fr2 (fun j a1 a2 => fr1 j (by simp only [List.mem_cons, List.not_mem_nil, or_false, not_or]; omega)), ⟨top, hP.fr (fun j hj => by unfold pastB at hj; exact fr1 j (by simp only [List.mem_cons, List.not_mem_nil, or_false, not_or]; omega))⟩, IMs.fr hI (fun j a1 a2 => fr1 j (by simp only [List.mem_cons, List.not_mem_nil, or_false, not_or]; omega)), ⟨by rw [fr1 0 (by simp only [List.mem_cons, List.not_mem_nil, or_false, not_or]; omega)]; exact sd1, sd2, sd3⟩, (by first | (rw [show oldN k n = (10 + n).toNat from by unfold oldN; rw [if_pos (by omega)]; omega]; exact hK1) | (rw [show oldN k n = n.toNat from by unfold oldN; rw [if_neg (by omega)]]; exact hK1)), hN.fr (fr1 163 (by simp only [List.mem_cons, List.not_mem_nil, or_false, not_or]; omega)) (fr1 164 (by simp only [List.mem_cons, List.not_mem_nil, or_false, not_or]; omega)) (fr1 165 (by simp only [List.mem_cons, List.not_mem_nil, or_false, not_or]; omega))⟩) (fun j hj => fr1 j (by simp only [List.mem_cons, List.not_mem_nil, or_false, not_or]; omega))
                   unfold E_old at h9
                   rw [if_pos (by omega), if_pos (by omega)] at h9
                   exact h9)
          · refine r_ldc (z := -1000000004) (pc' := 70) dX10_old_68 rfl kX10_90 ?_
            refine r_reti dX10_old_70 rfl (Or.inl rfl) ?_
            first
              | exact absurd rfl c45
              | exact absurd c45 (by decide)
              | exact absurd rfl c50
              | exact absurd c50 (by decide)
              | exact absurd rfl c77
              | exact absurd c77 (by decide)
              | (have hno : ¬ (((k = 0 ∧ 0 ≤ n ∧ n ≤ 5) ∨ (k = 1 ∧ 1 ≤ n ∧ n ≤ 9)) ∧ ln < 6) := by omega
                 have h9 := h g (by simp only [if_neg hno]; exact hS) (FrC.rf g)
                 unfold E_old at h9
                 rw [if_pos (by omega), if_neg (by omega)] at h9
                 exact h9)
        · refine r_ldc (z := -1000000002) (pc' := 55) dX10_old_53 rfl kX10_86 ?_
          refine r_reti dX10_old_55 rfl (Or.inl rfl) ?_
          first
            | exact absurd rfl c45
            | exact absurd c45 (by decide)
            | exact absurd rfl c50
            | exact absurd c50 (by decide)
            | exact absurd rfl c77
            | exact absurd c77 (by decide)
            | (have hno : ¬ (((k = 0 ∧ 0 ≤ n ∧ n ≤ 5) ∨ (k = 1 ∧ 1 ≤ n ∧ n ≤ 9)) ∧ ln < 6) := by omega
               have h9 := h g (by simp only [if_neg hno]; exact hS) (FrC.rf g)
               unfold E_old at h9
               rw [if_neg (by omega)] at h9
               exact h9)
    · refine r_iload_n (pc' := 26) dX10_old_25 rfl rfl ?_
      refine r_iconst (pc' := 27) dX10_old_26 rfl ?_
      refine r_icmp_lt (tgt := 40) (pc' := 30) dX10_old_27 rfl rfl (by omega) (by omega) (fun c27 => ?_) (fun c27 => ?_)
      · refine r_iconst (pc' := 41) dX10_old_40 rfl ?_
        refine r_istore (pc' := 43) dX10_old_41 rfl rfl ?_
        refine r_iload (pc' := 45) dX10_old_43 rfl rfl ?_
        refine r_if_ne (tgt := 56) (pc' := 48) dX10_old_45 rfl rfl (by decide) (fun c45 => ?_) (fun c45 => ?_)
        · refine r_aload_n (pc' := 57) dX10_old_56 rfl rfl ?_
          refine r_getr (pc' := 60) dX10_old_57 rfl fX10_71 z0 rfl ?_
          refine r_getf (pc' := 63) (kI := 2) dX10_old_60 rfl fX10_111 z160 rfl rfl hK.1 ?_
          refine r_bipush (pc' := 65) dX10_old_63 rfl (by decide) ?_
          refine r_icmp_lt (tgt := 71) (pc' := 68) dX10_old_65 rfl rfl (by omega) (by omega) (fun c65 => ?_) (fun c65 => ?_)
          · refine r_aload_n (pc' := 72) dX10_old_71 rfl rfl ?_
            refine r_getr (pc' := 75) dX10_old_72 rfl fX10_71 z0 rfl ?_
            refine r_iload (pc' := 77) dX10_old_75 rfl rfl ?_
            refine r_if_eq (tgt := 87) (pc' := 80) dX10_old_77 rfl rfl (by omega) (fun c77 => ?_) (fun c77 => ?_)
            · refine r_iload_n (pc' := 88) dX10_old_87 rfl rfl ?_
              refine r_iload_n (pc' := 89) dX10_old_88 rfl rfl ?_
              refine r_vv2 (pc' := 92) dX10_old_89 rfl qX3_add lX10_289 z160 rfl rfl rfl rfl (Nat.zero_le _) (Nat.zero_le _) (a_lookAddI hK (by omega) (by omega) (by omega) (fun g1 hK1 fr1 => ?_))
              refine r_aload_n (pc' := 93) dX10_old_92 rfl rfl ?_
              refine r_getr (pc' := 96) dX10_old_93 rfl fX10_71 z0 rfl ?_
              refine r_getf (pc' := 99) (kI := 2) dX10_old_96 rfl fX10_111 z160 rfl rfl hK1.1 ?_
              refine r_reti dX10_old_99 rfl (Or.inl rfl) ?_
              first
                | exact absurd rfl c45
                | exact absurd c45 (by decide)
                | exact absurd rfl c50
                | exact absurd c50 (by decide)
                | exact absurd rfl c77
                | exact absurd c77 (by decide)
                | (have hok : ((k = 0 ∧ 0 ≤ n ∧ n ≤ 5) ∨ (k = 1 ∧ 1 ≤ n ∧ n ≤ 9)) ∧ ln < 6 := by omega
                   have h9 := h g1 (by simp only [if_pos hok]; exact ⟨TX.fr ⟨t1, t2, t3⟩ (fr1 1 (by simp only [List.mem_cons, List.not_mem_nil, or_false, not_or]; omega)) (fr1 2 (by simp only [List.mem_cons, List.not_mem_nil, or_false, not_or]; omega)), ⟨by rw [fr1 1 (by simp only [List.mem_cons, List.not_mem_nil, or_false, not_or]; omega)]; exact f1, f2⟩, hB.fr2 (fun j a1 a2 => fr1 j (by simp only [List.mem_cons, List.not_mem_nil, or_false, not_or]; omega)), ⟨top, hP.fr (fun j hj => by unfold pastB at hj; exact fr1 j (by simp only [List.mem_cons, List.not_mem_nil, or_false, not_or]; omega))⟩, IMs.fr hI (fun j a1 a2 => fr1 j (by simp only [List.mem_cons, List.not_mem_nil, or_false, not_or]; omega)), ⟨by rw [fr1 0 (by simp only [List.mem_cons, List.not_mem_nil, or_false, not_or]; omega)]; exact sd1, sd2, sd3⟩, (by first | (rw [show oldN k n = (10 + n).toNat from by unfold oldN; rw [if_pos (by omega)]; omega]; exact hK1) | (rw [show oldN k n = n.toNat from by unfold oldN; rw [if_neg (by omega)]]; exact hK1)), hN.fr (fr1 163 (by simp only [List.mem_cons, List.not_mem_nil, or_false, not_or]; omega)) (fr1 164 (by simp only [List.mem_cons, List.not_mem_nil, or_false, not_or]; omega)) (fr1 165 (by simp only [List.mem_cons, List.not_mem_nil, or_false, not_or]; omega))⟩) (fun j hj => fr1 j (by simp only [List.mem_cons, List.not_mem_nil, or_false, not_or]; omega))
                   unfold E_old at h9
                   rw [if_pos (by omega), if_pos (by omega)] at h9
                   exact h9)
            · refine r_bipush (pc' := 82) dX10_old_80 rfl (by decide) ?_
              refine r_iload_n (pc' := 83) dX10_old_82 rfl rfl ?_
              refine r_iadd (pc' := 84) dX10_old_83 rfl ?_
              refine r_goto (tgt := 88) dX10_old_84 rfl ?_
              refine r_iload_n (pc' := 89) dX10_old_88 rfl rfl ?_
              refine r_vv2 (pc' := 92) dX10_old_89 rfl qX3_add lX10_289 z160 rfl rfl rfl rfl (Nat.zero_le _) (Nat.zero_le _) (a_lookAddI hK (by omega) (by omega) (by omega) (fun g1 hK1 fr1 => ?_))
              refine r_aload_n (pc' := 93) dX10_old_92 rfl rfl ?_
              refine r_getr (pc' := 96) dX10_old_93 rfl fX10_71 z0 rfl ?_
              refine r_getf (pc' := 99) (kI := 2) dX10_old_96 rfl fX10_111 z160 rfl rfl hK1.1 ?_
              refine r_reti dX10_old_99 rfl (Or.inl rfl) ?_
              first
                | exact absurd rfl c45
                | exact absurd c45 (by decide)
                | exact absurd rfl c50
                | exact absurd c50 (by decide)
                | exact absurd rfl c77
                | exact absurd c77 (by decide)
                | (have hok : ((k = 0 ∧ 0 ≤ n ∧ n ≤ 5) ∨ (k = 1 ∧ 1 ≤ n ∧ n ≤ 9)) ∧ ln < 6 := by omega
                   have h9 := h g1 (by simp only [if_pos hok]; exact ⟨TX.fr ⟨t1, t2, t3⟩ (fr1 1 (by simp only [List.mem_cons, List.not_mem_nil, or_false, not_or]; omega)) (fr1 2 (by simp only [List.mem_cons, List.not_mem_nil, or_false, not_or]; omega)), ⟨by rw [fr1 1 (by simp only [List.mem_cons, List.not_mem_nil, or_false, not_or]; omega)]; exact f1, f2⟩, hB.fr2 (fun j a1 a2 => fr1 j (by simp only [List.mem_cons, List.not_mem_nil, or_false, not_or]; omega)), ⟨top, hP.fr (fun j hj => by unfold pastB at hj; exact fr1 j (by simp only [List.mem_cons, List.not_mem_nil, or_false, not_or]; omega))⟩, IMs.fr hI (fun j a1 a2 => fr1 j (by simp only [List.mem_cons, List.not_mem_nil, or_false, not_or]; omega)), ⟨by rw [fr1 0 (by simp only [List.mem_cons, List.not_mem_nil, or_false, not_or]; omega)]; exact sd1, sd2, sd3⟩, (by first | (rw [show oldN k n = (10 + n).toNat from by unfold oldN; rw [if_pos (by omega)]; omega]; exact hK1) | (rw [show oldN k n = n.toNat from by unfold oldN; rw [if_neg (by omega)]]; exact hK1)), hN.fr (fr1 163 (by simp only [List.mem_cons, List.not_mem_nil, or_false, not_or]; omega)) (fr1 164 (by simp only [List.mem_cons, List.not_mem_nil, or_false, not_or]; omega)) (fr1 165 (by simp only [List.mem_cons, List.not_mem_nil, or_false, not_or]; omega))⟩) (fun j hj => fr1 j (by simp only [List.mem_cons, List.not_mem_nil, or_false, not_or]; omega))
                   unfold E_old at h9
                   rw [if_pos (by omega), if_pos (by omega)] at h9
                   exact h9)
          · refine r_ldc (z := -1000000004) (pc' := 70) dX10_old_68 rfl kX10_90 ?_
            refine r_reti dX10_old_70 rfl (Or.inl rfl) ?_
            first
              | exact absurd rfl c45
              | exact absurd c45 (by decide)
              | exact absurd rfl c50
              | exact absurd c50 (by decide)
              | exact absurd rfl c77
              | exact absurd c77 (by decide)
              | (have hno : ¬ (((k = 0 ∧ 0 ≤ n ∧ n ≤ 5) ∨ (k = 1 ∧ 1 ≤ n ∧ n ≤ 9)) ∧ ln < 6) := by omega
                 have h9 := h g (by simp only [if_neg hno]; exact hS) (FrC.rf g)
                 unfold E_old at h9
                 rw [if_pos (by omega), if_neg (by omega)] at h9
                 exact h9)
        · refine r_iload (pc' := 50) dX10_old_48 rfl rfl ?_
          refine r_if_ne (tgt := 56) (pc' := 53) dX10_old_50 rfl rfl (by omega) (fun c50 => ?_) (fun c50 => ?_)
          · refine r_aload_n (pc' := 57) dX10_old_56 rfl rfl ?_
            refine r_getr (pc' := 60) dX10_old_57 rfl fX10_71 z0 rfl ?_
            refine r_getf (pc' := 63) (kI := 2) dX10_old_60 rfl fX10_111 z160 rfl rfl hK.1 ?_
            refine r_bipush (pc' := 65) dX10_old_63 rfl (by decide) ?_
            refine r_icmp_lt (tgt := 71) (pc' := 68) dX10_old_65 rfl rfl (by omega) (by omega) (fun c65 => ?_) (fun c65 => ?_)
            · refine r_aload_n (pc' := 72) dX10_old_71 rfl rfl ?_
              refine r_getr (pc' := 75) dX10_old_72 rfl fX10_71 z0 rfl ?_
              refine r_iload (pc' := 77) dX10_old_75 rfl rfl ?_
              refine r_if_eq (tgt := 87) (pc' := 80) dX10_old_77 rfl rfl (by omega) (fun c77 => ?_) (fun c77 => ?_)
              · refine r_iload_n (pc' := 88) dX10_old_87 rfl rfl ?_
                refine r_iload_n (pc' := 89) dX10_old_88 rfl rfl ?_
                refine r_vv2 (pc' := 92) dX10_old_89 rfl qX3_add lX10_289 z160 rfl rfl rfl rfl (Nat.zero_le _) (Nat.zero_le _) (a_lookAddI hK (by omega) (by omega) (by omega) (fun g1 hK1 fr1 => ?_))
                refine r_aload_n (pc' := 93) dX10_old_92 rfl rfl ?_
                refine r_getr (pc' := 96) dX10_old_93 rfl fX10_71 z0 rfl ?_
                refine r_getf (pc' := 99) (kI := 2) dX10_old_96 rfl fX10_111 z160 rfl rfl hK1.1 ?_
                refine r_reti dX10_old_99 rfl (Or.inl rfl) ?_
                first
                  | exact absurd rfl c45
                  | exact absurd c45 (by decide)
                  | exact absurd rfl c50
                  | exact absurd c50 (by decide)
                  | exact absurd rfl c77
                  | exact absurd c77 (by decide)
                  | (have hok : ((k = 0 ∧ 0 ≤ n ∧ n ≤ 5) ∨ (k = 1 ∧ 1 ≤ n ∧ n ≤ 9)) ∧ ln < 6 := by omega
                     have h9 := h g1 (by simp only [if_pos hok]; exact ⟨TX.fr ⟨t1, t2, t3⟩ (fr1 1 (by simp only [List.mem_cons, List.not_mem_nil, or_false, not_or]; omega)) (fr1 2 (by simp only [List.mem_cons, List.not_mem_nil, or_false, not_or]; omega)), ⟨by rw [fr1 1 (by simp only [List.mem_cons, List.not_mem_nil, or_false, not_or]; omega)]; exact f1, f2⟩, hB.fr2 (fun j a1 a2 => fr1 j (by simp only [List.mem_cons, List.not_mem_nil, or_false, not_or]; omega)), ⟨top, hP.fr (fun j hj => by unfold pastB at hj; exact fr1 j (by simp only [List.mem_cons, List.not_mem_nil, or_false, not_or]; omega))⟩, IMs.fr hI (fun j a1 a2 => fr1 j (by simp only [List.mem_cons, List.not_mem_nil, or_false, not_or]; omega)), ⟨by rw [fr1 0 (by simp only [List.mem_cons, List.not_mem_nil, or_false, not_or]; omega)]; exact sd1, sd2, sd3⟩, (by first | (rw [show oldN k n = (10 + n).toNat from by unfold oldN; rw [if_pos (by omega)]; omega]; exact hK1) | (rw [show oldN k n = n.toNat from by unfold oldN; rw [if_neg (by omega)]]; exact hK1)), hN.fr (fr1 163 (by simp only [List.mem_cons, List.not_mem_nil, or_false, not_or]; omega)) (fr1 164 (by simp only [List.mem_cons, List.not_mem_nil, or_false, not_or]; omega)) (fr1 165 (by simp only [List.mem_cons, List.not_mem_nil, or_false, not_or]; omega))⟩) (fun j hj => fr1 j (by simp only [List.mem_cons, List.not_mem_nil, or_false, not_or]; omega))
                     unfold E_old at h9
                     rw [if_pos (by omega), if_pos (by omega)] at h9
                     exact h9)
              · refine r_bipush (pc' := 82) dX10_old_80 rfl (by decide) ?_
                refine r_iload_n (pc' := 83) dX10_old_82 rfl rfl ?_
                refine r_iadd (pc' := 84) dX10_old_83 rfl ?_
                refine r_goto (tgt := 88) dX10_old_84 rfl ?_
                refine r_iload_n (pc' := 89) dX10_old_88 rfl rfl ?_
                refine r_vv2 (pc' := 92) dX10_old_89 rfl qX3_add lX10_289 z160 rfl rfl rfl rfl (Nat.zero_le _) (Nat.zero_le _) (a_lookAddI hK (by omega) (by omega) (by omega) (fun g1 hK1 fr1 => ?_))
                refine r_aload_n (pc' := 93) dX10_old_92 rfl rfl ?_
                refine r_getr (pc' := 96) dX10_old_93 rfl fX10_71 z0 rfl ?_
                refine r_getf (pc' := 99) (kI := 2) dX10_old_96 rfl fX10_111 z160 rfl rfl hK1.1 ?_
                refine r_reti dX10_old_99 rfl (Or.inl rfl) ?_
                first
                  | exact absurd rfl c45
                  | exact absurd c45 (by decide)
                  | exact absurd rfl c50
                  | exact absurd c50 (by decide)
                  | exact absurd rfl c77
                  | exact absurd c77 (by decide)
                  | (have hok : ((k = 0 ∧ 0 ≤ n ∧ n ≤ 5) ∨ (k = 1 ∧ 1 ≤ n ∧ n ≤ 9)) ∧ ln < 6 := by omega
                     have h9 := h g1 (by simp only [if_pos hok]; exact ⟨TX.fr ⟨t1, t2, t3⟩ (fr1 1 (by simp only [List.mem_cons, List.not_mem_nil, or_false, not_or]; omega)) (fr1 2 (by simp only [List.mem_cons, List.not_mem_nil, or_false, not_or]; omega)), ⟨by rw [fr1 1 (by simp only [List.mem_cons, List.not_mem_nil, or_false, not_or]; omega)]; exact f1, f2⟩, hB.fr2 (fun j a1 a2 => fr1 j (by simp only [List.mem_cons, List.not_mem_nil, or_false, not_or]; omega)), ⟨top, hP.fr (fun j hj => by unfold pastB at hj; exact fr1 j (by simp only [List.mem_cons, List.not_mem_nil, or_false, not_or]; omega))⟩, IMs.fr hI (fun j a1 a2 => fr1 j (by simp only [List.mem_cons, List.not_mem_nil, or_false, not_or]; omega)), ⟨by rw [fr1 0 (by simp only [List.mem_cons, List.not_mem_nil, or_false, not_or]; omega)]; exact sd1, sd2, sd3⟩, (by first | (rw [show oldN k n = (10 + n).toNat from by unfold oldN; rw [if_pos (by omega)]; omega]; exact hK1) | (rw [show oldN k n = n.toNat from by unfold oldN; rw [if_neg (by omega)]]; exact hK1)), hN.fr (fr1 163 (by simp only [List.mem_cons, List.not_mem_nil, or_false, not_or]; omega)) (fr1 164 (by simp only [List.mem_cons, List.not_mem_nil, or_false, not_or]; omega)) (fr1 165 (by simp only [List.mem_cons, List.not_mem_nil, or_false, not_or]; omega))⟩) (fun j hj => fr1 j (by simp only [List.mem_cons, List.not_mem_nil, or_false, not_or]; omega))
                     unfold E_old at h9
                     rw [if_pos (by omega), if_pos (by omega)] at h9
                     exact h9)
            · refine r_ldc (z := -1000000004) (pc' := 70) dX10_old_68 rfl kX10_90 ?_
              refine r_reti dX10_old_70 rfl (Or.inl rfl) ?_
              first
                | exact absurd rfl c45
                | exact absurd c45 (by decide)
                | exact absurd rfl c50
                | exact absurd c50 (by decide)
                | exact absurd rfl c77
                | exact absurd c77 (by decide)
                | (have hno : ¬ (((k = 0 ∧ 0 ≤ n ∧ n ≤ 5) ∨ (k = 1 ∧ 1 ≤ n ∧ n ≤ 9)) ∧ ln < 6) := by omega
                   have h9 := h g (by simp only [if_neg hno]; exact hS) (FrC.rf g)
                   unfold E_old at h9
                   rw [if_pos (by omega), if_neg (by omega)] at h9
                   exact h9)
          · refine r_ldc (z := -1000000002) (pc' := 55) dX10_old_53 rfl kX10_86 ?_
            refine r_reti dX10_old_55 rfl (Or.inl rfl) ?_
            first
              | exact absurd rfl c45
              | exact absurd c45 (by decide)
              | exact absurd rfl c50
              | exact absurd c50 (by decide)
              | exact absurd rfl c77
              | exact absurd c77 (by decide)
              | (have hno : ¬ (((k = 0 ∧ 0 ≤ n ∧ n ≤ 5) ∨ (k = 1 ∧ 1 ≤ n ∧ n ≤ 9)) ∧ ln < 6) := by omega
                 have h9 := h g (by simp only [if_neg hno]; exact hS) (FrC.rf g)
                 unfold E_old at h9
                 rw [if_neg (by omega)] at h9
                 exact h9)
      · refine r_iload_n (pc' := 31) dX10_old_30 rfl rfl ?_
        refine r_bipush (pc' := 33) dX10_old_31 rfl (by decide) ?_
        refine r_icmp_gt (tgt := 40) (pc' := 36) dX10_old_33 rfl rfl (by omega) (by omega) (fun c33 => ?_) (fun c33 => ?_)
        · refine r_iconst (pc' := 41) dX10_old_40 rfl ?_
          refine r_istore (pc' := 43) dX10_old_41 rfl rfl ?_
          refine r_iload (pc' := 45) dX10_old_43 rfl rfl ?_
          refine r_if_ne (tgt := 56) (pc' := 48) dX10_old_45 rfl rfl (by decide) (fun c45 => ?_) (fun c45 => ?_)
          · refine r_aload_n (pc' := 57) dX10_old_56 rfl rfl ?_
            refine r_getr (pc' := 60) dX10_old_57 rfl fX10_71 z0 rfl ?_
            refine r_getf (pc' := 63) (kI := 2) dX10_old_60 rfl fX10_111 z160 rfl rfl hK.1 ?_
            refine r_bipush (pc' := 65) dX10_old_63 rfl (by decide) ?_
            refine r_icmp_lt (tgt := 71) (pc' := 68) dX10_old_65 rfl rfl (by omega) (by omega) (fun c65 => ?_) (fun c65 => ?_)
            · refine r_aload_n (pc' := 72) dX10_old_71 rfl rfl ?_
              refine r_getr (pc' := 75) dX10_old_72 rfl fX10_71 z0 rfl ?_
              refine r_iload (pc' := 77) dX10_old_75 rfl rfl ?_
              refine r_if_eq (tgt := 87) (pc' := 80) dX10_old_77 rfl rfl (by omega) (fun c77 => ?_) (fun c77 => ?_)
              · refine r_iload_n (pc' := 88) dX10_old_87 rfl rfl ?_
                refine r_iload_n (pc' := 89) dX10_old_88 rfl rfl ?_
                refine r_vv2 (pc' := 92) dX10_old_89 rfl qX3_add lX10_289 z160 rfl rfl rfl rfl (Nat.zero_le _) (Nat.zero_le _) (a_lookAddI hK (by omega) (by omega) (by omega) (fun g1 hK1 fr1 => ?_))
                refine r_aload_n (pc' := 93) dX10_old_92 rfl rfl ?_
                refine r_getr (pc' := 96) dX10_old_93 rfl fX10_71 z0 rfl ?_
                refine r_getf (pc' := 99) (kI := 2) dX10_old_96 rfl fX10_111 z160 rfl rfl hK1.1 ?_
                refine r_reti dX10_old_99 rfl (Or.inl rfl) ?_
                first
                  | exact absurd rfl c45
                  | exact absurd c45 (by decide)
                  | exact absurd rfl c50
                  | exact absurd c50 (by decide)
                  | exact absurd rfl c77
                  | exact absurd c77 (by decide)
                  | (have hok : ((k = 0 ∧ 0 ≤ n ∧ n ≤ 5) ∨ (k = 1 ∧ 1 ≤ n ∧ n ≤ 9)) ∧ ln < 6 := by omega
                     have h9 := h g1 (by simp only [if_pos hok]; exact ⟨TX.fr ⟨t1, t2, t3⟩ (fr1 1 (by simp only [List.mem_cons, List.not_mem_nil, or_false, not_or]; omega)) (fr1 2 (by simp only [List.mem_cons, List.not_mem_nil, or_false, not_or]; omega)), ⟨by rw [fr1 1 (by simp only [List.mem_cons, List.not_mem_nil, or_false, not_or]; omega)]; exact f1, f2⟩, hB.fr2 (fun j a1 a2 => fr1 j (by simp only [List.mem_cons, List.not_mem_nil, or_false, not_or]; omega)), ⟨top, hP.fr (fun j hj => by unfold pastB at hj; exact fr1 j (by simp only [List.mem_cons, List.not_mem_nil, or_false, not_or]; omega))⟩, IMs.fr hI (fun j a1 a2 => fr1 j (by simp only [List.mem_cons, List.not_mem_nil, or_false, not_or]; omega)), ⟨by rw [fr1 0 (by simp only [List.mem_cons, List.not_mem_nil, or_false, not_or]; omega)]; exact sd1, sd2, sd3⟩, (by first | (rw [show oldN k n = (10 + n).toNat from by unfold oldN; rw [if_pos (by omega)]; omega]; exact hK1) | (rw [show oldN k n = n.toNat from by unfold oldN; rw [if_neg (by omega)]]; exact hK1)), hN.fr (fr1 163 (by simp only [List.mem_cons, List.not_mem_nil, or_false, not_or]; omega)) (fr1 164 (by simp only [List.mem_cons, List.not_mem_nil, or_false, not_or]; omega)) (fr1 165 (by simp only [List.mem_cons, List.not_mem_nil, or_false, not_or]; omega))⟩) (fun j hj => fr1 j (by simp only [List.mem_cons, List.not_mem_nil, or_false, not_or]; omega))
                     unfold E_old at h9
                     rw [if_pos (by omega), if_pos (by omega)] at h9
                     exact h9)
              · refine r_bipush (pc' := 82) dX10_old_80 rfl (by decide) ?_
                refine r_iload_n (pc' := 83) dX10_old_82 rfl rfl ?_
                refine r_iadd (pc' := 84) dX10_old_83 rfl ?_
                refine r_goto (tgt := 88) dX10_old_84 rfl ?_
                refine r_iload_n (pc' := 89) dX10_old_88 rfl rfl ?_
                refine r_vv2 (pc' := 92) dX10_old_89 rfl qX3_add lX10_289 z160 rfl rfl rfl rfl (Nat.zero_le _) (Nat.zero_le _) (a_lookAddI hK (by omega) (by omega) (by omega) (fun g1 hK1 fr1 => ?_))
                refine r_aload_n (pc' := 93) dX10_old_92 rfl rfl ?_
                refine r_getr (pc' := 96) dX10_old_93 rfl fX10_71 z0 rfl ?_
                refine r_getf (pc' := 99) (kI := 2) dX10_old_96 rfl fX10_111 z160 rfl rfl hK1.1 ?_
                refine r_reti dX10_old_99 rfl (Or.inl rfl) ?_
                first
                  | exact absurd rfl c45
                  | exact absurd c45 (by decide)
                  | exact absurd rfl c50
                  | exact absurd c50 (by decide)
                  | exact absurd rfl c77
                  | exact absurd c77 (by decide)
                  | (have hok : ((k = 0 ∧ 0 ≤ n ∧ n ≤ 5) ∨ (k = 1 ∧ 1 ≤ n ∧ n ≤ 9)) ∧ ln < 6 := by omega
                     have h9 := h g1 (by simp only [if_pos hok]; exact ⟨TX.fr ⟨t1, t2, t3⟩ (fr1 1 (by simp only [List.mem_cons, List.not_mem_nil, or_false, not_or]; omega)) (fr1 2 (by simp only [List.mem_cons, List.not_mem_nil, or_false, not_or]; omega)), ⟨by rw [fr1 1 (by simp only [List.mem_cons, List.not_mem_nil, or_false, not_or]; omega)]; exact f1, f2⟩, hB.fr2 (fun j a1 a2 => fr1 j (by simp only [List.mem_cons, List.not_mem_nil, or_false, not_or]; omega)), ⟨top, hP.fr (fun j hj => by unfold pastB at hj; exact fr1 j (by simp only [List.mem_cons, List.not_mem_nil, or_false, not_or]; omega))⟩, IMs.fr hI (fun j a1 a2 => fr1 j (by simp only [List.mem_cons, List.not_mem_nil, or_false, not_or]; omega)), ⟨by rw [fr1 0 (by simp only [List.mem_cons, List.not_mem_nil, or_false, not_or]; omega)]; exact sd1, sd2, sd3⟩, (by first | (rw [show oldN k n = (10 + n).toNat from by unfold oldN; rw [if_pos (by omega)]; omega]; exact hK1) | (rw [show oldN k n = n.toNat from by unfold oldN; rw [if_neg (by omega)]]; exact hK1)), hN.fr (fr1 163 (by simp only [List.mem_cons, List.not_mem_nil, or_false, not_or]; omega)) (fr1 164 (by simp only [List.mem_cons, List.not_mem_nil, or_false, not_or]; omega)) (fr1 165 (by simp only [List.mem_cons, List.not_mem_nil, or_false, not_or]; omega))⟩) (fun j hj => fr1 j (by simp only [List.mem_cons, List.not_mem_nil, or_false, not_or]; omega))
                     unfold E_old at h9
                     rw [if_pos (by omega), if_pos (by omega)] at h9
                     exact h9)
            · refine r_ldc (z := -1000000004) (pc' := 70) dX10_old_68 rfl kX10_90 ?_
              refine r_reti dX10_old_70 rfl (Or.inl rfl) ?_
              first
                | exact absurd rfl c45
                | exact absurd c45 (by decide)
                | exact absurd rfl c50
                | exact absurd c50 (by decide)
                | exact absurd rfl c77
                | exact absurd c77 (by decide)
                | (have hno : ¬ (((k = 0 ∧ 0 ≤ n ∧ n ≤ 5) ∨ (k = 1 ∧ 1 ≤ n ∧ n ≤ 9)) ∧ ln < 6) := by omega
                   have h9 := h g (by simp only [if_neg hno]; exact hS) (FrC.rf g)
                   unfold E_old at h9
                   rw [if_pos (by omega), if_neg (by omega)] at h9
                   exact h9)
          · refine r_iload (pc' := 50) dX10_old_48 rfl rfl ?_
            refine r_if_ne (tgt := 56) (pc' := 53) dX10_old_50 rfl rfl (by omega) (fun c50 => ?_) (fun c50 => ?_)
            · refine r_aload_n (pc' := 57) dX10_old_56 rfl rfl ?_
              refine r_getr (pc' := 60) dX10_old_57 rfl fX10_71 z0 rfl ?_
              refine r_getf (pc' := 63) (kI := 2) dX10_old_60 rfl fX10_111 z160 rfl rfl hK.1 ?_
              refine r_bipush (pc' := 65) dX10_old_63 rfl (by decide) ?_
              refine r_icmp_lt (tgt := 71) (pc' := 68) dX10_old_65 rfl rfl (by omega) (by omega) (fun c65 => ?_) (fun c65 => ?_)
              · refine r_aload_n (pc' := 72) dX10_old_71 rfl rfl ?_
                refine r_getr (pc' := 75) dX10_old_72 rfl fX10_71 z0 rfl ?_
                refine r_iload (pc' := 77) dX10_old_75 rfl rfl ?_
                refine r_if_eq (tgt := 87) (pc' := 80) dX10_old_77 rfl rfl (by omega) (fun c77 => ?_) (fun c77 => ?_)
                · refine r_iload_n (pc' := 88) dX10_old_87 rfl rfl ?_
                  refine r_iload_n (pc' := 89) dX10_old_88 rfl rfl ?_
                  refine r_vv2 (pc' := 92) dX10_old_89 rfl qX3_add lX10_289 z160 rfl rfl rfl rfl (Nat.zero_le _) (Nat.zero_le _) (a_lookAddI hK (by omega) (by omega) (by omega) (fun g1 hK1 fr1 => ?_))
                  refine r_aload_n (pc' := 93) dX10_old_92 rfl rfl ?_
                  refine r_getr (pc' := 96) dX10_old_93 rfl fX10_71 z0 rfl ?_
                  refine r_getf (pc' := 99) (kI := 2) dX10_old_96 rfl fX10_111 z160 rfl rfl hK1.1 ?_
                  refine r_reti dX10_old_99 rfl (Or.inl rfl) ?_
                  first
                    | exact absurd rfl c45
                    | exact absurd c45 (by decide)
                    | exact absurd rfl c50
                    | exact absurd c50 (by decide)
                    | exact absurd rfl c77
                    | exact absurd c77 (by decide)
                    | (have hok : ((k = 0 ∧ 0 ≤ n ∧ n ≤ 5) ∨ (k = 1 ∧ 1 ≤ n ∧ n ≤ 9)) ∧ ln < 6 := by omega
                       have h9 := h g1 (by simp only [if_pos hok]; exact ⟨TX.fr ⟨t1, t2, t3⟩ (fr1 1 (by simp only [List.mem_cons, List.not_mem_nil, or_false, not_or]; omega)) (fr1 2 (by simp only [List.mem_cons, List.not_mem_nil, or_false, not_or]; omega)), ⟨by rw [fr1 1 (by simp only [List.mem_cons, List.not_mem_nil, or_false, not_or]; omega)]; exact f1, f2⟩, hB.fr2 (fun j a1 a2 => fr1 j (by simp only [List.mem_cons, List.not_mem_nil, or_false, not_or]; omega)), ⟨top, hP.fr (fun j hj => by unfold pastB at hj; exact fr1 j (by simp only [List.mem_cons, List.not_mem_nil, or_false, not_or]; omega))⟩, IMs.fr hI (fun j a1 a2 => fr1 j (by simp only [List.mem_cons, List.not_mem_nil, or_false, not_or]; omega)), ⟨by rw [fr1 0 (by simp only [List.mem_cons, List.not_mem_nil, or_false, not_or]; omega)]; exact sd1, sd2, sd3⟩, (by first | (rw [show oldN k n = (10 + n).toNat from by unfold oldN; rw [if_pos (by omega)]; omega]; exact hK1) | (rw [show oldN k n = n.toNat from by unfold oldN; rw [if_neg (by omega)]]; exact hK1)), hN.fr (fr1 163 (by simp only [List.mem_cons, List.not_mem_nil, or_false, not_or]; omega)) (fr1 164 (by simp only [List.mem_cons, List.not_mem_nil, or_false, not_or]; omega)) (fr1 165 (by simp only [List.mem_cons, List.not_mem_nil, or_false, not_or]; omega))⟩) (fun j hj => fr1 j (by simp only [List.mem_cons, List.not_mem_nil, or_false, not_or]; omega))
                       unfold E_old at h9
                       rw [if_pos (by omega), if_pos (by omega)] at h9
                       exact h9)
                · refine r_bipush (pc' := 82) dX10_old_80 rfl (by decide) ?_
                  refine r_iload_n (pc' := 83) dX10_old_82 rfl rfl ?_
                  refine r_iadd (pc' := 84) dX10_old_83 rfl ?_
                  refine r_goto (tgt := 88) dX10_old_84 rfl ?_
                  refine r_iload_n (pc' := 89) dX10_old_88 rfl rfl ?_
                  refine r_vv2 (pc' := 92) dX10_old_89 rfl qX3_add lX10_289 z160 rfl rfl rfl rfl (Nat.zero_le _) (Nat.zero_le _) (a_lookAddI hK (by omega) (by omega) (by omega) (fun g1 hK1 fr1 => ?_))
                  refine r_aload_n (pc' := 93) dX10_old_92 rfl rfl ?_
                  refine r_getr (pc' := 96) dX10_old_93 rfl fX10_71 z0 rfl ?_
                  refine r_getf (pc' := 99) (kI := 2) dX10_old_96 rfl fX10_111 z160 rfl rfl hK1.1 ?_
                  refine r_reti dX10_old_99 rfl (Or.inl rfl) ?_
                  first
                    | exact absurd rfl c45
                    | exact absurd c45 (by decide)
                    | exact absurd rfl c50
                    | exact absurd c50 (by decide)
                    | exact absurd rfl c77
                    | exact absurd c77 (by decide)
                    | (have hok : ((k = 0 ∧ 0 ≤ n ∧ n ≤ 5) ∨ (k = 1 ∧ 1 ≤ n ∧ n ≤ 9)) ∧ ln < 6 := by omega
                       have h9 := h g1 (by simp only [if_pos hok]; exact ⟨TX.fr ⟨t1, t2, t3⟩ (fr1 1 (by simp only [List.mem_cons, List.not_mem_nil, or_false, not_or]; omega)) (fr1 2 (by simp only [List.mem_cons, List.not_mem_nil, or_false, not_or]; omega)), ⟨by rw [fr1 1 (by simp only [List.mem_cons, List.not_mem_nil, or_false, not_or]; omega)]; exact f1, f2⟩, hB.fr2 (fun j a1 a2 => fr1 j (by simp only [List.mem_cons, List.not_mem_nil, or_false, not_or]; omega)), ⟨top, hP.fr (fun j hj => by unfold pastB at hj; exact fr1 j (by simp only [List.mem_cons, List.not_mem_nil, or_false, not_or]; omega))⟩, IMs.fr hI (fun j a1 a2 => fr1 j (by simp only [List.mem_cons, List.not_mem_nil, or_false, not_or]; omega)), ⟨by rw [fr1 0 (by simp only [List.mem_cons, List.not_mem_nil, or_false, not_or]; omega)]; exact sd1, sd2, sd3⟩, (by first | (rw [show oldN k n = (10 + n).toNat from by unfold oldN; rw [if_pos (by omega)]; omega]; exact hK1) | (rw [show oldN k n = n.toNat from by unfold oldN; rw [if_neg (by omega)]]; exact hK1)), hN.fr (fr1 163 (by simp only [List.mem_cons, List.not_mem_nil, or_false, not_or]; omega)) (fr1 164 (by simp only [List.mem_cons, List.not_mem_nil, or_false, not_or]; omega)) (fr1 165 (by simp only [List.mem_cons, List.not_mem_nil, or_false, not_or]; omega))⟩) (fun j hj => fr1 j (by simp only [List.mem_cons, List.not_mem_nil, or_false, not_or]; omega))
                       unfold E_old at h9
                       rw [if_pos (by omega), if_pos (by omega)] at h9
                       exact h9)
              · refine r_ldc (z := -1000000004) (pc' := 70) dX10_old_68 rfl kX10_90 ?_
                refine r_reti dX10_old_70 rfl (Or.inl rfl) ?_
                first
                  | exact absurd rfl c45
                  | exact absurd c45 (by decide)
                  | exact absurd rfl c50
                  | exact absurd c50 (by decide)
                  | exact absurd rfl c77
                  | exact absurd c77 (by decide)
                  | (have hno : ¬ (((k = 0 ∧ 0 ≤ n ∧ n ≤ 5) ∨ (k = 1 ∧ 1 ≤ n ∧ n ≤ 9)) ∧ ln < 6) := by omega
                     have h9 := h g (by simp only [if_neg hno]; exact hS) (FrC.rf g)
                     unfold E_old at h9
                     rw [if_pos (by omega), if_neg (by omega)] at h9
                     exact h9)
            · refine r_ldc (z := -1000000002) (pc' := 55) dX10_old_53 rfl kX10_86 ?_
              refine r_reti dX10_old_55 rfl (Or.inl rfl) ?_
              first
                | exact absurd rfl c45
                | exact absurd c45 (by decide)
                | exact absurd rfl c50
                | exact absurd c50 (by decide)
                | exact absurd rfl c77
                | exact absurd c77 (by decide)
                | (have hno : ¬ (((k = 0 ∧ 0 ≤ n ∧ n ≤ 5) ∨ (k = 1 ∧ 1 ≤ n ∧ n ≤ 9)) ∧ ln < 6) := by omega
                   have h9 := h g (by simp only [if_neg hno]; exact hS) (FrC.rf g)
                   unfold E_old at h9
                   rw [if_neg (by omega)] at h9
                   exact h9)
        · refine r_iconst (pc' := 37) dX10_old_36 rfl ?_
          refine r_goto (tgt := 41) dX10_old_37 rfl ?_
          refine r_istore (pc' := 43) dX10_old_41 rfl rfl ?_
          refine r_iload (pc' := 45) dX10_old_43 rfl rfl ?_
          refine r_if_ne (tgt := 56) (pc' := 48) dX10_old_45 rfl rfl (by decide) (fun c45 => ?_) (fun c45 => ?_)
          · refine r_aload_n (pc' := 57) dX10_old_56 rfl rfl ?_
            refine r_getr (pc' := 60) dX10_old_57 rfl fX10_71 z0 rfl ?_
            refine r_getf (pc' := 63) (kI := 2) dX10_old_60 rfl fX10_111 z160 rfl rfl hK.1 ?_
            refine r_bipush (pc' := 65) dX10_old_63 rfl (by decide) ?_
            refine r_icmp_lt (tgt := 71) (pc' := 68) dX10_old_65 rfl rfl (by omega) (by omega) (fun c65 => ?_) (fun c65 => ?_)
            · refine r_aload_n (pc' := 72) dX10_old_71 rfl rfl ?_
              refine r_getr (pc' := 75) dX10_old_72 rfl fX10_71 z0 rfl ?_
              refine r_iload (pc' := 77) dX10_old_75 rfl rfl ?_
              refine r_if_eq (tgt := 87) (pc' := 80) dX10_old_77 rfl rfl (by omega) (fun c77 => ?_) (fun c77 => ?_)
              · refine r_iload_n (pc' := 88) dX10_old_87 rfl rfl ?_
                refine r_iload_n (pc' := 89) dX10_old_88 rfl rfl ?_
                refine r_vv2 (pc' := 92) dX10_old_89 rfl qX3_add lX10_289 z160 rfl rfl rfl rfl (Nat.zero_le _) (Nat.zero_le _) (a_lookAddI hK (by omega) (by omega) (by omega) (fun g1 hK1 fr1 => ?_))
                refine r_aload_n (pc' := 93) dX10_old_92 rfl rfl ?_
                refine r_getr (pc' := 96) dX10_old_93 rfl fX10_71 z0 rfl ?_
                refine r_getf (pc' := 99) (kI := 2) dX10_old_96 rfl fX10_111 z160 rfl rfl hK1.1 ?_
                refine r_reti dX10_old_99 rfl (Or.inl rfl) ?_
                first
                  | exact absurd rfl c45
                  | exact absurd c45 (by decide)
                  | exact absurd rfl c50
                  | exact absurd c50 (by decide)
                  | exact absurd rfl c77
                  | exact absurd c77 (by decide)
                  | (have hok : ((k = 0 ∧ 0 ≤ n ∧ n ≤ 5) ∨ (k = 1 ∧ 1 ≤ n ∧ n ≤ 9)) ∧ ln < 6 := by omega
                     have h9 := h g1 (by simp only [if_pos hok]; exact ⟨TX.fr ⟨t1, t2, t3⟩ (fr1 1 (by simp only [List.mem_cons, List.not_mem_nil, or_false, not_or]; omega)) (fr1 2 (by simp only [List.mem_cons, List.not_mem_nil, or_false, not_or]; omega)), ⟨by rw [fr1 1 (by simp only [List.mem_cons, List.not_mem_nil, or_false, not_or]; omega)]; exact f1, f2⟩, hB.fr2 (fun j a1 a2 => fr1 j (by simp only [List.mem_cons, List.not_mem_nil, or_false, not_or]; omega)), ⟨top, hP.fr (fun j hj => by unfold pastB at hj; exact fr1 j (by simp only [List.mem_cons, List.not_mem_nil, or_false, not_or]; omega))⟩, IMs.fr hI (fun j a1 a2 => fr1 j (by simp only [List.mem_cons, List.not_mem_nil, or_false, not_or]; omega)), ⟨by rw [fr1 0 (by simp only [List.mem_cons, List.not_mem_nil, or_false, not_or]; omega)]; exact sd1, sd2, sd3⟩, (by first | (rw [show oldN k n = (10 + n).toNat from by unfold oldN; rw [if_pos (by omega)]; omega]; exact hK1) | (rw [show oldN k n = n.toNat from by unfold oldN; rw [if_neg (by omega)]]; exact hK1)), hN.fr (fr1 163 (by simp only [List.mem_cons, List.not_mem_nil, or_false, not_or]; omega)) (fr1 164 (by simp only [List.mem_cons, List.not_mem_nil, or_false, not_or]; omega)) (fr1 165 (by simp only [List.mem_cons, List.not_mem_nil, or_false, not_or]; omega))⟩) (fun j hj => fr1 j (by simp only [List.mem_cons, List.not_mem_nil, or_false, not_or]; omega))
                     unfold E_old at h9
                     rw [if_pos (by omega), if_pos (by omega)] at h9
                     exact h9)
              · refine r_bipush (pc' := 82) dX10_old_80 rfl (by decide) ?_
                refine r_iload_n (pc' := 83) dX10_old_82 rfl rfl ?_
                refine r_iadd (pc' := 84) dX10_old_83 rfl ?_
                refine r_goto (tgt := 88) dX10_old_84 rfl ?_
                refine r_iload_n (pc' := 89) dX10_old_88 rfl rfl ?_
                refine r_vv2 (pc' := 92) dX10_old_89 rfl qX3_add lX10_289 z160 rfl rfl rfl rfl (Nat.zero_le _) (Nat.zero_le _) (a_lookAddI hK (by omega) (by omega) (by omega) (fun g1 hK1 fr1 => ?_))
                refine r_aload_n (pc' := 93) dX10_old_92 rfl rfl ?_
                refine r_getr (pc' := 96) dX10_old_93 rfl fX10_71 z0 rfl ?_
                refine r_getf (pc' := 99) (kI := 2) dX10_old_96 rfl fX10_111 z160 rfl rfl hK1.1 ?_
                refine r_reti dX10_old_99 rfl (Or.inl rfl) ?_
                first
                  | exact absurd rfl c45
                  | exact absurd c45 (by decide)
                  | exact absurd rfl c50
                  | exact absurd c50 (by decide)
                  | exact absurd rfl c77
                  | exact absurd c77 (by decide)
                  | (have hok : ((k = 0 ∧ 0 ≤ n ∧ n ≤ 5) ∨ (k = 1 ∧ 1 ≤ n ∧ n ≤ 9)) ∧ ln < 6 := by omega
                     have h9 := h g1 (by simp only [if_pos hok]; exact ⟨TX.fr ⟨t1, t2, t3⟩ (fr1 1 (by simp only [List.mem_cons, List.not_mem_nil, or_false, not_or]; omega)) (fr1 2 (by simp only [List.mem_cons, List.not_mem_nil, or_false, not_or]; omega)), ⟨by rw [fr1 1 (by simp only [List.mem_cons, List.not_mem_nil, or_false, not_or]; omega)]; exact f1, f2⟩, hB.fr2 (fun j a1 a2 => fr1 j (by simp only [List.mem_cons, List.not_mem_nil, or_false, not_or]; omega)), ⟨top, hP.fr (fun j hj => by unfold pastB at hj; exact fr1 j (by simp only [List.mem_cons, List.not_mem_nil, or_false, not_or]; omega))⟩, IMs.fr hI (fun j a1 a2 => fr1 j (by simp only [List.mem_cons, List.not_mem_nil, or_false, not_or]; omega)), ⟨by rw [fr1 0 (by simp only [List.mem_cons, List.not_mem_nil, or_false, not_or]; omega)]; exact sd1, sd2, sd3⟩, (by first | (rw [show oldN k n = (10 + n).toNat from by unfold oldN; rw [if_pos (by omega)]; omega]; exact hK1) | (rw [show oldN k n = n.toNat from by unfold oldN; rw [if_neg (by omega)]]; exact hK1)), hN.fr (fr1 163 (by simp only [List.mem_cons, List.not_mem_nil, or_false, not_or]; omega)) (fr1 164 (by simp only [List.mem_cons, List.not_mem_nil, or_false, not_or]; omega)) (fr1 165 (by simp only [List.mem_cons, List.not_mem_nil, or_false, not_or]; omega))⟩) (fun j hj => fr1 j (by simp only [List.mem_cons, List.not_mem_nil, or_false, not_or]; omega))
                     unfold E_old at h9
                     rw [if_pos (by omega), if_pos (by omega)] at h9
                     exact h9)
            · refine r_ldc (z := -1000000004) (pc' := 70) dX10_old_68 rfl kX10_90 ?_
              refine r_reti dX10_old_70 rfl (Or.inl rfl) ?_
              first
                | exact absurd rfl c45
                | exact absurd c45 (by decide)
                | exact absurd rfl c50
                | exact absurd c50 (by decide)
                | exact absurd rfl c77
                | exact absurd c77 (by decide)
                | (have hno : ¬ (((k = 0 ∧ 0 ≤ n ∧ n ≤ 5) ∨ (k = 1 ∧ 1 ≤ n ∧ n ≤ 9)) ∧ ln < 6) := by omega
                   have h9 := h g (by simp only [if_neg hno]; exact hS) (FrC.rf g)
                   unfold E_old at h9
                   rw [if_pos (by omega), if_neg (by omega)] at h9
                   exact h9)
          · refine r_iload (pc' := 50) dX10_old_48 rfl rfl ?_
            refine r_if_ne (tgt := 56) (pc' := 53) dX10_old_50 rfl rfl (by omega) (fun c50 => ?_) (fun c50 => ?_)
            · refine r_aload_n (pc' := 57) dX10_old_56 rfl rfl ?_
              refine r_getr (pc' := 60) dX10_old_57 rfl fX10_71 z0 rfl ?_
              refine r_getf (pc' := 63) (kI := 2) dX10_old_60 rfl fX10_111 z160 rfl rfl hK.1 ?_
              refine r_bipush (pc' := 65) dX10_old_63 rfl (by decide) ?_
              refine r_icmp_lt (tgt := 71) (pc' := 68) dX10_old_65 rfl rfl (by omega) (by omega) (fun c65 => ?_) (fun c65 => ?_)
              · refine r_aload_n (pc' := 72) dX10_old_71 rfl rfl ?_
                refine r_getr (pc' := 75) dX10_old_72 rfl fX10_71 z0 rfl ?_
                refine r_iload (pc' := 77) dX10_old_75 rfl rfl ?_
                refine r_if_eq (tgt := 87) (pc' := 80) dX10_old_77 rfl rfl (by omega) (fun c77 => ?_) (fun c77 => ?_)
                · refine r_iload_n (pc' := 88) dX10_old_87 rfl rfl ?_
                  refine r_iload_n (pc' := 89) dX10_old_88 rfl rfl ?_
                  refine r_vv2 (pc' := 92) dX10_old_89 rfl qX3_add lX10_289 z160 rfl rfl rfl rfl (Nat.zero_le _) (Nat.zero_le _) (a_lookAddI hK (by omega) (by omega) (by omega) (fun g1 hK1 fr1 => ?_))
                  refine r_aload_n (pc' := 93) dX10_old_92 rfl rfl ?_
                  refine r_getr (pc' := 96) dX10_old_93 rfl fX10_71 z0 rfl ?_
                  refine r_getf (pc' := 99) (kI := 2) dX10_old_96 rfl fX10_111 z160 rfl rfl hK1.1 ?_
                  refine r_reti dX10_old_99 rfl (Or.inl rfl) ?_
                  first
                    | exact absurd rfl c45
                    | exact absurd c45 (by decide)
                    | exact absurd rfl c50
                    | exact absurd c50 (by decide)
                    | exact absurd rfl c77
                    | exact absurd c77 (by decide)
                    | (have hok : ((k = 0 ∧ 0 ≤ n ∧ n ≤ 5) ∨ (k = 1 ∧ 1 ≤ n ∧ n ≤ 9)) ∧ ln < 6 := by omega
                       have h9 := h g1 (by simp only [if_pos hok]; exact ⟨TX.fr ⟨t1, t2, t3⟩ (fr1 1 (by simp only [List.mem_cons, List.not_mem_nil, or_false, not_or]; omega)) (fr1 2 (by simp only [List.mem_cons, List.not_mem_nil, or_false, not_or]; omega)), ⟨by rw [fr1 1 (by simp only [List.mem_cons, List.not_mem_nil, or_false, not_or]; omega)]; exact f1, f2⟩, hB.fr2 (fun j a1 a2 => fr1 j (by simp only [List.mem_cons, List.not_mem_nil, or_false, not_or]; omega)), ⟨top, hP.fr (fun j hj => by unfold pastB at hj; exact fr1 j (by simp only [List.mem_cons, List.not_mem_nil, or_false, not_or]; omega))⟩, IMs.fr hI (fun j a1 a2 => fr1 j (by simp only [List.mem_cons, List.not_mem_nil, or_false, not_or]; omega)), ⟨by rw [fr1 0 (by simp only [List.mem_cons, List.not_mem_nil, or_false, not_or]; omega)]; exact sd1, sd2, sd3⟩, (by first | (rw [show oldN k n = (10 + n).toNat from by unfold oldN; rw [if_pos (by omega)]; omega]; exact hK1) | (rw [show oldN k n = n.toNat from by unfold oldN; rw [if_neg (by omega)]]; exact hK1)), hN.fr (fr1 163 (by simp only [List.mem_cons, List.not_mem_nil, or_false, not_or]; omega)) (fr1 164 (by simp only [List.mem_cons, List.not_mem_nil, or_false, not_or]; omega)) (fr1 165 (by simp only [List.mem_cons, List.not_mem_nil, or_false, not_or]; omega))⟩) (fun j hj => fr1 j (by simp only [List.mem_cons, List.not_mem_nil, or_false, not_or]; omega))
                       unfold E_old at h9
                       rw [if_pos (by omega), if_pos (by omega)] at h9
                       exact h9)
                · refine r_bipush (pc' := 82) dX10_old_80 rfl (by decide) ?_
                  refine r_iload_n (pc' := 83) dX10_old_82 rfl rfl ?_
                  refine r_iadd (pc' := 84) dX10_old_83 rfl ?_
                  refine r_goto (tgt := 88) dX10_old_84 rfl ?_
                  refine r_iload_n (pc' := 89) dX10_old_88 rfl rfl ?_
                  refine r_vv2 (pc' := 92) dX10_old_89 rfl qX3_add lX10_289 z160 rfl rfl rfl rfl (Nat.zero_le _) (Nat.zero_le _) (a_lookAddI hK (by omega) (by omega) (by omega) (fun g1 hK1 fr1 => ?_))
                  refine r_aload_n (pc' := 93) dX10_old_92 rfl rfl ?_
                  refine r_getr (pc' := 96) dX10_old_93 rfl fX10_71 z0 rfl ?_
                  refine r_getf (pc' := 99) (kI := 2) dX10_old_96 rfl fX10_111 z160 rfl rfl hK1.1 ?_
                  refine r_reti dX10_old_99 rfl (Or.inl rfl) ?_
                  first
                    | exact absurd rfl c45
                    | exact absurd c45 (by decide)
                    | exact absurd rfl c50
                    | exact absurd c50 (by decide)
                    | exact absurd rfl c77
                    | exact absurd c77 (by decide)
                    | (have hok : ((k = 0 ∧ 0 ≤ n ∧ n ≤ 5) ∨ (k = 1 ∧ 1 ≤ n ∧ n ≤ 9)) ∧ ln < 6 := by omega
                       have h9 := h g1 (by simp only [if_pos hok]; exact ⟨TX.fr ⟨t1, t2, t3⟩ (fr1 1 (by simp only [List.mem_cons, List.not_mem_nil, or_false, not_or]; omega)) (fr1 2 (by simp only [List.mem_cons, List.not_mem_nil, or_false, not_or]; omega)), ⟨by rw [fr1 1 (by simp only [List.mem_cons, List.not_mem_nil, or_false, not_or]; omega)]; exact f1, f2⟩, hB.fr2 (fun j a1 a2 => fr1 j (by simp only [List.mem_cons, List.not_mem_nil, or_false, not_or]; omega)), ⟨top, hP.fr (fun j hj => by unfold pastB at hj; exact fr1 j (by simp only [List.mem_cons, List.not_mem_nil, or_false, not_or]; omega))⟩, IMs.fr hI (fun j a1 a2 => fr1 j (by simp only [List.mem_cons, List.not_mem_nil, or_false, not_or]; omega)), ⟨by rw [fr1 0 (by simp only [List.mem_cons, List.not_mem_nil, or_false, not_or]; omega)]; exact sd1, sd2, sd3⟩, (by first | (rw [show oldN k n = (10 + n).toNat from by unfold oldN; rw [if_pos (by omega)]; omega]; exact hK1) | (rw [show oldN k n = n.toNat from by unfold oldN; rw [if_neg (by omega)]]; exact hK1)), hN.fr (fr1 163 (by simp only [List.mem_cons, List.not_mem_nil, or_false, not_or]; omega)) (fr1 164 (by simp only [List.mem_cons, List.not_mem_nil, or_false, not_or]; omega)) (fr1 165 (by simp only [List.mem_cons, List.not_mem_nil, or_false, not_or]; omega))⟩) (fun j hj => fr1 j (by simp only [List.mem_cons, List.not_mem_nil, or_false, not_or]; omega))
                       unfold E_old at h9
                       rw [if_pos (by omega), if_pos (by omega)] at h9
                       exact h9)
              · refine r_ldc (z := -1000000004) (pc' := 70) dX10_old_68 rfl kX10_90 ?_
                refine r_reti dX10_old_70 rfl (Or.inl rfl) ?_
                first
                  | exact absurd rfl c45
                  | exact absurd c45 (by decide)
                  | exact absurd rfl c50
                  | exact absurd c50 (by decide)
                  | exact absurd rfl c77
                  | exact absurd c77 (by decide)
                  | (have hno : ¬ (((k = 0 ∧ 0 ≤ n ∧ n ≤ 5) ∨ (k = 1 ∧ 1 ≤ n ∧ n ≤ 9)) ∧ ln < 6) := by omega
                     have h9 := h g (by simp only [if_neg hno]; exact hS) (FrC.rf g)
                     unfold E_old at h9
                     rw [if_pos (by omega), if_neg (by omega)] at h9
                     exact h9)
            · refine r_ldc (z := -1000000002) (pc' := 55) dX10_old_53 rfl kX10_86 ?_
              refine r_reti dX10_old_55 rfl (Or.inl rfl) ?_
              first
                | exact absurd rfl c45
                | exact absurd c45 (by decide)
                | exact absurd rfl c50
                | exact absurd c50 (by decide)
                | exact absurd rfl c77
                | exact absurd c77 (by decide)
                | (have hno : ¬ (((k = 0 ∧ 0 ≤ n ∧ n ≤ 5) ∨ (k = 1 ∧ 1 ≤ n ∧ n ≤ 9)) ∧ ln < 6) := by omega
                   have h9 := h g (by simp only [if_neg hno]; exact hS) (FrC.rf g)
                   unfold E_old at h9
                   rw [if_neg (by omega)] at h9
                   exact h9)
  · refine r_iload_n (pc' := 5) dX10_old_4 rfl rfl ?_
    refine r_if_lt (tgt := 17) (pc' := 8) dX10_old_5 rfl rfl (by omega) (fun c5 => ?_) (fun c5 => ?_)
    · refine r_iconst (pc' := 18) dX10_old_17 rfl ?_
      refine r_istore (pc' := 20) dX10_old_18 rfl rfl ?_
      refine r_iload_n (pc' := 21) dX10_old_20 rfl rfl ?_
      refine r_iconst (pc' := 22) dX10_old_21 rfl ?_
      refine r_icmp_ne (tgt := 40) (pc' := 25) dX10_old_22 rfl rfl (by omega) (by omega) (fun c22 => ?_) (fun c22 => ?_)
      · refine r_iconst (pc' := 41) dX10_old_40 rfl ?_
        refine r_istore (pc' := 43) dX10_old_41 rfl rfl ?_
        refine r_iload (pc' := 45) dX10_old_43 rfl rfl ?_
        refine r_if_ne (tgt := 56) (pc' := 48) dX10_old_45 rfl rfl (by decide) (fun c45 => ?_) (fun c45 => ?_)
        · refine r_aload_n (pc' := 57) dX10_old_56 rfl rfl ?_
          refine r_getr (pc' := 60) dX10_old_57 rfl fX10_71 z0 rfl ?_
          refine r_getf (pc' := 63) (kI := 2) dX10_old_60 rfl fX10_111 z160 rfl rfl hK.1 ?_
          refine r_bipush (pc' := 65) dX10_old_63 rfl (by decide) ?_
          refine r_icmp_lt (tgt := 71) (pc' := 68) dX10_old_65 rfl rfl (by omega) (by omega) (fun c65 => ?_) (fun c65 => ?_)
          · refine r_aload_n (pc' := 72) dX10_old_71 rfl rfl ?_
            refine r_getr (pc' := 75) dX10_old_72 rfl fX10_71 z0 rfl ?_
            refine r_iload (pc' := 77) dX10_old_75 rfl rfl ?_
            refine r_if_eq (tgt := 87) (pc' := 80) dX10_old_77 rfl rfl (by omega) (fun c77 => ?_) (fun c77 => ?_)
            · refine r_iload_n (pc' := 88) dX10_old_87 rfl rfl ?_
              refine r_iload_n (pc' := 89) dX10_old_88 rfl rfl ?_
              refine r_vv2 (pc' := 92) dX10_old_89 rfl qX3_add lX10_289 z160 rfl rfl rfl rfl (Nat.zero_le _) (Nat.zero_le _) (a_lookAddI hK (by omega) (by omega) (by omega) (fun g1 hK1 fr1 => ?_))
              refine r_aload_n (pc' := 93) dX10_old_92 rfl rfl ?_
              refine r_getr (pc' := 96) dX10_old_93 rfl fX10_71 z0 rfl ?_
              refine r_getf (pc' := 99) (kI := 2) dX10_old_96 rfl fX10_111 z160 rfl rfl hK1.1 ?_
              refine r_reti dX10_old_99 rfl (Or.inl rfl) ?_
              first
                | exact absurd rfl c45
                | exact absurd c45 (by decide)
                | exact absurd rfl c50
                | exact absurd c50 (by decide)
                | exact absurd rfl c77
                | exact absurd c77 (by decide)
                | (have hok : ((k = 0 ∧ 0 ≤ n ∧ n ≤ 5) ∨ (k = 1 ∧ 1 ≤ n ∧ n ≤ 9)) ∧ ln < 6 := by omega
                   have h9 := h g1 (by simp only [if_pos hok]; exact ⟨TX.fr ⟨t1, t2, t3⟩ (fr1 1 (by simp only [List.mem_cons, List.not_mem_nil, or_false, not_or]; omega)) (fr1 2 (by simp only [List.mem_cons, List.not_mem_nil, or_false, not_or]; omega)), ⟨by rw [fr1 1 (by simp only [List.mem_cons, List.not_mem_nil, or_false, not_or]; omega)]; exact f1, f2⟩, hB.fr2 (fun j a1 a2 => fr1 j (by simp only [List.mem_cons, List.not_mem_nil, or_false, not_or]; omega)), ⟨top, hP.fr (fun j hj => by unfold pastB at hj; exact fr1 j (by simp only [List.mem_cons, List.not_mem_nil, or_false, not_or]; omega))⟩, IMs.fr hI (fun j a1 a2 => fr1 j (by simp only [List.mem_cons, List.not_mem_nil, or_false, not_or]; omega)), ⟨by rw [fr1 0 (by simp only [List.mem_cons, List.not_mem_nil, or_false, not_or]; omega)]; exact sd1, sd2, sd3⟩, (by first | (rw [show oldN k n = (10 + n).toNat from by unfold oldN; rw [if_pos (by omega)]; omega]; exact hK1) | (rw [show oldN k n = n.toNat from by unfold oldN; rw [if_neg (by omega)]]; exact hK1)), hN.fr (fr1 163 (by simp only [List.mem_cons, List.not_mem_nil, or_false, not_or]; omega)) (fr1 164 (by simp only [List.mem_cons, List.not_mem_nil, or_false, not_or]; omega)) (fr1 165 (by simp only [List.mem_cons, List.not_mem_nil, or_false, not_or]; omega))⟩) (fun j hj => fr1 j (by simp only [List.mem_cons, List.not_mem_nil, or_false, not_or]; omega))
                   unfold E_old at h9
                   rw [if_pos (by omega), if_pos (by omega)] at h9
                   exact h9)
            · refine r_bipush (pc' := 82) dX10_old_80 rfl (by decide) ?_
              refine r_iload_n (pc' := 83) dX10_old_82 rfl rfl ?_
              refine r_iadd (pc' := 84) dX10_old_83 rfl ?_
              refine r_goto (tgt := 88) dX10_old_84 rfl ?_
              refine r_iload_n (pc' := 89) dX10_old_88 rfl rfl ?_
              refine r_vv2 (pc' := 92) dX10_old_89 rfl qX3_add lX10_289 z160 rfl rfl rfl rfl (Nat.zero_le _) (Nat.zero_le _) (a_lookAddI hK (by omega) (by omega) (by omega) (fun g1 hK1 fr1 => ?_))
              refine r_aload_n (pc' := 93) dX10_old_92 rfl rfl ?_
              refine r_getr (pc' := 96) dX10_old_93 rfl fX10_71 z0 rfl ?_
              refine r_getf (pc' := 99) (kI := 2) dX10_old_96 rfl fX10_111 z160 rfl rfl hK1.1 ?_
              refine r_reti dX10_old_99 rfl (Or.inl rfl) ?_
              first
                | exact absurd rfl c45
                | exact absurd c45 (by decide)
                | exact absurd rfl c50
                | exact absurd c50 (by decide)
                | exact absurd rfl c77
                | exact absurd c77 (by decide)
                | (have hok : ((k = 0 ∧ 0 ≤ n ∧ n ≤ 5) ∨ (k = 1 ∧ 1 ≤ n ∧ n ≤ 9)) ∧ ln < 6 := by omega
                   have h9 := h g1 (by simp only [if_pos hok]; exact ⟨TX.fr ⟨t1, t2, t3⟩ (fr1 1 (by simp only [List.mem_cons, List.not_mem_nil, or_false, not_or]; omega)) (fr1 2 (by simp only [List.mem_cons, List.not_mem_nil, or_false, not_or]; omega)), ⟨by rw [fr1 1 (by simp only [List.mem_cons, List.not_mem_nil, or_false, not_or]; omega)]; exact f1, f2⟩, hB.fr2 (fun j a1 a2 => fr1 j (by simp only [List.mem_cons, List.not_mem_nil, or_false, not_or]; omega)), ⟨top, hP.fr (fun j hj => by unfold pastB at hj; exact fr1 j (by simp only [List.mem_cons, List.not_mem_nil, or_false, not_or]; omega))⟩, IMs.fr hI (fun j a1 a2 => fr1 j (by simp only [List.mem_cons, List.not_mem_nil, or_false, not_or]; omega)), ⟨by rw [fr1 0 (by simp only [List.mem_cons, List.not_mem_nil, or_false, not_or]; omega)]; exact sd1, sd2, sd3⟩, (by first | (rw [show oldN k n = (10 + n).toNat from by unfold oldN; rw [if_pos (by omega)]; omega]; exact hK1) | (rw [show oldN k n = n.toNat from by unfold oldN; rw [if_neg (by omega)]]; exact hK1)), hN.fr (fr1 163 (by simp only [List.mem_cons, List.not_mem_nil, or_false, not_or]; omega)) (fr1 164 (by simp only [List.mem_cons, List.not_mem_nil, or_false, not_or]; omega)) (fr1 165 (by simp only [List.mem_cons, List.not_mem_nil, or_false, not_or]; omega))⟩) (fun j hj => fr1 j (by simp only [List.mem_cons, List.not_mem_nil, or_false, not_or]; omega))
                   unfold E_old at h9
                   rw [if_pos (by omega), if_pos (by omega)] at h9
                   exact h9)
          · refine r_ldc (z := -1000000004) (pc' := 70) dX10_old_68 rfl kX10_90 ?_
            refine r_reti dX10_old_70 rfl (Or.inl rfl) ?_
            first
              | exact absurd rfl c45
              | exact absurd c45 (by decide)
              | exact absurd rfl c50
              | exact absurd c50 (by decide)
              | exact absurd rfl c77
              | exact absurd c77 (by decide)
              | (have hno : ¬ (((k = 0 ∧ 0 ≤ n ∧ n ≤ 5) ∨ (k = 1 ∧ 1 ≤ n ∧ n ≤ 9)) ∧ ln < 6) := by omega
                 have h9 := h g (by simp only [if_neg hno]; exact hS) (FrC.rf g)
                 unfold E_old at h9
                 rw [if_pos (by omega), if_neg (by omega)] at h9
                 exact h9)
        · refine r_iload (pc' := 50) dX10_old_48 rfl rfl ?_
          refine r_if_ne (tgt := 56) (pc' := 53) dX10_old_50 rfl rfl (by omega) (fun c50 => ?_) (fun c50 => ?_)
          · refine r_aload_n (pc' := 57) dX10_old_56 rfl rfl ?_
            refine r_getr (pc' := 60) dX10_old_57 rfl fX10_71 z0 rfl ?_
            refine r_getf (pc' := 63) (kI := 2) dX10_old_60 rfl fX10_111 z160 rfl rfl hK.1 ?_
            refine r_bipush (pc' := 65) dX10_old_63 rfl (by decide) ?_
            refine r_icmp_lt (tgt := 71) (pc' := 68) dX10_old_65 rfl rfl (by omega) (by omega) (fun c65 => ?_) (fun c65 => ?_)
            · refine r_aload_n (pc' := 72) dX10_old_71 rfl rfl ?_
              refine r_getr (pc' := 75) dX10_old_72 rfl fX10_71 z0 rfl ?_
              refine r_iload (pc' := 77) dX10_old_75 rfl rfl ?_
              refine r_if_eq (tgt := 87) (pc' := 80) dX10_old_77 rfl rfl (by omega) (fun c77 => ?_) (fun c77 => ?_)
              · refine r_iload_n (pc' := 88) dX10_old_87 rfl rfl ?_
                refine r_iload_n (pc' := 89) dX10_old_88 rfl rfl ?_
                refine r_vv2 (pc' := 92) dX10_old_89 rfl qX3_add lX10_289 z160 rfl rfl rfl rfl (Nat.zero_le _) (Nat.zero_le _) (a_lookAddI hK (by omega) (by omega) (by omega) (fun g1 hK1 fr1 => ?_))
                refine r_aload_n (pc' := 93) dX10_old_92 rfl rfl ?_
                refine r_getr (pc' := 96) dX10_old_93 rfl fX10_71 z0 rfl ?_
                refine r_getf (pc' := 99) (kI := 2) dX10_old_96 rfl fX10_111 z160 rfl rfl hK1.1 ?_
                refine r_reti dX10_old_99 rfl (Or.inl rfl) ?_
                first
                  | exact absurd rfl c45
                  | exact absurd c45 (by decide)
                  | exact absurd rfl c50
                  | exact absurd c50 (by decide)
                  | exact absurd rfl c77
                  | exact absurd c77 (by decide)
                  | (have hok : ((k = 0 ∧ 0 ≤ n ∧ n ≤ 5) ∨ (k = 1 ∧ 1 ≤ n ∧ n ≤ 9)) ∧ ln < 6 := by omega
                     have h9 := h g1 (by simp only [if_pos hok]; exact ⟨TX.fr ⟨t1, t2, t3⟩ (fr1 1 (by simp only [List.mem_cons, List.not_mem_nil, or_false, not_or]; omega)) (fr1 2 (by simp only [List.mem_cons, List.not_mem_nil, or_false, not_or]; omega)), ⟨by rw [fr1 1 (by simp only [List.mem_cons, List.not_mem_nil, or_false, not_or]; omega)]; exact f1, f2⟩, hB.fr2 (fun j a1 a2 => fr1 j (by simp only [List.mem_cons, List.not_mem_nil, or_false, not_or]; omega)), ⟨top, hP.fr (fun j hj => by unfold pastB at hj; exact fr1 j (by simp only [List.mem_cons, List.not_mem_nil, or_false, not_or]; omega))⟩, IMs.fr hI (fun j a1 a2 => fr1 j (by simp only [List.mem_cons, List.not_mem_nil, or_false, not_or]; omega)), ⟨by rw [fr1 0 (by simp only [List.mem_cons, List.not_mem_nil, or_false, not_or]; omega)]; exact sd1, sd2, sd3⟩, (by first | (rw [show oldN k n = (10 + n).toNat from by unfold oldN; rw [if_pos (by omega)]; omega]; exact hK1) | (rw [show oldN k n = n.toNat from by unfold oldN; rw [if_neg (by omega)]]; exact hK1)), hN.fr (fr1 163 (by simp only [List.mem_cons, List.not_mem_nil, or_false, not_or]; omega)) (fr1 164 (by simp only [List.mem_cons, List.not_mem_nil, or_false, not_or]; omega)) (fr1 165 (by simp only [List.mem_cons, List.not_mem_nil, or_false, not_or]; omega))⟩) (fun j hj => fr1 j (by simp only [List.mem_cons, List.not_mem_nil, or_false, not_or]; omega))
                     unfold E_old at h9
                     rw [if_pos (by omega), if_pos (by omega)] at h9
                     exact h9)
              · refine r_bipush (pc' := 82) dX10_old_80 rfl (by decide) ?_
                refine r_iload_n (pc' := 83) dX10_old_82 rfl rfl ?_
                refine r_iadd (pc' := 84) dX10_old_83 rfl ?_
                refine r_goto (tgt := 88) dX10_old_84 rfl ?_
                refine r_iload_n (pc' := 89) dX10_old_88 rfl rfl ?_
                refine r_vv2 (pc' := 92) dX10_old_89 rfl qX3_add lX10_289 z160 rfl rfl rfl rfl (Nat.zero_le _) (Nat.zero_le _) (a_lookAddI hK (by omega) (by omega) (by omega) (fun g1 hK1 fr1 => ?_))
                refine r_aload_n (pc' := 93) dX10_old_92 rfl rfl ?_
                refine r_getr (pc' := 96) dX10_old_93 rfl fX10_71 z0 rfl ?_
                refine r_getf (pc' := 99) (kI := 2) dX10_old_96 rfl fX10_111 z160 rfl rfl hK1.1 ?_
                refine r_reti dX10_old_99 rfl (Or.inl rfl) ?_
                first
                  | exact absurd rfl c45
                  | exact absurd c45 (by decide)
                  | exact absurd rfl c50
                  | exact absurd c50 (by decide)
                  | exact absurd rfl c77
                  | exact absurd c77 (by decide)
                  | (have hok : ((k = 0 ∧ 0 ≤ n ∧ n ≤ 5) ∨ (k = 1 ∧ 1 ≤ n ∧ n ≤ 9)) ∧ ln < 6 := by omega
                     have h9 := h g1 (by simp only [if_pos hok]; exact ⟨TX.fr ⟨t1, t2, t3⟩ (fr1 1 (by simp only [List.mem_cons, List.not_mem_nil, or_false, not_or]; omega)) (fr1 2 (by simp only [List.mem_cons, List.not_mem_nil, or_false, not_or]; omega)), ⟨by rw [fr1 1 (by simp only [List.mem_cons, List.not_mem_nil, or_false, not_or]; omega)]; exact f1, f2⟩, hB.fr2 (fun j a1 a2 => fr1 j (by simp only [List.mem_cons, List.not_mem_nil, or_false, not_or]; omega)), ⟨top, hP.fr (fun j hj => by unfold pastB at hj; exact fr1 j (by simp only [List.mem_cons, List.not_mem_nil, or_false, not_or]; omega))⟩, IMs.fr hI (fun j a1 a2 => fr1 j (by simp only [List.mem_cons, List.not_mem_nil, or_false, not_or]; omega)), ⟨by rw [fr1 0 (by simp only [List.mem_cons, List.not_mem_nil, or_false, not_or]; omega)]; exact sd1, sd2, sd3⟩, (by first | (rw [show oldN k n = (10 + n).toNat from by unfold oldN; rw [if_pos (by omega)]; omega]; exact hK1) | (rw [show oldN k n = n.toNat from by unfold oldN; rw [if_neg (by omega)]]; exact hK1)), hN.fr (fr1 163 (by simp only [List.mem_cons, List.not_mem_nil, or_false, not_or]; omega)) (fr1 164 (by simp only [List.mem_cons, List.not_mem_nil, or_false, not_or]; omega)) (fr1 165 (by simp only [List.mem_cons, List.not_mem_nil, or_false, not_or]; omega))⟩) (fun j hj => fr1 j (by simp only [List.mem_cons, List.not_mem_nil, or_false, not_or]; omega))
                     unfold E_old at h9
                     rw [if_pos (by omega), if_pos (by omega)] at h9
                     exact h9)
            · refine r_ldc (z := -1000000004) (pc' := 70) dX10_old_68 rfl kX10_90 ?_
              refine r_reti dX10_old_70 rfl (Or.inl rfl) ?_
              first
                | exact absurd rfl c45
                | exact absurd c45 (by decide)
                | exact absurd rfl c50
                | exact absurd c50 (by decide)
                | exact absurd rfl c77
                | exact absurd c77 (by decide)
                | (have hno : ¬ (((k = 0 ∧ 0 ≤ n ∧ n ≤ 5) ∨ (k = 1 ∧ 1 ≤ n ∧ n ≤ 9)) ∧ ln < 6) := by omega
                   have h9 := h g (by simp only [if_neg hno]; exact hS) (FrC.rf g)
                   unfold E_old at h9
                   rw [if_pos (by omega), if_neg (by omega)] at h9
                   exact h9)
          · refine r_ldc (z := -1000000002) (pc' := 55) dX10_old_53 rfl kX10_86 ?_
            refine r_reti dX10_old_55 rfl (Or.inl rfl) ?_
            first
              | exact absurd rfl c45
              | exact absurd c45 (by decide)
              | exact absurd rfl c50
              | exact absurd c50 (by decide)
              | exact absurd rfl c77
              | exact absurd c77 (by decide)
              | (have hno : ¬ (((k = 0 ∧ 0 ≤ n ∧ n ≤ 5) ∨ (k = 1 ∧ 1 ≤ n ∧ n ≤ 9)) ∧ ln < 6) := by omega
                 have h9 := h g (by simp only [if_neg hno]; exact hS) (FrC.rf g)
                 unfold E_old at h9
                 rw [if_neg (by omega)] at h9
                 exact h9)
      · refine r_iload_n (pc' := 26) dX10_old_25 rfl rfl ?_
        refine r_iconst (pc' := 27) dX10_old_26 rfl ?_
        refine r_icmp_lt (tgt := 40) (pc' := 30) dX10_old_27 rfl rfl (by omega) (by omega) (fun c27 => ?_) (fun c27 => ?_)
        · refine r_iconst (pc' := 41) dX10_old_40 rfl ?_
          refine r_istore (pc' := 43) dX10_old_41 rfl rfl ?_
          refine r_iload (pc' := 45) dX10_old_43 rfl rfl ?_
          refine r_if_ne (tgt := 56) (pc' := 48) dX10_old_45 rfl rfl (by decide) (fun c45 => ?_) (fun c45 => ?_)
          · refine r_aload_n (pc' := 57) dX10_old_56 rfl rfl ?_
            refine r_getr (pc' := 60) dX10_old_57 rfl fX10_71 z0 rfl ?_
            refine r_getf (pc' := 63) (kI := 2) dX10_old_60 rfl fX10_111 z160 rfl rfl hK.1 ?_
            refine r_bipush (pc' := 65) dX10_old_63 rfl (by decide) ?_
            refine r_icmp_lt (tgt := 71) (pc' := 68) dX10_old_65 rfl rfl (by omega) (by omega) (fun c65 => ?_) (fun c65 => ?_)
            · refine r_aload_n (pc' := 72) dX10_old_71 rfl rfl ?_
              refine r_getr (pc' := 75) dX10_old_72 rfl fX10_71 z0 rfl ?_
              refine r_iload (pc' := 77) dX10_old_75 rfl rfl ?_
              refine r_if_eq (tgt := 87) (pc' := 80) dX10_old_77 rfl rfl (by omega) (fun c77 => ?_) (fun c77 => ?_)
              · refine r_iload_n (pc' := 88) dX10_old_87 rfl rfl ?_
                refine r_iload_n (pc' := 89) dX10_old_88 rfl rfl ?_
                refine r_vv2 (pc' := 92) dX10_old_89 rfl qX3_add lX10_289 z160 rfl rfl rfl rfl (Nat.zero_le _) (Nat.zero_le _) (a_lookAddI hK (by omega) (by omega) (by omega) (fun g1 hK1 fr1 => ?_))
                refine r_aload_n (pc' := 93) dX10_old_92 rfl rfl ?_
                refine r_getr (pc' := 96) dX10_old_93 rfl fX10_71 z0 rfl ?_
                refine r_getf (pc' := 99) (kI := 2) dX10_old_96 rfl fX10_111 z160 rfl rfl hK1.1 ?_
                refine r_reti dX10_old_99 rfl (Or.inl rfl) ?_
                first
                  | exact absurd rfl c45
                  | exact absurd c45 (by decide)
                  | exact absurd rfl c50
                  | exact absurd c50 (by decide)
                  | exact absurd rfl c77
                  | exact absurd c77 (by decide)
                  | (have hok : ((k = 0 ∧ 0 ≤ n ∧ n ≤ 5) ∨ (k = 1 ∧ 1 ≤ n ∧ n ≤ 9)) ∧ ln < 6 := by omega
                     have h9 := h g1 (by simp only [if_pos hok]; exact ⟨TX.fr ⟨t1, t2, t3⟩ (fr1 1 (by simp only [List.mem_cons, List.not_mem_nil, or_false, not_or]; omega)) (fr1 2 (by simp only [List.mem_cons, List.not_mem_nil, or_false, not_or]; omega)), ⟨by rw [fr1 1 (by simp only [List.mem_cons, List.not_mem_nil, or_false, not_or]; omega)]; exact f1, f2⟩, hB.fr2 (fun j a1 a2 => fr1 j (by simp only [List.mem_cons, List.not_mem_nil, or_false, not_or]; omega)), ⟨top, hP.fr (fun j hj => by unfold pastB at hj; exact fr1 j (by simp only [List.mem_cons, List.not_mem_nil, or_false, not_or]; omega))⟩, IMs.fr hI (fun j a1 a2 => fr1 j (by simp only [List.mem_cons, List.not_mem_nil, or_false, not_or]; omega)), ⟨by rw [fr1 0 (by simp only [List.mem_cons, List.not_mem_nil, or_false, not_or]; omega)]; exact sd1, sd2, sd3⟩, (by first | (rw [show oldN k n = (10 + n).toNat from by unfold oldN; rw [if_pos (by omega)]; omega]; exact hK1) | (rw [show oldN k n = n.toNat from by unfold oldN; rw [if_neg (by omega)]]; exact hK1)), hN.fr (fr1 163 (by simp only [List.mem_cons, List.not_mem_nil, or_false, not_or]; omega)) (fr1 164 (by simp only [List.mem_cons, List.not_mem_nil, or_false, not_or]; omega)) (fr1 165 (by simp only [List.mem_cons, List.not_mem_nil, or_false, not_or]; omega))⟩) (fun j hj => fr1 j (by simp only [List.mem_cons, List.not_mem_nil, or_false, not_or]; omega))
                     unfold E_old at h9
                     rw [if_pos (by omega), if_pos (by omega)] at h9
                     exact h9)
              · refine r_bipush (pc' := 82) dX10_old_80 rfl (by decide) ?_
                refine r_iload_n (pc' := 83) dX10_old_82 rfl rfl ?_
                refine r_iadd (pc' := 84) dX10_old_83 rfl ?_
                refine r_goto (tgt := 88) dX10_old_84 rfl ?_
                refine r_iload_n (pc' := 89) dX10_old_88 rfl rfl ?_
                refine r_vv2 (pc' := 92) dX10_old_89 rfl qX3_add lX10_289 z160 rfl rfl rfl rfl (Nat.zero_le _) (Nat.zero_le _) (a_lookAddI hK (by omega) (by omega) (by omega) (fun g1 hK1 fr1 => ?_))
                refine r_aload_n (pc' := 93) dX10_old_92 rfl rfl ?_
                refine r_getr (pc' := 96) dX10_old_93 rfl fX10_71 z0 rfl ?_
                refine r_getf (pc' := 99) (kI := 2) dX10_old_96 rfl fX10_111 z160 rfl rfl hK1.1 ?_
                refine r_reti dX10_old_99 rfl (Or.inl rfl) ?_
                first
                  | exact absurd rfl c45
                  | exact absurd c45 (by decide)
                  | exact absurd rfl c50
                  | exact absurd c50 (by decide)
                  | exact absurd rfl c77
                  | exact absurd c77 (by decide)
                  | (have hok : ((k = 0 ∧ 0 ≤ n ∧ n ≤ 5) ∨ (k = 1 ∧ 1 ≤ n ∧ n ≤ 9)) ∧ ln < 6 := by omega
                     have h9 := h g1 (by simp only [if_pos hok]; exact ⟨TX.fr ⟨t1, t2, t3⟩ (fr1 1 (by simp only [List.mem_cons, List.not_mem_nil, or_false, not_or]; omega)) (fr1 2 (by simp only [List.mem_cons, List.not_mem_nil, or_false, not_or]; omega)), ⟨by rw [fr1 1 (by simp only [List.mem_cons, List.not_mem_nil, or_false, not_or]; omega)]; exact f1, f2⟩, hB.fr2 (fun j a1 a2 => fr1 j (by simp only [List.mem_cons, List.not_mem_nil, or_false, not_or]; omega)), ⟨top, hP.fr (fun j hj => by unfold pastB at hj; exact fr1 j (by simp only [List.mem_cons, List.not_mem_nil, or_false, not_or]; omega))⟩, IMs.fr hI (fun j a1 a2 => fr1 j (by simp only [List.mem_cons, List.not_mem_nil, or_false, not_or]; omega)), ⟨by rw [fr1 0 (by simp only [List.mem_cons, List.not_mem_nil, or_false, not_or]; omega)]; exact sd1, sd2, sd3⟩, (by first | (rw [show oldN k n = (10 + n).toNat from by unfold oldN; rw [if_pos (by omega)]; omega]; exact hK1) | (rw [show oldN k n = n.toNat from by unfold oldN; rw [if_neg (by omega)]]; exact hK1)), hN.fr (fr1 163 (by simp only [List.mem_cons, List.not_mem_nil, or_false, not_or]; omega)) (fr1 164 (by simp only [List.mem_cons, List.not_mem_nil, or_false, not_or]; omega)) (fr1 165 (by simp only [List.mem_cons, List.not_mem_nil, or_false, not_or]; omega))⟩) (fun j hj => fr1 j (by simp only [List.mem_cons, List.not_mem_nil, or_false, not_or]; omega))
                     unfold E_old at h9
                     rw [if_pos (by omega), if_pos (by omega)] at h9
                     exact h9)
            · refine r_ldc (z := -1000000004) (pc' := 70) dX10_old_68 rfl kX10_90 ?_
              refine r_reti dX10_old_70 rfl (Or.inl rfl) ?_
              first
                | exact absurd rfl c45
                | exact absurd c45 (by decide)
                | exact absurd rfl c50
                | exact absurd c50 (by decide)
                | exact absurd rfl c77
                | exact absurd c77 (by decide)
                | (have hno : ¬ (((k = 0 ∧ 0 ≤ n ∧ n ≤ 5) ∨ (k = 1 ∧ 1 ≤ n ∧ n ≤ 9)) ∧ ln < 6) := by omega
                   have h9 := h g (by simp only [if_neg hno]; exact hS) (FrC.rf g)
                   unfold E_old at h9
                   rw [if_pos (by omega), if_neg (by omega)] at h9
                   exact h9)
          · refine r_iload (pc' := 50) dX10_old_48 rfl rfl ?_
            refine r_if_ne (tgt := 56) (pc' := 53) dX10_old_50 rfl rfl (by omega) (fun c50 => ?_) (fun c50 => ?_)
            · refine r_aload_n (pc' := 57) dX10_old_56 rfl rfl ?_
              refine r_getr (pc' := 60) dX10_old_57 rfl fX10_71 z0 rfl ?_
              refine r_getf (pc' := 63) (kI := 2) dX10_old_60 rfl fX10_111 z160 rfl rfl hK.1 ?_
              refine r_bipush (pc' := 65) dX10_old_63 rfl (by decide) ?_
              refine r_icmp_lt (tgt := 71) (pc' := 68) dX10_old_65 rfl rfl (by omega) (by omega) (fun c65 => ?_) (fun c65 => ?_)
              · refine r_aload_n (pc' := 72) dX10_old_71 rfl rfl ?_
                refine r_getr (pc' := 75) dX10_old_72 rfl fX10_71 z0 rfl ?_
                refine r_iload (pc' := 77) dX10_old_75 rfl rfl ?_
                refine r_if_eq (tgt := 87) (pc' := 80) dX10_old_77 rfl rfl (by omega) (fun c77 => ?_) (fun c77 => ?_)
                · refine r_iload_n (pc' := 88) dX10_old_87 rfl rfl ?_
                  refine r_iload_n (pc' := 89) dX10_old_88 rfl rfl ?_
                  refine r_vv2 (pc' := 92) dX10_old_89 rfl qX3_add lX10_289 z160 rfl rfl rfl rfl (Nat.zero_le _) (Nat.zero_le _) (a_lookAddI hK (by omega) (by omega) (by omega) (fun g1 hK1 fr1 => ?_))
                  refine r_aload_n (pc' := 93) dX10_old_92 rfl rfl ?_
                  refine r_getr (pc' := 96) dX10_old_93 rfl fX10_71 z0 rfl ?_
                  refine r_getf (pc' := 99) (kI := 2) dX10_old_96 rfl fX10_111 z160 rfl rfl hK1.1 ?_
                  refine r_reti dX10_old_99 rfl (Or.inl rfl) ?_
                  first
                    | exact absurd rfl c45
                    | exact absurd c45 (by decide)
                    | exact absurd rfl c50
                    | exact absurd c50 (by decide)
                    | exact absurd rfl c77
                    | exact absurd c77 (by decide)
                    | (have hok : ((k = 0 ∧ 0 ≤ n ∧ n ≤ 5) ∨ (k = 1 ∧ 1 ≤ n ∧ n ≤ 9)) ∧ ln < 6 := by omega
                       have h9 := h g1 (by simp only [if_pos hok]; exact ⟨TX.fr ⟨t1, t2, t3⟩ (fr1 1 (by simp only [List.mem_cons, List.not_mem_nil, or_false, not_or]; omega)) (fr1 2 (by simp only [List.mem_cons, List.not_mem_nil, or_false, not_or]; omega)), ⟨by rw [fr1 1 (by simp only [List.mem_cons, List.not_mem_nil, or_false, not_or]; omega)]; exact f1, f2⟩, hB.fr2 (fun j a1 a2 => fr1 j (by simp only [List.mem_cons, List.not_mem_nil, or_false, not_or]; omega)), ⟨top, hP.fr (fun j hj => by unfold pastB at hj; exact fr1 j (by simp only [List.mem_cons, List.not_mem_nil, or_false, not_or]; omega))⟩, IMs.fr hI (fun j a1 a2 => fr1 j (by simp only [List.mem_cons, List.not_mem_nil, or_false, not_or]; omega)), ⟨by rw [fr1 0 (by simp only [List.mem_cons, List.not_mem_nil, or_false, not_or]; omega)]; exact sd1, sd2, sd3⟩, (by first | (rw [show oldN k n = (10 + n).toNat from by unfold oldN; rw [if_pos (by omega)]; omega]; exact hK1) | (rw [show oldN k n = n.toNat from by unfold oldN; rw [if_neg (by omega)]]; exact hK1)), hN.fr (fr1 163 (by simp only [List.mem_cons, List.not_mem_nil, or_false, not_or]; omega)) (fr1 164 (by simp only [List.mem_cons, List.not_mem_nil, or_false, not_or]; omega)) (fr1 165 (by simp only [List.mem_cons, List.not_mem_nil, or_false, not_or]; omega))⟩) (fun j hj => fr1 j (by simp only [List.mem_cons, List.not_mem_nil, or_false, not_or]; omega))
                       unfold E_old at h9
                       rw [if_pos (by omega), if_pos (by omega)] at h9
                       exact h9)
                · refine r_bipush (pc' := 82) dX10_old_80 rfl (by decide) ?_
                  refine r_iload_n (pc' := 83) dX10_old_82 rfl rfl ?_
                  refine r_iadd (pc' := 84) dX10_old_83 rfl ?_
                  refine r_goto (tgt := 88) dX10_old_84 rfl ?_
                  refine r_iload_n (pc' := 89) dX10_old_88 rfl rfl ?_
                  refine r_vv2 (pc' := 92) dX10_old_89 rfl qX3_add lX10_289 z160 rfl rfl rfl rfl (Nat.zero_le _) (Nat.zero_le _) (a_lookAddI hK (by omega) (by omega) (by omega) (fun g1 hK1 fr1 => ?_))
                  refine r_aload_n (pc' := 93) dX10_old_92 rfl rfl ?_
                  refine r_getr (pc' := 96) dX10_old_93 rfl fX10_71 z0 rfl ?_
                  refine r_getf (pc' := 99) (kI := 2) dX10_old_96 rfl fX10_111 z160 rfl rfl hK1.1 ?_
                  refine r_reti dX10_old_99 rfl (Or.inl rfl) ?_
                  first
                    | exact absurd rfl c45
                    | exact absurd c45 (by decide)
                    | exact absurd rfl c50
                    | exact absurd c50 (by decide)
                    | exact absurd rfl c77
                    | exact absurd c77 (by decide)
                    | (have hok : ((k = 0 ∧ 0 ≤ n ∧ n ≤ 5) ∨ (k = 1 ∧ 1 ≤ n ∧ n ≤ 9)) ∧ ln < 6 := by omega
                       have h9 := h g1 (by simp only [if_pos hok]; exact ⟨TX.fr ⟨t1, t2, t3⟩ (fr1 1 (by simp only [List.mem_cons, List.not_mem_nil, or_false, not_or]; omega)) (fr1 2 (by simp only [List.mem_cons, List.not_mem_nil, or_false, not_or]; omega)), ⟨by rw [fr1 1 (by simp only [List.mem_cons, List.not_mem_nil, or_false, not_or]; omega)]; exact f1, f2⟩, hB.fr2 (fun j a1 a2 => fr1 j (by simp only [List.mem_cons, List.not_mem_nil, or_false, not_or]; omega)), ⟨top, hP.fr (fun j hj => by unfold pastB at hj; exact fr1 j (by simp only [List.mem_cons, List.not_mem_nil, or_false, not_or]; omega))⟩, IMs.fr hI (fun j a1 a2 => fr1 j (by simp only [List.mem_cons, List.not_mem_nil, or_false, not_or]; omega)), ⟨by rw [fr1 0 (by simp only [List.mem_cons, List.not_mem_nil, or_false, not_or]; omega)]; exact sd1, sd2, sd3⟩, (by first | (rw [show oldN k n = (10 + n).toNat from by unfold oldN; rw [if_pos (by omega)]; omega]; exact hK1) | (rw [show oldN k n = n.toNat from by unfold oldN; rw [if_neg (by omega)]]; exact hK1)), hN.fr (fr1 163 (by simp only [List.mem_cons, List.not_mem_nil, or_false, not_or]; omega)) (fr1 164 (by simp only [List.mem_cons, List.not_mem_nil, or_false, not_or]; omega)) (fr1 165 (by simp only [List.mem_cons, List.not_mem_nil, or_false, not_or]; omega))⟩) (fun j hj => fr1 j (by simp only [List.mem_cons, List.not_mem_nil, or_false, not_or]; omega))
                       unfold E_old at h9
                       rw [if_pos (by omega), if_pos (by omega)] at h9
                       exact h9)
              · refine r_ldc (z := -1000000004) (pc' := 70) dX10_old_68 rfl kX10_90 ?_
                refine r_reti dX10_old_70 rfl (Or.inl rfl) ?_
                first
                  | exact absurd rfl c45
                  | exact absurd c45 (by decide)
                  | exact absurd rfl c50
                  | exact absurd c50 (by decide)
                  | exact absurd rfl c77
                  | exact absurd c77 (by decide)
                  | (have hno : ¬ (((k = 0 ∧ 0 ≤ n ∧ n ≤ 5) ∨ (k = 1 ∧ 1 ≤ n ∧ n ≤ 9)) ∧ ln < 6) := by omega
                     have h9 := h g (by simp only [if_neg hno]; exact hS) (FrC.rf g)
                     unfold E_old at h9
                     rw [if_pos (by omega), if_neg (by omega)] at h9
                     exact h9)
            · refine r_ldc (z := -1000000002) (pc' := 55) dX10_old_53 rfl kX10_86 ?_
              refine r_reti dX10_old_55 rfl (Or.inl rfl) ?_
              first
                | exact absurd rfl c45
                | exact absurd c45 (by decide)
                | exact absurd rfl c50
                | exact absurd c50 (by decide)
                | exact absurd rfl c77
                | exact absurd c77 (by decide)
                | (have hno : ¬ (((k = 0 ∧ 0 ≤ n ∧ n ≤ 5) ∨ (k = 1 ∧ 1 ≤ n ∧ n ≤ 9)) ∧ ln < 6) := by omega
                   have h9 := h g (by simp only [if_neg hno]; exact hS) (FrC.rf g)
                   unfold E_old at h9
                   rw [if_neg (by omega)] at h9
                   exact h9)
        · refine r_iload_n (pc' := 31) dX10_old_30 rfl rfl ?_
          refine r_bipush (pc' := 33) dX10_old_31 rfl (by decide) ?_
          refine r_icmp_gt (tgt := 40) (pc' := 36) dX10_old_33 rfl rfl (by omega) (by omega) (fun c33 => ?_) (fun c33 => ?_)
          · refine r_iconst (pc' := 41) dX10_old_40 rfl ?_
            refine r_istore (pc' := 43) dX10_old_41 rfl rfl ?_
            refine r_iload (pc' := 45) dX10_old_43 rfl rfl ?_
            refine r_if_ne (tgt := 56) (pc' := 48) dX10_old_45 rfl rfl (by decide) (fun c45 => ?_) (fun c45 => ?_)
            · refine r_aload_n (pc' := 57) dX10_old_56 rfl rfl ?_
              refine r_getr (pc' := 60) dX10_old_57 rfl fX10_71 z0 rfl ?_
              refine r_getf (pc' := 63) (kI := 2) dX10_old_60 rfl fX10_111 z160 rfl rfl hK.1 ?_
              refine r_bipush (pc' := 65) dX10_old_63 rfl (by decide) ?_
              refine r_icmp_lt (tgt := 71) (pc' := 68) dX10_old_65 rfl rfl (by omega) (by omega) (fun c65 => ?_) (fun c65 => ?_)
              · refine r_aload_n (pc' := 72) dX10_old_71 rfl rfl ?_
                refine r_getr (pc' := 75) dX10_old_72 rfl fX10_71 z0 rfl ?_
                refine r_iload (pc' := 77) dX10_old_75 rfl rfl ?_
                refine r_if_eq (tgt := 87) (pc' := 80) dX10_old_77 rfl rfl (by omega) (fun c77 => ?_) (fun c77 => ?_)
                · refine r_iload_n (pc' := 88) dX10_old_87 rfl rfl ?_
                  refine r_iload_n (pc' := 89) dX10_old_88 rfl rfl ?_
                  refine r_vv2 (pc' := 92) dX10_old_89 rfl qX3_add lX10_289 z160 rfl rfl rfl rfl (Nat.zero_le _) (Nat.zero_le _) (a_lookAddI hK (by omega) (by omega) (by omega) (fun g1 hK1 fr1 => ?_))
                  refine r_aload_n (pc' := 93) dX10_old_92 rfl rfl ?_
                  refine r_getr (pc' := 96) dX10_old_93 rfl fX10_71 z0 rfl ?_
                  refine r_getf (pc' := 99) (kI := 2) dX10_old_96 rfl fX10_111 z160 rfl rfl hK1.1 ?_
                  refine r_reti dX10_old_99 rfl (Or.inl rfl) ?_
                  first
                    | exact absurd rfl c45
                    | exact absurd c45 (by decide)
                    | exact absurd rfl c50
                    | exact absurd c50 (by decide)
                    | exact absurd rfl c77
                    | exact absurd c77 (by decide)
                    | (have hok : ((k = 0 ∧ 0 ≤ n ∧ n ≤ 5) ∨ (k = 1 ∧ 1 ≤ n ∧ n ≤ 9)) ∧ ln < 6 := by omega
                       have h9 := h g1 (by simp only [if_pos hok]; exact ⟨TX.fr ⟨t1, t2, t3⟩ (fr1 1 (by simp only [List.mem_cons, List.not_mem_nil, or_false, not_or]; omega)) (fr1 2 (by simp only [List.mem_cons, List.not_mem_nil, or_false, not_or]; omega)), ⟨by rw [fr1 1 (by simp only [List.mem_cons, List.not_mem_nil, or_false, not_or]; omega)]; exact f1, f2⟩, hB.fr2 (fun j a1 a2 => fr1 j (by simp only [List.mem_cons, List.not_mem_nil, or_false, not_or]; omega)), ⟨top, hP.fr (fun j hj => by unfold pastB at hj; exact fr1 j (by simp only [List.mem_cons, List.not_mem_nil, or_false, not_or]; omega))⟩, IMs.fr hI (fun j a1 a2 => fr1 j (by simp only [List.mem_cons, List.not_mem_nil, or_false, not_or]; omega)), ⟨by rw [fr1 0 (by simp only [List.mem_cons, List.not_mem_nil, or_false, not_or]; omega)]; exact sd1, sd2, sd3⟩, (by first | (rw [show oldN k n = (10 + n).toNat from by unfold oldN; rw [if_pos (by omega)]; omega]; exact hK1) | (rw [show oldN k n = n.toNat from by unfold oldN; rw [if_neg (by omega)]]; exact hK1)), hN.fr (fr1 163 (by simp only [List.mem_cons, List.not_mem_nil, or_false, not_or]; omega)) (fr1 164 (by simp only [List.mem_cons, List.not_mem_nil, or_false, not_or]; omega)) (fr1 165 (by simp only [List.mem_cons, List.not_mem_nil, or_false, not_or]; omega))⟩) (fun j hj => fr1 j (by simp only [List.mem_cons, List.not_mem_nil, or_false, not_or]; omega))
                       unfold E_old at h9
                       rw [if_pos (by omega), if_pos (by omega)] at h9
                       exact h9)
                · refine r_bipush (pc' := 82) dX10_old_80 rfl (by decide) ?_
                  refine r_iload_n (pc' := 83) dX10_old_82 rfl rfl ?_
                  refine r_iadd (pc' := 84) dX10_old_83 rfl ?_
                  refine r_goto (tgt := 88) dX10_old_84 rfl ?_
                  refine r_iload_n (pc' := 89) dX10_old_88 rfl rfl ?_
                  refine r_vv2 (pc' := 92) dX10_old_89 rfl qX3_add lX10_289 z160 rfl rfl rfl rfl (Nat.zero_le _) (Nat.zero_le _) (a_lookAddI hK (by omega) (by omega) (by omega) (fun g1 hK1 fr1 => ?_))
                  refine r_aload_n (pc' := 93) dX10_old_92 rfl rfl ?_
                  refine r_getr (pc' := 96) dX10_old_93 rfl fX10_71 z0 rfl ?_
                  refine r_getf (pc' := 99) (kI := 2) dX10_old_96 rfl fX10_111 z160 rfl rfl hK1.1 ?_
                  refine r_reti dX10_old_99 rfl (Or.inl rfl) ?_
                  first
                    | exact absurd rfl c45
                    | exact absurd c45 (by decide)
                    | exact absurd rfl c50
                    | exact absurd c50 (by decide)
                    | exact absurd rfl c77
                    | exact absurd c77 (by decide)
                    | (have hok : ((k = 0 ∧ 0 ≤ n ∧ n ≤ 5) ∨ (k = 1 ∧ 1 ≤ n ∧ n ≤ 9)) ∧ ln < 6 := by omega
                       have h9 := h g1 (by simp only [if_pos hok]; exact ⟨TX.fr ⟨t1, t2, t3⟩ (fr1 1 (by simp only [List.mem_cons, List.not_mem_nil, or_false, not_or]; omega)) (fr1 2 (by simp only [List.mem_cons, List.not_mem_nil, or_false, not_or]; omega)), ⟨by rw [fr1 1 (by simp only [List.mem_cons, List.not_mem_nil, or_false, not_or]; omega)]; exact f1, f2⟩, hB.fr2 (fun j a1 a2 => fr1 j (by simp only [List.mem_cons, List.not_mem_nil, or_false, not_or]; omega)), ⟨top, hP.fr (fun j hj => by unfold pastB at hj; exact fr1 j (by simp only [List.mem_cons, List.not_mem_nil, or_false, not_or]; omega))⟩, IMs.fr hI (fun j a1 a2 => fr1 j (by simp only [List.mem_cons, List.not_mem_nil, or_false, not_or]; omega)), ⟨by rw [fr1 0 (by simp only [List.mem_cons, List.not_mem_nil, or_false, not_or]; omega)]; exact sd1, sd2, sd3⟩, (by first | (rw [show oldN k n = (10 + n).toNat from by unfold oldN; rw [if_pos (by omega)]; omega]; exact hK1) | (rw [show oldN k n = n.toNat from by unfold oldN; rw [if_neg (by omega)]]; exact hK1)), hN.fr (fr1 163 (by simp only [List.mem_cons, List.not_mem_nil, or_false, not_or]; omega)) (fr1 164 (by simp only [List.mem_cons, List.not_mem_nil, or_false, not_or]; omega)) (fr1 165 (by simp only [List.mem_cons, List.not_mem_nil, or_false, not_or]; omega))⟩) (fun j hj => fr1 j (by simp only [List.mem_cons, List.not_mem_nil, or_false, not_or]; omega))
                       unfold E_old at h9
                       rw [if_pos (by omega), if_pos (by omega)] at h9
                       exact h9)
              · refine r_ldc (z := -1000000004) (pc' := 70) dX10_old_68 rfl kX10_90 ?_
                refine r_reti dX10_old_70 rfl (Or.inl rfl) ?_
                first
                  | exact absurd rfl c45
                  | exact absurd c45 (by decide)
                  | exact absurd rfl c50
                  | exact absurd c50 (by decide)
                  | exact absurd rfl c77
                  | exact absurd c77 (by decide)
                  | (have hno : ¬ (((k = 0 ∧ 0 ≤ n ∧ n ≤ 5) ∨ (k = 1 ∧ 1 ≤ n ∧ n ≤ 9)) ∧ ln < 6) := by omega
                     have h9 := h g (by simp only [if_neg hno]; exact hS) (FrC.rf g)
                     unfold E_old at h9
                     rw [if_pos (by omega), if_neg (by omega)] at h9
                     exact h9)
            · refine r_iload (pc' := 50) dX10_old_48 rfl rfl ?_
              refine r_if_ne (tgt := 56) (pc' := 53) dX10_old_50 rfl rfl (by omega) (fun c50 => ?_) (fun c50 => ?_)
              · refine r_aload_n (pc' := 57) dX10_old_56 rfl rfl ?_
                refine r_getr (pc' := 60) dX10_old_57 rfl fX10_71 z0 rfl ?_
                refine r_getf (pc' := 63) (kI := 2) dX10_old_60 rfl fX10_111 z160 rfl rfl hK.1 ?_
                refine r_bipush (pc' := 65) dX10_old_63 rfl (by decide) ?_
                refine r_icmp_lt (tgt := 71) (pc' := 68) dX10_old_65 rfl rfl (by omega) (by omega) (fun c65 => ?_) (fun c65 => ?_)
                · refine r_aload_n (pc' := 72) dX10_old_71 rfl rfl ?_
                  refine r_getr (pc' := 75) dX10_old_72 rfl fX10_71 z0 rfl ?_
                  refine r_iload (pc' := 77) dX10_old_75 rfl rfl ?_
                  refine r_if_eq (tgt := 87) (pc' := 80) dX10_old_77 rfl rfl (by omega) (fun c77 => ?_) (fun c77 => ?_)
                  · refine r_iload_n (pc' := 88) dX10_old_87 rfl rfl ?_
                    refine r_iload_n (pc' := 89) dX10_old_88 rfl rfl ?_
                    refine r_vv2 (pc' := 92) dX10_old_89 rfl qX3_add lX10_289 z160 rfl rfl rfl rfl (Nat.zero_le _) (Nat.zero_le _) (a_lookAddI hK (by omega) (by omega) (by omega) (fun g1 hK1 fr1 => ?_))
                    refine r_aload_n (pc' := 93) dX10_old_92 rfl rfl ?_
                    refine r_getr (pc' := 96) dX10_old_93 rfl fX10_71 z0 rfl ?_
                    refine r_getf (pc' := 99) (kI := 2) dX10_old_96 rfl fX10_111 z160 rfl rfl hK1.1 ?_
                    refine r_reti dX10_old_99 rfl (Or.inl rfl) ?_
                    first
                      | exact absurd rfl c45
                      | exact absurd c45 (by decide)
                      | exact absurd rfl c50
                      | exact absurd c50 (by decide)
                      | exact absurd rfl c77
                      | exact absurd c77 (by decide)
                      | (have hok : ((k = 0 ∧ 0 ≤ n ∧ n ≤ 5) ∨ (k = 1 ∧ 1 ≤ n ∧ n ≤ 9)) ∧ ln < 6 := by omega
                         have h9 := h g1 (by simp only [if_pos hok]; exact ⟨TX.fr ⟨t1, t2, t3⟩ (fr1 1 (by simp only [List.mem_cons, List.not_mem_nil, or_false, not_or]; omega)) (fr1 2 (by simp only [List.mem_cons, List.not_mem_nil, or_false, not_or]; omega)), ⟨by rw [fr1 1 (by simp only [List.mem_cons, List.not_mem_nil, or_false, not_or]; omega)]; exact f1, f2⟩, hB.fr2 (fun j a1 a2 => fr1 j (by simp only [List.mem_cons, List.not_mem_nil, or_false, not_or]; omega)), ⟨top, hP.fr (fun j hj => by unfold pastB at hj; exact fr1 j (by simp only [List.mem_cons, List.not_mem_nil, or_false, not_or]; omega))⟩, IMs.fr hI (fun j a1 a2 => fr1 j (by simp only [List.mem_cons, List.not_mem_nil, or_false, not_or]; omega)), ⟨by rw [fr1 0 (by simp only [List.mem_cons, List.not_mem_nil, or_false, not_or]; omega)]; exact sd1, sd2, sd3⟩, (by first | (rw [show oldN k n = (10 + n).toNat from by unfold oldN; rw [if_pos (by omega)]; omega]; exact hK1) | (rw [show oldN k n = n.toNat from by unfold oldN; rw [if_neg (by omega)]]; exact hK1)), hN.fr (fr1 163 (by simp only [List.mem_cons, List.not_mem_nil, or_false, not_or]; omega)) (fr1 164 (by simp only [List.mem_cons, List.not_mem_nil, or_false, not_or]; omega)) (fr1 165 (by simp only [List.mem_cons, List.not_mem_nil, or_false, not_or]; omega))⟩) (fun j hj => fr1 j (by simp only [List.mem_cons, List.not_mem_nil, or_false, not_or]; omega))
                         unfold E_old at h9
                         rw [if_pos (by omega), if_pos (by omega)] at h9
                         exact h9)
                  · refine r_bipush (pc' := 82) dX10_old_80 rfl (by decide) ?_
                    refine r_iload_n (pc' := 83) dX10_old_82 rfl rfl ?_
                    refine r_iadd (pc' := 84) dX10_old_83 rfl ?_
                    refine r_goto (tgt := 88) dX10_old_84 rfl ?_
                    refine r_iload_n (pc' := 89) dX10_old_88 rfl rfl ?_
                    refine r_vv2 (pc' := 92) dX10_old_89 rfl qX3_add lX10_289 z160 rfl rfl rfl rfl (Nat.zero_le _) (Nat.zero_le _) (a_lookAddI hK (by omega) (by omega) (by omega) (fun g1 hK1 fr1 => ?_))
                    refine r_aload_n (pc' := 93) dX10_old_92 rfl rfl ?_
                    refine r_getr (pc' := 96) dX10_old_93 rfl fX10_71 z0 rfl ?_
                    refine r_getf (pc' := 99) (kI := 2) dX10_old_96 rfl fX10_111 z160 rfl rfl hK1.1 ?_
                    refine r_reti dX10_old_99 rfl (Or.inl rfl) ?_
                    first
                      | exact absurd rfl c45
                      | exact absurd c45 (by decide)
                      | exact absurd rfl c50
                      | exact absurd c50 (by decide)
                      | exact absurd rfl c77
                      | exact absurd c77 (by decide)
                      | (have hok : ((k = 0 ∧ 0 ≤ n ∧ n ≤ 5) ∨ (k = 1 ∧ 1 ≤ n ∧ n ≤ 9)) ∧ ln < 6 := by omega
                         have h9 := h g1 (by simp only [if_pos hok]; exact ⟨TX.fr ⟨t1, t2, t3⟩ (fr1 1 (by simp only [List.mem_cons, List.not_mem_nil, or_false, not_or]; omega)) (fr1 2 (by simp only [List.mem_cons, List.not_mem_nil, or_false, not_or]; omega)), ⟨by rw [fr1 1 (by simp only [List.mem_cons, List.not_mem_nil, or_false, not_or]; omega)]; exact f1, f2⟩, hB.fr2 (fun j a1 a2 => fr1 j (by simp only [List.mem_cons, List.not_mem_nil, or_false, not_or]; omega)), ⟨top, hP.fr (fun j hj => by unfold pastB at hj; exact fr1 j (by simp only [List.mem_cons, List.not_mem_nil, or_false, not_or]; omega))⟩, IMs.fr hI (fun j a1 a2 => fr1 j (by simp only [List.mem_cons, List.not_mem_nil, or_false, not_or]; omega)), ⟨by rw [fr1 0 (by simp only [List.mem_cons, List.not_mem_nil, or_false, not_or]; omega)]; exact sd1, sd2, sd3⟩, (by first | (rw [show oldN k n = (10 + n).toNat from by unfold oldN; rw [if_pos (by omega)]; omega]; exact hK1) | (rw [show oldN k n = n.toNat from by unfold oldN; rw [if_neg (by omega)]]; exact hK1)), hN.fr (fr1 163 (by simp only [List.mem_cons, List.not_mem_nil, or_false, not_or]; omega)) (fr1 164 (by simp only [List.mem_cons, List.not_mem_nil, or_false, not_or]; omega)) (fr1 165 (by simp only [List.mem_cons, List.not_mem_nil, or_false, not_or]; omega))⟩) (fun j hj => fr1 j (by simp only [List.mem_cons, List.not_mem_nil, or_false, not_or]; omega))
                         unfold E_old at h9
                         rw [if_pos (by omega), if_pos (by omega)] at h9
                         exact h9)
                · refine r_ldc (z := -1000000004) (pc' := 70) dX10_old_68 rfl kX10_90 ?_
                  refine r_reti dX10_old_70 rfl (Or.inl rfl) ?_
                  first
                    | exact absurd rfl c45
                    | exact absurd c45 (by decide)
                    | exact absurd rfl c50
                    | exact absurd c50 (by decide)
                    | exact absurd rfl c77
                    | exact absurd c77 (by decide)
                    | (have hno : ¬ (((k = 0 ∧ 0 ≤ n ∧ n ≤ 5) ∨ (k = 1 ∧ 1 ≤ n ∧ n ≤ 9)) ∧ ln < 6) := by omega
                       have h9 := h g (by simp only [if_neg hno]; exact hS) (FrC.rf g)
                       unfold E_old at h9
                       rw [if_pos (by omega), if_neg (by omega)] at h9
                       exact h9)
              · refine r_ldc (z := -1000000002) (pc' := 55) dX10_old_53 rfl kX10_86 ?_
                refine r_reti dX10_old_55 rfl (Or.inl rfl) ?_
                first
                  | exact absurd rfl c45
                  | exact absurd c45 (by decide)
                  | exact absurd rfl c50
                  | exact absurd c50 (by decide)
                  | exact absurd rfl c77
                  | exact absurd c77 (by decide)
                  | (have hno : ¬ (((k = 0 ∧ 0 ≤ n ∧ n ≤ 5) ∨ (k = 1 ∧ 1 ≤ n ∧ n ≤ 9)) ∧ ln < 6) := by omega
                     have h9 := h g (by simp only [if_neg hno]; exact hS) (FrC.rf g)
                     unfold E_old at h9
                     rw [if_neg (by omega)] at h9
                     exact h9)
          · refine r_iconst (pc' := 37) dX10_old_36 rfl ?_
            refine r_goto (tgt := 41) dX10_old_37 rfl ?_
            refine r_istore (pc' := 43) dX10_old_41 rfl rfl ?_
            refine r_iload (pc' := 45) dX10_old_43 rfl rfl ?_
            refine r_if_ne (tgt := 56) (pc' := 48) dX10_old_45 rfl rfl (by decide) (fun c45 => ?_) (fun c45 => ?_)
            · refine r_aload_n (pc' := 57) dX10_old_56 rfl rfl ?_
              refine r_getr (pc' := 60) dX10_old_57 rfl fX10_71 z0 rfl ?_
              refine r_getf (pc' := 63) (kI := 2) dX10_old_60 rfl fX10_111 z160 rfl rfl hK.1 ?_
              refine r_bipush (pc' := 65) dX10_old_63 rfl (by decide) ?_
              refine r_icmp_lt (tgt := 71) (pc' := 68) dX10_old_65 rfl rfl (by omega) (by omega) (fun c65 => ?_) (fun c65 => ?_)
              · refine r_aload_n (pc' := 72) dX10_old_71 rfl rfl ?_
                refine r_getr (pc' := 75) dX10_old_72 rfl fX10_71 z0 rfl ?_
                refine r_iload (pc' := 77) dX10_old_75 rfl rfl ?_
                refine r_if_eq (tgt := 87) (pc' := 80) dX10_old_77 rfl rfl (by omega) (fun c77 => ?_) (fun c77 => ?_)
                · refine r_iload_n (pc' := 88) dX10_old_87 rfl rfl ?_
                  refine r_iload_n (pc' := 89) dX10_old_88 rfl rfl ?_
                  refine r_vv2 (pc' := 92) dX10_old_89 rfl qX3_add lX10_289 z160 rfl rfl rfl rfl (Nat.zero_le _) (Nat.zero_le _) (a_lookAddI hK (by omega) (by omega) (by omega) (fun g1 hK1 fr1 => ?_))
                  refine r_aload_n (pc' := 93) dX10_old_92 rfl rfl ?_
                  refine r_getr (pc' := 96) dX10_old_93 rfl fX10_71 z0 rfl ?_
                  refine r_getf (pc' := 99) (kI := 2) dX10_old_96 rfl fX10_111 z160 rfl rfl hK1.1 ?_
                  refine r_reti dX10_old_99 rfl (Or.inl rfl) ?_
                  first
                    | exact absurd rfl c45
                    | exact absurd c45 (by decide)
                    | exact absurd rfl c50
                    | exact absurd c50 (by decide)
                    | exact absurd rfl c77
                    | exact absurd c77 (by decide)
                    | (have hok : ((k = 0 ∧ 0 ≤ n ∧ n ≤ 5) ∨ (k = 1 ∧ 1 ≤ n ∧ n ≤ 9)) ∧ ln < 6 := by omega
                       have h9 := h g1 (by simp only [if_pos hok]; exact ⟨TX.fr ⟨t1, t2, t3⟩ (fr1 1 (by simp only [List.mem_cons, List.not_mem_nil, or_false, not_or]; omega)) (fr1 2 (by simp only [List.mem_cons, List.not_mem_nil, or_false, not_or]; omega)), ⟨by rw [fr1 1 (by simp only [List.mem_cons, List.not_mem_nil, or_false, not_or]; omega)]; exact f1, f2⟩, hB.fr2 (fun j a1 a2 => fr1 j (by simp only [List.mem_cons, List.not_mem_nil, or_false, not_or]; omega)), ⟨top, hP.fr (fun j hj => by unfold pastB at hj; exact fr1 j (by simp only [List.mem_cons, List.not_mem_nil, or_false, not_or]; omega))⟩, IMs.fr hI (fun j a1 a2 => fr1 j (by simp only [List.mem_cons, List.not_mem_nil, or_false, not_or]; omega)), ⟨by rw [fr1 0 (by simp only [List.mem_cons, List.not_mem_nil, or_false, not_or]; omega)]; exact sd1, sd2, sd3⟩, (by first | (rw [show oldN k n = (10 + n).toNat from by unfold oldN; rw [if_pos (by omega)]; omega]; exact hK1) | (rw [show oldN k n = n.toNat from by unfold oldN; rw [if_neg (by omega)]]; exact hK1)), hN.fr (fr1 163 (by simp only [List.mem_cons, List.not_mem_nil, or_false, not_or]; omega)) (fr1 164 (by simp only [List.mem_cons, List.not_mem_nil, or_false, not_or]; omega)) (fr1 165 (by simp only [List.mem_cons, List.not_mem_nil, or_false, not_or]; omega))⟩) (fun j hj => fr1 j (by simp only [List.mem_cons, List.not_mem_nil, or_false, not_or]; omega))
                       unfold E_old at h9
                       rw [if_pos (by omega), if_pos (by omega)] at h9
                       exact h9)
                · refine r_bipush (pc' := 82) dX10_old_80 rfl (by decide) ?_
                  refine r_iload_n (pc' := 83) dX10_old_82 rfl rfl ?_
                  refine r_iadd (pc' := 84) dX10_old_83 rfl ?_
                  refine r_goto (tgt := 88) dX10_old_84 rfl ?_
                  refine r_iload_n (pc' := 89) dX10_old_88 rfl rfl ?_
                  refine r_vv2 (pc' := 92) dX10_old_89 rfl qX3_add lX10_289 z160 rfl rfl rfl rfl (Nat.zero_le _) (Nat.zero_le _) (a_lookAddI hK (by omega) (by omega) (by omega) (fun g1 hK1 fr1 => ?_))
                  refine r_aload_n (pc' := 93) dX10_old_92 rfl rfl ?_
                  refine r_getr (pc' := 96) dX10_old_93 rfl fX10_71 z0 rfl ?_
                  refine r_getf (pc' := 99) (kI := 2) dX10_old_96 rfl fX10_111 z160 rfl rfl hK1.1 ?_
                  refine r_reti dX10_old_99 rfl (Or.inl rfl) ?_
                  first
                    | exact absurd rfl c45
                    | exact absurd c45 (by decide)
                    | exact absurd rfl c50
                    | exact absurd c50 (by decide)
                    | exact absurd rfl c77
                    | exact absurd c77 (by decide)
                    | (have hok : ((k = 0 ∧ 0 ≤ n ∧ n ≤ 5) ∨ (k = 1 ∧ 1 ≤ n ∧ n ≤ 9)) ∧ ln < 6 := by omega
                       have h9 := h g1 (by simp only [if_pos hok]; exact ⟨TX.fr ⟨t1, t2, t3⟩ (fr1 1 (by simp only [List.mem_cons, List.not_mem_nil, or_false, not_or]; omega)) (fr1 2 (by simp only [List.mem_cons, List.not_mem_nil, or_false, not_or]; omega)), ⟨by rw [fr1 1 (by simp only [List.mem_cons, List.not_mem_nil, or_false, not_or]; omega)]; exact f1, f2⟩, hB.fr2 (fun j a1 a2 => fr1 j (by simp only [List.mem_cons, List.not_mem_nil, or_false, not_or]; omega)), ⟨top, hP.fr (fun j hj => by unfold pastB at hj; exact fr1 j (by simp only [List.mem_cons, List.not_mem_nil, or_false, not_or]; omega))⟩, IMs.fr hI (fun j a1 a2 => fr1 j (by simp only [List.mem_cons, List.not_mem_nil, or_false, not_or]; omega)), ⟨by rw [fr1 0 (by simp only [List.mem_cons, List.not_mem_nil, or_false, not_or]; omega)]; exact sd1, sd2, sd3⟩, (by first | (rw [show oldN k n = (10 + n).toNat from by unfold oldN; rw [if_pos (by omega)]; omega]; exact hK1) | (rw [show oldN k n = n.toNat from by unfold oldN; rw [if_neg (by omega)]]; exact hK1)), hN.fr (fr1 163 (by simp only [List.mem_cons, List.not_mem_nil, or_false, not_or]; omega)) (fr1 164 (by simp only [List.mem_cons, List.not_mem_nil, or_false, not_or]; omega)) (fr1 165 (by simp only [List.mem_cons, List.not_mem_nil, or_false, not_or]; omega))⟩) (fun j hj => fr1 j (by simp only [List.mem_cons, List.not_mem_nil, or_false, not_or]; omega))
                       unfold E_old at h9
                       rw [if_pos (by omega), if_pos (by omega)] at h9
                       exact h9)
              · refine r_ldc (z := -1000000004) (pc' := 70) dX10_old_68 rfl kX10_90 ?_
                refine r_reti dX10_old_70 rfl (Or.inl rfl) ?_
                first
                  | exact absurd rfl c45
                  | exact absurd c45 (by decide)
                  | exact absurd rfl c50
                  | exact absurd c50 (by decide)
                  | exact absurd rfl c77
                  | exact absurd c77 (by decide)
                  | (have hno : ¬ (((k = 0 ∧ 0 ≤ n ∧ n ≤ 5) ∨ (k = 1 ∧ 1 ≤ n ∧ n ≤ 9)) ∧ ln < 6) := by omega
                     have h9 := h g (by simp only [if_neg hno]; exact hS) (FrC.rf g)
                     unfold E_old at h9
                     rw [if_pos (by omega), if_neg (by omega)] at h9
                     exact h9)
            · refine r_iload (pc' := 50) dX10_old_48 rfl rfl ?_
              refine r_if_ne (tgt := 56) (pc' := 53) dX10_old_50 rfl rfl (by omega) (fun c50 => ?_) (fun c50 => ?_)
              · refine r_aload_n (pc' := 57) dX10_old_56 rfl rfl ?_
                refine r_getr (pc' := 60) dX10_old_57 rfl fX10_71 z0 rfl ?_
                refine r_getf (pc' := 63) (kI := 2) dX10_old_60 rfl fX10_111 z160 rfl rfl hK.1 ?_
                refine r_bipush (pc' := 65) dX10_old_63 rfl (by decide) ?_
                refine r_icmp_lt (tgt := 71) (pc' := 68) dX10_old_65 rfl rfl (by omega) (by omega) (fun c65 => ?_) (fun c65 => ?_)
                · refine r_aload_n (pc' := 72) dX10_old_71 rfl rfl ?_
                  refine r_getr (pc' := 75) dX10_old_72 rfl fX10_71 z0 rfl ?_
                  refine r_iload (pc' := 77) dX10_old_75 rfl rfl ?_
                  refine r_if_eq (tgt := 87) (pc' := 80) dX10_old_77 rfl rfl (by omega) (fun c77 => ?_) (fun c77 => ?_)
                  · refine r_iload_n (pc' := 88) dX10_old_87 rfl rfl ?_
                    refine r_iload_n (pc' := 89) dX10_old_88 rfl rfl ?_
                    refine r_vv2 (pc' := 92) dX10_old_89 rfl qX3_add lX10_289 z160 rfl rfl rfl rfl (Nat.zero_le _) (Nat.zero_le _) (a_lookAddI hK (by omega) (by omega) (by omega) (fun g1 hK1 fr1 => ?_))
                    refine r_aload_n (pc' := 93) dX10_old_92 rfl rfl ?_
                    refine r_getr (pc' := 96) dX10_old_93 rfl fX10_71 z0 rfl ?_
                    refine r_getf (pc' := 99) (kI := 2) dX10_old_96 rfl fX10_111 z160 rfl rfl hK1.1 ?_
                    refine r_reti dX10_old_99 rfl (Or.inl rfl) ?_
                    first
                      | exact absurd rfl c45
                      | exact absurd c45 (by decide)
                      | exact absurd rfl c50
                      | exact absurd c50 (by decide)
                      | exact absurd rfl c77
                      | exact absurd c77 (by decide)
                      | (have hok : ((k = 0 ∧ 0 ≤ n ∧ n ≤ 5) ∨ (k = 1 ∧ 1 ≤ n ∧ n ≤ 9)) ∧ ln < 6 := by omega
                         have h9 := h g1 (by simp only [if_pos hok]; exact ⟨TX.fr ⟨t1, t2, t3⟩ (fr1 1 (by simp only [List.mem_cons, List.not_mem_nil, or_false, not_or]; omega)) (fr1 2 (by simp only [List.mem_cons, List.not_mem_nil, or_false, not_or]; omega)), ⟨by rw [fr1 1 (by simp only [List.mem_cons, List.not_mem_nil, or_false, not_or]; omega)]; exact f1, f2⟩, hB.fr2 (fun j a1 a2 => fr1 j (by simp only [List.mem_cons, List.not_mem_nil, or_false, not_or]; omega)), ⟨top, hP.fr (fun j hj => by unfold pastB at hj; exact fr1 j (by simp only [List.mem_cons, List.not_mem_nil, or_false, not_or]; omega))⟩, IMs.fr hI (fun j a1 a2 => fr1 j (by simp only [List.mem_cons, List.not_mem_nil, or_false, not_or]; omega)), ⟨by rw [fr1 0 (by simp only [List.mem_cons, List.not_mem_nil, or_false, not_or]; omega)]; exact sd1, sd2, sd3⟩, (by first | (rw [show oldN k n = (10 + n).toNat from by unfold oldN; rw [if_pos (by omega)]; omega]; exact hK1) | (rw [show oldN k n = n.toNat from by unfold oldN; rw [if_neg (by omega)]]; exact hK1)), hN.fr (fr1 163 (by simp only [List.mem_cons, List.not_mem_nil, or_false, not_or]; omega)) (fr1 164 (by simp only [List.mem_cons, List.not_mem_nil, or_false, not_or]; omega)) (fr1 165 (by simp only [List.mem_cons, List.not_mem_nil, or_false, not_or]; omega))⟩) (fun j hj => fr1 j (by simp only [List.mem_cons, List.not_mem_nil, or_false, not_or]; omega))
                         unfold E_old at h9
                         rw [if_pos (by omega), if_pos (by omega)] at h9
                         exact h9)
                  · refine r_bipush (pc' := 82) dX10_old_80 rfl (by decide) ?_
                    refine r_iload_n (pc' := 83) dX10_old_82 rfl rfl ?_
                    refine r_iadd (pc' := 84) dX10_old_83 rfl ?_
                    refine r_goto (tgt := 88) dX10_old_84 rfl ?_
                    refine r_iload_n (pc' := 89) dX10_old_88 rfl rfl ?_
                    refine r_vv2 (pc' := 92) dX10_old_89 rfl qX3_add lX10_289 z160 rfl rfl rfl rfl (Nat.zero_le _) (Nat.zero_le _) (a_lookAddI hK (by omega) (by omega) (by omega) (fun g1 hK1 fr1 => ?_))
                    refine r_aload_n (pc' := 93) dX10_old_92 rfl rfl ?_
                    refine r_getr (pc' := 96) dX10_old_93 rfl fX10_71 z0 rfl ?_
                    refine r_getf (pc' := 99) (kI := 2) dX10_old_96 rfl fX10_111 z160 rfl rfl hK1.1 ?_
                    refine r_reti dX10_old_99 rfl (Or.inl rfl) ?_
                    first
                      | exact absurd rfl c45
                      | exact absurd c45 (by decide)
                      | exact absurd rfl c50
                      | exact absurd c50 (by decide)
                      | exact absurd rfl c77
                      | exact absurd c77 (by decide)
                      | (have hok : ((k = 0 ∧ 0 ≤ n ∧ n ≤ 5) ∨ (k = 1 ∧ 1 ≤ n ∧ n ≤ 9)) ∧ ln < 6 := by omega
                         have h9 := h g1 (by simp only [if_pos hok]; exact ⟨TX.fr ⟨t1, t2, t3⟩ (fr1 1 (by simp only [List.mem_cons, List.not_mem_nil, or_false, not_or]; omega)) (fr1 2 (by simp only [List.mem_cons, List.not_mem_nil, or_false, not_or]; omega)), ⟨by rw [fr1 1 (by simp only [List.mem_cons, List.not_mem_nil, or_false, not_or]; omega)]; exact f1, f2⟩, hB.fr2 (fun j a1 a2 => fr1 j (by simp only [List.mem_cons, List.not_mem_nil, or_false, not_or]; omega)), ⟨top, hP.fr (fun j hj => by unfold pastB at hj; exact fr1 j (by simp only [List.mem_cons, List.not_mem_nil, or_false, not_or]; omega))⟩, IMs.fr hI (fun j a1 a2 => fr1 j (by simp only [List.mem_cons, List.not_mem_nil, or_false, not_or]; omega)), ⟨by rw [fr1 0 (by simp only [List.mem_cons, List.not_mem_nil, or_false, not_or]; omega)]; exact sd1, sd2, sd3⟩, (by first | (rw [show oldN k n = (10 + n).toNat from by unfold oldN; rw [if_pos (by omega)]; omega]; exact hK1) | (rw [show oldN k n = n.toNat from by unfold oldN; rw [if_neg (by omega)]]; exact hK1)), hN.fr (fr1 163 (by simp only [List.mem_cons, List.not_mem_nil, or_false, not_or]; omega)) (fr1 164 (by simp only [List.mem_cons, List.not_mem_nil, or_false, not_or]; omega)) (fr1 165 (by simp only [List.mem_cons, List.not_mem_nil, or_false, not_or]; omega))⟩) (fun j hj => fr1 j (by simp only [List.mem_cons, List.not_mem_nil, or_false, not_or]; omega))
                         unfold E_old at h9
                         rw [if_pos (by omega), if_pos (by omega)] at h9
                         exact h9)
                · refine r_ldc (z := -1000000004) (pc' := 70) dX10_old_68 rfl kX10_90 ?_
                  refine r_reti dX10_old_70 rfl (Or.inl rfl) ?_
                  first
                    | exact absurd rfl c45
                    | exact absurd c45 (by decide)
                    | exact absurd rfl c50
                    | exact absurd c50 (by decide)
                    | exact absurd rfl c77
                    | exact absurd c77 (by decide)
                    | (have hno : ¬ (((k = 0 ∧ 0 ≤ n ∧ n ≤ 5) ∨ (k = 1 ∧ 1 ≤ n ∧ n ≤ 9)) ∧ ln < 6) := by omega
                       have h9 := h g (by simp only [if_neg hno]; exact hS) (FrC.rf g)
                       unfold E_old at h9
                       rw [if_pos (by omega), if_neg (by omega)] at h9
                       exact h9)
              · refine r_ldc (z := -1000000002) (pc' := 55) dX10_old_53 rfl kX10_86 ?_
                refine r_reti dX10_old_55 rfl (Or.inl rfl) ?_
                first
                  | exact absurd rfl c45
                  | exact absurd c45 (by decide)
                  | exact absurd rfl c50
                  | exact absurd c50 (by decide)
                  | exact absurd rfl c77
                  | exact absurd c77 (by decide)
                  | (have hno : ¬ (((k = 0 ∧ 0 ≤ n ∧ n ≤ 5) ∨ (k = 1 ∧ 1 ≤ n ∧ n ≤ 9)) ∧ ln < 6) := by omega
                     have h9 := h g (by simp only [if_neg hno]; exact hS) (FrC.rf g)
                     unfold E_old at h9
                     rw [if_neg (by omega)] at h9
                     exact h9)
    · refine r_iload_n (pc' := 9) dX10_old_8 rfl rfl ?_
      refine r_iconst (pc' := 10) dX10_old_9 rfl ?_
      refine r_icmp_gt (tgt := 17) (pc' := 13) dX10_old_10 rfl rfl (by omega) (by omega) (fun c10 => ?_) (fun c10 => ?_)
      · refine r_iconst (pc' := 18) dX10_old_17 rfl ?_
        refine r_istore (pc' := 20) dX10_old_18 rfl rfl ?_
        refine r_iload_n (pc' := 21) dX10_old_20 rfl rfl ?_
        refine r_iconst (pc' := 22) dX10_old_21 rfl ?_
        refine r_icmp_ne (tgt := 40) (pc' := 25) dX10_old_22 rfl rfl (by omega) (by omega) (fun c22 => ?_) (fun c22 => ?_)
        · refine r_iconst (pc' := 41) dX10_old_40 rfl ?_
          refine r_istore (pc' := 43) dX10_old_41 rfl rfl ?_
          refine r_iload (pc' := 45) dX10_old_43 rfl rfl ?_
          refine r_if_ne (tgt := 56) (pc' := 48) dX10_old_45 rfl rfl (by decide) (fun c45 => ?_) (fun c45 => ?_)
          · refine r_aload_n (pc' := 57) dX10_old_56 rfl rfl ?_
            refine r_getr (pc' := 60) dX10_old_57 rfl fX10_71 z0 rfl ?_
            refine r_getf (pc' := 63) (kI := 2) dX10_old_60 rfl fX10_111 z160 rfl rfl hK.1 ?_
            refine r_bipush (pc' := 65) dX10_old_63 rfl (by decide) ?_
            refine r_icmp_lt (tgt := 71) (pc' := 68) dX10_old_65 rfl rfl (by omega) (by omega) (fun c65 => ?_) (fun c65 => ?_)
            · refine r_aload_n (pc' := 72) dX10_old_71 rfl rfl ?_
              refine r_getr (pc' := 75) dX10_old_72 rfl fX10_71 z0 rfl ?_
              refine r_iload (pc' := 77) dX10_old_75 rfl rfl ?_
              refine r_if_eq (tgt := 87) (pc' := 80) dX10_old_77 rfl rfl (by omega) (fun c77 => ?_) (fun c77 => ?_)
              · refine r_iload_n (pc' := 88) dX10_old_87 rfl rfl ?_
                refine r_iload_n (pc' := 89) dX10_old_88 rfl rfl ?_
                refine r_vv2 (pc' := 92) dX10_old_89 rfl qX3_add lX10_289 z160 rfl rfl rfl rfl (Nat.zero_le _) (Nat.zero_le _) (a_lookAddI hK (by omega) (by omega) (by omega) (fun g1 hK1 fr1 => ?_))
                refine r_aload_n (pc' := 93) dX10_old_92 rfl rfl ?_
                refine r_getr (pc' := 96) dX10_old_93 rfl fX10_71 z0 rfl ?_
                refine r_getf (pc' := 99) (kI := 2) dX10_old_96 rfl fX10_111 z160 rfl rfl hK1.1 ?_
                refine r_reti dX10_old_99 rfl (Or.inl rfl) ?_
                first
                  | exact absurd rfl c45
                  | exact absurd c45 (by decide)
                  | exact absurd rfl c50
                  | exact absurd c50 (by decide)
                  | exact absurd rfl c77
                  | exact absurd c77 (by decide)
                  | (have hok : ((k = 0 ∧ 0 ≤ n ∧ n ≤ 5) ∨ (k = 1 ∧ 1 ≤ n ∧ n ≤ 9)) ∧ ln < 6 := by omega
                     have h9 := h g1 (by simp only [if_pos hok]; exact ⟨TX.fr ⟨t1, t2, t3⟩ (fr1 1 (by simp only [List.mem_cons, List.not_mem_nil, or_false, not_or]; omega)) (fr1 2 (by simp only [List.mem_cons, List.not_mem_nil, or_false, not_or]; omega)), ⟨by rw [fr1 1 (by simp only [List.mem_cons, List.not_mem_nil, or_false, not_or]; omega)]; exact f1, f2⟩, hB.fr2 (fun j a1 a2 => fr1 j (by simp only [List.mem_cons, List.not_mem_nil, or_false, not_or]; omega)), ⟨top, hP.fr (fun j hj => by unfold pastB at hj; exact fr1 j (by simp only [List.mem_cons, List.not_mem_nil, or_false, not_or]; omega))⟩, IMs.fr hI (fun j a1 a2 => fr1 j (by simp only [List.mem_cons, List.not_mem_nil, or_false, not_or]; omega)), ⟨by rw [fr1 0 (by simp only [List.mem_cons, List.not_mem_nil, or_false, not_or]; omega)]; exact sd1, sd2, sd3⟩, (by first | (rw [show oldN k n = (10 + n).toNat from by unfold oldN; rw [if_pos (by omega)]; omega]; exact hK1) | (rw [show oldN k n = n.toNat from by unfold oldN; rw [if_neg (by omega)]]; exact hK1)), hN.fr (fr1 163 (by simp only [List.mem_cons, List.not_mem_nil, or_false, not_or]; omega)) (fr1 164 (by simp only [List.mem_cons, List.not_mem_nil, or_false, not_or]; omega)) (fr1 165 (by simp only [List.mem_cons, List.not_mem_nil, or_false, not_or]; omega))⟩) (fun j hj => fr1 j (by simp only [List.mem_cons, List.not_mem_nil, or_false, not_or]; omega))
                     unfold E_old at h9
                     rw [if_pos (by omega), if_pos (by omega)] at h9
                     exact h9)
              · refine r_bipush (pc' := 82) dX10_old_80 rfl (by decide) ?_
                refine r_iload_n (pc' := 83) dX10_old_82 rfl rfl ?_
                refine r_iadd (pc' := 84) dX10_old_83 rfl ?_
                refine r_goto (tgt := 88) dX10_old_84 rfl ?_
                refine r_iload_n (pc' := 89) dX10_old_88 rfl rfl ?_
                refine r_vv2 (pc' := 92) dX10_old_89 rfl qX3_add lX10_289 z160 rfl rfl rfl rfl (Nat.zero_le _) (Nat.zero_le _) (a_lookAddI hK (by omega) (by omega) (by omega) (fun g1 hK1 fr1 => ?_))
                refine r_aload_n (pc' := 93) dX10_old_92 rfl rfl ?_
                refine r_getr (pc' := 96) dX10_old_93 rfl fX10_71 z0 rfl ?_
                refine r_getf (pc' := 99) (kI := 2) dX10_old_96 rfl fX10_111 z160 rfl rfl hK1.1 ?_
                refine r_reti dX10_old_99 rfl (Or.inl rfl) ?_
                first
                  | exact absurd rfl c45
                  | exact absurd c45 (by decide)
                  | exact absurd rfl c50
                  | exact absurd c50 (by decide)
                  | exact absurd rfl c77
                  | exact absurd c77 (by decide)
                  | (have hok : ((k = 0 ∧ 0 ≤ n ∧ n ≤ 5) ∨ (k = 1 ∧ 1 ≤ n ∧ n ≤ 9)) ∧ ln < 6 := by omega
                     have h9 := h g1 (by simp only [if_pos hok]; exact ⟨TX.fr ⟨t1, t2, t3⟩ (fr1 1 (by simp only [List.mem_cons, List.not_mem_nil, or_false, not_or]; omega)) (fr1 2 (by simp only [List.mem_cons, List.not_mem_nil, or_false, not_or]; omega)), ⟨by rw [fr1 1 (by simp only [List.mem_cons, List.not_mem_nil, or_false, not_or]; omega)]; exact f1, f2⟩, hB.fr2 (fun j a1 a2 => fr1 j (by simp only [List.mem_cons, List.not_mem_nil, or_false, not_or]; omega)), ⟨top, hP.fr (fun j hj => by unfold pastB at hj; exact fr1 j (by simp only [List.mem_cons, List.not_mem_nil, or_false, not_or]; omega))⟩, IMs.fr hI (fun j a1 a2 => fr1 j (by simp only [List.mem_cons, List.not_mem_nil, or_false, not_or]; omega)), ⟨by rw [fr1 0 (by simp only [List.mem_cons, List.not_mem_nil, or_false, not_or]; omega)]; exact sd1, sd2, sd3⟩, (by first | (rw [show oldN k n = (10 + n).toNat from by unfold oldN; rw [if_pos (by omega)]; omega]; exact hK1) | (rw [show oldN k n = n.toNat from by unfold oldN; rw [if_neg (by omega)]]; exact hK1)), hN.fr (fr1 163 (by simp only [List.mem_cons, List.not_mem_nil, or_false, not_or]; omega)) (fr1 164 (by simp only [List.mem_cons, List.not_mem_nil, or_false, not_or]; omega)) (fr1 165 (by simp only [List.mem_cons, List.not_mem_nil, or_false, not_or]; omega))⟩) (fun j hj => fr1 j (by simp only [List.mem_cons, List.not_mem_nil, or_false, not_or]; omega))
                     unfold E_old at h9
                     rw [if_pos (by omega), if_pos (by omega)] at h9
                     exact h9)
            · refine r_ldc (z := -1000000004) (pc' := 70) dX10_old_68 rfl kX10_90 ?_
              refine r_reti dX10_old_70 rfl (Or.inl rfl) ?_
              first
                | exact absurd rfl c45
                | exact absurd c45 (by decide)
                | exact absurd rfl c50
                | exact absurd c50 (by decide)
                | exact absurd rfl c77
                | exact absurd c77 (by decide)
                | (have hno : ¬ (((k = 0 ∧ 0 ≤ n ∧ n ≤ 5) ∨ (k = 1 ∧ 1 ≤ n ∧ n ≤ 9)) ∧ ln < 6) := by omega
                   have h9 := h g (by simp only [if_neg hno]; exact hS) (FrC.rf g)
                   unfold E_old at h9
                   rw [if_pos (by omega), if_neg (by omega)] at h9
                   exact h9)
          · refine r_iload (pc' := 50) dX10_old_48 rfl rfl ?_
            refine r_if_ne (tgt := 56) (pc' := 53) dX10_old_50 rfl rfl (by omega) (fun c50 => ?_) (fun c50 => ?_)
            · refine r_aload_n (pc' := 57) dX10_old_56 rfl rfl ?_
              refine r_getr (pc' := 60) dX10_old_57 rfl fX10_71 z0 rfl ?_
              refine r_getf (pc' := 63) (kI := 2) dX10_old_60 rfl fX10_111 z160 rfl rfl hK.1 ?_
              refine r_bipush (pc' := 65) dX10_old_63 rfl (by decide) ?_
              refine r_icmp_lt (tgt := 71) (pc' := 68) dX10_old_65 rfl rfl (by omega) (by omega) (fun c65 => ?_) (fun c65 => ?_)
              · refine r_aload_n (pc' := 72) dX10_old_71 rfl rfl ?_
                refine r_getr (pc' := 75) dX10_old_72 rfl fX10_71 z0 rfl ?_
                refine r_iload (pc' := 77) dX10_old_75 rfl rfl ?_
                refine r_if_eq (tgt := 87) (pc' := 80) dX10_old_77 rfl rfl (by omega) (fun c77 => ?_) (fun c77 => ?_)
                · refine r_iload_n (pc' := 88) dX10_old_87 rfl rfl ?_
                  refine r_iload_n (pc' := 89) dX10_old_88 rfl rfl ?_
                  refine r_vv2 (pc' := 92) dX10_old_89 rfl qX3_add lX10_289 z160 rfl rfl rfl rfl (Nat.zero_le _) (Nat.zero_le _) (a_lookAddI hK (by omega) (by omega) (by omega) (fun g1 hK1 fr1 => ?_))
                  refine r_aload_n (pc' := 93) dX10_old_92 rfl rfl ?_
                  refine r_getr (pc' := 96) dX10_old_93 rfl fX10_71 z0 rfl ?_
                  refine r_getf (pc' := 99) (kI := 2) dX10_old_96 rfl fX10_111 z160 rfl rfl hK1.1 ?_
                  refine r_reti dX10_old_99 rfl (Or.inl rfl) ?_
                  first
                    | exact absurd rfl c45
                    | exact absurd c45 (by decide)
                    | exact absurd rfl c50
                    | exact absurd c50 (by decide)
                    | exact absurd rfl c77
                    | exact absurd c77 (by decide)
                    | (have hok : ((k = 0 ∧ 0 ≤ n ∧ n ≤ 5) ∨ (k = 1 ∧ 1 ≤ n ∧ n ≤ 9)) ∧ ln < 6 := by omega
                       have h9 := h g1 (by simp only [if_pos hok]; exact ⟨TX.fr ⟨t1, t2, t3⟩ (fr1 1 (by simp only [List.mem_cons, List.not_mem_nil, or_false, not_or]; omega)) (fr1 2 (by simp only [List.mem_cons, List.not_mem_nil, or_false, not_or]; omega)), ⟨by rw [fr1 1 (by simp only [List.mem_cons, List.not_mem_nil, or_false, not_or]; omega)]; exact f1, f2⟩, hB.fr2 (fun j a1 a2 => fr1 j (by simp only [List.mem_cons, List.not_mem_nil, or_false, not_or]; omega)), ⟨top, hP.fr (fun j hj => by unfold pastB at hj; exact fr1 j (by simp only [List.mem_cons, List.not_mem_nil, or_false, not_or]; omega))⟩, IMs.fr hI (fun j a1 a2 => fr1 j (by simp only [List.mem_cons, List.not_mem_nil, or_false, not_or]; omega)), ⟨by rw [fr1 0 (by simp only [List.mem_cons, List.not_mem_nil, or_false, not_or]; omega)]; exact sd1, sd2, sd3⟩, (by first | (rw [show oldN k n = (10 + n).toNat from by unfold oldN; rw [if_pos (by omega)]; omega]; exact hK1) | (rw [show oldN k n = n.toNat from by unfold oldN; rw [if_neg (by omega)]]; exact hK1)), hN.fr (fr1 163 (by simp only [List.mem_cons, List.not_mem_nil, or_false, not_or]; omega)) (fr1 164 (by simp only [List.mem_cons, List.not_mem_nil, or_false, not_or]; omega)) (fr1 165 (by simp only [List.mem_cons, List.not_mem_nil, or_false, not_or]; omega))⟩) (fun j hj => fr1 j (by simp only [List.mem_cons, List.not_mem_nil, or_false, not_or]; omega))
                       unfold E_old at h9
                       rw [if_pos (by omega), if_pos (by omega)] at h9
                       exact h9)
                · refine r_bipush (pc' := 82) dX10_old_80 rfl (by decide) ?_
                  refine r_iload_n (pc' := 83) dX10_old_82 rfl rfl ?_
                  refine r_iadd (pc' := 84) dX10_old_83 rfl ?_
                  refine r_goto (tgt := 88) dX10_old_84 rfl ?_
                  refine r_iload_n (pc' := 89) dX10_old_88 rfl rfl ?_
                  refine r_vv2 (pc' := 92) dX10_old_89 rfl qX3_add lX10_289 z160 rfl rfl rfl rfl (Nat.zero_le _) (Nat.zero_le _) (a_lookAddI hK (by omega) (by omega) (by omega) (fun g1 hK1 fr1 => ?_))
                  refine r_aload_n (pc' := 93) dX10_old_92 rfl rfl ?_
                  refine r_getr (pc' := 96) dX10_old_93 rfl fX10_71 z0 rfl ?_
                  refine r_getf (pc' := 99) (kI := 2) dX10_old_96 rfl fX10_111 z160 rfl rfl hK1.1 ?_
                  refine r_reti dX10_old_99 rfl (Or.inl rfl) ?_
                  first
                    | exact absurd rfl c45
                    | exact absurd c45 (by decide)
                    | exact absurd rfl c50
                    | exact absurd c50 (by decide)
                    | exact absurd rfl c77
                    | exact absurd c77 (by decide)
                    | (have hok : ((k = 0 ∧ 0 ≤ n ∧ n ≤ 5) ∨ (k = 1 ∧ 1 ≤ n ∧ n ≤ 9)) ∧ ln < 6 := by omega
                       have h9 := h g1 (by simp only [if_pos hok]; exact ⟨TX.fr ⟨t1, t2, t3⟩ (fr1 1 (by simp only [List.mem_cons, List.not_mem_nil, or_false, not_or]; omega)) (fr1 2 (by simp only [List.mem_cons, List.not_mem_nil, or_false, not_or]; omega)), ⟨by rw [fr1 1 (by simp only [List.mem_cons, List.not_mem_nil, or_false, not_or]; omega)]; exact f1, f2⟩, hB.fr2 (fun j a1 a2 => fr1 j (by simp only [List.mem_cons, List.not_mem_nil, or_false, not_or]; omega)), ⟨top, hP.fr (fun j hj => by unfold pastB at hj; exact fr1 j (by simp only [List.mem_cons, List.not_mem_nil, or_false, not_or]; omega))⟩, IMs.fr hI (fun j a1 a2 => fr1 j (by simp only [List.mem_cons, List.not_mem_nil, or_false, not_or]; omega)), ⟨by rw [fr1 0 (by simp only [List.mem_cons, List.not_mem_nil, or_false, not_or]; omega)]; exact sd1, sd2, sd3⟩, (by first | (rw [show oldN k n = (10 + n).toNat from by unfold oldN; rw [if_pos (by omega)]; omega]; exact hK1) | (rw [show oldN k n = n.toNat from by unfold oldN; rw [if_neg (by omega)]]; exact hK1)), hN.fr (fr1 163 (by simp only [List.mem_cons, List.not_mem_nil, or_false, not_or]; omega)) (fr1 164 (by simp only [List.mem_cons, List.not_mem_nil, or_false, not_or]; omega)) (fr1 165 (by simp only [List.mem_cons, List.not_mem_nil, or_false, not_or]; omega))⟩) (fun j hj => fr1 j (by simp only [List.mem_cons, List.not_mem_nil, or_false, not_or]; omega))
                       unfold E_old at h9
                       rw [if_pos (by omega), if_pos (by omega)] at h9
                       exact h9)
              · refine r_ldc (z := -1000000004) (pc' := 70) dX10_old_68 rfl kX10_90 ?_
                refine r_reti dX10_old_70 rfl (Or.inl rfl) ?_
                first
                  | exact absurd rfl c45
                  | exact absurd c45 (by decide)
                  | exact absurd rfl c50
                  | exact absurd c50 (by decide)
                  | exact absurd rfl c77
                  | exact absurd c77 (by decide)
                  | (have hno : ¬ (((k = 0 ∧ 0 ≤ n ∧ n ≤ 5) ∨ (k = 1 ∧ 1 ≤ n ∧ n ≤ 9)) ∧ ln < 6) := by omega
                     have h9 := h g (by simp only [if_neg hno]; exact hS) (FrC.rf g)
                     unfold E_old at h9
                     rw [if_pos (by omega), if_neg (by omega)] at h9
                     exact h9)
            · refine r_ldc (z := -1000000002) (pc' := 55) dX10_old_53 rfl kX10_86 ?_
              refine r_reti dX10_old_55 rfl (Or.inl rfl) ?_
              first
                | exact absurd rfl c45
                | exact absurd c45 (by decide)
                | exact absurd rfl c50
                | exact absurd c50 (by decide)
                | exact absurd rfl c77
                | exact absurd c77 (by decide)
                | (have hno : ¬ (((k = 0 ∧ 0 ≤ n ∧ n ≤ 5) ∨ (k = 1 ∧ 1 ≤ n ∧ n ≤ 9)) ∧ ln < 6) := by omega
                   have h9 := h g (by simp only [if_neg hno]; exact hS) (FrC.rf g)
                   unfold E_old at h9
                   rw [if_neg (by omega)] at h9
                   exact h9)
        · refine r_iload_n (pc' := 26) dX10_old_25 rfl rfl ?_
          refine r_iconst (pc' := 27) dX10_old_26 rfl ?_
          refine r_icmp_lt (tgt := 40) (pc' := 30) dX10_old_27 rfl rfl (by omega) (by omega) (fun c27 => ?_) (fun c27 => ?_)
          · refine r_iconst (pc' := 41) dX10_old_40 rfl ?_
            refine r_istore (pc' := 43) dX10_old_41 rfl rfl ?_
            refine r_iload (pc' := 45) dX10_old_43 rfl rfl ?_
            refine r_if_ne (tgt := 56) (pc' := 48) dX10_old_45 rfl rfl (by decide) (fun c45 => ?_) (fun c45 => ?_)
            · refine r_aload_n (pc' := 57) dX10_old_56 rfl rfl ?_
              refine r_getr (pc' := 60) dX10_old_57 rfl fX10_71 z0 rfl ?_
              refine r_getf (pc' := 63) (kI := 2) dX10_old_60 rfl fX10_111 z160 rfl rfl hK.1 ?_
              refine r_bipush (pc' := 65) dX10_old_63 rfl (by decide) ?_
              refine r_icmp_lt (tgt := 71) (pc' := 68) dX10_old_65 rfl rfl (by omega) (by omega) (fun c65 => ?_) (fun c65 => ?_)
              · refine r_aload_n (pc' := 72) dX10_old_71 rfl rfl ?_
                refine r_getr (pc' := 75) dX10_old_72 rfl fX10_71 z0 rfl ?_
                refine r_iload (pc' := 77) dX10_old_75 rfl rfl ?_
                refine r_if_eq (tgt := 87) (pc' := 80) dX10_old_77 rfl rfl (by omega) (fun c77 => ?_) (fun c77 => ?_)
                · refine r_iload_n (pc' := 88) dX10_old_87 rfl rfl ?_
                  refine r_iload_n (pc' := 89) dX10_old_88 rfl rfl ?_
                  refine r_vv2 (pc' := 92) dX10_old_89 rfl qX3_add lX10_289 z160 rfl rfl rfl rfl (Nat.zero_le _) (Nat.zero_le _) (a_lookAddI hK (by omega) (by omega) (by omega) (fun g1 hK1 fr1 => ?_))
                  refine r_aload_n (pc' := 93) dX10_old_92 rfl rfl ?_
                  refine r_getr (pc' := 96) dX10_old_93 rfl fX10_71 z0 rfl ?_
                  refine r_getf (pc' := 99) (kI := 2) dX10_old_96 rfl fX10_111 z160 rfl rfl hK1.1 ?_
                  refine r_reti dX10_old_99 rfl (Or.inl rfl) ?_
                  first
                    | exact absurd rfl c45
                    | exact absurd c45 (by decide)
                    | exact absurd rfl c50
                    | exact absurd c50 (by decide)
                    | exact absurd rfl c77
                    | exact absurd c77 (by decide)
                    | (have hok : ((k = 0 ∧ 0 ≤ n ∧ n ≤ 5) ∨ (k = 1 ∧ 1 ≤ n ∧ n ≤ 9)) ∧ ln < 6 := by omega
                       have h9 := h g1 (by simp only [if_pos hok]; exact ⟨TX.fr ⟨t1, t2, t3⟩ (fr1 1 (by simp only [List.mem_cons, List.not_mem_nil, or_false, not_or]; omega)) (fr1 2 (by simp only [List.mem_cons, List.not_mem_nil, or_false, not_or]; omega)), ⟨by rw [fr1 1 (by simp only [List.mem_cons, List.not_mem_nil, or_false, not_or]; omega)]; exact f1, f2⟩, hB.fr2 (fun j a1 a2 => fr1 j (by simp only [List.mem_cons, List.not_mem_nil, or_false, not_or]; omega)), ⟨top, hP.fr (fun j hj => by unfold pastB at hj; exact fr1 j (by simp only [List.mem_cons, List.not_mem_nil, or_false, not_or]; omega))⟩, IMs.fr hI (fun j a1 a2 => fr1 j (by simp only [List.mem_cons, List.not_mem_nil, or_false, not_or]; omega)), ⟨by rw [fr1 0 (by simp only [List.mem_cons, List.not_mem_nil, or_false, not_or]; omega)]; exact sd1, sd2, sd3⟩, (by first | (rw [show oldN k n = (10 + n).toNat from by unfold oldN; rw [if_pos (by omega)]; omega]; exact hK1) | (rw [show oldN k n = n.toNat from by unfold oldN; rw [if_neg (by omega)]]; exact hK1)), hN.fr (fr1 163 (by simp only [List.mem_cons, List.not_mem_nil, or_false, not_or]; omega)) (fr1 164 (by simp only [List.mem_cons, List.not_mem_nil, or_false, not_or]; omega)) (fr1 165 (by simp only [List.mem_cons, List.not_mem_nil, or_false, not_or]; omega))⟩) (fun j hj => fr1 j (by simp only [List.mem_cons, List.not_mem_nil, or_false, not_or]; omega))
                       unfold E_old at h9
                       rw [if_pos (by omega), if_pos (by omega)] at h9
                       exact h9)
                · refine r_bipush (pc' := 82) dX10_old_80 rfl (by decide) ?_
                  refine r_iload_n (pc' := 83) dX10_old_82 rfl rfl ?_
                  refine r_iadd (pc' := 84) dX10_old_83 rfl ?_
                  refine r_goto (tgt := 88) dX10_old_84 rfl ?_
                  refine r_iload_n (pc' := 89) dX10_old_88 rfl rfl ?_
                  refine r_vv2 (pc' := 92) dX10_old_89 rfl qX3_add lX10_289 z160 rfl rfl rfl rfl (Nat.zero_le _) (Nat.zero_le _) (a_lookAddI hK (by omega) (by omega) (by omega) (fun g1 hK1 fr1 => ?_))
                  refine r_aload_n (pc' := 93) dX10_old_92 rfl rfl ?_
                  refine r_getr (pc' := 96) dX10_old_93 rfl fX10_71 z0 rfl ?_
                  refine r_getf (pc' := 99) (kI := 2) dX10_old_96 rfl fX10_111 z160 rfl rfl hK1.1 ?_
                  refine r_reti dX10_old_99 rfl (Or.inl rfl) ?_
                  first
                    | exact absurd rfl c45
                    | exact absurd c45 (by decide)
                    | exact absurd rfl c50
                    | exact absurd c50 (by decide)
                    | exact absurd rfl c77
                    | exact absurd c77 (by decide)
                    | (have hok : ((k = 0 ∧ 0 ≤ n ∧ n ≤ 5) ∨ (k = 1 ∧ 1 ≤ n ∧ n ≤ 9)) ∧ ln < 6 := by omega
                       have h9 := h g1 (by simp only [if_pos hok]; exact ⟨TX.fr ⟨t1, t2, t3⟩ (fr1 1 (by simp only [List.mem_cons, List.not_mem_nil, or_false, not_or]; omega)) (fr1 2 (by simp only [List.mem_cons, List.not_mem_nil, or_false, not_or]; omega)), ⟨by rw [fr1 1 (by simp only [List.mem_cons, List.not_mem_nil, or_false, not_or]; omega)]; exact f1, f2⟩, hB.fr2 (fun j a1 a2 => fr1 j (by simp only [List.mem_cons, List.not_mem_nil, or_false, not_or]; omega)), ⟨top, hP.fr (fun j hj => by unfold pastB at hj; exact fr1 j (by simp only [List.mem_cons, List.not_mem_nil, or_false, not_or]; omega))⟩, IMs.fr hI (fun j a1 a2 => fr1 j (by simp only [List.mem_cons, List.not_mem_nil, or_false, not_or]; omega)), ⟨by rw [fr1 0 (by simp only [List.mem_cons, List.not_mem_nil, or_false, not_or]; omega)]; exact sd1, sd2, sd3⟩, (by first | (rw [show oldN k n = (10 + n).toNat from by unfold oldN; rw [if_pos (by omega)]; omega]; exact hK1) | (rw [show oldN k n = n.toNat from by unfold oldN; rw [if_neg (by omega)]]; exact hK1)), hN.fr (fr1 163 (by simp only [List.mem_cons, List.not_mem_nil, or_false, not_or]; omega)) (fr1 164 (by simp only [List.mem_cons, List.not_mem_nil, or_false, not_or]; omega)) (fr1 165 (by simp only [List.mem_cons, List.not_mem_nil, or_false, not_or]; omega))⟩) (fun j hj => fr1 j (by simp only [List.mem_cons, List.not_mem_nil, or_false, not_or]; omega))
                       unfold E_old at h9
                       rw [if_pos (by omega), if_pos (by omega)] at h9
                       exact h9)
              · refine r_ldc (z := -1000000004) (pc' := 70) dX10_old_68 rfl kX10_90 ?_
                refine r_reti dX10_old_70 rfl (Or.inl rfl) ?_
                first
                  | exact absurd rfl c45
                  | exact absurd c45 (by decide)
                  | exact absurd rfl c50
                  | exact absurd c50 (by decide)
                  | exact absurd rfl c77
                  | exact absurd c77 (by decide)
                  | (have hno : ¬ (((k = 0 ∧ 0 ≤ n ∧ n ≤ 5) ∨ (k = 1 ∧ 1 ≤ n ∧ n ≤ 9)) ∧ ln < 6) := by omega
                     have h9 := h g (by simp only [if_neg hno]; exact hS) (FrC.rf g)
                     unfold E_old at h9
                     rw [if_pos (by omega), if_neg (by omega)] at h9
                     exact h9)
            · refine r_iload (pc' := 50) dX10_old_48 rfl rfl ?_
              refine r_if_ne (tgt := 56) (pc' := 53) dX10_old_50 rfl rfl (by omega) (fun c50 => ?_) (fun c50 => ?_)
              · refine r_aload_n (pc' := 57) dX10_old_56 rfl rfl ?_
                refine r_getr (pc' := 60) dX10_old_57 rfl fX10_71 z0 rfl ?_
                refine r_getf (pc' := 63) (kI := 2) dX10_old_60 rfl fX10_111 z160 rfl rfl hK.1 ?_
                refine r_bipush (pc' := 65) dX10_old_63 rfl (by decide) ?_
                refine r_icmp_lt (tgt := 71) (pc' := 68) dX10_old_65 rfl rfl (by omega) (by omega) (fun c65 => ?_) (fun c65 => ?_)
                · refine r_aload_n (pc' := 72) dX10_old_71 rfl rfl ?_
                  refine r_getr (pc' := 75) dX10_old_72 rfl fX10_71 z0 rfl ?_
                  refine r_iload (pc' := 77) dX10_old_75 rfl rfl ?_
                  refine r_if_eq (tgt := 87) (pc' := 80) dX10_old_77 rfl rfl (by omega) (fun c77 => ?_) (fun c77 => ?_)
                  · refine r_iload_n (pc' := 88) dX10_old_87 rfl rfl ?_
                    refine r_iload_n (pc' := 89) dX10_old_88 rfl rfl ?_
                    refine r_vv2 (pc' := 92) dX10_old_89 rfl qX3_add lX10_289 z160 rfl rfl rfl rfl (Nat.zero_le _) (Nat.zero_le _) (a_lookAddI hK (by omega) (by omega) (by omega) (fun g1 hK1 fr1 => ?_))
                    refine r_aload_n (pc' := 93) dX10_old_92 rfl rfl ?_
                    refine r_getr (pc' := 96) dX10_old_93 rfl fX10_71 z0 rfl ?_
                    refine r_getf (pc' := 99) (kI := 2) dX10_old_96 rfl fX10_111 z160 rfl rfl hK1.1 ?_
                    refine r_reti dX10_old_99 rfl (Or.inl rfl) ?_
                    first
                      | exact absurd rfl c45
                      | exact absurd c45 (by decide)
                      | exact absurd rfl c50
                      | exact absurd c50 (by decide)
                      | exact absurd rfl c77
                      | exact absurd c77 (by decide)
                      | (have hok : ((k = 0 ∧ 0 ≤ n ∧ n ≤ 5) ∨ (k = 1 ∧ 1 ≤ n ∧ n ≤ 9)) ∧ ln < 6 := by omega
                         have h9 := h g1 (by simp only [if_pos hok]; exact ⟨TX.fr ⟨t1, t2, t3⟩ (fr1 1 (by simp only [List.mem_cons, List.not_mem_nil, or_false, not_or]; omega)) (fr1 2 (by simp only [List.mem_cons, List.not_mem_nil, or_false, not_or]; omega)), ⟨by rw [fr1 1 (by simp only [List.mem_cons, List.not_mem_nil, or_false, not_or]; omega)]; exact f1, f2⟩, hB.fr2 (fun j a1 a2 => fr1 j (by simp only [List.mem_cons, List.not_mem_nil, or_false, not_or]; omega)), ⟨top, hP.fr (fun j hj => by unfold pastB at hj; exact fr1 j (by simp only [List.mem_cons, List.not_mem_nil, or_false, not_or]; omega))⟩, IMs.fr hI (fun j a1 a2 => fr1 j (by simp only [List.mem_cons, List.not_mem_nil, or_false, not_or]; omega)), ⟨by rw [fr1 0 (by simp only [List.mem_cons, List.not_mem_nil, or_false, not_or]; omega)]; exact sd1, sd2, sd3⟩, (by first | (rw [show oldN k n = (10 + n).toNat from by unfold oldN; rw [if_pos (by omega)]; omega]; exact hK1) | (rw [show oldN k n = n.toNat from by unfold oldN; rw [if_neg (by omega)]]; exact hK1)), hN.fr (fr1 163 (by simp only [List.mem_cons, List.not_mem_nil, or_false, not_or]; omega)) (fr1 164 (by simp only [List.mem_cons, List.not_mem_nil, or_false, not_or]; omega)) (fr1 165 (by simp only [List.mem_cons, List.not_mem_nil, or_false, not_or]; omega))⟩) (fun j hj => fr1 j (by simp only [List.mem_cons, List.not_mem_nil, or_false, not_or]; omega))
                         unfold E_old at h9
                         rw [if_pos (by omega), if_pos (by omega)] at h9
                         exact h9)
                  · refine r_bipush (pc' := 82) dX10_old_80 rfl (by decide) ?_
                    refine r_iload_n (pc' := 83) dX10_old_82 rfl rfl ?_
                    refine r_iadd (pc' := 84) dX10_old_83 rfl ?_
                    refine r_goto (tgt := 88) dX10_old_84 rfl ?_
                    refine r_iload_n (pc' := 89) dX10_old_88 rfl rfl ?_
                    refine r_vv2 (pc' := 92) dX10_old_89 rfl qX3_add lX10_289 z160 rfl rfl rfl rfl (Nat.zero_le _) (Nat.zero_le _) (a_lookAddI hK (by omega) (by omega) (by omega) (fun g1 hK1 fr1 => ?_))
                    refine r_aload_n (pc' := 93) dX10_old_92 rfl rfl ?_
                    refine r_getr (pc' := 96) dX10_old_93 rfl fX10_71 z0 rfl ?_
                    refine r_getf (pc' := 99) (kI := 2) dX10_old_96 rfl fX10_111 z160 rfl rfl hK1.1 ?_
                    refine r_reti dX10_old_99 rfl (Or.inl rfl) ?_
                    first
                      | exact absurd rfl c45
                      | exact absurd c45 (by decide)
                      | exact absurd rfl c50
                      | exact absurd c50 (by decide)
                      | exact absurd rfl c77
                      | exact absurd c77 (by decide)
                      | (have hok : ((k = 0 ∧ 0 ≤ n ∧ n ≤ 5) ∨ (k = 1 ∧ 1 ≤ n ∧ n ≤ 9)) ∧ ln < 6 := by omega
                         have h9 := h g1 (by simp only [if_pos hok]; exact ⟨TX.fr ⟨t1, t2, t3⟩ (fr1 1 (by simp only [List.mem_cons, List.not_mem_nil, or_false, not_or]; omega)) (fr1 2 (by simp only [List.mem_cons, List.not_mem_nil, or_false, not_or]; omega)), ⟨by rw [fr1 1 (by simp only [List.mem_cons, List.not_mem_nil, or_false, not_or]; omega)]; exact f1, f2⟩, hB.fr2 (fun j a1 a2 => fr1 j (by simp only [List.mem_cons, List.not_mem_nil, or_false, not_or]; omega)), ⟨top, hP.fr (fun j hj => by unfold pastB at hj; exact fr1 j (by simp only [List.mem_cons, List.not_mem_nil, or_false, not_or]; omega))⟩, IMs.fr hI (fun j a1 a2 => fr1 j (by simp only [List.mem_cons, List.not_mem_nil, or_false, not_or]; omega)), ⟨by rw [fr1 0 (by simp only [List.mem_cons, List.not_mem_nil, or_false, not_or]; omega)]; exact sd1, sd2, sd3⟩, (by first | (rw [show oldN k n = (10 + n).toNat from by unfold oldN; rw [if_pos (by omega)]; omega]; exact hK1) | (rw [show oldN k n = n.toNat from by unfold oldN; rw [if_neg (by omega)]]; exact hK1)), hN.fr (fr1 163 (by simp only [List.mem_cons, List.not_mem_nil, or_false, not_or]; omega)) (fr1 164 (by simp only [List.mem_cons, List.not_mem_nil, or_false, not_or]; omega)) (fr1 165 (by simp only [List.mem_cons, List.not_mem_nil, or_false, not_or]; omega))⟩) (fun j hj => fr1 j (by simp only [List.mem_cons, List.not_mem_nil, or_false, not_or]; omega))
                         unfold E_old at h9
                         rw [if_pos (by omega), if_pos (by omega)] at h9
                         exact h9)
                · refine r_ldc (z := -1000000004) (pc' := 70) dX10_old_68 rfl kX10_90 ?_
                  refine r_reti dX10_old_70 rfl (Or.inl rfl) ?_
                  first
                    | exact absurd rfl c45
                    | exact absurd c45 (by decide)
                    | exact absurd rfl c50
                    | exact absurd c50 (by decide)
                    | exact absurd rfl c77
                    | exact absurd c77 (by decide)
                    | (have hno : ¬ (((k = 0 ∧ 0 ≤ n ∧ n ≤ 5) ∨ (k = 1 ∧ 1 ≤ n ∧ n ≤ 9)) ∧ ln < 6) := by omega
                       have h9 := h g (by simp only [if_neg hno]; exact hS) (FrC.rf g)
                       unfold E_old at h9
                       rw [if_pos (by omega), if_neg (by omega)] at h9
                       exact h9)
              · refine r_ldc (z := -1000000002) (pc' := 55) dX10_old_53 rfl kX10_86 ?_
                refine r_reti dX10_old_55 rfl (Or.inl rfl) ?_
                first
                  | exact absurd rfl c45
                  | exact absurd c45 (by decide)
                  | exact absurd rfl c50
                  | exact absurd c50 (by decide)
                  | exact absurd rfl c77
                  | exact absurd c77 (by decide)
                  | (have hno : ¬ (((k = 0 ∧ 0 ≤ n ∧ n ≤ 5) ∨ (k = 1 ∧ 1 ≤ n ∧ n ≤ 9)) ∧ ln < 6) := by omega
                     have h9 := h g (by simp only [if_neg hno]; exact hS) (FrC.rf g)
                     unfold E_old at h9
                     rw [if_neg (by omega)] at h9
                     exact h9)
          · refine r_iload_n (pc' := 31) dX10_old_30 rfl rfl ?_
            refine r_bipush (pc' := 33) dX10_old_31 rfl (by decide) ?_
            refine r_icmp_gt (tgt := 40) (pc' := 36) dX10_old_33 rfl rfl (by omega) (by omega) (fun c33 => ?_) (fun c33 => ?_)
            · refine r_iconst (pc' := 41) dX10_old_40 rfl ?_
              refine r_istore (pc' := 43) dX10_old_41 rfl rfl ?_
              refine r_iload (pc' := 45) dX10_old_43 rfl rfl ?_
              refine r_if_ne (tgt := 56) (pc' := 48) dX10_old_45 rfl rfl (by decide) (fun c45 => ?_) (fun c45 => ?_)
              · refine r_aload_n (pc' := 57) dX10_old_56 rfl rfl ?_
                refine r_getr (pc' := 60) dX10_old_57 rfl fX10_71 z0 rfl ?_
                refine r_getf (pc' := 63) (kI := 2) dX10_old_60 rfl fX10_111 z160 rfl rfl hK.1 ?_
                refine r_bipush (pc' := 65) dX10_old_63 rfl (by decide) ?_
                refine r_icmp_lt (tgt := 71) (pc' := 68) dX10_old_65 rfl rfl (by omega) (by omega) (fun c65 => ?_) (fun c65 => ?_)
                · refine r_aload_n (pc' := 72) dX10_old_71 rfl rfl ?_
                  refine r_getr (pc' := 75) dX10_old_72 rfl fX10_71 z0 rfl ?_
                  refine r_iload (pc' := 77) dX10_old_75 rfl rfl ?_
                  refine r_if_eq (tgt := 87) (pc' := 80) dX10_old_77 rfl rfl (by omega) (fun c77 => ?_) (fun c77 => ?_)
                  · refine r_iload_n (pc' := 88) dX10_old_87 rfl rfl ?_
                    refine r_iload_n (pc' := 89) dX10_old_88 rfl rfl ?_
                    refine r_vv2 (pc' := 92) dX10_old_89 rfl qX3_add lX10_289 z160 rfl rfl rfl rfl (Nat.zero_le _) (Nat.zero_le _) (a_lookAddI hK (by omega) (by omega) (by omega) (fun g1 hK1 fr1 => ?_))
                    refine r_aload_n (pc' := 93) dX10_old_92 rfl rfl ?_
                    refine r_getr (pc' := 96) dX10_old_93 rfl fX10_71 z0 rfl ?_
                    refine r_getf (pc' := 99) (kI := 2) dX10_old_96 rfl fX10_111 z160 rfl rfl hK1.1 ?_
                    refine r_reti dX10_old_99 rfl (Or.inl rfl) ?_
                    first
                      | exact absurd rfl c45
                      | exact absurd c45 (by decide)
                      | exact absurd rfl c50
                      | exact absurd c50 (by decide)
                      | exact absurd rfl c77
                      | exact absurd c77 (by decide)
                      | (have hok : ((k = 0 ∧ 0 ≤ n ∧ n ≤ 5) ∨ (k = 1 ∧ 1 ≤ n ∧ n ≤ 9)) ∧ ln < 6 := by omega
                         have h9 := h g1 (by simp only [if_pos hok]; exact ⟨TX.fr ⟨t1, t2, t3⟩ (fr1 1 (by simp only [List.mem_cons, List.not_mem_nil, or_false, not_or]; omega)) (fr1 2 (by simp only [List.mem_cons, List.not_mem_nil, or_false, not_or]; omega)), ⟨by rw [fr1 1 (by simp only [List.mem_cons, List.not_mem_nil, or_false, not_or]; omega)]; exact f1, f2⟩, hB.fr2 (fun j a1 a2 => fr1 j (by simp only [List.mem_cons, List.not_mem_nil, or_false, not_or]; omega)), ⟨top, hP.fr (fun j hj => by unfold pastB at hj; exact fr1 j (by simp only [List.mem_cons, List.not_mem_nil, or_false, not_or]; omega))⟩, IMs.fr hI (fun j a1 a2 => fr1 j (by simp only [List.mem_cons, List.not_mem_nil, or_false, not_or]; omega)), ⟨by rw [fr1 0 (by simp only [List.mem_cons, List.not_mem_nil, or_false, not_or]; omega)]; exact sd1, sd2, sd3⟩, (by first | (rw [show oldN k n = (10 + n).toNat from by unfold oldN; rw [if_pos (by omega)]; omega]; exact hK1) | (rw [show oldN k n = n.toNat from by unfold oldN; rw [if_neg (by omega)]]; exact hK1)), hN.fr (fr1 163 (by simp only [List.mem_cons, List.not_mem_nil, or_false, not_or]; omega)) (fr1 164 (by simp only [List.mem_cons, List.not_mem_nil, or_false, not_or]; omega)) (fr1 165 (by simp only [List.mem_cons, List.not_mem_nil, or_false, not_or]; omega))⟩) (fun j hj => fr1 j (by simp only [List.mem_cons, List.not_mem_nil, or_false, not_or]; omega))
                         unfold E_old at h9
                         rw [if_pos (by omega), if_pos (by omega)] at h9
                         exact h9)
                  · refine r_bipush (pc' := 82) dX10_old_80 rfl (by decide) ?_
                    refine r_iload_n (pc' := 83) dX10_old_82 rfl rfl ?_
                    refine r_iadd (pc' := 84) dX10_old_83 rfl ?_
                    refine r_goto (tgt := 88) dX10_old_84 rfl ?_
                    refine r_iload_n (pc' := 89) dX10_old_88 rfl rfl ?_
                    refine r_vv2 (pc' := 92) dX10_old_89 rfl qX3_add lX10_289 z160 rfl rfl rfl rfl (Nat.zero_le _) (Nat.zero_le _) (a_lookAddI hK (by omega) (by omega) (by omega) (fun g1 hK1 fr1 => ?_))
                    refine r_aload_n (pc' := 93) dX10_old_92 rfl rfl ?_
                    refine r_getr (pc' := 96) dX10_old_93 rfl fX10_71 z0 rfl ?_
                    refine r_getf (pc' := 99) (kI := 2) dX10_old_96 rfl fX10_111 z160 rfl rfl hK1.1 ?_
                    refine r_reti dX10_old_99 rfl (Or.inl rfl) ?_
                    first
                      | exact absurd rfl c45
                      | exact absurd c45 (by decide)
                      | exact absurd rfl c50
                      | exact absurd c50 (by decide)
                      | exact absurd rfl c77
                      | exact absurd c77 (by decide)
                      | (have hok : ((k = 0 ∧ 0 ≤ n ∧ n ≤ 5) ∨ (k = 1 ∧ 1 ≤ n ∧ n ≤ 9)) ∧ ln < 6 := by omega
                         have h9 := h g1 (by simp only [if_pos hok]; exact ⟨TX.fr ⟨t1, t2, t3⟩ (fr1 1 (by simp only [List.mem_cons, List.not_mem_nil, or_false, not_or]; omega)) (fr1 2 (by simp only [List.mem_cons, List.not_mem_nil, or_false, not_or]; omega)), ⟨by rw [fr1 1 (by simp only [List.mem_cons, List.not_mem_nil, or_false, not_or]; omega)]; exact f1, f2⟩, hB.fr2 (fun j a1 a2 => fr1 j (by simp only [List.mem_cons, List.not_mem_nil, or_false, not_or]; omega)), ⟨top, hP.fr (fun j hj => by unfold pastB at hj; exact fr1 j (by simp only [List.mem_cons, List.not_mem_nil, or_false, not_or]; omega))⟩, IMs.fr hI (fun j a1 a2 => fr1 j (by simp only [List.mem_cons, List.not_mem_nil, or_false, not_or]; omega)), ⟨by rw [fr1 0 (by simp only [List.mem_cons, List.not_mem_nil, or_false, not_or]; omega)]; exact sd1, sd2, sd3⟩, (by first | (rw [show oldN k n = (10 + n).toNat from by unfold oldN; rw [if_pos (by omega)]; omega]; exact hK1) | (rw [show oldN k n = n.toNat from by unfold oldN; rw [if_neg (by omega)]]; exact hK1)), hN.fr (fr1 163 (by simp only [List.mem_cons, List.not_mem_nil, or_false, not_or]; omega)) (fr1 164 (by simp only [List.mem_cons, List.not_mem_nil, or_false, not_or]; omega)) (fr1 165 (by simp only [List.mem_cons, List.not_mem_nil, or_false, not_or]; omega))⟩) (fun j hj => fr1 j (by simp only [List.mem_cons, List.not_mem_nil, or_false, not_or]; omega))
                         unfold E_old at h9
                         rw [if_pos (by omega), if_pos (by omega)] at h9
                         exact h9)
                · refine r_ldc (z := -1000000004) (pc' := 70) dX10_old_68 rfl kX10_90 ?_
                  refine r_reti dX10_old_70 rfl (Or.inl rfl) ?_
                  first
                    | exact absurd rfl c45
                    | exact absurd c45 (by decide)
                    | exact absurd rfl c50
                    | exact absurd c50 (by decide)
                    | exact absurd rfl c77
                    | exact absurd c77 (by decide)
                    | (have hno : ¬ (((k = 0 ∧ 0 ≤ n ∧ n ≤ 5) ∨ (k = 1 ∧ 1 ≤ n ∧ n ≤ 9)) ∧ ln < 6) := by omega
                       have h9 := h g (by simp only [if_neg hno]; exact hS) (FrC.rf g)
                       unfold E_old at h9
                       rw [if_pos (by omega), if_neg (by omega)] at h9
                       exact h9)
              · refine r_iload (pc' := 50) dX10_old_48 rfl rfl ?_
                refine r_if_ne (tgt := 56) (pc' := 53) dX10_old_50 rfl rfl (by omega) (fun c50 => ?_) (fun c50 => ?_)
                · refine r_aload_n (pc' := 57) dX10_old_56 rfl rfl ?_
                  refine r_getr (pc' := 60) dX10_old_57 rfl fX10_71 z0 rfl ?_
                  refine r_getf (pc' := 63) (kI := 2) dX10_old_60 rfl fX10_111 z160 rfl rfl hK.1 ?_
                  refine r_bipush (pc' := 65) dX10_old_63 rfl (by decide) ?_
                  refine r_icmp_lt (tgt := 71) (pc' := 68) dX10_old_65 rfl rfl (by omega) (by omega) (fun c65 => ?_) (fun c65 => ?_)
                  · refine r_aload_n (pc' := 72) dX10_old_71 rfl rfl ?_
                    refine r_getr (pc' := 75) dX10_old_72 rfl fX10_71 z0 rfl ?_
                    refine r_iload (pc' := 77) dX10_old_75 rfl rfl ?_
                    refine r_if_eq (tgt := 87) (pc' := 80) dX10_old_77 rfl rfl (by omega) (fun c77 => ?_) (fun c77 => ?_)
                    · refine r_iload_n (pc' := 88) dX10_old_87 rfl rfl ?_
                      refine r_iload_n (pc' := 89) dX10_old_88 rfl rfl ?_
                      refine r_vv2 (pc' := 92) dX10_old_89 rfl qX3_add lX10_289 z160 rfl rfl rfl rfl (Nat.zero_le _) (Nat.zero_le _) (a_lookAddI hK (by omega) (by omega) (by omega) (fun g1 hK1 fr1 => ?_))
                      refine r_aload_n (pc' := 93) dX10_old_92 rfl rfl ?_
                      refine r_getr (pc' := 96) dX10_old_93 rfl fX10_71 z0 rfl ?_
                      refine r_getf (pc' := 99) (kI := 2) dX10_old_96 rfl fX10_111 z160 rfl rfl hK1.1 ?_
                      refine r_reti dX10_old_99 rfl (Or.inl rfl) ?_
                      first
                        | exact absurd rfl c45
                        | exact absurd c45 (by decide)
                        | exact absurd rfl c50
                        | exact absurd c50 (by decide)
                        | exact absurd rfl c77
                        | exact absurd c77 (by decide)
                        | (have hok : ((k = 0 ∧ 0 ≤ n ∧ n ≤ 5) ∨ (k = 1 ∧ 1 ≤ n ∧ n ≤ 9)) ∧ ln < 6 := by omega
                           have h9 := h g1 (by simp only [if_pos hok]; exact ⟨TX.fr ⟨t1, t2, t3⟩ (fr1 1 (by simp only [List.mem_cons, List.not_mem_nil, or_false, not_or]; omega)) (fr1 2 (by simp only [List.mem_cons, List.not_mem_nil, or_false, not_or]; omega)), ⟨by rw [fr1 1 (by simp only [List.mem_cons, List.not_mem_nil, or_false, not_or]; omega)]; exact f1, f2⟩, hB.fr2 (fun j a1 a2 => fr1 j (by simp only [List.mem_cons, List.not_mem_nil, or_false, not_or]; omega)), ⟨top, hP.fr (fun j hj => by unfold pastB at hj; exact fr1 j (by simp only [List.mem_cons, List.not_mem_nil, or_false, not_or]; omega))⟩, IMs.fr hI (fun j a1 a2 => fr1 j (by simp only [List.mem_cons, List.not_mem_nil, or_false, not_or]; omega)), ⟨by rw [fr1 0 (by simp only [List.mem_cons, List.not_mem_nil, or_false, not_or]; omega)]; exact sd1, sd2, sd3⟩, (by first | (rw [show oldN k n = (10 + n).toNat from by unfold oldN; rw [if_pos (by omega)]; omega]; exact hK1) | (rw [show oldN k n = n.toNat from by unfold oldN; rw [if_neg (by omega)]]; exact hK1)), hN.fr (fr1 163 (by simp only [List.mem_cons, List.not_mem_nil, or_false, not_or]; omega)) (fr1 164 (by simp only [List.mem_cons, List.not_mem_nil, or_false, not_or]; omega)) (fr1 165 (by simp only [List.mem_cons, List.not_mem_nil, or_false, not_or]; omega))⟩) (fun j hj => fr1 j (by simp only [List.mem_cons, List.not_mem_nil, or_false, not_or]; omega))
                           unfold E_old at h9
                           rw [if_pos (by omega), if_pos (by omega)] at h9
                           exact h9)
                    · refine r_bipush (pc' := 82) dX10_old_80 rfl (by decide) ?_
                      refine r_iload_n (pc' := 83) dX10_old_82 rfl rfl ?_
                      refine r_iadd (pc' := 84) dX10_old_83 rfl ?_
                      refine r_goto (tgt := 88) dX10_old_84 rfl ?_
                      refine r_iload_n (pc' := 89) dX10_old_88 rfl rfl ?_
                      refine r_vv2 (pc' := 92) dX10_old_89 rfl qX3_add lX10_289 z160 rfl rfl rfl rfl (Nat.zero_le _) (Nat.zero_le _) (a_lookAddI hK (by omega) (by omega) (by omega) (fun g1 hK1 fr1 => ?_))
                      refine r_aload_n (pc' := 93) dX10_old_92 rfl rfl ?_
                      refine r_getr (pc' := 96) dX10_old_93 rfl fX10_71 z0 rfl ?_
                      refine r_getf (pc' := 99) (kI := 2) dX10_old_96 rfl fX10_111 z160 rfl rfl hK1.1 ?_
                      refine r_reti dX10_old_99 rfl (Or.inl rfl) ?_
                      first
                        | exact absurd rfl c45
                        | exact absurd c45 (by decide)
                        | exact absurd rfl c50
                        | exact absurd c50 (by decide)
                        | exact absurd rfl c77
                        | exact absurd c77 (by decide)
                        | (have hok : ((k = 0 ∧ 0 ≤ n ∧ n ≤ 5) ∨ (k = 1 ∧ 1 ≤ n ∧ n ≤ 9)) ∧ ln < 6 := by omega
                           have h9 := h g1 (by simp only [if_pos hok]; exact ⟨TX.fr ⟨t1, t2, t3⟩ (fr1 1 (by simp only [List.mem_cons, List.not_mem_nil, or_false, not_or]; omega)) (fr1 2 (by simp only [List.mem_cons, List.not_mem_nil, or_false, not_or]; omega)), ⟨by rw [fr1 1 (by simp only [List.mem_cons, List.not_mem_nil, or_false, not_or]; omega)]; exact f1, f2⟩, hB.fr2 (fun j a1 a2 => fr1 j (by simp only [List.mem_cons, List.not_mem_nil, or_false, not_or]; omega)), ⟨top, hP.fr (fun j hj => by unfold pastB at hj; exact fr1 j (by simp only [List.mem_cons, List.not_mem_nil, or_false, not_or]; omega))⟩, IMs.fr hI (fun j a1 a2 => fr1 j (by simp only [List.mem_cons, List.not_mem_nil, or_false, not_or]; omega)), ⟨by rw [fr1 0 (by simp only [List.mem_cons, List.not_mem_nil, or_false, not_or]; omega)]; exact sd1, sd2, sd3⟩, (by first | (rw [show oldN k n = (10 + n).toNat from by unfold oldN; rw [if_pos (by omega)]; omega]; exact hK1) | (rw [show oldN k n = n.toNat from by unfold oldN; rw [if_neg (by omega)]]; exact hK1)), hN.fr (fr1 163 (by simp only [List.mem_cons, List.not_mem_nil, or_false, not_or]; omega)) (fr1 164 (by simp only [List.mem_cons, List.not_mem_nil, or_false, not_or]; omega)) (fr1 165 (by simp only [List.mem_cons, List.not_mem_nil, or_false, not_or]; omega))⟩) (fun j hj => fr1 j (by simp only [List.mem_cons, List.not_mem_nil, or_false, not_or]; omega))
                           unfold E_old at h9
                           rw [if_pos (by omega), if_pos (by omega)] at h9
                           exact h9)
                  · refine r_ldc (z := -1000000004) (pc' := 70) dX10_old_68 rfl kX10_90 ?_
                    refine r_reti dX10_old_70 rfl (Or.inl rfl) ?_
                    first
                      | exact absurd rfl c45
                      | exact absurd c45 (by decide)
                      | exact absurd rfl c50
                      | exact absurd c50 (by decide)
                      | exact absurd rfl c77
                      | exact absurd c77 (by decide)
                      | (have hno : ¬ (((k = 0 ∧ 0 ≤ n ∧ n ≤ 5) ∨ (k = 1 ∧ 1 ≤ n ∧ n ≤ 9)) ∧ ln < 6) := by omega
                         have h9 := h g (by simp only [if_neg hno]; exact hS) (FrC.rf g)
                         unfold E_old at h9
                         rw [if_pos (by omega), if_neg (by omega)] at h9
                         exact h9)
                · refine r_ldc (z := -1000000002) (pc' := 55) dX10_old_53 rfl kX10_86 ?_
                  refine r_reti dX10_old_55 rfl (Or.inl rfl) ?_
                  first
                    | exact absurd rfl c45
                    | exact absurd c45 (by decide)
                    | exact absurd rfl c50
                    | exact absurd c50 (by decide)
                    | exact absurd rfl c77
                    | exact absurd c77 (by decide)
                    | (have hno : ¬ (((k = 0 ∧ 0 ≤ n ∧ n ≤ 5) ∨ (k = 1 ∧ 1 ≤ n ∧ n ≤ 9)) ∧ ln < 6) := by omega
                       have h9 := h g (by simp only [if_neg hno]; exact hS) (FrC.rf g)
                       unfold E_old at h9
                       rw [if_neg (by omega)] at h9
                       exact h9)
            · refine r_iconst (pc' := 37) dX10_old_36 rfl ?_
              refine r_goto (tgt := 41) dX10_old_37 rfl ?_
              refine r_istore (pc' := 43) dX10_old_41 rfl rfl ?_
              refine r_iload (pc' := 45) dX10_old_43 rfl rfl ?_
              refine r_if_ne (tgt := 56) (pc' := 48) dX10_old_45 rfl rfl (by decide) (fun c45 => ?_) (fun c45 => ?_)
              · refine r_aload_n (pc' := 57) dX10_old_56 rfl rfl ?_
                refine r_getr (pc' := 60) dX10_old_57 rfl fX10_71 z0 rfl ?_
                refine r_getf (pc' := 63) (kI := 2) dX10_old_60 rfl fX10_111 z160 rfl rfl hK.1 ?_
                refine r_bipush (pc' := 65) dX10_old_63 rfl (by decide) ?_
                refine r_icmp_lt (tgt := 71) (pc' := 68) dX10_old_65 rfl rfl (by omega) (by omega) (fun c65 => ?_) (fun c65 => ?_)
                · refine r_aload_n (pc' := 72) dX10_old_71 rfl rfl ?_
                  refine r_getr (pc' := 75) dX10_old_72 rfl fX10_71 z0 rfl ?_
                  refine r_iload (pc' := 77) dX10_old_75 rfl rfl ?_
                  refine r_if_eq (tgt := 87) (pc' := 80) dX10_old_77 rfl rfl (by omega) (fun c77 => ?_) (fun c77 => ?_)
                  · refine r_iload_n (pc' := 88) dX10_old_87 rfl rfl ?_
                    refine r_iload_n (pc' := 89) dX10_old_88 rfl rfl ?_
                    refine r_vv2 (pc' := 92) dX10_old_89 rfl qX3_add lX10_289 z160 rfl rfl rfl rfl (Nat.zero_le _) (Nat.zero_le _) (a_lookAddI hK (by omega) (by omega) (by omega) (fun g1 hK1 fr1 => ?_))
                    refine r_aload_n (pc' := 93) dX10_old_92 rfl rfl ?_
                    refine r_getr (pc' := 96) dX10_old_93 rfl fX10_71 z0 rfl ?_
                    refine r_getf (pc' := 99) (kI := 2) dX10_old_96 rfl fX10_111 z160 rfl rfl hK1.1 ?_
                    refine r_reti dX10_old_99 rfl (Or.inl rfl) ?_
                    first
                      | exact absurd rfl c45
                      | exact absurd c45 (by decide)
                      | exact absurd rfl c50
                      | exact absurd c50 (by decide)
                      | exact absurd rfl c77
                      | exact absurd c77 (by decide)
                      | (have hok : ((k = 0 ∧ 0 ≤ n ∧ n ≤ 5) ∨ (k = 1 ∧ 1 ≤ n ∧ n ≤ 9)) ∧ ln < 6 := by omega
                         have h9 := h g1 (by simp only [if_pos hok]; exact ⟨TX.fr ⟨t1, t2, t3⟩ (fr1 1 (by simp only [List.mem_cons, List.not_mem_nil, or_false, not_or]; omega)) (fr1 2 (by simp only [List.mem_cons, List.not_mem_nil, or_false, not_or]; omega)), ⟨by rw [fr1 1 (by simp only [List.mem_cons, List.not_mem_nil, or_false, not_or]; omega)]; exact f1, f2⟩, hB.fr2 (fun j a1 a2 => fr1 j (by simp only [List.mem_cons, List.not_mem_nil, or_false, not_or]; omega)), ⟨top, hP.fr (fun j hj => by unfold pastB at hj; exact fr1 j (by simp only [List.mem_cons, List.not_mem_nil, or_false, not_or]; omega))⟩, IMs.fr hI (fun j a1 a2 => fr1 j (by simp only [List.mem_cons, List.not_mem_nil, or_false, not_or]; omega)), ⟨by rw [fr1 0 (by simp only [List.mem_cons, List.not_mem_nil, or_false, not_or]; omega)]; exact sd1, sd2, sd3⟩, (by first | (rw [show oldN k n = (10 + n).toNat from by unfold oldN; rw [if_pos (by omega)]; omega]; exact hK1) | (rw [show oldN k n = n.toNat from by unfold oldN; rw [if_neg (by omega)]]; exact hK1)), hN.fr (fr1 163 (by simp only [List.mem_cons, List.not_mem_nil, or_false, not_or]; omega)) (fr1 164 (by simp only [List.mem_cons, List.not_mem_nil, or_false, not_or]; omega)) (fr1 165 (by simp only [List.mem_cons, List.not_mem_nil, or_false, not_or]; omega))⟩) (fun j hj => fr1 j (by simp only [List.mem_cons, List.not_mem_nil, or_false, not_or]; omega))
                         unfold E_old at h9
                         rw [if_pos (by omega), if_pos (by omega)] at h9
                         exact h9)
                  · refine r_bipush (pc' := 82) dX10_old_80 rfl (by decide) ?_
                    refine r_iload_n (pc' := 83) dX10_old_82 rfl rfl ?_
                    refine r_iadd (pc' := 84) dX10_old_83 rfl ?_
                    refine r_goto (tgt := 88) dX10_old_84 rfl ?_
                    refine r_iload_n (pc' := 89) dX10_old_88 rfl rfl ?_
                    refine r_vv2 (pc' := 92) dX10_old_89 rfl qX3_add lX10_289 z160 rfl rfl rfl rfl (Nat.zero_le _) (Nat.zero_le _) (a_lookAddI hK (by omega) (by omega) (by omega) (fun g1 hK1 fr1 => ?_))
                    refine r_aload_n (pc' := 93) dX10_old_92 rfl rfl ?_
                    refine r_getr (pc' := 96) dX10_old_93 rfl fX10_71 z0 rfl ?_
                    refine r_getf (pc' := 99) (kI := 2) dX10_old_96 rfl fX10_111 z160 rfl rfl hK1.1 ?_
                    refine r_reti dX10_old_99 rfl (Or.inl rfl) ?_
                    first
                      | exact absurd rfl c45
                      | exact absurd c45 (by decide)
                      | exact absurd rfl c50
                      | exact absurd c50 (by decide)
                      | exact absurd rfl c77
                      | exact absurd c77 (by decide)
                      | (have hok : ((k = 0 ∧ 0 ≤ n ∧ n ≤ 5) ∨ (k = 1 ∧ 1 ≤ n ∧ n ≤ 9)) ∧ ln < 6 := by omega
                         have h9 := h g1 (by simp only [if_pos hok]; exact ⟨TX.fr ⟨t1, t2, t3⟩ (fr1 1 (by simp only [List.mem_cons, List.not_mem_nil, or_false, not_or]; omega)) (fr1 2 (by simp only [List.mem_cons, List.not_mem_nil, or_false, not_or]; omega)), ⟨by rw [fr1 1 (by simp only [List.mem_cons, List.not_mem_nil, or_false, not_or]; omega)]; exact f1, f2⟩, hB.fr2 (fun j a1 a2 => fr1 j (by simp only [List.mem_cons, List.not_mem_nil, or_false, not_or]; omega)), ⟨top, hP.fr (fun j hj => by unfold pastB at hj; exact fr1 j (by simp only [List.mem_cons, List.not_mem_nil, or_false, not_or]; omega))⟩, IMs.fr hI (fun j a1 a2 => fr1 j (by simp only [List.mem_cons, List.not_mem_nil, or_false, not_or]; omega)), ⟨by rw [fr1 0 (by simp only [List.mem_cons, List.not_mem_nil, or_false, not_or]; omega)]; exact sd1, sd2, sd3⟩, (by first | (rw [show oldN k n = (10 + n).toNat from by unfold oldN; rw [if_pos (by omega)]; omega]; exact hK1) | (rw [show oldN k n = n.toNat from by unfold oldN; rw [if_neg (by omega)]]; exact hK1)), hN.fr (fr1 163 (by simp only [List.mem_cons, List.not_mem_nil, or_false, not_or]; omega)) (fr1 164 (by simp only [List.mem_cons, List.not_mem_nil, or_false, not_or]; omega)) (fr1 165 (by simp only [List.mem_cons, List.not_mem_nil, or_false, not_or]; omega))⟩) (fun j hj => fr1 j (by simp only [List.mem_cons, List.not_mem_nil, or_false, not_or]; omega))
                         unfold E_old at h9
                         rw [if_pos (by omega), if_pos (by omega)] at h9
                         exact h9)
                · refine r_ldc (z := -1000000004) (pc' := 70) dX10_old_68 rfl kX10_90 ?_
                  refine r_reti dX10_old_70 rfl (Or.inl rfl) ?_
                  first
                    | exact absurd rfl c45
                    | exact absurd c45 (by decide)
                    | exact absurd rfl c50
                    | exact absurd c50 (by decide)
                    | exact absurd rfl c77
                    | exact absurd c77 (by decide)
                    | (have hno : ¬ (((k = 0 ∧ 0 ≤ n ∧ n ≤ 5) ∨ (k = 1 ∧ 1 ≤ n ∧ n ≤ 9)) ∧ ln < 6) := by omega
                       have h9 := h g (by simp only [if_neg hno]; exact hS) (FrC.rf g)
                       unfold E_old at h9
                       rw [if_pos (by omega), if_neg (by omega)] at h9
                       exact h9)
              · refine r_iload (pc' := 50) dX10_old_48 rfl rfl ?_
                refine r_if_ne (tgt := 56) (pc' := 53) dX10_old_50 rfl rfl (by omega) (fun c50 => ?_) (fun c50 => ?_)
                · refine r_aload_n (pc' := 57) dX10_old_56 rfl rfl ?_
                  refine r_getr (pc' := 60) dX10_old_57 rfl fX10_71 z0 rfl ?_
                  refine r_getf (pc' := 63) (kI := 2) dX10_old_60 rfl fX10_111 z160 rfl rfl hK.1 ?_
                  refine r_bipush (pc' := 65) dX10_old_63 rfl (by decide) ?_
                  refine r_icmp_lt (tgt := 71) (pc' := 68) dX10_old_65 rfl rfl (by omega) (by omega) (fun c65 => ?_) (fun c65 => ?_)
                  · refine r_aload_n (pc' := 72) dX10_old_71 rfl rfl ?_
                    refine r_getr (pc' := 75) dX10_old_72 rfl fX10_71 z0 rfl ?_
                    refine r_iload (pc' := 77) dX10_old_75 rfl rfl ?_
                    refine r_if_eq (tgt := 87) (pc' := 80) dX10_old_77 rfl rfl (by omega) (fun c77 => ?_) (fun c77 => ?_)
                    · refine r_iload_n (pc' := 88) dX10_old_87 rfl rfl ?_
                      refine r_iload_n (pc' := 89) dX10_old_88 rfl rfl ?_
                      refine r_vv2 (pc' := 92) dX10_old_89 rfl qX3_add lX10_289 z160 rfl rfl rfl rfl (Nat.zero_le _) (Nat.zero_le _) (a_lookAddI hK (by omega) (by omega) (by omega) (fun g1 hK1 fr1 => ?_))
                      refine r_aload_n (pc' := 93) dX10_old_92 rfl rfl ?_
                      refine r_getr (pc' := 96) dX10_old_93 rfl fX10_71 z0 rfl ?_
                      refine r_getf (pc' := 99) (kI := 2) dX10_old_96 rfl fX10_111 z160 rfl rfl hK1.1 ?_
                      refine r_reti dX10_old_99 rfl (Or.inl rfl) ?_
                      first
                        | exact absurd rfl c45
                        | exact absurd c45 (by decide)
                        | exact absurd rfl c50
                        | exact absurd c50 (by decide)
                        | exact absurd rfl c77
                        | exact absurd c77 (by decide)
                        | (have hok : ((k = 0 ∧ 0 ≤ n ∧ n ≤ 5) ∨ (k = 1 ∧ 1 ≤ n ∧ n ≤ 9)) ∧ ln < 6 := by omega
                           have h9 := h g1 (by simp only [if_pos hok]; exact ⟨TX.fr ⟨t1, t2, t3⟩ (fr1 1 (by simp only [List.mem_cons, List.not_mem_nil, or_false, not_or]; omega)) (fr1 2 (by simp only [List.mem_cons, List.not_mem_nil, or_false, not_or]; omega)), ⟨by rw [fr1 1 (by simp only [List.mem_cons, List.not_mem_nil, or_false, not_or]; omega)]; exact f1, f2⟩, hB.fr2 (fun j a1 a2 => fr1 j (by simp only [List.mem_cons, List.not_mem_nil, or_false, not_or]; omega)), ⟨top, hP.fr (fun j hj => by unfold pastB at hj; exact fr1 j (by simp only [List.mem_cons, List.not_mem_nil, or_false, not_or]; omega))⟩, IMs.fr hI (fun j a1 a2 => fr1 j (by simp only [List.mem_cons, List.not_mem_nil, or_false, not_or]; omega)), ⟨by rw [fr1 0 (by simp only [List.mem_cons, List.not_mem_nil, or_false, not_or]; omega)]; exact sd1, sd2, sd3⟩, (by first | (rw [show oldN k n = (10 + n).toNat from by unfold oldN; rw [if_pos (by omega)]; omega]; exact hK1) | (rw [show oldN k n = n.toNat from by unfold oldN; rw [if_neg (by omega)]]; exact hK1)), hN.fr (fr1 163 (by simp only [List.mem_cons, List.not_mem_nil, or_false, not_or]; omega)) (fr1 164 (by simp only [List.mem_cons, List.not_mem_nil, or_false, not_or]; omega)) (fr1 165 (by simp only [List.mem_cons, List.not_mem_nil, or_false, not_or]; omega))⟩) (fun j hj => fr1 j (by simp only [List.mem_cons, List.not_mem_nil, or_false, not_or]; omega))
                           unfold E_old at h9
                           rw [if_pos (by omega), if_pos (by omega)] at h9
                           exact h9)
                    · refine r_bipush (pc' := 82) dX10_old_80 rfl (by decide) ?_
                      refine r_iload_n (pc' := 83) dX10_old_82 rfl rfl ?_
                      refine r_iadd (pc' := 84) dX10_old_83 rfl ?_
                      refine r_goto (tgt := 88) dX10_old_84 rfl ?_
                      refine r_iload_n (pc' := 89) dX10_old_88 rfl rfl ?_
                      refine r_vv2 (pc' := 92) dX10_old_89 rfl qX3_add lX10_289 z160 rfl rfl rfl rfl (Nat.zero_le _) (Nat.zero_le _) (a_lookAddI hK (by omega) (by omega) (by omega) (fun g1 hK1 fr1 => ?_))
                      refine r_aload_n (pc' := 93) dX10_old_92 rfl rfl ?_
                      refine r_getr (pc' := 96) dX10_old_93 rfl fX10_71 z0 rfl ?_
                      refine r_getf (pc' := 99) (kI := 2) dX10_old_96 rfl fX10_111 z160 rfl rfl hK1.1 ?_
                      refine r_reti dX10_old_99 rfl (Or.inl rfl) ?_
                      first
                        | exact absurd rfl c45
                        | exact absurd c45 (by decide)
                        | exact absurd rfl c50
                        | exact absurd c50 (by decide)
                        | exact absurd rfl c77
                        | exact absurd c77 (by decide)
                        | (have hok : ((k = 0 ∧ 0 ≤ n ∧ n ≤ 5) ∨ (k = 1 ∧ 1 ≤ n ∧ n ≤ 9)) ∧ ln < 6 := by omega
                           have h9 := h g1 (by simp only [if_pos hok]; exact ⟨TX.fr ⟨t1, t2, t3⟩ (fr1 1 (by simp only [List.mem_cons, List.not_mem_nil, or_false, not_or]; omega)) (fr1 2 (by simp only [List.mem_cons, List.not_mem_nil, or_false, not_or]; omega)), ⟨by rw [fr1 1 (by simp only [List.mem_cons, List.not_mem_nil, or_false, not_or]; omega)]; exact f1, f2⟩, hB.fr2 (fun j a1 a2 => fr1 j (by simp only [List.mem_cons, List.not_mem_nil, or_false, not_or]; omega)), ⟨top, hP.fr (fun j hj => by unfold pastB at hj; exact fr1 j (by simp only [List.mem_cons, List.not_mem_nil, or_false, not_or]; omega))⟩, IMs.fr hI (fun j a1 a2 => fr1 j (by simp only [List.mem_cons, List.not_mem_nil, or_false, not_or]; omega)), ⟨by rw [fr1 0 (by simp only [List.mem_cons, List.not_mem_nil, or_false, not_or]; omega)]; exact sd1, sd2, sd3⟩, (by first | (rw [show oldN k n = (10 + n).toNat from by unfold oldN; rw [if_pos (by omega)]; omega]; exact hK1) | (rw [show oldN k n = n.toNat from by unfold oldN; rw [if_neg (by omega)]]; exact hK1)), hN.fr (fr1 163 (by simp only [List.mem_cons, List.not_mem_nil, or_false, not_or]; omega)) (fr1 164 (by simp only [List.mem_cons, List.not_mem_nil, or_false, not_or]; omega)) (fr1 165 (by simp only [List.mem_cons, List.not_mem_nil, or_false, not_or]; omega))⟩) (fun j hj => fr1 j (by simp only [List.mem_cons, List.not_mem_nil, or_false, not_or]; omega))
                           unfold E_old at h9
                           rw [if_pos (by omega), if_pos (by omega)] at h9
                           exact h9)
                  · refine r_ldc (z := -1000000004) (pc' := 70) dX10_old_68 rfl kX10_90 ?_
                    refine r_reti dX10_old_70 rfl (Or.inl rfl) ?_
                    first
                      | exact absurd rfl c45
                      | exact absurd c45 (by decide)
                      | exact absurd rfl c50
                      | exact absurd c50 (by decide)
                      | exact absurd rfl c77
                      | exact absurd c77 (by decide)
                      | (have hno : ¬ (((k = 0 ∧ 0 ≤ n ∧ n ≤ 5) ∨ (k = 1 ∧ 1 ≤ n ∧ n ≤ 9)) ∧ ln < 6) := by omega
                         have h9 := h g (by simp only [if_neg hno]; exact hS) (FrC.rf g)
                         unfold E_old at h9
                         rw [if_pos (by omega), if_neg (by omega)] at h9
                         exact h9)
                · refine r_ldc (z := -1000000002) (pc' := 55) dX10_old_53 rfl kX10_86 ?_
                  refine r_reti dX10_old_55 rfl (Or.inl rfl) ?_
                  first
                    | exact absurd rfl c45
                    | exact absurd c45 (by decide)
                    | exact absurd rfl c50
                    | exact absurd c50 (by decide)
                    | exact absurd rfl c77
                    | exact absurd c77 (by decide)
                    | (have hno : ¬ (((k = 0 ∧ 0 ≤ n ∧ n ≤ 5) ∨ (k = 1 ∧ 1 ≤ n ∧ n ≤ 9)) ∧ ln < 6) := by omega
                       have h9 := h g (by simp only [if_neg hno]; exact hS) (FrC.rf g)
                       unfold E_old at h9
                       rw [if_neg (by omega)] at h9
                       exact h9)
      · refine r_iconst (pc' := 14) dX10_old_13 rfl ?_
        refine r_goto (tgt := 18) dX10_old_14 rfl ?_
        refine r_istore (pc' := 20) dX10_old_18 rfl rfl ?_
        refine r_iload_n (pc' := 21) dX10_old_20 rfl rfl ?_
        refine r_iconst (pc' := 22) dX10_old_21 rfl ?_
        refine r_icmp_ne (tgt := 40) (pc' := 25) dX10_old_22 rfl rfl (by omega) (by omega) (fun c22 => ?_) (fun c22 => ?_)
        · refine r_iconst (pc' := 41) dX10_old_40 rfl ?_
          refine r_istore (pc' := 43) dX10_old_41 rfl rfl ?_
          refine r_iload (pc' := 45) dX10_old_43 rfl rfl ?_
          refine r_if_ne (tgt := 56) (pc' := 48) dX10_old_45 rfl rfl (by decide) (fun c45 => ?_) (fun c45 => ?_)
          · refine r_aload_n (pc' := 57) dX10_old_56 rfl rfl ?_
            refine r_getr (pc' := 60) dX10_old_57 rfl fX10_71 z0 rfl ?_
            refine r_getf (pc' := 63) (kI := 2) dX10_old_60 rfl fX10_111 z160 rfl rfl hK.1 ?_
            refine r_bipush (pc' := 65) dX10_old_63 rfl (by decide) ?_
            refine r_icmp_lt (tgt := 71) (pc' := 68) dX10_old_65 rfl rfl (by omega) (by omega) (fun c65 => ?_) (fun c65 => ?_)
            · refine r_aload_n (pc' := 72) dX10_old_71 rfl rfl ?_
              refine r_getr (pc' := 75) dX10_old_72 rfl fX10_71 z0 rfl ?_
              refine r_iload (pc' := 77) dX10_old_75 rfl rfl ?_
              refine r_if_eq (tgt := 87) (pc' := 80) dX10_old_77 rfl rfl (by omega) (fun c77 => ?_) (fun c77 => ?_)
              · refine r_iload_n (pc' := 88) dX10_old_87 rfl rfl ?_
                refine r_iload_n (pc' := 89) dX10_old_88 rfl rfl ?_
                refine r_vv2 (pc' := 92) dX10_old_89 rfl qX3_add lX10_289 z160 rfl rfl rfl rfl (Nat.zero_le _) (Nat.zero_le _) (a_lookAddI hK (by omega) (by omega) (by omega) (fun g1 hK1 fr1 => ?_))
                refine r_aload_n (pc' := 93) dX10_old_92 rfl rfl ?_
                refine r_getr (pc' := 96) dX10_old_93 rfl fX10_71 z0 rfl ?_
                refine r_getf (pc' := 99) (kI := 2) dX10_old_96 rfl fX10_111 z160 rfl rfl hK1.1 ?_
                refine r_reti dX10_old_99 rfl (Or.inl rfl) ?_
                first
                  | exact absurd rfl c45
                  | exact absurd c45 (by decide)
                  | exact absurd rfl c50
                  | exact absurd c50 (by decide)
                  | exact absurd rfl c77
                  | exact absurd c77 (by decide)
                  | (have hok : ((k = 0 ∧ 0 ≤ n ∧ n ≤ 5) ∨ (k = 1 ∧ 1 ≤ n ∧ n ≤ 9)) ∧ ln < 6 := by omega
                     have h9 := h g1 (by simp only [if_pos hok]; exact ⟨TX.fr ⟨t1, t2, t3⟩ (fr1 1 (by simp only [List.mem_cons, List.not_mem_nil, or_false, not_or]; omega)) (fr1 2 (by simp only [List.mem_cons, List.not_mem_nil, or_false, not_or]; omega)), ⟨by rw [fr1 1 (by simp only [List.mem_cons, List.not_mem_nil, or_false, not_or]; omega)]; exact f1, f2⟩, hB.fr2 (fun j a1 a2 => fr1 j (by simp only [List.mem_cons, List.not_mem_nil, or_false, not_or]; omega)), ⟨top, hP.fr (fun j hj => by unfold pastB at hj; exact fr1 j (by simp only [List.mem_cons, List.not_mem_nil, or_false, not_or]; omega))⟩, IMs.fr hI (fun j a1 a2 => fr1 j (by simp only [List.mem_cons, List.not_mem_nil, or_false, not_or]; omega)), ⟨by rw [fr1 0 (by simp only [List.mem_cons, List.not_mem_nil, or_false, not_or]; omega)]; exact sd1, sd2, sd3⟩, (by first | (rw [show oldN k n = (10 + n).toNat from by unfold oldN; rw [if_pos (by omega)]; omega]; exact hK1) | (rw [show oldN k n = n.toNat from by unfold oldN; rw [if_neg (by omega)]]; exact hK1)), hN.fr (fr1 163 (by simp only [List.mem_cons, List.not_mem_nil, or_false, not_or]; omega)) (fr1 164 (by simp only [List.mem_cons, List.not_mem_nil, or_false, not_or]; omega)) (fr1 165 (by simp only [List.mem_cons, List.not_mem_nil, or_false, not_or]; omega))⟩) (fun j hj => fr1 j (by simp only [List.mem_cons, List.not_mem_nil, or_false, not_or]; omega))
                     unfold E_old at h9
                     rw [if_pos (by omega), if_pos (by omega)] at h9
                     exact h9)
              · refine r_bipush (pc' := 82) dX10_old_80 rfl (by decide) ?_
                refine r_iload_n (pc' := 83) dX10_old_82 rfl rfl ?_
                refine r_iadd (pc' := 84) dX10_old_83 rfl ?_
                refine r_goto (tgt := 88) dX10_old_84 rfl ?_
                refine r_iload_n (pc' := 89) dX10_old_88 rfl rfl ?_
                refine r_vv2 (pc' := 92) dX10_old_89 rfl qX3_add lX10_289 z160 rfl rfl rfl rfl (Nat.zero_le _) (Nat.zero_le _) (a_lookAddI hK (by omega) (by omega) (by omega) (fun g1 hK1 fr1 => ?_))
                refine r_aload_n (pc' := 93) dX10_old_92 rfl rfl ?_
                refine r_getr (pc' := 96) dX10_old_93 rfl fX10_71 z0 rfl ?_
                refine r_getf (pc' := 99) (kI := 2) dX10_old_96 rfl fX10_111 z160 rfl rfl hK1.1 ?_
                refine r_reti dX10_old_99 rfl (Or.inl rfl) ?_
                first
                  | exact absurd rfl c45
                  | exact absurd c45 (by decide)
                  | exact absurd rfl c50
                  | exact absurd c50 (by decide)
                  | exact absurd rfl c77
                  | exact absurd c77 (by decide)
                  | (have hok : ((k = 0 ∧ 0 ≤ n ∧ n ≤ 5) ∨ (k = 1 ∧ 1 ≤ n ∧ n ≤ 9)) ∧ ln < 6 := by omega
                     have h9 := h g1 (by simp only [if_pos hok]; exact ⟨TX.fr ⟨t1, t2, t3⟩ (fr1 1 (by simp only [List.mem_cons, List.not_mem_nil, or_false, not_or]; omega)) (fr1 2 (by simp only [List.mem_cons, List.not_mem_nil, or_false, not_or]; omega)), ⟨by rw [fr1 1 (by simp only [List.mem_cons, List.not_mem_nil, or_false, not_or]; omega)]; exact f1, f2⟩, hB.fr2 (fun j a1 a2 => fr1 j (by simp only [List.mem_cons, List.not_mem_nil, or_false, not_or]; omega)), ⟨top, hP.fr (fun j hj => by unfold pastB at hj; exact fr1 j (by simp only [List.mem_cons, List.not_mem_nil, or_false, not_or]; omega))⟩, IMs.fr hI (fun j a1 a2 => fr1 j (by simp only [List.mem_cons, List.not_mem_nil, or_false, not_or]; omega)), ⟨by rw [fr1 0 (by simp only [List.mem_cons, List.not_mem_nil, or_false, not_or]; omega)]; exact sd1, sd2, sd3⟩, (by first | (rw [show oldN k n = (10 + n).toNat from by unfold oldN; rw [if_pos (by omega)]; omega]; exact hK1) | (rw [show oldN k n = n.toNat from by unfold oldN; rw [if_neg (by omega)]]; exact hK1)), hN.fr (fr1 163 (by simp only [List.mem_cons, List.not_mem_nil, or_false, not_or]; omega)) (fr1 164 (by simp only [List.mem_cons, List.not_mem_nil, or_false, not_or]; omega)) (fr1 165 (by simp only [List.mem_cons, List.not_mem_nil, or_false, not_or]; omega))⟩) (fun j hj => fr1 j (by simp only [List.mem_cons, List.not_mem_nil, or_false, not_or]; omega))
                     unfold E_old at h9
                     rw [if_pos (by omega), if_pos (by omega)] at h9
                     exact h9)
            · refine r_ldc (z := -1000000004) (pc' := 70) dX10_old_68 rfl kX10_90 ?_
              refine r_reti dX10_old_70 rfl (Or.inl rfl) ?_
              first
                | exact absurd rfl c45
                | exact absurd c45 (by decide)
                | exact absurd rfl c50
                | exact absurd c50 (by decide)
                | exact absurd rfl c77
                | exact absurd c77 (by decide)
                | (have hno : ¬ (((k = 0 ∧ 0 ≤ n ∧ n ≤ 5) ∨ (k = 1 ∧ 1 ≤ n ∧ n ≤ 9)) ∧ ln < 6) := by omega
                   have h9 := h g (by simp only [if_neg hno]; exact hS) (FrC.rf g)
                   unfold E_old at h9
                   rw [if_pos (by omega), if_neg (by omega)] at h9
                   exact h9)
          · refine r_iload (pc' := 50) dX10_old_48 rfl rfl ?_
            refine r_if_ne (tgt := 56) (pc' := 53) dX10_old_50 rfl rfl (by omega) (fun c50 => ?_) (fun c50 => ?_)
            · refine r_aload_n (pc' := 57) dX10_old_56 rfl rfl ?_
              refine r_getr (pc' := 60) dX10_old_57 rfl fX10_71 z0 rfl ?_
              refine r_getf (pc' := 63) (kI := 2) dX10_old_60 rfl fX10_111 z160 rfl rfl hK.1 ?_
              refine r_bipush (pc' := 65) dX10_old_63 rfl (by decide) ?_
              refine r_icmp_lt (tgt := 71) (pc' := 68) dX10_old_65 rfl rfl (by omega) (by omega) (fun c65 => ?_) (fun c65 => ?_)
              · refine r_aload_n (pc' := 72) dX10_old_71 rfl rfl ?_
                refine r_getr (pc' := 75) dX10_old_72 rfl fX10_71 z0 rfl ?_
                refine r_iload (pc' := 77) dX10_old_75 rfl rfl ?_
                refine r_if_eq (tgt := 87) (pc' := 80) dX10_old_77 rfl rfl (by omega) (fun c77 => ?_) (fun c77 => ?_)
                · refine r_iload_n (pc' := 88) dX10_old_87 rfl rfl ?_
                  refine r_iload_n (pc' := 89) dX10_old_88 rfl rfl ?_
                  refine r_vv2 (pc' := 92) dX10_old_89 rfl qX3_add lX10_289 z160 rfl rfl rfl rfl (Nat.zero_le _) (Nat.zero_le _) (a_lookAddI hK (by omega) (by omega) (by omega) (fun g1 hK1 fr1 => ?_))
                  refine r_aload_n (pc' := 93) dX10_old_92 rfl rfl ?_
                  refine r_getr (pc' := 96) dX10_old_93 rfl fX10_71 z0 rfl ?_
                  refine r_getf (pc' := 99) (kI := 2) dX10_old_96 rfl fX10_111 z160 rfl rfl hK1.1 ?_
                  refine r_reti dX10_old_99 rfl (Or.inl rfl) ?_
                  first
                    | exact absurd rfl c45
                    | exact absurd c45 (by decide)
                    | exact absurd rfl c50
                    | exact absurd c50 (by decide)
                    | exact absurd rfl c77
                    | exact absurd c77 (by decide)
                    | (have hok : ((k = 0 ∧ 0 ≤ n ∧ n ≤ 5) ∨ (k = 1 ∧ 1 ≤ n ∧ n ≤ 9)) ∧ ln < 6 := by omega
                       have h9 := h g1 (by simp only [if_pos hok]; exact ⟨TX.fr ⟨t1, t2, t3⟩ (fr1 1 (by simp only [List.mem_cons, List.not_mem_nil, or_false, not_or]; omega)) (fr1 2 (by simp only [List.mem_cons, List.not_mem_nil, or_false, not_or]; omega)), ⟨by rw [fr1 1 (by simp only [List.mem_cons, List.not_mem_nil, or_false, not_or]; omega)]; exact f1, f2⟩, hB.fr2 (fun j a1 a2 => fr1 j (by simp only [List.mem_cons, List.not_mem_nil, or_false, not_or]; omega)), ⟨top, hP.fr (fun j hj => by unfold pastB at hj; exact fr1 j (by simp only [List.mem_cons, List.not_mem_nil, or_false, not_or]; omega))⟩, IMs.fr hI (fun j a1 a2 => fr1 j (by simp only [List.mem_cons, List.not_mem_nil, or_false, not_or]; omega)), ⟨by rw [fr1 0 (by simp only [List.mem_cons, List.not_mem_nil, or_false, not_or]; omega)]; exact sd1, sd2, sd3⟩, (by first | (rw [show oldN k n = (10 + n).toNat from by unfold oldN; rw [if_pos (by omega)]; omega]; exact hK1) | (rw [show oldN k n = n.toNat from by unfold oldN; rw [if_neg (by omega)]]; exact hK1)), hN.fr (fr1 163 (by simp only [List.mem_cons, List.not_mem_nil, or_false, not_or]; omega)) (fr1 164 (by simp only [List.mem_cons, List.not_mem_nil, or_false, not_or]; omega)) (fr1 165 (by simp only [List.mem_cons, List.not_mem_nil, or_false, not_or]; omega))⟩) (fun j hj => fr1 j (by simp only [List.mem_cons, List.not_mem_nil, or_false, not_or]; omega))
                       unfold E_old at h9
                       rw [if_pos (by omega), if_pos (by omega)] at h9
                       exact h9)
                · refine r_bipush (pc' := 82) dX10_old_80 rfl (by decide) ?_
                  refine r_iload_n (pc' := 83) dX10_old_82 rfl rfl ?_
                  refine r_iadd (pc' := 84) dX10_old_83 rfl ?_
                  refine r_goto (tgt := 88) dX10_old_84 rfl ?_
                  refine r_iload_n (pc' := 89) dX10_old_88 rfl rfl ?_
                  refine r_vv2 (pc' := 92) dX10_old_89 rfl qX3_add lX10_289 z160 rfl rfl rfl rfl (Nat.zero_le _) (Nat.zero_le _) (a_lookAddI hK (by omega) (by omega) (by omega) (fun g1 hK1 fr1 => ?_))
                  refine r_aload_n (pc' := 93) dX10_old_92 rfl rfl ?_
                  refine r_getr (pc' := 96) dX10_old_93 rfl fX10_71 z0 rfl ?_
                  refine r_getf (pc' := 99) (kI := 2) dX10_old_96 rfl fX10_111 z160 rfl rfl hK1.1 ?_
                  refine r_reti dX10_old_99 rfl (Or.inl rfl) ?_
                  first
                    | exact absurd rfl c45
                    | exact absurd c45 (by decide)
                    | exact absurd rfl c50
                    | exact absurd c50 (by decide)
                    | exact absurd rfl c77
                    | exact absurd c77 (by decide)
                    | (have hok : ((k = 0 ∧ 0 ≤ n ∧ n ≤ 5) ∨ (k = 1 ∧ 1 ≤ n ∧ n ≤ 9)) ∧ ln < 6 := by omega
                       have h9 := h g1 (by simp only [if_pos hok]; exact ⟨TX.fr ⟨t1, t2, t3⟩ (fr1 1 (by simp only [List.mem_cons, List.not_mem_nil, or_false, not_or]; omega)) (fr1 2 (by simp only [List.mem_cons, List.not_mem_nil, or_false, not_or]; omega)), ⟨by rw [fr1 1 (by simp only [List.mem_cons, List.not_mem_nil, or_false, not_or]; omega)]; exact f1, f2⟩, hB.fr2 (fun j a1 a2 => fr1 j (by simp only [List.mem_cons, List.not_mem_nil, or_false, not_or]; omega)), ⟨top, hP.fr (fun j hj => by unfold pastB at hj; exact fr1 j (by simp only [List.mem_cons, List.not_mem_nil, or_false, not_or]; omega))⟩, IMs.fr hI (fun j a1 a2 => fr1 j (by simp only [List.mem_cons, List.not_mem_nil, or_false, not_or]; omega)), ⟨by rw [fr1 0 (by simp only [List.mem_cons, List.not_mem_nil, or_false, not_or]; omega)]; exact sd1, sd2, sd3⟩, (by first | (rw [show oldN k n = (10 + n).toNat from by unfold oldN; rw [if_pos (by omega)]; omega]; exact hK1) | (rw [show oldN k n = n.toNat from by unfold oldN; rw [if_neg (by omega)]]; exact hK1)), hN.fr (fr1 163 (by simp only [List.mem_cons, List.not_mem_nil, or_false, not_or]; omega)) (fr1 164 (by simp only [List.mem_cons, List.not_mem_nil, or_false, not_or]; omega)) (fr1 165 (by simp only [List.mem_cons, List.not_mem_nil, or_false, not_or]; omega))⟩) (fun j hj => fr1 j (by simp only [List.mem_cons, List.not_mem_nil, or_false, not_or]; omega))
                       unfold E_old at h9
                       rw [if_pos (by omega), if_pos (by omega)] at h9
                       exact h9)
              · refine r_ldc (z := -1000000004) (pc' := 70) dX10_old_68 rfl kX10_90 ?_
                refine r_reti dX10_old_70 rfl (Or.inl rfl) ?_
                first
                  | exact absurd rfl c45
                  | exact absurd c45 (by decide)
                  | exact absurd rfl c50
                  | exact absurd c50 (by decide)
                  | exact absurd rfl c77
                  | exact absurd c77 (by decide)
                  | (have hno : ¬ (((k = 0 ∧ 0 ≤ n ∧ n ≤ 5) ∨ (k = 1 ∧ 1 ≤ n ∧ n ≤ 9)) ∧ ln < 6) := by omega
                     have h9 := h g (by simp only [if_neg hno]; exact hS) (FrC.rf g)
                     unfold E_old at h9
                     rw [if_pos (by omega), if_neg (by omega)] at h9
                     exact h9)
            · refine r_ldc (z := -1000000002) (pc' := 55) dX10_old_53 rfl kX10_86 ?_
              refine r_reti dX10_old_55 rfl (Or.inl rfl) ?_
              first
                | exact absurd rfl c45
                | exact absurd c45 (by decide)
                | exact absurd rfl c50
                | exact absurd c50 (by decide)
                | exact absurd rfl c77
                | exact absurd c77 (by decide)
                | (have hno : ¬ (((k = 0 ∧ 0 ≤ n ∧ n ≤ 5) ∨ (k = 1 ∧ 1 ≤ n ∧ n ≤ 9)) ∧ ln < 6) := by omega
                   have h9 := h g (by simp only [if_neg hno]; exact hS) (FrC.rf g)
                   unfold E_old at h9
                   rw [if_neg (by omega)] at h9
                   exact h9)
        · refine r_iload_n (pc' := 26) dX10_old_25 rfl rfl ?_
          refine r_iconst (pc' := 27) dX10_old_26 rfl ?_
          refine r_icmp_lt (tgt := 40) (pc' := 30) dX10_old_27 rfl rfl (by omega) (by omega) (fun c27 => ?_) (fun c27 => ?_)
          · refine r_iconst (pc' := 41) dX10_old_40 rfl ?_
            refine r_istore (pc' := 43) dX10_old_41 rfl rfl ?_
            refine r_iload (pc' := 45) dX10_old_43 rfl rfl ?_
            refine r_if_ne (tgt := 56) (pc' := 48) dX10_old_45 rfl rfl (by decide) (fun c45 => ?_) (fun c45 => ?_)
            · refine r_aload_n (pc' := 57) dX10_old_56 rfl rfl ?_
              refine r_getr (pc' := 60) dX10_old_57 rfl fX10_71 z0 rfl ?_
              refine r_getf (pc' := 63) (kI := 2) dX10_old_60 rfl fX10_111 z160 rfl rfl hK.1 ?_
              refine r_bipush (pc' := 65) dX10_old_63 rfl (by decide) ?_
              refine r_icmp_lt (tgt := 71) (pc' := 68) dX10_old_65 rfl rfl (by omega) (by omega) (fun c65 => ?_) (fun c65 => ?_)
              · refine r_aload_n (pc' := 72) dX10_old_71 rfl rfl ?_
                refine r_getr (pc' := 75) dX10_old_72 rfl fX10_71 z0 rfl ?_
                refine r_iload (pc' := 77) dX10_old_75 rfl rfl ?_
                refine r_if_eq (tgt := 87) (pc' := 80) dX10_old_77 rfl rfl (by omega) (fun c77 => ?_) (fun c77 => ?_)
                · refine r_iload_n (pc' := 88) dX10_old_87 rfl rfl ?_
                  refine r_iload_n (pc' := 89) dX10_old_88 rfl rfl ?_
                  refine r_vv2 (pc' := 92) dX10_old_89 rfl qX3_add lX10_289 z160 rfl rfl rfl rfl (Nat.zero_le _) (Nat.zero_le _) (a_lookAddI hK (by omega) (by omega) (by omega) (fun g1 hK1 fr1 => ?_))
                  refine r_aload_n (pc' := 93) dX10_old_92 rfl rfl ?_
                  refine r_getr (pc' := 96) dX10_old_93 rfl fX10_71 z0 rfl ?_
                  refine r_getf (pc' := 99) (kI := 2) dX10_old_96 rfl fX10_111 z160 rfl rfl hK1.1 ?_
                  refine r_reti dX10_old_99 rfl (Or.inl rfl) ?_
                  first
                    | exact absurd rfl c45
                    | exact absurd c45 (by decide)
                    | exact absurd rfl c50
                    | exact absurd c50 (by decide)
                    | exact absurd rfl c77
                    | exact absurd c77 (by decide)
                    | (have hok : ((k = 0 ∧ 0 ≤ n ∧ n ≤ 5) ∨ (k = 1 ∧ 1 ≤ n ∧ n ≤ 9)) ∧ ln < 6 := by omega
                       have h9 := h g1 (by simp only [if_pos hok]; exact ⟨TX.fr ⟨t1, t2, t3⟩ (fr1 1 (by simp only [List.mem_cons, List.not_mem_nil, or_false, not_or]; omega)) (fr1 2 (by simp only [List.mem_cons, List.not_mem_nil, or_false, not_or]; omega)), ⟨by rw [fr1 1 (by simp only [List.mem_cons, List.not_mem_nil, or_false, not_or]; omega)]; exact f1, f2⟩, hB.fr2 (fun j a1 a2 => fr1 j (by simp only [List.mem_cons, List.not_mem_nil, or_false, not_or]; omega)), ⟨top, hP.fr (fun j hj => by unfold pastB at hj; exact fr1 j (by simp only [List.mem_cons, List.not_mem_nil, or_false, not_or]; omega))⟩, IMs.fr hI (fun j a1 a2 => fr1 j (by simp only [List.mem_cons, List.not_mem_nil, or_false, not_or]; omega)), ⟨by rw [fr1 0 (by simp only [List.mem_cons, List.not_mem_nil, or_false, not_or]; omega)]; exact sd1, sd2, sd3⟩, (by first | (rw [show oldN k n = (10 + n).toNat from by unfold oldN; rw [if_pos (by omega)]; omega]; exact hK1) | (rw [show oldN k n = n.toNat from by unfold oldN; rw [if_neg (by omega)]]; exact hK1)), hN.fr (fr1 163 (by simp only [List.mem_cons, List.not_mem_nil, or_false, not_or]; omega)) (fr1 164 (by simp only [List.mem_cons, List.not_mem_nil, or_false, not_or]; omega)) (fr1 165 (by simp only [List.mem_cons, List.not_mem_nil, or_false, not_or]; omega))⟩) (fun j hj => fr1 j (by simp only [List.mem_cons, List.not_mem_nil, or_false, not_or]; omega))
                       unfold E_old at h9
                       rw [if_pos (by omega), if_pos (by omega)] at h9
                       exact h9)
                · refine r_bipush (pc' := 82) dX10_old_80 rfl (by decide) ?_
                  refine r_iload_n (pc' := 83) dX10_old_82 rfl rfl ?_
                  refine r_iadd (pc' := 84) dX10_old_83 rfl ?_
                  refine r_goto (tgt := 88) dX10_old_84 rfl ?_
                  refine r_iload_n (pc' := 89) dX10_old_88 rfl rfl ?_
                  refine r_vv2 (pc' := 92) dX10_old_89 rfl qX3_add lX10_289 z160 rfl rfl rfl rfl (Nat.zero_le _) (Nat.zero_le _) (a_lookAddI hK (by omega) (by omega) (by omega) (fun g1 hK1 fr1 => ?_))
                  refine r_aload_n (pc' := 93) dX10_old_92 rfl rfl ?_
                  refine r_getr (pc' := 96) dX10_old_93 rfl fX10_71 z0 rfl ?_
                  refine r_getf (pc' := 99) (kI := 2) dX10_old_96 rfl fX10_111 z160 rfl rfl hK1.1 ?_
                  refine r_reti dX10_old_99 rfl (Or.inl rfl) ?_
                  first
                    | exact absurd rfl c45
                    | exact absurd c45 (by decide)
                    | exact absurd rfl c50
                    | exact absurd c50 (by decide)
                    | exact absurd rfl c77
                    | exact absurd c77 (by decide)
                    | (have hok : ((k = 0 ∧ 0 ≤ n ∧ n ≤ 5) ∨ (k = 1 ∧ 1 ≤ n ∧ n ≤ 9)) ∧ ln < 6 := by omega
                       have h9 := h g1 (by simp only [if_pos hok]; exact ⟨TX.fr ⟨t1, t2, t3⟩ (fr1 1 (by simp only [List.mem_cons, List.not_mem_nil, or_false, not_or]; omega)) (fr1 2 (by simp only [List.mem_cons, List.not_mem_nil, or_false, not_or]; omega)), ⟨by rw [fr1 1 (by simp only [List.mem_cons, List.not_mem_nil, or_false, not_or]; omega)]; exact f1, f2⟩, hB.fr2 (fun j a1 a2 => fr1 j (by simp only [List.mem_cons, List.not_mem_nil, or_false, not_or]; omega)), ⟨top, hP.fr (fun j hj => by unfold pastB at hj; exact fr1 j (by simp only [List.mem_cons, List.not_mem_nil, or_false, not_or]; omega))⟩, IMs.fr hI (fun j a1 a2 => fr1 j (by simp only [List.mem_cons, List.not_mem_nil, or_false, not_or]; omega)), ⟨by rw [fr1 0 (by simp only [List.mem_cons, List.not_mem_nil, or_false, not_or]; omega)]; exact sd1, sd2, sd3⟩, (by first | (rw [show oldN k n = (10 + n).toNat from by unfold oldN; rw [if_pos (by omega)]; omega]; exact hK1) | (rw [show oldN k n = n.toNat from by unfold oldN; rw [if_neg (by omega)]]; exact hK1)), hN.fr (fr1 163 (by simp only [List.mem_cons, List.not_mem_nil, or_false, not_or]; omega)) (fr1 164 (by simp only [List.mem_cons, List.not_mem_nil, or_false, not_or]; omega)) (fr1 165 (by simp only [List.mem_cons, List.not_mem_nil, or_false, not_or]; omega))⟩) (fun j hj => fr1 j (by simp only [List.mem_cons, List.not_mem_nil, or_false, not_or]; omega))
                       unfold E_old at h9
                       rw [if_pos (by omega), if_pos (by omega)] at h9
                       exact h9)
              · refine r_ldc (z := -1000000004) (pc' := 70) dX10_old_68 rfl kX10_90 ?_
                refine r_reti dX10_old_70 rfl (Or.inl rfl) ?_
                first
                  | exact absurd rfl c45
                  | exact absurd c45 (by decide)
                  | exact absurd rfl c50
                  | exact absurd c50 (by decide)
                  | exact absurd rfl c77
                  | exact absurd c77 (by decide)
                  | (have hno : ¬ (((k = 0 ∧ 0 ≤ n ∧ n ≤ 5) ∨ (k = 1 ∧ 1 ≤ n ∧ n ≤ 9)) ∧ ln < 6) := by omega
                     have h9 := h g (by simp only [if_neg hno]; exact hS) (FrC.rf g)
                     unfold E_old at h9
                     rw [if_pos (by omega), if_neg (by omega)] at h9
                     exact h9)
            · refine r_iload (pc' := 50) dX10_old_48 rfl rfl ?_
              refine r_if_ne (tgt := 56) (pc' := 53) dX10_old_50 rfl rfl (by omega) (fun c50 => ?_) (fun c50 => ?_)
              · refine r_aload_n (pc' := 57) dX10_old_56 rfl rfl ?_
                refine r_getr (pc' := 60) dX10_old_57 rfl fX10_71 z0 rfl ?_
                refine r_getf (pc' := 63) (kI := 2) dX10_old_60 rfl fX10_111 z160 rfl rfl hK.1 ?_
                refine r_bipush (pc' := 65) dX10_old_63 rfl (by decide) ?_
                refine r_icmp_lt (tgt := 71) (pc' := 68) dX10_old_65 rfl rfl (by omega) (by omega) (fun c65 => ?_) (fun c65 => ?_)
                · refine r_aload_n (pc' := 72) dX10_old_71 rfl rfl ?_
                  refine r_getr (pc' := 75) dX10_old_72 rfl fX10_71 z0 rfl ?_
                  refine r_iload (pc' := 77) dX10_old_75 rfl rfl ?_
                  refine r_if_eq (tgt := 87) (pc' := 80) dX10_old_77 rfl rfl (by omega) (fun c77 => ?_) (fun c77 => ?_)
                  · refine r_iload_n (pc' := 88) dX10_old_87 rfl rfl ?_
                    refine r_iload_n (pc' := 89) dX10_old_88 rfl rfl ?_
                    refine r_vv2 (pc' := 92) dX10_old_89 rfl qX3_add lX10_289 z160 rfl rfl rfl rfl (Nat.zero_le _) (Nat.zero_le _) (a_lookAddI hK (by omega) (by omega) (by omega) (fun g1 hK1 fr1 => ?_))
                    refine r_aload_n (pc' := 93) dX10_old_92 rfl rfl ?_
                    refine r_getr (pc' := 96) dX10_old_93 rfl fX10_71 z0 rfl ?_
                    refine r_getf (pc' := 99) (kI := 2) dX10_old_96 rfl fX10_111 z160 rfl rfl hK1.1 ?_
                    refine r_reti dX10_old_99 rfl (Or.inl rfl) ?_
                    first
                      | exact absurd rfl c45
                      | exact absurd c45 (by decide)
                      | exact absurd rfl c50
                      | exact absurd c50 (by decide)
                      | exact absurd rfl c77
                      | exact absurd c77 (by decide)
                      | (have hok : ((k = 0 ∧ 0 ≤ n ∧ n ≤ 5) ∨ (k = 1 ∧ 1 ≤ n ∧ n ≤ 9)) ∧ ln < 6 := by omega
                         have h9 := h g1 (by simp only [if_pos hok]; exact ⟨TX.fr ⟨t1, t2, t3⟩ (fr1 1 (by simp only [List.mem_cons, List.not_mem_nil, or_false, not_or]; omega)) (fr1 2 (by simp only [List.mem_cons, List.not_mem_nil, or_false, not_or]; omega)), ⟨by rw [fr1 1 (by simp only [List.mem_cons, List.not_mem_nil, or_false, not_or]; omega)]; exact f1, f2⟩, hB.fr2 (fun j a1 a2 => fr1 j (by simp only [List.mem_cons, List.not_mem_nil, or_false, not_or]; omega)), ⟨top, hP.fr (fun j hj => by unfold pastB at hj; exact fr1 j (by simp only [List.mem_cons, List.not_mem_nil, or_false, not_or]; omega))⟩, IMs.fr hI (fun j a1 a2 => fr1 j (by simp only [List.mem_cons, List.not_mem_nil, or_false, not_or]; omega)), ⟨by rw [fr1 0 (by simp only [List.mem_cons, List.not_mem_nil, or_false, not_or]; omega)]; exact sd1, sd2, sd3⟩, (by first | (rw [show oldN k n = (10 + n).toNat from by unfold oldN; rw [if_pos (by omega)]; omega]; exact hK1) | (rw [show oldN k n = n.toNat from by unfold oldN; rw [if_neg (by omega)]]; exact hK1)), hN.fr (fr1 163 (by simp only [List.mem_cons, List.not_mem_nil, or_false, not_or]; omega)) (fr1 164 (by simp only [List.mem_cons, List.not_mem_nil, or_false, not_or]; omega)) (fr1 165 (by simp only [List.mem_cons, List.not_mem_nil, or_false, not_or]; omega))⟩) (fun j hj => fr1 j (by simp only [List.mem_cons, List.not_mem_nil, or_false, not_or]; omega))
                         unfold E_old at h9
                         rw [if_pos (by omega), if_pos (by omega)] at h9
                         exact h9)
                  · refine r_bipush (pc' := 82) dX10_old_80 rfl (by decide) ?_
                    refine r_iload_n (pc' := 83) dX10_old_82 rfl rfl ?_
                    refine r_iadd (pc' := 84) dX10_old_83 rfl ?_
                    refine r_goto (tgt := 88) dX10_old_84 rfl ?_
                    refine r_iload_n (pc' := 89) dX10_old_88 rfl rfl ?_
                    refine r_vv2 (pc' := 92) dX10_old_89 rfl qX3_add lX10_289 z160 rfl rfl rfl rfl (Nat.zero_le _) (Nat.zero_le _) (a_lookAddI hK (by omega) (by omega) (by omega) (fun g1 hK1 fr1 => ?_))
                    refine r_aload_n (pc' := 93) dX10_old_92 rfl rfl ?_
                    refine r_getr (pc' := 96) dX10_old_93 rfl fX10_71 z0 rfl ?_
                    refine r_getf (pc' := 99) (kI := 2) dX10_old_96 rfl fX10_111 z160 rfl rfl hK1.1 ?_
                    refine r_reti dX10_old_99 rfl (Or.inl rfl) ?_
                    first
                      | exact absurd rfl c45
                      | exact absurd c45 (by decide)
                      | exact absurd rfl c50
                      | exact absurd c50 (by decide)
                      | exact absurd rfl c77
                      | exact absurd c77 (by decide)
                      | (have hok : ((k = 0 ∧ 0 ≤ n ∧ n ≤ 5) ∨ (k = 1 ∧ 1 ≤ n ∧ n ≤ 9)) ∧ ln < 6 := by omega
                         have h9 := h g1 (by simp only [if_pos hok]; exact ⟨TX.fr ⟨t1, t2, t3⟩ (fr1 1 (by simp only [List.mem_cons, List.not_mem_nil, or_false, not_or]; omega)) (fr1 2 (by simp only [List.mem_cons, List.not_mem_nil, or_false, not_or]; omega)), ⟨by rw [fr1 1 (by simp only [List.mem_cons, List.not_mem_nil, or_false, not_or]; omega)]; exact f1, f2⟩, hB.fr2 (fun j a1 a2 => fr1 j (by simp only [List.mem_cons, List.not_mem_nil, or_false, not_or]; omega)), ⟨top, hP.fr (fun j hj => by unfold pastB at hj; exact fr1 j (by simp only [List.mem_cons, List.not_mem_nil, or_false, not_or]; omega))⟩, IMs.fr hI (fun j a1 a2 => fr1 j (by simp only [List.mem_cons, List.not_mem_nil, or_false, not_or]; omega)), ⟨by rw [fr1 0 (by simp only [List.mem_cons, List.not_mem_nil, or_false, not_or]; omega)]; exact sd1, sd2, sd3⟩, (by first | (rw [show oldN k n = (10 + n).toNat from by unfold oldN; rw [if_pos (by omega)]; omega]; exact hK1) | (rw [show oldN k n = n.toNat from by unfold oldN; rw [if_neg (by omega)]]; exact hK1)), hN.fr (fr1 163 (by simp only [List.mem_cons, List.not_mem_nil, or_false, not_or]; omega)) (fr1 164 (by simp only [List.mem_cons, List.not_mem_nil, or_false, not_or]; omega)) (fr1 165 (by simp only [List.mem_cons, List.not_mem_nil, or_false, not_or]; omega))⟩) (fun j hj => fr1 j (by simp only [List.mem_cons, List.not_mem_nil, or_false, not_or]; omega))
                         unfold E_old at h9
                         rw [if_pos (by omega), if_pos (by omega)] at h9
                         exact h9)
                · refine r_ldc (z := -1000000004) (pc' := 70) dX10_old_68 rfl kX10_90 ?_
                  refine r_reti dX10_old_70 rfl (Or.inl rfl) ?_
                  first
                    | exact absurd rfl c45
                    | exact absurd c45 (by decide)
                    | exact absurd rfl c50
                    | exact absurd c50 (by decide)
                    | exact absurd rfl c77
                    | exact absurd c77 (by decide)
                    | (have hno : ¬ (((k = 0 ∧ 0 ≤ n ∧ n ≤ 5) ∨ (k = 1 ∧ 1 ≤ n ∧ n ≤ 9)) ∧ ln < 6) := by omega
                       have h9 := h g (by simp only [if_neg hno]; exact hS) (FrC.rf g)
                       unfold E_old at h9
                       rw [if_pos (by omega), if_neg (by omega)] at h9
                       exact h9)
              · refine r_ldc (z := -1000000002) (pc' := 55) dX10_old_53 rfl kX10_86 ?_
                refine r_reti dX10_old_55 rfl (Or.inl rfl) ?_
                first
                  | exact absurd rfl c45
                  | exact absurd c45 (by decide)
                  | exact absurd rfl c50
                  | exact absurd c50 (by decide)
                  | exact absurd rfl c77
                  | exact absurd c77 (by decide)
                  | (have hno : ¬ (((k = 0 ∧ 0 ≤ n ∧ n ≤ 5) ∨ (k = 1 ∧ 1 ≤ n ∧ n ≤ 9)) ∧ ln < 6) := by omega
                     have h9 := h g (by simp only [if_neg hno]; exact hS) (FrC.rf g)
                     unfold E_old at h9
                     rw [if_neg (by omega)] at h9
                     exact h9)
          · refine r_iload_n (pc' := 31) dX10_old_30 rfl rfl ?_
            refine r_bipush (pc' := 33) dX10_old_31 rfl (by decide) ?_
            refine r_icmp_gt (tgt := 40) (pc' := 36) dX10_old_33 rfl rfl (by omega) (by omega) (fun c33 => ?_) (fun c33 => ?_)
            · refine r_iconst (pc' := 41) dX10_old_40 rfl ?_
              refine r_istore (pc' := 43) dX10_old_41 rfl rfl ?_
              refine r_iload (pc' := 45) dX10_old_43 rfl rfl ?_
              refine r_if_ne (tgt := 56) (pc' := 48) dX10_old_45 rfl rfl (by decide) (fun c45 => ?_) (fun c45 => ?_)
              · refine r_aload_n (pc' := 57) dX10_old_56 rfl rfl ?_
                refine r_getr (pc' := 60) dX10_old_57 rfl fX10_71 z0 rfl ?_
                refine r_getf (pc' := 63) (kI := 2) dX10_old_60 rfl fX10_111 z160 rfl rfl hK.1 ?_
                refine r_bipush (pc' := 65) dX10_old_63 rfl (by decide) ?_
                refine r_icmp_lt (tgt := 71) (pc' := 68) dX10_old_65 rfl rfl (by omega) (by omega) (fun c65 => ?_) (fun c65 => ?_)
                · refine r_aload_n (pc' := 72) dX10_old_71 rfl rfl ?_
                  refine r_getr (pc' := 75) dX10_old_72 rfl fX10_71 z0 rfl ?_
                  refine r_iload (pc' := 77) dX10_old_75 rfl rfl ?_
                  refine r_if_eq (tgt := 87) (pc' := 80) dX10_old_77 rfl rfl (by omega) (fun c77 => ?_) (fun c77 => ?_)
                  · refine r_iload_n (pc' := 88) dX10_old_87 rfl rfl ?_
                    refine r_iload_n (pc' := 89) dX10_old_88 rfl rfl ?_
                    refine r_vv2 (pc' := 92) dX10_old_89 rfl qX3_add lX10_289 z160 rfl rfl rfl rfl (Nat.zero_le _) (Nat.zero_le _) (a_lookAddI hK (by omega) (by omega) (by omega) (fun g1 hK1 fr1 => ?_))
                    refine r_aload_n (pc' := 93) dX10_old_92 rfl rfl ?_
                    refine r_getr (pc' := 96) dX10_old_93 rfl fX10_71 z0 rfl ?_
                    refine r_getf (pc' := 99) (kI := 2) dX10_old_96 rfl fX10_111 z160 rfl rfl hK1.1 ?_
                    refine r_reti dX10_old_99 rfl (Or.inl rfl) ?_
                    first
                      | exact absurd rfl c45
                      | exact absurd c45 (by decide)
                      | exact absurd rfl c50
                      | exact absurd c50 (by decide)
                      | exact absurd rfl c77
                      | exact absurd c77 (by decide)
                      | (have hok : ((k = 0 ∧ 0 ≤ n ∧ n ≤ 5) ∨ (k = 1 ∧ 1 ≤ n ∧ n ≤ 9)) ∧ ln < 6 := by omega
                         have h9 := h g1 (by simp only [if_pos hok]; exact ⟨TX.fr ⟨t1, t2, t3⟩ (fr1 1 (by simp only [List.mem_cons, List.not_mem_nil, or_false, not_or]; omega)) (fr1 2 (by simp only [List.mem_cons, List.not_mem_nil, or_false, not_or]; omega)), ⟨by rw [fr1 1 (by simp only [List.mem_cons, List.not_mem_nil, or_false, not_or]; omega)]; exact f1, f2⟩, hB.fr2 (fun j a1 a2 => fr1 j (by simp only [List.mem_cons, List.not_mem_nil, or_false, not_or]; omega)), ⟨top, hP.fr (fun j hj => by unfold pastB at hj; exact fr1 j (by simp only [List.mem_cons, List.not_mem_nil, or_false, not_or]; omega))⟩, IMs.fr hI (fun j a1 a2 => fr1 j (by simp only [List.mem_cons, List.not_mem_nil, or_false, not_or]; omega)), ⟨by rw [fr1 0 (by simp only [List.mem_cons, List.not_mem_nil, or_false, not_or]; omega)]; exact sd1, sd2, sd3⟩, (by first | (rw [show oldN k n = (10 + n).toNat from by unfold oldN; rw [if_pos (by omega)]; omega]; exact hK1) | (rw [show oldN k n = n.toNat from by unfold oldN; rw [if_neg (by omega)]]; exact hK1)), hN.fr (fr1 163 (by simp only [List.mem_cons, List.not_mem_nil, or_false, not_or]; omega)) (fr1 164 (by simp only [List.mem_cons, List.not_mem_nil, or_false, not_or]; omega)) (fr1 165 (by simp only [List.mem_cons, List.not_mem_nil, or_false, not_or]; omega))⟩) (fun j hj => fr1 j (by simp only [List.mem_cons, List.not_mem_nil, or_false, not_or]; omega))
                         unfold E_old at h9
                         rw [if_pos (by omega), if_pos (by omega)] at h9
                         exact h9)
                  · refine r_bipush (pc' := 82) dX10_old_80 rfl (by decide) ?_
                    refine r_iload_n (pc' := 83) dX10_old_82 rfl rfl ?_
                    refine r_iadd (pc' := 84) dX10_old_83 rfl ?_
                    refine r_goto (tgt := 88) dX10_old_84 rfl ?_
                    refine r_iload_n (pc' := 89) dX10_old_88 rfl rfl ?_
                    refine r_vv2 (pc' := 92) dX10_old_89 rfl qX3_add lX10_289 z160 rfl rfl rfl rfl (Nat.zero_le _) (Nat.zero_le _) (a_lookAddI hK (by omega) (by omega) (by omega) (fun g1 hK1 fr1 => ?_))
                    refine r_aload_n (pc' := 93) dX10_old_92 rfl rfl ?_
                    refine r_getr (pc' := 96) dX10_old_93 rfl fX10_71 z0 rfl ?_
                    refine r_getf (pc' := 99) (kI := 2) dX10_old_96 rfl fX10_111 z160 rfl rfl hK1.1 ?_
                    refine r_reti dX10_old_99 rfl (Or.inl rfl) ?_
                    first
                      | exact absurd rfl c45
                      | exact absurd c45 (by decide)
                      | exact absurd rfl c50
                      | exact absurd c50 (by decide)
                      | exact absurd rfl c77
                      | exact absurd c77 (by decide)
                      | (have hok : ((k = 0 ∧ 0 ≤ n ∧ n ≤ 5) ∨ (k = 1 ∧ 1 ≤ n ∧ n ≤ 9)) ∧ ln < 6 := by omega
                         have h9 := h g1 (by simp only [if_pos hok]; exact ⟨TX.fr ⟨t1, t2, t3⟩ (fr1 1 (by simp only [List.mem_cons, List.not_mem_nil, or_false, not_or]; omega)) (fr1 2 (by simp only [List.mem_cons, List.not_mem_nil, or_false, not_or]; omega)), ⟨by rw [fr1 1 (by simp only [List.mem_cons, List.not_mem_nil, or_false, not_or]; omega)]; exact f1, f2⟩, hB.fr2 (fun j a1 a2 => fr1 j (by simp only [List.mem_cons, List.not_mem_nil, or_false, not_or]; omega)), ⟨top, hP.fr (fun j hj => by unfold pastB at hj; exact fr1 j (by simp only [List.mem_cons, List.not_mem_nil, or_false, not_or]; omega))⟩, IMs.fr hI (fun j a1 a2 => fr1 j (by simp only [List.mem_cons, List.not_mem_nil, or_false, not_or]; omega)), ⟨by rw [fr1 0 (by simp only [List.mem_cons, List.not_mem_nil, or_false, not_or]; omega)]; exact sd1, sd2, sd3⟩, (by first | (rw [show oldN k n = (10 + n).toNat from by unfold oldN; rw [if_pos (by omega)]; omega]; exact hK1) | (rw [show oldN k n = n.toNat from by unfold oldN; rw [if_neg (by omega)]]; exact hK1)), hN.fr (fr1 163 (by simp only [List.mem_cons, List.not_mem_nil, or_false, not_or]; omega)) (fr1 164 (by simp only [List.mem_cons, List.not_mem_nil, or_false, not_or]; omega)) (fr1 165 (by simp only [List.mem_cons, List.not_mem_nil, or_false, not_or]; omega))⟩) (fun j hj => fr1 j (by simp only [List.mem_cons, List.not_mem_nil, or_false, not_or]; omega))
                         unfold E_old at h9
                         rw [if_pos (by omega), if_pos (by omega)] at h9
                         exact h9)
                · refine r_ldc (z := -1000000004) (pc' := 70) dX10_old_68 rfl kX10_90 ?_
                  refine r_reti dX10_old_70 rfl (Or.inl rfl) ?_
                  first
                    | exact absurd rfl c45
                    | exact absurd c45 (by decide)
                    | exact absurd rfl c50
                    | exact absurd c50 (by decide)
                    | exact absurd rfl c77
                    | exact absurd c77 (by decide)
                    | (have hno : ¬ (((k = 0 ∧ 0 ≤ n ∧ n ≤ 5) ∨ (k = 1 ∧ 1 ≤ n ∧ n ≤ 9)) ∧ ln < 6) := by omega
                       have h9 := h g (by simp only [if_neg hno]; exact hS) (FrC.rf g)
                       unfold E_old at h9
                       rw [if_pos (by omega), if_neg (by omega)] at h9
                       exact h9)
              · refine r_iload (pc' := 50) dX10_old_48 rfl rfl ?_
                refine r_if_ne (tgt := 56) (pc' := 53) dX10_old_50 rfl rfl (by omega) (fun c50 => ?_) (fun c50 => ?_)
                · refine r_aload_n (pc' := 57) dX10_old_56 rfl rfl ?_
                  refine r_getr (pc' := 60) dX10_old_57 rfl fX10_71 z0 rfl ?_
                  refine r_getf (pc' := 63) (kI := 2) dX10_old_60 rfl fX10_111 z160 rfl rfl hK.1 ?_
                  refine r_bipush (pc' := 65) dX10_old_63 rfl (by decide) ?_
                  refine r_icmp_lt (tgt := 71) (pc' := 68) dX10_old_65 rfl rfl (by omega) (by omega) (fun c65 => ?_) (fun c65 => ?_)
                  · refine r_aload_n (pc' := 72) dX10_old_71 rfl rfl ?_
                    refine r_getr (pc' := 75) dX10_old_72 rfl fX10_71 z0 rfl ?_
                    refine r_iload (pc' := 77) dX10_old_75 rfl rfl ?_
                    refine r_if_eq (tgt := 87) (pc' := 80) dX10_old_77 rfl rfl (by omega) (fun c77 => ?_) (fun c77 => ?_)
                    · refine r_iload_n (pc' := 88) dX10_old_87 rfl rfl ?_
                      refine r_iload_n (pc' := 89) dX10_old_88 rfl rfl ?_
                      refine r_vv2 (pc' := 92) dX10_old_89 rfl qX3_add lX10_289 z160 rfl rfl rfl rfl (Nat.zero_le _) (Nat.zero_le _) (a_lookAddI hK (by omega) (by omega) (by omega) (fun g1 hK1 fr1 => ?_))
                      refine r_aload_n (pc' := 93) dX10_old_92 rfl rfl ?_
                      refine r_getr (pc' := 96) dX10_old_93 rfl fX10_71 z0 rfl ?_
                      refine r_getf (pc' := 99) (kI := 2) dX10_old_96 rfl fX10_111 z160 rfl rfl hK1.1 ?_
                      refine r_reti dX10_old_99 rfl (Or.inl rfl) ?_
                      first
                        | exact absurd rfl c45
                        | exact absurd c45 (by decide)
                        | exact absurd rfl c50
                        | exact absurd c50 (by decide)
                        | exact absurd rfl c77
                        | exact absurd c77 (by decide)
                        | (have hok : ((k = 0 ∧ 0 ≤ n ∧ n ≤ 5) ∨ (k = 1 ∧ 1 ≤ n ∧ n ≤ 9)) ∧ ln < 6 := by omega
                           have h9 := h g1 (by simp only [if_pos hok]; exact ⟨TX.fr ⟨t1, t2, t3⟩ (fr1 1 (by simp only [List.mem_cons, List.not_mem_nil, or_false, not_or]; omega)) (fr1 2 (by simp only [List.mem_cons, List.not_mem_nil, or_false, not_or]; omega)), ⟨by rw [fr1 1 (by simp only [List.mem_cons, List.not_mem_nil, or_false, not_or]; omega)]; exact f1, f2⟩, hB.fr2 (fun j a1 a2 => fr1 j (by simp only [List.mem_cons, List.not_mem_nil, or_false, not_or]; omega)), ⟨top, hP.fr (fun j hj => by unfold pastB at hj; exact fr1 j (by simp only [List.mem_cons, List.not_mem_nil, or_false, not_or]; omega))⟩, IMs.fr hI (fun j a1 a2 => fr1 j (by simp only [List.mem_cons, List.not_mem_nil, or_false, not_or]; omega)), ⟨by rw [fr1 0 (by simp only [List.mem_cons, List.not_mem_nil, or_false, not_or]; omega)]; exact sd1, sd2, sd3⟩, (by first | (rw [show oldN k n = (10 + n).toNat from by unfold oldN; rw [if_pos (by omega)]; omega]; exact hK1) | (rw [show oldN k n = n.toNat from by unfold oldN; rw [if_neg (by omega)]]; exact hK1)), hN.fr (fr1 163 (by simp only [List.mem_cons, List.not_mem_nil, or_false, not_or]; omega)) (fr1 164 (by simp only [List.mem_cons, List.not_mem_nil, or_false, not_or]; omega)) (fr1 165 (by simp only [List.mem_cons, List.not_mem_nil, or_false, not_or]; omega))⟩) (fun j hj => fr1 j (by simp only [List.mem_cons, List.not_mem_nil, or_false, not_or]; omega))
                           unfold E_old at h9
                           rw [if_pos (by omega), if_pos (by omega)] at h9
                           exact h9)
                    · refine r_bipush (pc' := 82) dX10_old_80 rfl (by decide) ?_
                      refine r_iload_n (pc' := 83) dX10_old_82 rfl rfl ?_
                      refine r_iadd (pc' := 84) dX10_old_83 rfl ?_
                      refine r_goto (tgt := 88) dX10_old_84 rfl ?_
                      refine r_iload_n (pc' := 89) dX10_old_88 rfl rfl ?_
                      refine r_vv2 (pc' := 92) dX10_old_89 rfl qX3_add lX10_289 z160 rfl rfl rfl rfl (Nat.zero_le _) (Nat.zero_le _) (a_lookAddI hK (by omega) (by omega) (by omega) (fun g1 hK1 fr1 => ?_))
                      refine r_aload_n (pc' := 93) dX10_old_92 rfl rfl ?_
                      refine r_getr (pc' := 96) dX10_old_93 rfl fX10_71 z0 rfl ?_
                      refine r_getf (pc' := 99) (kI := 2) dX10_old_96 rfl fX10_111 z160 rfl rfl hK1.1 ?_
                      refine r_reti dX10_old_99 rfl (Or.inl rfl) ?_
                      first
                        | exact absurd rfl c45
                        | exact absurd c45 (by decide)
                        | exact absurd rfl c50
                        | exact absurd c50 (by decide)
                        | exact absurd rfl c77
                        | exact absurd c77 (by decide)
                        | (have hok : ((k = 0 ∧ 0 ≤ n ∧ n ≤ 5) ∨ (k = 1 ∧ 1 ≤ n ∧ n ≤ 9)) ∧ ln < 6 := by omega
                           have h9 := h g1 (by simp only [if_pos hok]; exact ⟨TX.fr ⟨t1, t2, t3⟩ (fr1 1 (by simp only [List.mem_cons, List.not_mem_nil, or_false, not_or]; omega)) (fr1 2 (by simp only [List.mem_cons, List.not_mem_nil, or_false, not_or]; omega)), ⟨by rw [fr1 1 (by simp only [List.mem_cons, List.not_mem_nil, or_false, not_or]; omega)]; exact f1, f2⟩, hB.fr2 (fun j a1 a2 => fr1 j (by simp only [List.mem_cons, List.not_mem_nil, or_false, not_or]; omega)), ⟨top, hP.fr (fun j hj => by unfold pastB at hj; exact fr1 j (by simp only [List.mem_cons, List.not_mem_nil, or_false, not_or]; omega))⟩, IMs.fr hI (fun j a1 a2 => fr1 j (by simp only [List.mem_cons, List.not_mem_nil, or_false, not_or]; omega)), ⟨by rw [fr1 0 (by simp only [List.mem_cons, List.not_mem_nil, or_false, not_or]; omega)]; exact sd1, sd2, sd3⟩, (by first | (rw [show oldN k n = (10 + n).toNat from by unfold oldN; rw [if_pos (by omega)]; omega]; exact hK1) | (rw [show oldN k n = n.toNat from by unfold oldN; rw [if_neg (by omega)]]; exact hK1)), hN.fr (fr1 163 (by simp only [List.mem_cons, List.not_mem_nil, or_false, not_or]; omega)) (fr1 164 (by simp only [List.mem_cons, List.not_mem_nil, or_false, not_or]; omega)) (fr1 165 (by simp only [List.mem_cons, List.not_mem_nil, or_false, not_or]; omega))⟩) (fun j hj => fr1 j (by simp only [List.mem_cons, List.not_mem_nil, or_false, not_or]; omega))
                           unfold E_old at h9
                           rw [if_pos (by omega), if_pos (by omega)] at h9
                           exact h9)
                  · refine r_ldc (z := -1000000004) (pc' := 70) dX10_old_68 rfl kX10_90 ?_
                    refine r_reti dX10_old_70 rfl (Or.inl rfl) ?_
                    first
                      | exact absurd rfl c45
                      | exact absurd c45 (by decide)
                      | exact absurd rfl c50
                      | exact absurd c50 (by decide)
                      | exact absurd rfl c77
                      | exact absurd c77 (by decide)
                      | (have hno : ¬ (((k = 0 ∧ 0 ≤ n ∧ n ≤ 5) ∨ (k = 1 ∧ 1 ≤ n ∧ n ≤ 9)) ∧ ln < 6) := by omega
                         have h9 := h g (by simp only [if_neg hno]; exact hS) (FrC.rf g)
                         unfold E_old at h9
                         rw [if_pos (by omega), if_neg (by omega)] at h9
                         exact h9)
                · refine r_ldc (z := -1000000002) (pc' := 55) dX10_old_53 rfl kX10_86 ?_
                  refine r_reti dX10_old_55 rfl (Or.inl rfl) ?_
                  first
                    | exact absurd rfl c45
                    | exact absurd c45 (by decide)
                    | exact absurd rfl c50
                    | exact absurd c50 (by decide)
                    | exact absurd rfl c77
                    | exact absurd c77 (by decide)
                    | (have hno : ¬ (((k = 0 ∧ 0 ≤ n ∧ n ≤ 5) ∨ (k = 1 ∧ 1 ≤ n ∧ n ≤ 9)) ∧ ln < 6) := by omega
                       have h9 := h g (by simp only [if_neg hno]; exact hS) (FrC.rf g)
                       unfold E_old at h9
                       rw [if_neg (by omega)] at h9
                       exact h9)
            · refine r_iconst (pc' := 37) dX10_old_36 rfl ?_
              refine r_goto (tgt := 41) dX10_old_37 rfl ?_
              refine r_istore (pc' := 43) dX10_old_41 rfl rfl ?_
              refine r_iload (pc' := 45) dX10_old_43 rfl rfl ?_
              refine r_if_ne (tgt := 56) (pc' := 48) dX10_old_45 rfl rfl (by decide) (fun c45 => ?_) (fun c45 => ?_)
              · refine r_aload_n (pc' := 57) dX10_old_56 rfl rfl ?_
                refine r_getr (pc' := 60) dX10_old_57 rfl fX10_71 z0 rfl ?_
                refine r_getf (pc' := 63) (kI := 2) dX10_old_60 rfl fX10_111 z160 rfl rfl hK.1 ?_
                refine r_bipush (pc' := 65) dX10_old_63 rfl (by decide) ?_
                refine r_icmp_lt (tgt := 71) (pc' := 68) dX10_old_65 rfl rfl (by omega) (by omega) (fun c65 => ?_) (fun c65 => ?_)
                · refine r_aload_n (pc' := 72) dX10_old_71 rfl rfl ?_
                  refine r_getr (pc' := 75) dX10_old_72 rfl fX10_71 z0 rfl ?_
                  refine r_iload (pc' := 77) dX10_old_75 rfl rfl ?_
                  refine r_if_eq (tgt := 87) (pc' := 80) dX10_old_77 rfl rfl (by omega) (fun c77 => ?_) (fun c77 => ?_)
                  · refine r_iload_n (pc' := 88) dX10_old_87 rfl rfl ?_
                    refine r_iload_n (pc' := 89) dX10_old_88 rfl rfl ?_
                    refine r_vv2 (pc' := 92) dX10_old_89 rfl qX3_add lX10_289 z160 rfl rfl rfl rfl (Nat.zero_le _) (Nat.zero_le _) (a_lookAddI hK (by omega) (by omega) (by omega) (fun g1 hK1 fr1 => ?_))
                    refine r_aload_n (pc' := 93) dX10_old_92 rfl rfl ?_
                    refine r_getr (pc' := 96) dX10_old_93 rfl fX10_71 z0 rfl ?_
                    refine r_getf (pc' := 99) (kI := 2) dX10_old_96 rfl fX10_111 z160 rfl rfl hK1.1 ?_
                    refine r_reti dX10_old_99 rfl (Or.inl rfl) ?_
                    first
                      | exact absurd rfl c45
                      | exact absurd c45 (by decide)
                      | exact absurd rfl c50
                      | exact absurd c50 (by decide)
                      | exact absurd rfl c77
                      | exact absurd c77 (by decide)
                      | (have hok : ((k = 0 ∧ 0 ≤ n ∧ n ≤ 5) ∨ (k = 1 ∧ 1 ≤ n ∧ n ≤ 9)) ∧ ln < 6 := by omega
                         have h9 := h g1 (by simp only [if_pos hok]; exact ⟨TX.fr ⟨t1, t2, t3⟩ (fr1 1 (by simp only [List.mem_cons, List.not_mem_nil, or_false, not_or]; omega)) (fr1 2 (by simp only [List.mem_cons, List.not_mem_nil, or_false, not_or]; omega)), ⟨by rw [fr1 1 (by simp only [List.mem_cons, List.not_mem_nil, or_false, not_or]; omega)]; exact f1, f2⟩, hB.fr2 (fun j a1 a2 => fr1 j (by simp only [List.mem_cons, List.not_mem_nil, or_false, not_or]; omega)), ⟨top, hP.fr (fun j hj => by unfold pastB at hj; exact fr1 j (by simp only [List.mem_cons, List.not_mem_nil, or_false, not_or]; omega))⟩, IMs.fr hI (fun j a1 a2 => fr1 j (by simp only [List.mem_cons, List.not_mem_nil, or_false, not_or]; omega)), ⟨by rw [fr1 0 (by simp only [List.mem_cons, List.not_mem_nil, or_false, not_or]; omega)]; exact sd1, sd2, sd3⟩, (by first | (rw [show oldN k n = (10 + n).toNat from by unfold oldN; rw [if_pos (by omega)]; omega]; exact hK1) | (rw [show oldN k n = n.toNat from by unfold oldN; rw [if_neg (by omega)]]; exact hK1)), hN.fr (fr1 163 (by simp only [List.mem_cons, List.not_mem_nil, or_false, not_or]; omega)) (fr1 164 (by simp only [List.mem_cons, List.not_mem_nil, or_false, not_or]; omega)) (fr1 165 (by simp only [List.mem_cons, List.not_mem_nil, or_false, not_or]; omega))⟩) (fun j hj => fr1 j (by simp only [List.mem_cons, List.not_mem_nil, or_false, not_or]; omega))
                         unfold E_old at h9
                         rw [if_pos (by omega), if_pos (by omega)] at h9
                         exact h9)
                  · refine r_bipush (pc' := 82) dX10_old_80 rfl (by decide) ?_
                    refine r_iload_n (pc' := 83) dX10_old_82 rfl rfl ?_
                    refine r_iadd (pc' := 84) dX10_old_83 rfl ?_
                    refine r_goto (tgt := 88) dX10_old_84 rfl ?_
                    refine r_iload_n (pc' := 89) dX10_old_88 rfl rfl ?_
                    refine r_vv2 (pc' := 92) dX10_old_89 rfl qX3_add lX10_289 z160 rfl rfl rfl rfl (Nat.zero_le _) (Nat.zero_le _) (a_lookAddI hK (by omega) (by omega) (by omega) (fun g1 hK1 fr1 => ?_))
                    refine r_aload_n (pc' := 93) dX10_old_92 rfl rfl ?_
                    refine r_getr (pc' := 96) dX10_old_93 rfl fX10_71 z0 rfl ?_
                    refine r_getf (pc' := 99) (kI := 2) dX10_old_96 rfl fX10_111 z160 rfl rfl hK1.1 ?_
                    refine r_reti dX10_old_99 rfl (Or.inl rfl) ?_
                    first
                      | exact absurd rfl c45
                      | exact absurd c45 (by decide)
                      | exact absurd rfl c50
                      | exact absurd c50 (by decide)
                      | exact absurd rfl c77
                      | exact absurd c77 (by decide)
                      | (have hok : ((k = 0 ∧ 0 ≤ n ∧ n ≤ 5) ∨ (k = 1 ∧ 1 ≤ n ∧ n ≤ 9)) ∧ ln < 6 := by omega
                         have h9 := h g1 (by simp only [if_pos hok]; exact ⟨TX.fr ⟨t1, t2, t3⟩ (fr1 1 (by simp only [List.mem_cons, List.not_mem_nil, or_false, not_or]; omega)) (fr1 2 (by simp only [List.mem_cons, List.not_mem_nil, or_false, not_or]; omega)), ⟨by rw [fr1 1 (by simp only [List.mem_cons, List.not_mem_nil, or_false, not_or]; omega)]; exact f1, f2⟩, hB.fr2 (fun j a1 a2 => fr1 j (by simp only [List.mem_cons, List.not_mem_nil, or_false, not_or]; omega)), ⟨top, hP.fr (fun j hj => by unfold pastB at hj; exact fr1 j (by simp only [List.mem_cons, List.not_mem_nil, or_false, not_or]; omega))⟩, IMs.fr hI (fun j a1 a2 => fr1 j (by simp only [List.mem_cons, List.not_mem_nil, or_false, not_or]; omega)), ⟨by rw [fr1 0 (by simp only [List.mem_cons, List.not_mem_nil, or_false, not_or]; omega)]; exact sd1, sd2, sd3⟩, (by first | (rw [show oldN k n = (10 + n).toNat from by unfold oldN; rw [if_pos (by omega)]; omega]; exact hK1) | (rw [show oldN k n = n.toNat from by unfold oldN; rw [if_neg (by omega)]]; exact hK1)), hN.fr (fr1 163 (by simp only [List.mem_cons, List.not_mem_nil, or_false, not_or]; omega)) (fr1 164 (by simp only [List.mem_cons, List.not_mem_nil, or_false, not_or]; omega)) (fr1 165 (by simp only [List.mem_cons, List.not_mem_nil, or_false, not_or]; omega))⟩) (fun j hj => fr1 j (by simp only [List.mem_cons, List.not_mem_nil, or_false, not_or]; omega))
                         unfold E_old at h9
                         rw [if_pos (by omega), if_pos (by omega)] at h9
                         exact h9)
                · refine r_ldc (z := -1000000004) (pc' := 70) dX10_old_68 rfl kX10_90 ?_
                  refine r_reti dX10_old_70 rfl (Or.inl rfl) ?_
                  first
                    | exact absurd rfl c45
                    | exact absurd c45 (by decide)
                    | exact absurd rfl c50
                    | exact absurd c50 (by decide)
                    | exact absurd rfl c77
                    | exact absurd c77 (by decide)
                    | (have hno : ¬ (((k = 0 ∧ 0 ≤ n ∧ n ≤ 5) ∨ (k = 1 ∧ 1 ≤ n ∧ n ≤ 9)) ∧ ln < 6) := by omega
                       have h9 := h g (by simp only [if_neg hno]; exact hS) (FrC.rf g)
                       unfold E_old at h9
                       rw [if_pos (by omega), if_neg (by omega)] at h9
                       exact h9)
              · refine r_iload (pc' := 50) dX10_old_48 rfl rfl ?_
                refine r_if_ne (tgt := 56) (pc' := 53) dX10_old_50 rfl rfl (by omega) (fun c50 => ?_) (fun c50 => ?_)
                · refine r_aload_n (pc' := 57) dX10_old_56 rfl rfl ?_
                  refine r_getr (pc' := 60) dX10_old_57 rfl fX10_71 z0 rfl ?_
                  refine r_getf (pc' := 63) (kI := 2) dX10_old_60 rfl fX10_111 z160 rfl rfl hK.1 ?_
                  refine r_bipush (pc' := 65) dX10_old_63 rfl (by decide) ?_
                  refine r_icmp_lt (tgt := 71) (pc' := 68) dX10_old_65 rfl rfl (by omega) (by omega) (fun c65 => ?_) (fun c65 => ?_)
                  · refine r_aload_n (pc' := 72) dX10_old_71 rfl rfl ?_
                    refine r_getr (pc' := 75) dX10_old_72 rfl fX10_71 z0 rfl ?_
                    refine r_iload (pc' := 77) dX10_old_75 rfl rfl ?_
                    refine r_if_eq (tgt := 87) (pc' := 80) dX10_old_77 rfl rfl (by omega) (fun c77 => ?_) (fun c77 => ?_)
                    · refine r_iload_n (pc' := 88) dX10_old_87 rfl rfl ?_
                      refine r_iload_n (pc' := 89) dX10_old_88 rfl rfl ?_
                      refine r_vv2 (pc' := 92) dX10_old_89 rfl qX3_add lX10_289 z160 rfl rfl rfl rfl (Nat.zero_le _) (Nat.zero_le _) (a_lookAddI hK (by omega) (by omega) (by omega) (fun g1 hK1 fr1 => ?_))
                      refine r_aload_n (pc' := 93) dX10_old_92 rfl rfl ?_
                      refine r_getr (pc' := 96) dX10_old_93 rfl fX10_71 z0 rfl ?_
                      refine r_getf (pc' := 99) (kI := 2) dX10_old_96 rfl fX10_111 z160 rfl rfl hK1.1 ?_
                      refine r_reti dX10_old_99 rfl (Or.inl rfl) ?_
                      first
                        | exact absurd rfl c45
                        | exact absurd c45 (by decide)
                        | exact absurd rfl c50
                        | exact absurd c50 (by decide)
                        | exact absurd rfl c77
                        | exact absurd c77 (by decide)
                        | (have hok : ((k = 0 ∧ 0 ≤ n ∧ n ≤ 5) ∨ (k = 1 ∧ 1 ≤ n ∧ n ≤ 9)) ∧ ln < 6 := by omega
                           have h9 := h g1 (by simp only [if_pos hok]; exact ⟨TX.fr ⟨t1, t2, t3⟩ (fr1 1 (by simp only [List.mem_cons, List.not_mem_nil, or_false, not_or]; omega)) (fr1 2 (by simp only [List.mem_cons, List.not_mem_nil, or_false, not_or]; omega)), ⟨by rw [fr1 1 (by simp only [List.mem_cons, List.not_mem_nil, or_false, not_or]; omega)]; exact f1, f2⟩, hB.fr2 (fun j a1 a2 => fr1 j (by simp only [List.mem_cons, List.not_mem_nil, or_false, not_or]; omega)), ⟨top, hP.fr (fun j hj => by unfold pastB at hj; exact fr1 j (by simp only [List.mem_cons, List.not_mem_nil, or_false, not_or]; omega))⟩, IMs.fr hI (fun j a1 a2 => fr1 j (by simp only [List.mem_cons, List.not_mem_nil, or_false, not_or]; omega)), ⟨by rw [fr1 0 (by simp only [List.mem_cons, List.not_mem_nil, or_false, not_or]; omega)]; exact sd1, sd2, sd3⟩, (by first | (rw [show oldN k n = (10 + n).toNat from by unfold oldN; rw [if_pos (by omega)]; omega]; exact hK1) | (rw [show oldN k n = n.toNat from by unfold oldN; rw [if_neg (by omega)]]; exact hK1)), hN.fr (fr1 163 (by simp only [List.mem_cons, List.not_mem_nil, or_false, not_or]; omega)) (fr1 164 (by simp only [List.mem_cons, List.not_mem_nil, or_false, not_or]; omega)) (fr1 165 (by simp only [List.mem_cons, List.not_mem_nil, or_false, not_or]; omega))⟩) (fun j hj => fr1 j (by simp only [List.mem_cons, List.not_mem_nil, or_false, not_or]; omega))
                           unfold E_old at h9
                           rw [if_pos (by omega), if_pos (by omega)] at h9
                           exact h9)
                    · refine r_bipush (pc' := 82) dX10_old_80 rfl (by decide) ?_
                      refine r_iload_n (pc' := 83) dX10_old_82 rfl rfl ?_
                      refine r_iadd (pc' := 84) dX10_old_83 rfl ?_
                      refine r_goto (tgt := 88) dX10_old_84 rfl ?_
                      refine r_iload_n (pc' := 89) dX10_old_88 rfl rfl ?_
                      refine r_vv2 (pc' := 92) dX10_old_89 rfl qX3_add lX10_289 z160 rfl rfl rfl rfl (Nat.zero_le _) (Nat.zero_le _) (a_lookAddI hK (by omega) (by omega) (by omega) (fun g1 hK1 fr1 => ?_))
                      refine r_aload_n (pc' := 93) dX10_old_92 rfl rfl ?_
                      refine r_getr (pc' := 96) dX10_old_93 rfl fX10_71 z0 rfl ?_
                      refine r_getf (pc' := 99) (kI := 2) dX10_old_96 rfl fX10_111 z160 rfl rfl hK1.1 ?_
                      refine r_reti dX10_old_99 rfl (Or.inl rfl) ?_
                      first
                        | exact absurd rfl c45
                        | exact absurd c45 (by decide)
                        | exact absurd rfl c50
                        | exact absurd c50 (by decide)
                        | exact absurd rfl c77
                        | exact absurd c77 (by decide)
                        | (have hok : ((k = 0 ∧ 0 ≤ n ∧ n ≤ 5) ∨ (k = 1 ∧ 1 ≤ n ∧ n ≤ 9)) ∧ ln < 6 := by omega
                           have h9 := h g1 (by simp only [if_pos hok]; exact ⟨TX.fr ⟨t1, t2, t3⟩ (fr1 1 (by simp only [List.mem_cons, List.not_mem_nil, or_false, not_or]; omega)) (fr1 2 (by simp only [List.mem_cons, List.not_mem_nil, or_false, not_or]; omega)), ⟨by rw [fr1 1 (by simp only [List.mem_cons, List.not_mem_nil, or_false, not_or]; omega)]; exact f1, f2⟩, hB.fr2 (fun j a1 a2 => fr1 j (by simp only [List.mem_cons, List.not_mem_nil, or_false, not_or]; omega)), ⟨top, hP.fr (fun j hj => by unfold pastB at hj; exact fr1 j (by simp only [List.mem_cons, List.not_mem_nil, or_false, not_or]; omega))⟩, IMs.fr hI (fun j a1 a2 => fr1 j (by simp only [List.mem_cons, List.not_mem_nil, or_false, not_or]; omega)), ⟨by rw [fr1 0 (by simp only [List.mem_cons, List.not_mem_nil, or_false, not_or]; omega)]; exact sd1, sd2, sd3⟩, (by first | (rw [show oldN k n = (10 + n).toNat from by unfold oldN; rw [if_pos (by omega)]; omega]; exact hK1) | (rw [show oldN k n = n.toNat from by unfold oldN; rw [if_neg (by omega)]]; exact hK1)), hN.fr (fr1 163 (by simp only [List.mem_cons, List.not_mem_nil, or_false, not_or]; omega)) (fr1 164 (by simp only [List.mem_cons, List.not_mem_nil, or_false, not_or]; omega)) (fr1 165 (by simp only [List.mem_cons, List.not_mem_nil, or_false, not_or]; omega))⟩) (fun j hj => fr1 j (by simp only [List.mem_cons, List.not_mem_nil, or_false, not_or]; omega))
                           unfold E_old at h9
                           rw [if_pos (by omega), if_pos (by omega)] at h9
                           exact h9)
                  · refine r_ldc (z := -1000000004) (pc' := 70) dX10_old_68 rfl kX10_90 ?_
                    refine r_reti dX10_old_70 rfl (Or.inl rfl) ?_
                    first
                      | exact absurd rfl c45
                      | exact absurd c45 (by decide)
                      | exact absurd rfl c50
                      | exact absurd c50 (by decide)
                      | exact absurd rfl c77
                      | exact absurd c77 (by decide)
                      | (have hno : ¬ (((k = 0 ∧ 0 ≤ n ∧ n ≤ 5) ∨ (k = 1 ∧ 1 ≤ n ∧ n ≤ 9)) ∧ ln < 6) := by omega
                         have h9 := h g (by simp only [if_neg hno]; exact hS) (FrC.rf g)
                         unfold E_old at h9
                         rw [if_pos (by omega), if_neg (by omega)] at h9
                         exact h9)
                · refine r_ldc (z := -1000000002) (pc' := 55) dX10_old_53 rfl kX10_86 ?_
                  refine r_reti dX10_old_55 rfl (Or.inl rfl) ?_
                  first
                    | exact absurd rfl c45
                    | exact absurd c45 (by decide)
                    | exact absurd rfl c50
                    | exact absurd c50 (by decide)
                    | exact absurd rfl c77
                    | exact absurd c77 (by decide)
                    | (have hno : ¬ (((k = 0 ∧ 0 ≤ n ∧ n ≤ 5) ∨ (k = 1 ∧ 1 ≤ n ∧ n ≤ 9)) ∧ ln < 6) := by omega
                       have h9 := h g (by simp only [if_neg hno]; exact hS) (FrC.rf g)
                       unfold E_old at h9
                       rw [if_neg (by omega)] at h9
                       exact h9)
theorem C_seed {X : CX} {d : Nat} {g : Mem} {K : Int → Mem → Prop} {tN : Nat} {tX : Nat → Int} {flt : Int} {u : PV} {v : LV} {kn : Nat} {kL : Nat → LV} {im : Nat → Bool × Int × LV} {sd : Int} {ln : Nat} {la : Nat → Nat} {lr : Nat → Bool} {bn : Nat} {bp : Nat → Nat} {bf : Nat → Int} (hS : CS g tN tX flt u v kn kL im sd ln la lr bn bp bf) (x : Int) (hx : R32 x) (h : ∀ g' : Mem, CS g' tN tX flt u v kn kL im (if 0 ≤ x then x else sd) ln la lr bn bp bf → FrC g g' → K (if 0 ≤ x then sd else -1000000002) g') : EI X (d) mX10_seed [vr 0, vi x] Z0 g K := by
  show AJ X (d) mX10_seed 0 0 (QI Z0 K) 0 0 0 [some (vr 0), some (vi x), none] [] Z0 g
  obtain ⟨⟨t1, t2, t3⟩, ⟨f1, f2⟩, hB, ⟨top, hP⟩, hI, ⟨sd1, sd2, sd3⟩, hK, hN⟩ := id hS
  obtain ⟨hQ, hU, hC, hW⟩ := id hB
  obtain ⟨hc, ho, hf, hw_, ht, hi, hy⟩ := id hC
  obtain ⟨w0, w1, w2, w3, w4, w5, w6, w7⟩ := id hW
  obtain ⟨p6, p7, p8, p9, p10, pk, pg, px, py⟩ := id hQ
  obtain ⟨u0, u1, u2, u3, u4, u5, u6, u7⟩ := id hU
  have hb20 := hN.2.1
  have hl6 := hK.2.1
  refine r_iload_n (pc' := 1) dX10_seed_0 rfl rfl ?_
  refine r_if_ge (tgt := 7) (pc' := 4) dX10_seed_1 rfl rfl (by omega) (fun c1 => ?_) (fun c1 => ?_)
  · refine r_aload_n (pc' := 8) dX10_seed_7 rfl rfl ?_
    refine r_getf (pc' := 11) (kI := 11) dX10_seed_8 rfl fX10_82 z0 rfl rfl sd1 ?_
    refine r_istore_n (pc' := 12) dX10_seed_11 rfl rfl ?_
    refine r_aload_n (pc' := 13) dX10_seed_12 rfl rfl ?_
    refine r_iload_n (pc' := 14) dX10_seed_13 rfl rfl ?_
    refine r_putf (pc' := 17) (kI := 11) dX10_seed_14 rfl fX10_82 z0 rfl (Or.inl rfl) rfl rfl ?_
    refine r_iload_n (pc' := 18) dX10_seed_17 rfl rfl ?_
    refine r_reti dX10_seed_18 rfl (Or.inl rfl) ?_
    have hok : 0 ≤ x := by omega
    have hfr : ∀ j, j ≠ 0 → mu g 0 11 x j = g j := fun j a => mu_ne a
    have h9 := h _ (by simp only [if_pos hok]; exact ⟨TX.fr ⟨t1, t2, t3⟩ (hfr 1 (by omega)) (hfr 2 (by omega)), ⟨by rw [hfr 1 (by omega)]; exact f1, f2⟩, hB.fr2 (fun j a1 a2 => hfr j (by omega)), ⟨top, hP.fr (fun j hj => by unfold pastB at hj; exact hfr j (by omega))⟩, IMs.fr hI (fun j a1 a2 => hfr j (by omega)), ⟨mu_at, hok, by omega⟩, hK.fr (hfr 160 (by omega)) (hfr 161 (by omega)) (hfr 162 (by omega)), hN.fr (hfr 163 (by omega)) (hfr 164 (by omega)) (hfr 165 (by omega))⟩) (fun j hj => hfr j (by omega))
    rw [if_pos hok] at h9
    exact h9
  · refine r_ldc (z := -1000000002) (pc' := 6) dX10_seed_4 rfl kX10_86 ?_
    refine r_reti dX10_seed_6 rfl (Or.inl rfl) ?_
    have hno : ¬ (0 ≤ x) := by omega
    have h9 := h g (by simp only [if_neg hno]; exact hS) (FrC.rf g)
    rw [if_neg hno] at h9
    exact h9
