/-- the first word at p behind which a reading goes on -/
def fwO (u : PV) (v : LV) (p : Nat) : Nat → Nat → Int
  | 0, _ => -1
  | k + 1, x => if begB u v x p && decide (0 < wayT u v (Ln v) (p + Pl u x)) then (x : Int) else fwO u v p k (x + 1)
/-- the first reading from p on, in at most k words -/
def frF (u : PV) (v : LV) : Nat → Nat → Int → Int
  | 0, _, row => row
  | k + 1, p, row => if p < Ln v then (if fwO u v p (Pw u) 0 = -1 then -1 else frF u v k (p + Pl u (fwO u v p (Pw u) 0).toNat) (row * 10 + fwO u v p (Pw u) 0 + 1)) else row
theorem fwO_b {u : PV} {v : LV} {p : Nat} : ∀ (k x : Nat), -1 ≤ fwO u v p k x ∧ fwO u v p k x < x + k + (1 : Int) ∧ (fwO u v p k x ≠ -1 → fwO u v p k x < x + k ∧ 0 ≤ fwO u v p k x ∧ begB u v (fwO u v p k x).toNat p = true)
  | 0, x => by unfold fwO; refine ⟨by omega, by omega, fun h => absurd rfl h⟩
  | k + 1, x => by
    unfold fwO
    split
    · rename_i h
      rw [Bool.and_eq_true] at h
      refine ⟨by omega, by omega, fun _ => ⟨by omega, by omega, ?_⟩⟩
      rw [show ((x : Int)).toNat = x by omega]
      exact h.1
    · have := fwO_b (u := u) (v := v) (p := p) k (x + 1)
      refine ⟨this.1, by omega, fun h => ?_⟩
      have := this.2.2 h
      exact ⟨by omega, this.2.1, this.2.2⟩
theorem l_fwOn {X : CX} {d : Nat} {g : Mem} {K : Int → Mem → Prop} {u : PV} {v : LV} (hB : CB g u v)  {p : Nat} (hp : p ≤ 7) (hwy : ∀ q : Nat, q ≤ Ln v → g 157 q = (wayT u v (Ln v) q : Int)) : ∀ (k x : Nat), x + k = Pw u → K (fwO u v p k x) g → AJ X (d + 2) mX7_firstWordOn 0 0 (QI Z0 K) 0 0 3 [some (vr 156), some (vr 10), some (vr 17), some (vi (p : Int)), some (vi (x : Int))] [] Z0 g := by
  obtain ⟨hQ, hU, hC, hW⟩ := id hB
  obtain ⟨hc, ho, hf, hw, ht, hi, hy⟩ := id hC
  obtain ⟨w0, w1, w2, w3, w4, w5, w6, w7⟩ := id hW
  obtain ⟨p6, p7, p8, p9, p10, pk, pg, px, py⟩ := id hQ
  obtain ⟨u0, u1, u2, u3, u4, u5, u6, u7⟩ := id hU
  intro k
  induction k with
  | zero =>
    intro x hx h
    refine r_iload (pc' := 5) dX7_firstWordOn_3 rfl rfl ?_
    refine r_aload_n (pc' := 6) dX7_firstWordOn_5 rfl rfl ?_
    refine r_getf (pc' := 9) (kI := 9) dX7_firstWordOn_6 rfl fX7_34 isP10.1 rfl rfl p9 ?_
    refine r_icmp_ge (tgt := 49) (pc' := 12) dX7_firstWordOn_9 rfl rfl (by omega) (by omega) (fun c9 => ?_) (fun c9 => ?_)
    · refine r_iconst (pc' := 50) dX7_firstWordOn_49 rfl ?_
      refine r_reti dX7_firstWordOn_50 rfl (Or.inl rfl) ?_
      exact h
    · exact absurd c9 (by omega)
  | succ k ih =>
    intro x hx h
    have q1 := (px x (by omega)).1
    have q2 := u6 x (by omega)
    have wb := wayT_le hU v (Ln v) (p + Pl u x)
    have wb2 : 6 ^ Ln v ≤ 6 ^ 7 := Nat.pow_le_pow_right (by decide) w1
    unfold fwO at h
    refine r_iload (pc' := 5) dX7_firstWordOn_3 rfl rfl ?_
    refine r_aload_n (pc' := 6) dX7_firstWordOn_5 rfl rfl ?_
    refine r_getf (pc' := 9) (kI := 9) dX7_firstWordOn_6 rfl fX7_34 isP10.1 rfl rfl p9 ?_
    refine r_icmp_ge (tgt := 49) (pc' := 12) dX7_firstWordOn_9 rfl rfl (by omega) (by omega) (fun c9 => ?_) (fun c9 => ?_)
    · exact absurd c9 (by omega)
    · refine r_aload_n (pc' := 13) dX7_firstWordOn_12 rfl rfl ?_
      refine r_aload_n (pc' := 14) dX7_firstWordOn_13 rfl rfl ?_
      refine r_iload (pc' := 16) dX7_firstWordOn_14 rfl rfl ?_
      refine r_iload_n (pc' := 17) dX7_firstWordOn_16 rfl rfl ?_
      refine r_si4 (pc' := 20) dX7_firstWordOn_17 rfl qX7_begins lX7_37 rfl rfl rfl (Nat.zero_le _) (Nat.zero_le _) (a_begins hB (by omega) hp ?_)
      refine r_if_eq (tgt := 43) (pc' := 23) dX7_firstWordOn_20 rfl rfl (b01_R _) (fun c20 => ?_) (fun c20 => ?_)
      · refine r_iinc (pc' := 46) dX7_firstWordOn_43 rfl rfl rfl ?_
        refine r_goto (tgt := 3) dX7_firstWordOn_46 rfl ?_
        first | (rw [if_neg (by rw [b01_eq c20, Bool.false_and]; decide)] at h; exact ih (x + 1) (by omega) h) | (rw [if_neg (by rw [decide_eq_false (by omega), Bool.and_false]; decide)] at h; exact ih (x + 1) (by omega) h)
      · have hbe := begB_le (b01_ne c20)
        refine r_aload_n (pc' := 24) dX7_firstWordOn_23 rfl rfl ?_
        refine r_getr (pc' := 27) dX7_firstWordOn_24 rfl fX7_9 z156 rfl ?_
        refine r_iload_n (pc' := 28) dX7_firstWordOn_27 rfl rfl ?_
        refine r_aload_n (pc' := 29) dX7_firstWordOn_28 rfl rfl ?_
        refine r_getr (pc' := 32) dX7_firstWordOn_29 rfl fX7_29 isP10.1 rfl ?_
        refine r_iload (pc' := 34) dX7_firstWordOn_32 rfl rfl ?_
        refine r_iaload (pc' := 35) dX7_firstWordOn_34 rfl isP10.2.2.2.2.1 (by decide) (by omega) (by omega) q1 ?_
        refine r_iadd (pc' := 36) dX7_firstWordOn_35 rfl ?_
        refine r_iaload (pc' := 37) (x := (wayT u v (Ln v) (p + Pl u x) : Int)) dX7_firstWordOn_36 rfl z157 (by decide) (by omega) (by omega) (hwy (p + Pl u x) (by omega)) ?_
        refine r_if_le (tgt := 43) (pc' := 40) dX7_firstWordOn_37 rfl rfl (by omega) (fun c37 => ?_) (fun c37 => ?_)
        · refine r_iinc (pc' := 46) dX7_firstWordOn_43 rfl rfl rfl ?_
          refine r_goto (tgt := 3) dX7_firstWordOn_46 rfl ?_
          first | (rw [if_neg (by rw [b01_eq c20, Bool.false_and]; decide)] at h; exact ih (x + 1) (by omega) h) | (rw [if_neg (by rw [decide_eq_false (by omega), Bool.and_false]; decide)] at h; exact ih (x + 1) (by omega) h)
        · refine r_iload (pc' := 42) dX7_firstWordOn_40 rfl rfl ?_
          refine r_reti dX7_firstWordOn_42 rfl (Or.inl rfl) ?_
          rw [if_pos (by rw [b01_ne c20, decide_eq_true (by omega)]; rfl)] at h
          exact h
theorem a_fwOn {X : CX} {d : Nat} {g : Mem} {K : Int → Mem → Prop} {u : PV} {v : LV} (hB : CB g u v) (hwy : ∀ q : Nat, q ≤ Ln v → g 157 q = (wayT u v (Ln v) q : Int)) {p : Nat} (hp : p ≤ 7) (h : K (fwO u v p (Pw u) 0) g) : EI X (d + 2) mX7_firstWordOn [vr 156, vr 10, vr 17, vi (p : Int)] Z0 g K := by
  show AJ X (d + 2) mX7_firstWordOn 0 0 (QI Z0 K) 0 0 0 [some (vr 156), some (vr 10), some (vr 17), some (vi (p : Int)), none] [] Z0 g
  refine r_iconst (pc' := 1) dX7_firstWordOn_0 rfl ?_
  refine r_istore (pc' := 3) dX7_firstWordOn_1 rfl rfl ?_
  exact l_fwOn hB hp hwy (Pw u) 0 (by omega) h
theorem l_first {X : CX} {d : Nat} {g : Mem} {K : Int → Mem → Prop} {u : PV} {v : LV} (hB : CB g u v)  (hwy : ∀ q : Nat, q ≤ Ln v → g 157 q = (wayT u v (Ln v) q : Int)) : ∀ (k p st : Nat) (row : Int) (y : Option VV), st + k = 7 → p ≤ Ln v → 0 ≤ row → row < 10 ^ st → K (frF u v k p row) g → AJ X (d + 3) mX7_firstReading 0 0 (QI Z0 K) 0 0 25 [some (vr 156), some (vr 10), some (vr 17), some (vi row), some (vi (p : Int)), some (vi (st : Int)), y] [] Z0 g := by
  obtain ⟨hQ, hU, hC, hW⟩ := id hB
  obtain ⟨hc, ho, hf, hw, ht, hi, hy⟩ := id hC
  obtain ⟨w0, w1, w2, w3, w4, w5, w6, w7⟩ := id hW
  obtain ⟨p6, p7, p8, p9, p10, pk, pg, px, py⟩ := id hQ
  obtain ⟨u0, u1, u2, u3, u4, u5, u6, u7⟩ := id hU
  intro k
  induction k with
  | zero =>
    intro p st row y hs hp hr0 hr h
    refine r_iload (pc' := 27) dX7_firstReading_25 rfl rfl ?_
    refine r_bipush (pc' := 29) dX7_firstReading_27 rfl (by decide) ?_
    refine r_icmp_ge (tgt := 87) (pc' := 32) dX7_firstReading_29 rfl rfl (by omega) (by omega) (fun c29 => ?_) (fun c29 => ?_)
    · refine r_iload_n (pc' := 88) dX7_firstReading_87 rfl rfl ?_
      refine r_reti dX7_firstReading_88 rfl (Or.inl rfl) ?_
      exact h
    · exact absurd c29 (by omega)
  | succ k ih =>
    intro p st row y hs hp hr0 hr h
    obtain ⟨b1, b2, b3⟩ := fwO_b (u := u) (v := v) (p := p) (Pw u) 0
    unfold frF at h
    refine r_iload (pc' := 27) dX7_firstReading_25 rfl rfl ?_
    refine r_bipush (pc' := 29) dX7_firstReading_27 rfl (by decide) ?_
    refine r_icmp_ge (tgt := 87) (pc' := 32) dX7_firstReading_29 rfl rfl (by omega) (by omega) (fun c29 => ?_) (fun c29 => ?_)
    · exact absurd c29 (by omega)
    · refine r_iload (pc' := 34) dX7_firstReading_32 rfl rfl ?_
      refine r_aload_n (pc' := 35) dX7_firstReading_34 rfl rfl ?_
      refine r_getf (pc' := 38) (kI := 3) dX7_firstReading_35 rfl fX7_19 isL17.1 rfl rfl hc ?_
      refine r_icmp_ge (tgt := 87) (pc' := 41) dX7_firstReading_38 rfl rfl (by omega) (by omega) (fun c38 => ?_) (fun c38 => ?_)
      · refine r_iload_n (pc' := 88) dX7_firstReading_87 rfl rfl ?_
        refine r_reti dX7_firstReading_88 rfl (Or.inl rfl) ?_
        rw [if_neg (by omega)] at h
        exact h
      · refine r_aload_n (pc' := 42) dX7_firstReading_41 rfl rfl ?_
        refine r_aload_n (pc' := 43) dX7_firstReading_42 rfl rfl ?_
        refine r_aload_n (pc' := 44) dX7_firstReading_43 rfl rfl ?_
        refine r_iload (pc' := 46) dX7_firstReading_44 rfl rfl ?_
        refine r_vi3 (pc' := 49) dX7_firstReading_46 rfl qX7_firstWordOn lX7_25 z156 rfl rfl rfl rfl (Nat.zero_le _) (Nat.zero_le _) (a_fwOn hB hwy (by omega) ?_)
        refine r_istore (pc' := 51) dX7_firstReading_49 rfl rfl ?_
        refine r_iload (pc' := 53) dX7_firstReading_51 rfl rfl ?_
        refine r_iconst (pc' := 54) dX7_firstReading_53 rfl ?_
        refine r_icmp_ne (tgt := 59) (pc' := 57) dX7_firstReading_54 rfl rfl (by omega) (by omega) (fun c54 => ?_) (fun c54 => ?_)
        · obtain ⟨b4, b5, hbg⟩ := b3 c54
          have q1 := (px (fwO u v p (Pw u) 0).toNat (by omega)).1
          rw [show (((fwO u v p (Pw u) 0).toNat : Nat) : Int) = fwO u v p (Pw u) 0 by omega] at q1
          rw [if_pos (by omega), if_neg c54] at h
          refine r_iload_n (pc' := 60) dX7_firstReading_59 rfl rfl ?_
          refine r_bipush (pc' := 62) dX7_firstReading_60 rfl (by decide) ?_
          refine r_imul (pc' := 63) dX7_firstReading_62 rfl ?_
          refine r_iload (pc' := 65) dX7_firstReading_63 rfl rfl ?_
          refine r_iadd (pc' := 66) dX7_firstReading_65 rfl ?_
          refine r_iconst (pc' := 67) dX7_firstReading_66 rfl ?_
          refine r_iadd (pc' := 68) dX7_firstReading_67 rfl ?_
          refine r_istore_n (pc' := 69) dX7_firstReading_68 rfl rfl ?_
          refine r_iload (pc' := 71) dX7_firstReading_69 rfl rfl ?_
          refine r_aload_n (pc' := 72) dX7_firstReading_71 rfl rfl ?_
          refine r_getr (pc' := 75) dX7_firstReading_72 rfl fX7_29 isP10.1 rfl ?_
          refine r_iload (pc' := 77) dX7_firstReading_75 rfl rfl ?_
          refine r_iaload (pc' := 78) dX7_firstReading_77 rfl isP10.2.2.2.2.1 (by decide) (by omega) (by omega) q1 ?_
          refine r_iadd (pc' := 79) dX7_firstReading_78 rfl ?_
          refine r_istore (pc' := 81) dX7_firstReading_79 rfl rfl ?_
          refine r_iinc (pc' := 84) dX7_firstReading_81 rfl rfl rfl ?_
          refine r_goto (tgt := 25) dX7_firstReading_84 rfl ?_
          refine ih (p + Pl u (fwO u v p (Pw u) 0).toNat) (st + 1) _ _ (by omega) (begB_le hbg) (by omega) (by rw [Int.pow_succ]; omega) ?_
          exact h
        · refine r_iconst (pc' := 58) dX7_firstReading_57 rfl ?_
          refine r_reti dX7_firstReading_58 rfl (Or.inl rfl) ?_
          rw [if_pos (by omega), if_pos c54] at h
          exact h
def firstN (u : PV) (v : LV) : Int := if readN u v = 0 then -1 else frF u v 7 0 0
theorem a_first {X : CX} {d : Nat} {g : Mem} {K : Int → Mem → Prop} {u : PV} {v : LV} (hB : CB g u v) (h : ∀ g' : Mem, Fr [157] g g' → K (firstN u v) g') : EI X (d + 3) mX7_firstReading [vr 156, vr 10, vr 17] Z0 g K := by
  show AJ X (d + 3) mX7_firstReading 0 0 (QI Z0 K) 0 0 0 [some (vr 156), some (vr 10), some (vr 17), none, none, none, none] [] Z0 g
  obtain ⟨hQ, hU, hC, hW⟩ := id hB
  obtain ⟨hc, ho, hf, hw, ht, hi, hy⟩ := id hC
  obtain ⟨w0, w1, w2, w3, w4, w5, w6, w7⟩ := id hW
  obtain ⟨p6, p7, p8, p9, p10, pk, pg, px, py⟩ := id hQ
  obtain ⟨u0, u1, u2, u3, u4, u5, u6, u7⟩ := id hU
  have wb := wayT_le hU v (Ln v) 0
  have wb2 : 6 ^ Ln v ≤ 6 ^ 7 := Nat.pow_le_pow_right (by decide) w1
  refine r_aload_n (pc' := 1) dX7_firstReading_0 rfl rfl ?_
  refine r_aload_n (pc' := 2) dX7_firstReading_1 rfl rfl ?_
  refine r_aload_n (pc' := 3) dX7_firstReading_2 rfl rfl ?_
  refine r_vv2 (pc' := 6) dX7_firstReading_3 rfl qX7_countWays lX7_15 z156 rfl rfl rfl rfl (Nat.zero_le _) (Nat.zero_le _) (a_ways hB (fun g1 h1 f1 => ?_))
  have h9 := h g1 f1
  unfold firstN readN at h9
  refine r_aload_n (pc' := 7) dX7_firstReading_6 rfl rfl ?_
  refine r_getr (pc' := 10) dX7_firstReading_7 rfl fX7_9 z156 rfl ?_
  refine r_iconst (pc' := 11) dX7_firstReading_10 rfl ?_
  refine r_iaload (pc' := 12) dX7_firstReading_11 rfl z157 (by decide) (by omega) (by omega) (h1 0 (by omega)) ?_
  refine r_if_ne (tgt := 17) (pc' := 15) dX7_firstReading_12 rfl rfl (by omega) (fun c12 => ?_) (fun c12 => ?_)
  · refine r_iconst (pc' := 18) dX7_firstReading_17 rfl ?_
    refine r_istore_n (pc' := 19) dX7_firstReading_18 rfl rfl ?_
    refine r_iconst (pc' := 20) dX7_firstReading_19 rfl ?_
    refine r_istore (pc' := 22) dX7_firstReading_20 rfl rfl ?_
    refine r_iconst (pc' := 23) dX7_firstReading_22 rfl ?_
    refine r_istore (pc' := 25) dX7_firstReading_23 rfl rfl ?_
    rw [if_neg (by omega)] at h9
    exact l_first (hB.fr [157] f1 (by decide)) h1 7 0 0 0 none (by omega) (by omega) (by omega) (by decide) h9
  · refine r_iconst (pc' := 16) dX7_firstReading_15 rfl ?_
    refine r_reti dX7_firstReading_16 rfl (Or.inl rfl) ?_
    rw [if_pos (by omega)] at h9
    exact h9
/-- how much more the one who begins has of s flags from p on -/
def ldF (h : Nat → Int) : Nat → Nat → Int
  | 0, _ => 0
  | s + 1, p => max (h p - ldF h s (p + 1)) (h (p + s) - ldF h s p)
theorem ldF_b {h : Nat → Int} {n : Nat} (hh : ∀ p, p < n → 1 ≤ h p ∧ h p ≤ 9) : ∀ (s p : Nat), p + s ≤ n → -9 * (s : Int) ≤ ldF h s p ∧ ldF h s p ≤ 9 * (s : Int)
  | 0, p, _ => by unfold ldF; omega
  | s + 1, p, hp => by
    unfold ldF
    have h1 := ldF_b hh s (p + 1) (by omega)
    have h2 := ldF_b hh s p (by omega)
    have h3 := hh p (by omega)
    have h4 := hh (p + s) (by omega)
    omega
def hv (u : PV) (v : LV) (p : Nat) : Int := Ph u (Lo v p)
theorem l_leadI {X : CX} {d : Nat} {K : Mem → Prop} {u : PV} {v : LV} {s : Nat} (hs : s + 1 < Ln v) : ∀ (k p : Nat) (g : Mem) (x y : Option VV), CB g u v → p + k = Ln v - s → (∀ q : Nat, q < p → g 159 q = ldF (hv u v) (s + 1) q) → (∀ q : Nat, p ≤ q → q + s ≤ Ln v → g 159 q = ldF (hv u v) s q) → (∀ (g' : Mem) x y, (∀ q : Nat, q + (s + 1) ≤ Ln v → g' 159 q = ldF (hv u v) (s + 1) q) → Fr [159] g g' → AJ X (d + 1) mX8_fillLeads 0 0 (QV Z0 K) 0 0 102 [some (vr 158), some (vr 10), some (vr 17), some (vi ((s + 1 : Nat) : Int)), some (vi ((Ln v - s : Nat) : Int)), x, y] [] Z0 g') → AJ X (d + 1) mX8_fillLeads 0 0 (QV Z0 K) 0 0 21 [some (vr 158), some (vr 10), some (vr 17), some (vi ((s + 1 : Nat) : Int)), some (vi (p : Int)), x, y] [] Z0 g := by
  intro k
  induction k with
  | zero =>
    intro p g x y hB hk h1 h2 h
    obtain ⟨hQ, hU, hC, hW⟩ := id hB
    obtain ⟨hc, ho, hf, hw, ht, hi, hy⟩ := id hC
    obtain ⟨w0, w1, w2, w3, w4, w5, w6, w7⟩ := id hW
    obtain ⟨p6, p7, p8, p9, p10, pk, pg, px, py⟩ := id hQ
    obtain ⟨u0, u1, u2, u3, u4, u5, u6, u7⟩ := id hU
    have e : ((Ln v - s : Nat) : Int) = (p : Int) := by omega
    have h9 := h g x y (fun q hq => h1 q (by omega)) (Fr.rf _ _)
    refine r_iload (pc' := 23) dX8_fillLeads_21 rfl rfl ?_
    refine r_iload_n (pc' := 24) dX8_fillLeads_23 rfl rfl ?_
    refine r_iadd (pc' := 25) dX8_fillLeads_24 rfl ?_
    refine r_aload_n (pc' := 26) dX8_fillLeads_25 rfl rfl ?_
    refine r_getf (pc' := 29) (kI := 3) dX8_fillLeads_26 rfl fX8_15 isL17.1 rfl rfl hc ?_
    refine r_icmp_gt (tgt := 102) (pc' := 32) dX8_fillLeads_29 rfl rfl (by omega) (by omega) (fun c29 => ?_) (fun c29 => ?_)
    · rw [e] at h9
      exact h9
    · exact absurd c29 (by omega)
  | succ k ih =>
    intro p g x y hB hk h1 h2 h
    obtain ⟨hQ, hU, hC, hW⟩ := id hB
    obtain ⟨hc, ho, hf, hw, ht, hi, hy⟩ := id hC
    obtain ⟨w0, w1, w2, w3, w4, w5, w6, w7⟩ := id hW
    obtain ⟨p6, p7, p8, p9, p10, pk, pg, px, py⟩ := id hQ
    obtain ⟨u0, u1, u2, u3, u4, u5, u6, u7⟩ := id hU
    have hvb : ∀ p, p < Ln v → 1 ≤ hv u v p ∧ hv u v p ≤ 9 := fun p hp => by have := u5 _ (w2 p hp); unfold hv; omega
    have hvg : ∀ p : Nat, p < Ln v → g 12 (g 18 p) = hv u v p := fun p hp => by rw [ho p hp]; exact pg _ (w2 p hp)
    have b1 := ldF_b hvb s (p + 1) (by omega)
    have b2 := ldF_b hvb s p (by omega)
    have b3 := hvb p (by omega)
    have b4 := hvb (p + s) (by omega)
    have r1 := hvg p (by omega)
    have r2 := hvg (p + s) (by omega)
    have r3 := ho p (by omega)
    have r4 := ho (p + s) (by omega)
    have r5 := w2 p (by omega)
    have r6 := w2 (p + s) (by omega)
    rw [r3] at r1
    rw [r4] at r2
    refine r_iload (pc' := 23) dX8_fillLeads_21 rfl rfl ?_
    refine r_iload_n (pc' := 24) dX8_fillLeads_23 rfl rfl ?_
    refine r_iadd (pc' := 25) dX8_fillLeads_24 rfl ?_
    refine r_aload_n (pc' := 26) dX8_fillLeads_25 rfl rfl ?_
    refine r_getf (pc' := 29) (kI := 3) dX8_fillLeads_26 rfl fX8_15 isL17.1 rfl rfl hc ?_
    refine r_icmp_gt (tgt := 102) (pc' := 32) dX8_fillLeads_29 rfl rfl (by omega) (by omega) (fun c29 => ?_) (fun c29 => ?_)
    · exact absurd c29 (by omega)
    · refine r_aload_n (pc' := 33) dX8_fillLeads_32 rfl rfl ?_
      refine r_getr (pc' := 36) dX8_fillLeads_33 rfl fX8_38 isP10.1 rfl ?_
      refine r_aload_n (pc' := 37) dX8_fillLeads_36 rfl rfl ?_
      refine r_getr (pc' := 40) dX8_fillLeads_37 rfl fX8_43 isL17.1 rfl ?_
      refine r_iload (pc' := 42) dX8_fillLeads_40 rfl rfl ?_
      refine r_iaload (pc' := 43) dX8_fillLeads_42 rfl isL17.2.1 (by decide) (by omega) (by omega) r3 ?_
      refine r_iaload (pc' := 44) dX8_fillLeads_43 rfl isP10.2.2.1 (by decide) (by omega) (by omega) r1 ?_
      refine r_aload_n (pc' := 45) dX8_fillLeads_44 rfl rfl ?_
      refine r_getr (pc' := 48) dX8_fillLeads_45 rfl fX8_9 z158 rfl ?_
      refine r_iload (pc' := 50) dX8_fillLeads_48 rfl rfl ?_
      refine r_iconst (pc' := 51) dX8_fillLeads_50 rfl ?_
      refine r_iadd (pc' := 52) dX8_fillLeads_51 rfl ?_
      refine r_iaload (pc' := 53) (x := (ldF (hv u v) s (p + 1))) dX8_fillLeads_52 rfl z159 (by decide) (by omega) (by omega) (h2 (p + 1) (by omega) (by omega)) ?_
      refine r_isub (pc' := 54) dX8_fillLeads_53 rfl ?_
      refine r_istore (pc' := 56) dX8_fillLeads_54 rfl rfl ?_
      refine r_aload_n (pc' := 57) dX8_fillLeads_56 rfl rfl ?_
      refine r_getr (pc' := 60) dX8_fillLeads_57 rfl fX8_38 isP10.1 rfl ?_
      refine r_aload_n (pc' := 61) dX8_fillLeads_60 rfl rfl ?_
      refine r_getr (pc' := 64) dX8_fillLeads_61 rfl fX8_43 isL17.1 rfl ?_
      refine r_iload (pc' := 66) dX8_fillLeads_64 rfl rfl ?_
      refine r_iload_n (pc' := 67) dX8_fillLeads_66 rfl rfl ?_
      refine r_iadd (pc' := 68) dX8_fillLeads_67 rfl ?_
      refine r_iconst (pc' := 69) dX8_fillLeads_68 rfl ?_
      refine r_isub (pc' := 70) dX8_fillLeads_69 rfl ?_
      rw [show (p : Int) + ((s + 1 : Nat) : Int) - 1 = ((p + s : Nat) : Int) by omega]
      refine r_iaload (pc' := 71) dX8_fillLeads_70 rfl isL17.2.1 (by decide) (by omega) (by omega) r4 ?_
      refine r_iaload (pc' := 72) dX8_fillLeads_71 rfl isP10.2.2.1 (by decide) (by omega) (by omega) r2 ?_
      refine r_aload_n (pc' := 73) dX8_fillLeads_72 rfl rfl ?_
      refine r_getr (pc' := 76) dX8_fillLeads_73 rfl fX8_9 z158 rfl ?_
      refine r_iload (pc' := 78) dX8_fillLeads_76 rfl rfl ?_
      refine r_iaload (pc' := 79) dX8_fillLeads_78 rfl z159 (by decide) (by omega) (by omega) (h2 p (by omega) (by omega)) ?_
      refine r_isub (pc' := 80) dX8_fillLeads_79 rfl ?_
      refine r_istore (pc' := 82) dX8_fillLeads_80 rfl rfl ?_
      refine r_aload_n (pc' := 83) dX8_fillLeads_82 rfl rfl ?_
      refine r_getr (pc' := 86) dX8_fillLeads_83 rfl fX8_9 z158 rfl ?_
      refine r_iload (pc' := 88) dX8_fillLeads_86 rfl rfl ?_
      refine r_iload (pc' := 90) dX8_fillLeads_88 rfl rfl ?_
      refine r_iload (pc' := 92) dX8_fillLeads_90 rfl rfl ?_
      refine r_si2 (pc' := 95) dX8_fillLeads_92 rfl qJ9_max lX8_32 rfl rfl rfl (Nat.zero_le _) (Nat.zero_le _) (a_max _ _ (by omega) (by omega) ?_)
      refine r_iastore (pc' := 96) dX8_fillLeads_95 rfl z159 (by decide) (by omega) (by omega) rfl ?_
      refine r_iinc (pc' := 99) dX8_fillLeads_96 rfl rfl rfl ?_
      refine r_goto (tgt := 21) dX8_fillLeads_99 rfl ?_
      refine ih (p + 1) _ _ _ (hB.fr [159] (fun j hj => mu_ne (by simpa using hj)) (by decide)) (by omega) (fun q hq => ?_) (fun q hq hq2 => by rw [mu_at' (by omega)]; exact h2 q (by omega) hq2) (fun g' x y a1 a2 => h g' x y a1 (Fr.tr (fun j hj => mu_ne (by simpa using hj)) a2))
      by_cases hqp : q = p
      · subst hqp
        rw [mu_at]
        rfl
      · rw [mu_at' (by omega)]
        exact h1 q (by omega)
theorem l_leadO {X : CX} {d : Nat} {K : Mem → Prop} {u : PV} {v : LV} : ∀ (k s : Nat) (g : Mem) (w x y : Option VV), CB g u v → Ln v - (s + 1) = k → s < 7 → (∀ q : Nat, q + s ≤ Ln v → g 159 q = ldF (hv u v) s q) → (∀ (g' : Mem) , (∀ q : Nat, q + (Ln v - 1) ≤ Ln v → 1 ≤ Ln v → g' 159 q = ldF (hv u v) (Ln v - 1) q) → Fr [159] g g' → K g') → s + 1 ≤ max 1 (Ln v) → AJ X (d + 1) mX8_fillLeads 0 0 (QV Z0 K) 0 0 10 [some (vr 158), some (vr 10), some (vr 17), some (vi ((s + 1 : Nat) : Int)), w, x, y] [] Z0 g := by
  intro k
  induction k with
  | zero =>
    intro s g w x y hB hk h7 h1 h hs1
    obtain ⟨hQ, hU, hC, hW⟩ := id hB
    obtain ⟨hc, ho, hf, hw, ht, hi, hy⟩ := id hC
    obtain ⟨w0, w1, w2, w3, w4, w5, w6, w7⟩ := id hW
    obtain ⟨p6, p7, p8, p9, p10, pk, pg, px, py⟩ := id hQ
    obtain ⟨u0, u1, u2, u3, u4, u5, u6, u7⟩ := id hU
    refine r_iload_n (pc' := 11) dX8_fillLeads_10 rfl rfl ?_
    refine r_aload_n (pc' := 12) dX8_fillLeads_11 rfl rfl ?_
    refine r_getf (pc' := 15) (kI := 3) dX8_fillLeads_12 rfl fX8_15 isL17.1 rfl rfl hc ?_
    refine r_icmp_ge (tgt := 108) (pc' := 18) dX8_fillLeads_15 rfl rfl (by omega) (by omega) (fun c15 => ?_) (fun c15 => ?_)
    · refine r_retn dX8_fillLeads_108 rfl ?_
      refine h g (fun q hq h0 => ?_) (Fr.rf _ _)
      rw [show Ln v - 1 = s by omega] at hq ⊢
      exact h1 q hq
    · exact absurd c15 (by omega)
  | succ k ih =>
    intro s g w x y hB hk h7 h1 h hs1
    obtain ⟨hQ, hU, hC, hW⟩ := id hB
    obtain ⟨hc, ho, hf, hw, ht, hi, hy⟩ := id hC
    obtain ⟨w0, w1, w2, w3, w4, w5, w6, w7⟩ := id hW
    obtain ⟨p6, p7, p8, p9, p10, pk, pg, px, py⟩ := id hQ
    obtain ⟨u0, u1, u2, u3, u4, u5, u6, u7⟩ := id hU
    refine r_iload_n (pc' := 11) dX8_fillLeads_10 rfl rfl ?_
    refine r_aload_n (pc' := 12) dX8_fillLeads_11 rfl rfl ?_
    refine r_getf (pc' := 15) (kI := 3) dX8_fillLeads_12 rfl fX8_15 isL17.1 rfl rfl hc ?_
    refine r_icmp_ge (tgt := 108) (pc' := 18) dX8_fillLeads_15 rfl rfl (by omega) (by omega) (fun c15 => ?_) (fun c15 => ?_)
    · exact absurd c15 (by omega)
    · refine r_iconst (pc' := 19) dX8_fillLeads_18 rfl ?_
      refine r_istore (pc' := 21) dX8_fillLeads_19 rfl rfl ?_
      refine l_leadI (s := s) (by omega) (Ln v - s) 0 g _ _ hB (by omega) (fun q hq => absurd hq (by omega)) (fun q _ hq => h1 q hq) (fun g1 x y a1 a2 => ?_)
      refine r_iinc (pc' := 105) dX8_fillLeads_102 rfl rfl rfl ?_
      refine r_goto (tgt := 10) dX8_fillLeads_105 rfl ?_
      exact ih (s + 1) g1 _ _ _ (hB.fr [159] a2 (by decide)) (by omega) (by omega) a1 (fun g' b1 b2 => h g' b1 (Fr.tr a2 b2)) (by omega)
theorem a_leads {X : CX} {d : Nat} {g : Mem} {K : Mem → Prop} {u : PV} {v : LV} (hB : CB g u v) (h : ∀ g' : Mem, (∀ q : Nat, q + (Ln v - 1) ≤ Ln v → 1 ≤ Ln v → g' 159 q = ldF (hv u v) (Ln v - 1) q) → Fr [159] g g' → K g') : EV X (d + 1) mX8_fillLeads [vr 158, vr 10, vr 17] Z0 g K := by
  show AJ X (d + 1) mX8_fillLeads 0 0 (QV Z0 K) 0 0 0 [some (vr 158), some (vr 10), some (vr 17), none, none, none, none] [] Z0 g
  refine r_aload_n (pc' := 1) dX8_fillLeads_0 rfl rfl ?_
  refine r_getr (pc' := 4) dX8_fillLeads_1 rfl fX8_9 z158 rfl ?_
  refine r_iconst (pc' := 5) dX8_fillLeads_4 rfl ?_
  refine r_sv2 (pc' := 8) dX8_fillLeads_5 rfl qJ7_fill lX8_46 rfl rfl rfl (Nat.zero_le _) (Nat.zero_le _) (a_fill z159 (by decide) 0 ?_)
  refine r_iconst (pc' := 9) dX8_fillLeads_8 rfl ?_
  refine r_istore_n (pc' := 10) dX8_fillLeads_9 rfl rfl ?_
  have hf9 : Fr [159] g (filF g 159 0 8 0) := fun j hj => fil_ne (by simpa using hj)
  have w1 := hB.2.2.2.2.1
  refine l_leadO (Ln v - 1) 0 _ none none none (hB.fr [159] hf9 (by decide)) rfl (by decide) (fun q hq => ?_) (fun g' b1 b2 => h g' b1 (Fr.tr hf9 b2)) (by omega)
  show filF g 159 0 8 0 159 q = 0
  unfold filF
  rw [if_pos ⟨rfl, by omega, by omega⟩]
theorem a_byFront {X : CX} {d : Nat} {g : Mem} {K : Int → Mem → Prop} {u : PV} {v : LV} (hB : CB g u v) (h0 : 1 ≤ Ln v) (hl : ∀ q : Nat, q + (Ln v - 1) ≤ Ln v → 1 ≤ Ln v → g 159 q = ldF (hv u v) (Ln v - 1) q) (h : K (hv u v 0 - ldF (hv u v) (Ln v - 1) 1) g) : EI X (d) mX8_byFront [vr 158, vr 10, vr 17] Z0 g K := by
  show AJ X (d) mX8_byFront 0 0 (QI Z0 K) 0 0 0 [some (vr 158), some (vr 10), some (vr 17)] [] Z0 g
  obtain ⟨hQ, hU, hC, hW⟩ := id hB
  obtain ⟨hc, ho, hf, hw, ht, hi, hy⟩ := id hC
  obtain ⟨w0, w1, w2, w3, w4, w5, w6, w7⟩ := id hW
  obtain ⟨p6, p7, p8, p9, p10, pk, pg, px, py⟩ := id hQ
  obtain ⟨u0, u1, u2, u3, u4, u5, u6, u7⟩ := id hU
  have r3 := ho 0 (by omega)
  have r5 := w2 0 (by omega)
  refine r_aload_n (pc' := 1) dX8_byFront_0 rfl rfl ?_
  refine r_getr (pc' := 4) dX8_byFront_1 rfl fX8_38 isP10.1 rfl ?_
  refine r_aload_n (pc' := 5) dX8_byFront_4 rfl rfl ?_
  refine r_getr (pc' := 8) dX8_byFront_5 rfl fX8_43 isL17.1 rfl ?_
  refine r_iconst (pc' := 9) dX8_byFront_8 rfl ?_
  refine r_iaload (pc' := 10) dX8_byFront_9 rfl isL17.2.1 (by decide) (by omega) (by omega) r3 ?_
  refine r_iaload (pc' := 11) dX8_byFront_10 rfl isP10.2.2.1 (by decide) (by omega) (by omega) (pg _ r5) ?_
  refine r_aload_n (pc' := 12) dX8_byFront_11 rfl rfl ?_
  refine r_getr (pc' := 15) dX8_byFront_12 rfl fX8_9 z158 rfl ?_
  refine r_iconst (pc' := 16) dX8_byFront_15 rfl ?_
  refine r_iaload (pc' := 17) (x := (ldF (hv u v) (Ln v - 1) 1)) dX8_byFront_16 rfl z159 (by decide) (by omega) (by omega) (hl 1 (by omega) h0) ?_
  refine r_isub (pc' := 18) dX8_byFront_17 rfl ?_
  refine r_reti dX8_byFront_18 rfl (Or.inl rfl) ?_
  exact h
theorem a_byBack {X : CX} {d : Nat} {g : Mem} {K : Int → Mem → Prop} {u : PV} {v : LV} (hB : CB g u v) (h0 : 1 ≤ Ln v) (hl : ∀ q : Nat, q + (Ln v - 1) ≤ Ln v → 1 ≤ Ln v → g 159 q = ldF (hv u v) (Ln v - 1) q) (h : K (hv u v (Ln v - 1) - ldF (hv u v) (Ln v - 1) 0) g) : EI X (d) mX8_byBack [vr 158, vr 10, vr 17] Z0 g K := by
  show AJ X (d) mX8_byBack 0 0 (QI Z0 K) 0 0 0 [some (vr 158), some (vr 10), some (vr 17)] [] Z0 g
  obtain ⟨hQ, hU, hC, hW⟩ := id hB
  obtain ⟨hc, ho, hf, hw, ht, hi, hy⟩ := id hC
  obtain ⟨w0, w1, w2, w3, w4, w5, w6, w7⟩ := id hW
  obtain ⟨p6, p7, p8, p9, p10, pk, pg, px, py⟩ := id hQ
  obtain ⟨u0, u1, u2, u3, u4, u5, u6, u7⟩ := id hU
  have r3 := ho (Ln v - 1) (by omega)
  have r5 := w2 (Ln v - 1) (by omega)
  refine r_aload_n (pc' := 1) dX8_byBack_0 rfl rfl ?_
  refine r_getr (pc' := 4) dX8_byBack_1 rfl fX8_38 isP10.1 rfl ?_
  refine r_aload_n (pc' := 5) dX8_byBack_4 rfl rfl ?_
  refine r_getr (pc' := 8) dX8_byBack_5 rfl fX8_43 isL17.1 rfl ?_
  refine r_aload_n (pc' := 9) dX8_byBack_8 rfl rfl ?_
  refine r_getf (pc' := 12) (kI := 3) dX8_byBack_9 rfl fX8_15 isL17.1 rfl rfl hc ?_
  refine r_iconst (pc' := 13) dX8_byBack_12 rfl ?_
  refine r_isub (pc' := 14) dX8_byBack_13 rfl ?_
  rw [show (Ln v : Int) - 1 = ((Ln v - 1 : Nat) : Int) by omega]
  refine r_iaload (pc' := 15) dX8_byBack_14 rfl isL17.2.1 (by decide) (by omega) (by omega) r3 ?_
  refine r_iaload (pc' := 16) dX8_byBack_15 rfl isP10.2.2.1 (by decide) (by omega) (by omega) (pg _ r5) ?_
  refine r_aload_n (pc' := 17) dX8_byBack_16 rfl rfl ?_
  refine r_getr (pc' := 20) dX8_byBack_17 rfl fX8_9 z158 rfl ?_
  refine r_iconst (pc' := 21) dX8_byBack_20 rfl ?_
  refine r_iaload (pc' := 22) (x := (ldF (hv u v) (Ln v - 1) 0)) dX8_byBack_21 rfl z159 (by decide) (by omega) (by omega) (hl 0 (by omega) h0) ?_
  refine r_isub (pc' := 23) dX8_byBack_22 rfl ?_
  refine r_reti dX8_byBack_23 rfl (Or.inl rfl) ?_
  exact h
theorem a_more {X : CX} {d : Nat} {g : Mem} {K : Int → Mem → Prop} {u : PV} {v : LV} (hB : CB g u v) (h : ∀ g' : Mem, Fr [159] g g' → K (ldF (hv u v) (Ln v) 0) g') : EI X (d + 2) mX8_more [vr 158, vr 10, vr 17] Z0 g K := by
  show AJ X (d + 2) mX8_more 0 0 (QI Z0 K) 0 0 0 [some (vr 158), some (vr 10), some (vr 17)] [] Z0 g
  obtain ⟨hQ, hU, hC, hW⟩ := id hB
  obtain ⟨hc, ho, hf, hw, ht, hi, hy⟩ := id hC
  obtain ⟨w0, w1, w2, w3, w4, w5, w6, w7⟩ := id hW
  obtain ⟨p6, p7, p8, p9, p10, pk, pg, px, py⟩ := id hQ
  obtain ⟨u0, u1, u2, u3, u4, u5, u6, u7⟩ := id hU
  have hvb : ∀ p, p < Ln v → 1 ≤ hv u v p ∧ hv u v p ≤ 9 := fun p hp => by have := u5 _ (w2 p hp); unfold hv; omega
  refine r_aload_n (pc' := 1) dX8_more_0 rfl rfl ?_
  refine r_getf (pc' := 4) (kI := 3) dX8_more_1 rfl fX8_15 isL17.1 rfl rfl hc ?_
  refine r_if_ne (tgt := 9) (pc' := 7) dX8_more_4 rfl rfl (by omega) (fun c4 => ?_) (fun c4 => ?_)
  · refine r_aload_n (pc' := 10) dX8_more_9 rfl rfl ?_
    refine r_aload_n (pc' := 11) dX8_more_10 rfl rfl ?_
    refine r_aload_n (pc' := 12) dX8_more_11 rfl rfl ?_
    refine r_vv2 (pc' := 15) dX8_more_12 rfl qX8_fillLeads lX8_21 z158 rfl rfl rfl rfl (Nat.zero_le _) (Nat.zero_le _) (a_leads hB (fun g1 h1 f1 => ?_))
    have hB1 := hB.fr [159] f1 (by decide)
    have n0 : 1 ≤ Ln v := by omega
    have b1 := ldF_b hvb (Ln v - 1) 0 (by omega)
    have b2 := ldF_b hvb (Ln v - 1) 1 (by omega)
    have b3 := hvb 0 (by omega)
    have b4 := hvb (Ln v - 1) (by omega)
    refine r_aload_n (pc' := 16) dX8_more_15 rfl rfl ?_
    refine r_aload_n (pc' := 17) dX8_more_16 rfl rfl ?_
    refine r_aload_n (pc' := 18) dX8_more_17 rfl rfl ?_
    refine r_vi2 (pc' := 21) dX8_more_18 rfl qX8_byFront lX8_25 z158 rfl rfl rfl rfl (Nat.zero_le _) (Nat.zero_le _) (a_byFront hB1 n0 h1 ?_)
    refine r_aload_n (pc' := 22) dX8_more_21 rfl rfl ?_
    refine r_aload_n (pc' := 23) dX8_more_22 rfl rfl ?_
    refine r_aload_n (pc' := 24) dX8_more_23 rfl rfl ?_
    refine r_vi2 (pc' := 27) dX8_more_24 rfl qX8_byBack lX8_29 z158 rfl rfl rfl rfl (Nat.zero_le _) (Nat.zero_le _) (a_byBack hB1 n0 h1 ?_)
    refine r_si2 (pc' := 30) dX8_more_27 rfl qJ9_max lX8_32 rfl rfl rfl (Nat.zero_le _) (Nat.zero_le _) (a_max _ _ (by omega) (by omega) ?_)
    refine r_reti dX8_more_30 rfl (Or.inl rfl) ?_
    have h9 := h g1 f1
    have e : ldF (hv u v) (Ln v) 0 = max (hv u v 0 - ldF (hv u v) (Ln v - 1) 1) (hv u v (Ln v - 1) - ldF (hv u v) (Ln v - 1) 0) := by
      obtain ⟨m, hm⟩ : ∃ m, Ln v = m + 1 := ⟨Ln v - 1, by omega⟩
      rw [hm, show m + 1 - 1 = m by omega, ldF, Nat.zero_add, Nat.zero_add]
    rw [e] at h9
    exact h9
  · refine r_iconst (pc' := 8) dX8_more_7 rfl ?_
    refine r_reti dX8_more_8 rfl (Or.inl rfl) ?_
    have h9 := h g (Fr.rf _ _)
    rw [show Ln v = 0 by omega] at h9
    exact h9
theorem a_firstEnd {X : CX} {d : Nat} {g : Mem} {K : Int → Mem → Prop} {u : PV} {v : LV} (hB : CB g u v) (h : ∀ g' : Mem, Fr [159] g g' → K (if Ln v = 0 then -1 else if hv u v 0 - ldF (hv u v) (Ln v - 1) 1 < hv u v (Ln v - 1) - ldF (hv u v) (Ln v - 1) 0 then 1 else 0) g') : EI X (d + 2) mX8_firstEnd [vr 158, vr 10, vr 17] Z0 g K := by
  show AJ X (d + 2) mX8_firstEnd 0 0 (QI Z0 K) 0 0 0 [some (vr 158), some (vr 10), some (vr 17)] [] Z0 g
  obtain ⟨hQ, hU, hC, hW⟩ := id hB
  obtain ⟨hc, ho, hf, hw, ht, hi, hy⟩ := id hC
  obtain ⟨w0, w1, w2, w3, w4, w5, w6, w7⟩ := id hW
  obtain ⟨p6, p7, p8, p9, p10, pk, pg, px, py⟩ := id hQ
  obtain ⟨u0, u1, u2, u3, u4, u5, u6, u7⟩ := id hU
  have hvb : ∀ p, p < Ln v → 1 ≤ hv u v p ∧ hv u v p ≤ 9 := fun p hp => by have := u5 _ (w2 p hp); unfold hv; omega
  refine r_aload_n (pc' := 1) dX8_firstEnd_0 rfl rfl ?_
  refine r_getf (pc' := 4) (kI := 3) dX8_firstEnd_1 rfl fX8_15 isL17.1 rfl rfl hc ?_
  refine r_if_ne (tgt := 9) (pc' := 7) dX8_firstEnd_4 rfl rfl (by omega) (fun c4 => ?_) (fun c4 => ?_)
  · refine r_aload_n (pc' := 10) dX8_firstEnd_9 rfl rfl ?_
    refine r_aload_n (pc' := 11) dX8_firstEnd_10 rfl rfl ?_
    refine r_aload_n (pc' := 12) dX8_firstEnd_11 rfl rfl ?_
    refine r_vv2 (pc' := 15) dX8_firstEnd_12 rfl qX8_fillLeads lX8_21 z158 rfl rfl rfl rfl (Nat.zero_le _) (Nat.zero_le _) (a_leads hB (fun g1 h1 f1 => ?_))
    have hB1 := hB.fr [159] f1 (by decide)
    have n0 : 1 ≤ Ln v := by omega
    have b1 := ldF_b hvb (Ln v - 1) 0 (by omega)
    have b2 := ldF_b hvb (Ln v - 1) 1 (by omega)
    have b3 := hvb 0 (by omega)
    have b4 := hvb (Ln v - 1) (by omega)
    refine r_aload_n (pc' := 16) dX8_firstEnd_15 rfl rfl ?_
    refine r_aload_n (pc' := 17) dX8_firstEnd_16 rfl rfl ?_
    refine r_aload_n (pc' := 18) dX8_firstEnd_17 rfl rfl ?_
    refine r_vi2 (pc' := 21) dX8_firstEnd_18 rfl qX8_byBack lX8_29 z158 rfl rfl rfl rfl (Nat.zero_le _) (Nat.zero_le _) (a_byBack hB1 n0 h1 ?_)
    refine r_aload_n (pc' := 22) dX8_firstEnd_21 rfl rfl ?_
    refine r_aload_n (pc' := 23) dX8_firstEnd_22 rfl rfl ?_
    refine r_aload_n (pc' := 24) dX8_firstEnd_23 rfl rfl ?_
    refine r_vi2 (pc' := 27) dX8_firstEnd_24 rfl qX8_byFront lX8_25 z158 rfl rfl rfl rfl (Nat.zero_le _) (Nat.zero_le _) (a_byFront hB1 n0 h1 ?_)
    refine r_icmp_le (tgt := 34) (pc' := 30) dX8_firstEnd_27 rfl rfl (by omega) (by omega) (fun c27 => ?_) (fun c27 => ?_)
    · refine r_iconst (pc' := 35) dX8_firstEnd_34 rfl ?_
      refine r_reti dX8_firstEnd_35 rfl (Or.inl rfl) ?_
      have h9 := h g1 f1
      rw [if_neg (by omega)] at h9
      first | (rw [if_pos (by omega)] at h9; exact h9) | (rw [if_neg (by omega)] at h9; exact h9)
    · refine r_iconst (pc' := 31) dX8_firstEnd_30 rfl ?_
      refine r_goto (tgt := 35) dX8_firstEnd_31 rfl ?_
      refine r_reti dX8_firstEnd_35 rfl (Or.inl rfl) ?_
      have h9 := h g1 f1
      rw [if_neg (by omega)] at h9
      first | (rw [if_pos (by omega)] at h9; exact h9) | (rw [if_neg (by omega)] at h9; exact h9)
  · refine r_iconst (pc' := 8) dX8_firstEnd_7 rfl ?_
    refine r_reti dX8_firstEnd_8 rfl (Or.inl rfl) ?_
    have h9 := h g (Fr.rf _ _)
    rw [if_pos (by omega)] at h9
    exact h9
