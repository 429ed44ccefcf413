theorem difN_z {s t : Nat} : difN s t = 0 ↔ ∀ i, s.testBit i = true → t.testBit i = true := by
  constructor
  · intro h i hs
    have := difN_bit s t i
    rw [h, Nat.zero_testBit, hs] at this
    cases ht : t.testBit i
    · rw [ht] at this; cases this
    · rfl
  · intro h
    apply Nat.eq_of_testBit_eq
    intro i
    rw [difN_bit, Nat.zero_testBit]
    cases hs : s.testBit i
    · rfl
    · rw [h i hs]; rfl
def subB (s t : Nat) : Bool := decide (difN s t = 0)
theorem l_loose {X : CX} {d : Nat} {g : Mem} {K : Int → Mem → Prop} {i a f w F : Nat} {v : LV} (hL : isL i a f w) (hC : LC g i a f w v) (hW : LW F v)  (hon : onN v < 128) : ∀ (k s best : Nat) (x : Option VV), s + k = onN v → best < 128 → K ((loF (fun s => subB s (onN v)) (fun s => rwF (Lo v) s (Ln v) 0 (-1)) k s best : Nat) : Int) g → AJ X (d + 2) mX2_looseSet 0 0 (QI Z0 K) 0 0 9 [some (vr i), some (vi (onN v : Int)), some (vi (best : Int)), some (vi (s : Int)), x] [] Z0 g := by
  obtain ⟨hc, ho, hf, hw, ht, hi, hy⟩ := id hC
  obtain ⟨w0, w1, w2, w3, w4, w5, w6, w7⟩ := id hW
  intro k
  induction k with
  | zero =>
    intro s best x hs hb h
    refine r_iload_n (pc' := 10) dX2_looseSet_9 rfl rfl ?_
    refine r_iload_n (pc' := 11) dX2_looseSet_10 rfl rfl ?_
    refine r_icmp_ge (tgt := 61) (pc' := 14) dX2_looseSet_11 rfl rfl (by omega) (by omega) (fun c11 => ?_) (fun c11 => ?_)
    · refine r_iload_n (pc' := 62) dX2_looseSet_61 rfl rfl ?_
      refine r_reti dX2_looseSet_62 rfl (Or.inl rfl) ?_
      exact h
    · exact absurd c11 (by omega)
  | succ k ih =>
    intro s best x hs hb h
    have e := dif_n (s := s) (t := onN v) (by omega)
    have e2 := difN_lt (s := s) (t := onN v) (by omega)
    have n1 := popN_le s
    have n2 := popN_le best
    unfold loF at h
    refine r_iload_n (pc' := 10) dX2_looseSet_9 rfl rfl ?_
    refine r_iload_n (pc' := 11) dX2_looseSet_10 rfl rfl ?_
    refine r_icmp_ge (tgt := 61) (pc' := 14) dX2_looseSet_11 rfl rfl (by omega) (by omega) (fun c11 => ?_) (fun c11 => ?_)
    · exact absurd c11 (by omega)
    · refine r_iload_n (pc' := 15) dX2_looseSet_14 rfl rfl ?_
      refine r_iload_n (pc' := 16) dX2_looseSet_15 rfl rfl ?_
      refine r_iconst (pc' := 17) dX2_looseSet_16 rfl ?_
      refine r_ixor (pc' := 18) dX2_looseSet_17 rfl ?_
      refine r_iand (pc' := 19) dX2_looseSet_18 rfl ?_
      rw [e]
      refine r_if_ne (tgt := 37) (pc' := 22) dX2_looseSet_19 rfl rfl (by omega) (fun c19 => ?_) (fun c19 => ?_)
      · refine r_iconst (pc' := 38) dX2_looseSet_37 rfl ?_
        refine r_istore (pc' := 40) dX2_looseSet_38 rfl rfl ?_
        refine r_iload (pc' := 42) dX2_looseSet_40 rfl rfl ?_
        refine r_if_eq (tgt := 55) (pc' := 45) dX2_looseSet_42 rfl rfl (by omega) (fun c42 => ?_) (fun c42 => ?_)
        · refine r_iinc (pc' := 58) dX2_looseSet_55 rfl rfl rfl ?_
          refine r_goto (tgt := 9) dX2_looseSet_58 rfl ?_
          first | exact absurd c42 (by decide) | (rw [if_neg (by unfold subB; rw [decide_eq_false (show ¬ difN s (onN v) = 0 by omega), Bool.false_and, Bool.false_and]; decide)] at h; exact ih (s + 1) best _ (by omega) hb h) | (rw [if_neg (by rw [decide_eq_false (show ¬ popN s < popN best by omega), Bool.and_false, Bool.false_and]; decide)] at h; exact ih (s + 1) best _ (by omega) hb h) | (rw [if_neg (by rw [b01_eq c50, Bool.and_false]; decide)] at h; exact ih (s + 1) best _ (by omega) hb h) | (rw [if_pos (by unfold subB; rw [decide_eq_true (show difN s (onN v) = 0 by omega), decide_eq_true (show popN s < popN best by omega), b01_ne c50]; rfl)] at h; exact ih (s + 1) s _ (by omega) (by omega) h)
        · refine r_aload_n (pc' := 46) dX2_looseSet_45 rfl rfl ?_
          refine r_iload_n (pc' := 47) dX2_looseSet_46 rfl rfl ?_
          refine r_vi1 (pc' := 50) dX2_looseSet_47 rfl qX2_risesWithout lX2_100 hL.1 rfl rfl rfl rfl (Nat.zero_le _) (Nat.zero_le _) (a_risesW hL hC hW (by omega) ?_)
          refine r_if_eq (tgt := 55) (pc' := 53) dX2_looseSet_50 rfl rfl (b01_R _) (fun c50 => ?_) (fun c50 => ?_)
          · refine r_iinc (pc' := 58) dX2_looseSet_55 rfl rfl rfl ?_
            refine r_goto (tgt := 9) dX2_looseSet_58 rfl ?_
            first | exact absurd c42 (by decide) | (rw [if_neg (by unfold subB; rw [decide_eq_false (show ¬ difN s (onN v) = 0 by omega), Bool.false_and, Bool.false_and]; decide)] at h; exact ih (s + 1) best _ (by omega) hb h) | (rw [if_neg (by rw [decide_eq_false (show ¬ popN s < popN best by omega), Bool.and_false, Bool.false_and]; decide)] at h; exact ih (s + 1) best _ (by omega) hb h) | (rw [if_neg (by rw [b01_eq c50, Bool.and_false]; decide)] at h; exact ih (s + 1) best _ (by omega) hb h) | (rw [if_pos (by unfold subB; rw [decide_eq_true (show difN s (onN v) = 0 by omega), decide_eq_true (show popN s < popN best by omega), b01_ne c50]; rfl)] at h; exact ih (s + 1) s _ (by omega) (by omega) h)
          · refine r_iload_n (pc' := 54) dX2_looseSet_53 rfl rfl ?_
            refine r_istore_n (pc' := 55) dX2_looseSet_54 rfl rfl ?_
            refine r_iinc (pc' := 58) dX2_looseSet_55 rfl rfl rfl ?_
            refine r_goto (tgt := 9) dX2_looseSet_58 rfl ?_
            first | exact absurd c42 (by decide) | (rw [if_neg (by unfold subB; rw [decide_eq_false (show ¬ difN s (onN v) = 0 by omega), Bool.false_and, Bool.false_and]; decide)] at h; exact ih (s + 1) best _ (by omega) hb h) | (rw [if_neg (by rw [decide_eq_false (show ¬ popN s < popN best by omega), Bool.and_false, Bool.false_and]; decide)] at h; exact ih (s + 1) best _ (by omega) hb h) | (rw [if_neg (by rw [b01_eq c50, Bool.and_false]; decide)] at h; exact ih (s + 1) best _ (by omega) hb h) | (rw [if_pos (by unfold subB; rw [decide_eq_true (show difN s (onN v) = 0 by omega), decide_eq_true (show popN s < popN best by omega), b01_ne c50]; rfl)] at h; exact ih (s + 1) s _ (by omega) (by omega) h)
      · refine r_iload_n (pc' := 23) dX2_looseSet_22 rfl rfl ?_
        refine r_si1 (pc' := 26) dX2_looseSet_23 rfl qJ6_bitCount lX2_94 rfl rfl rfl (Nat.zero_le _) (Nat.zero_le _) (a_bitCount (by omega) ?_)
        refine r_iload_n (pc' := 27) dX2_looseSet_26 rfl rfl ?_
        refine r_si1 (pc' := 30) dX2_looseSet_27 rfl qJ6_bitCount lX2_94 rfl rfl rfl (Nat.zero_le _) (Nat.zero_le _) (a_bitCount (by omega) ?_)
        refine r_icmp_ge (tgt := 37) (pc' := 33) dX2_looseSet_30 rfl rfl (by omega) (by omega) (fun c30 => ?_) (fun c30 => ?_)
        · refine r_iconst (pc' := 38) dX2_looseSet_37 rfl ?_
          refine r_istore (pc' := 40) dX2_looseSet_38 rfl rfl ?_
          refine r_iload (pc' := 42) dX2_looseSet_40 rfl rfl ?_
          refine r_if_eq (tgt := 55) (pc' := 45) dX2_looseSet_42 rfl rfl (by omega) (fun c42 => ?_) (fun c42 => ?_)
          · refine r_iinc (pc' := 58) dX2_looseSet_55 rfl rfl rfl ?_
            refine r_goto (tgt := 9) dX2_looseSet_58 rfl ?_
            first | exact absurd c42 (by decide) | (rw [if_neg (by unfold subB; rw [decide_eq_false (show ¬ difN s (onN v) = 0 by omega), Bool.false_and, Bool.false_and]; decide)] at h; exact ih (s + 1) best _ (by omega) hb h) | (rw [if_neg (by rw [decide_eq_false (show ¬ popN s < popN best by omega), Bool.and_false, Bool.false_and]; decide)] at h; exact ih (s + 1) best _ (by omega) hb h) | (rw [if_neg (by rw [b01_eq c50, Bool.and_false]; decide)] at h; exact ih (s + 1) best _ (by omega) hb h) | (rw [if_pos (by unfold subB; rw [decide_eq_true (show difN s (onN v) = 0 by omega), decide_eq_true (show popN s < popN best by omega), b01_ne c50]; rfl)] at h; exact ih (s + 1) s _ (by omega) (by omega) h)
          · refine r_aload_n (pc' := 46) dX2_looseSet_45 rfl rfl ?_
            refine r_iload_n (pc' := 47) dX2_looseSet_46 rfl rfl ?_
            refine r_vi1 (pc' := 50) dX2_looseSet_47 rfl qX2_risesWithout lX2_100 hL.1 rfl rfl rfl rfl (Nat.zero_le _) (Nat.zero_le _) (a_risesW hL hC hW (by omega) ?_)
            refine r_if_eq (tgt := 55) (pc' := 53) dX2_looseSet_50 rfl rfl (b01_R _) (fun c50 => ?_) (fun c50 => ?_)
            · refine r_iinc (pc' := 58) dX2_looseSet_55 rfl rfl rfl ?_
              refine r_goto (tgt := 9) dX2_looseSet_58 rfl ?_
              first | exact absurd c42 (by decide) | (rw [if_neg (by unfold subB; rw [decide_eq_false (show ¬ difN s (onN v) = 0 by omega), Bool.false_and, Bool.false_and]; decide)] at h; exact ih (s + 1) best _ (by omega) hb h) | (rw [if_neg (by rw [decide_eq_false (show ¬ popN s < popN best by omega), Bool.and_false, Bool.false_and]; decide)] at h; exact ih (s + 1) best _ (by omega) hb h) | (rw [if_neg (by rw [b01_eq c50, Bool.and_false]; decide)] at h; exact ih (s + 1) best _ (by omega) hb h) | (rw [if_pos (by unfold subB; rw [decide_eq_true (show difN s (onN v) = 0 by omega), decide_eq_true (show popN s < popN best by omega), b01_ne c50]; rfl)] at h; exact ih (s + 1) s _ (by omega) (by omega) h)
            · refine r_iload_n (pc' := 54) dX2_looseSet_53 rfl rfl ?_
              refine r_istore_n (pc' := 55) dX2_looseSet_54 rfl rfl ?_
              refine r_iinc (pc' := 58) dX2_looseSet_55 rfl rfl rfl ?_
              refine r_goto (tgt := 9) dX2_looseSet_58 rfl ?_
              first | exact absurd c42 (by decide) | (rw [if_neg (by unfold subB; rw [decide_eq_false (show ¬ difN s (onN v) = 0 by omega), Bool.false_and, Bool.false_and]; decide)] at h; exact ih (s + 1) best _ (by omega) hb h) | (rw [if_neg (by rw [decide_eq_false (show ¬ popN s < popN best by omega), Bool.and_false, Bool.false_and]; decide)] at h; exact ih (s + 1) best _ (by omega) hb h) | (rw [if_neg (by rw [b01_eq c50, Bool.and_false]; decide)] at h; exact ih (s + 1) best _ (by omega) hb h) | (rw [if_pos (by unfold subB; rw [decide_eq_true (show difN s (onN v) = 0 by omega), decide_eq_true (show popN s < popN best by omega), b01_ne c50]; rfl)] at h; exact ih (s + 1) s _ (by omega) (by omega) h)
        · refine r_iconst (pc' := 34) dX2_looseSet_33 rfl ?_
          refine r_goto (tgt := 38) dX2_looseSet_34 rfl ?_
          refine r_istore (pc' := 40) dX2_looseSet_38 rfl rfl ?_
          refine r_iload (pc' := 42) dX2_looseSet_40 rfl rfl ?_
          refine r_if_eq (tgt := 55) (pc' := 45) dX2_looseSet_42 rfl rfl (by omega) (fun c42 => ?_) (fun c42 => ?_)
          · refine r_iinc (pc' := 58) dX2_looseSet_55 rfl rfl rfl ?_
            refine r_goto (tgt := 9) dX2_looseSet_58 rfl ?_
            first | exact absurd c42 (by decide) | (rw [if_neg (by unfold subB; rw [decide_eq_false (show ¬ difN s (onN v) = 0 by omega), Bool.false_and, Bool.false_and]; decide)] at h; exact ih (s + 1) best _ (by omega) hb h) | (rw [if_neg (by rw [decide_eq_false (show ¬ popN s < popN best by omega), Bool.and_false, Bool.false_and]; decide)] at h; exact ih (s + 1) best _ (by omega) hb h) | (rw [if_neg (by rw [b01_eq c50, Bool.and_false]; decide)] at h; exact ih (s + 1) best _ (by omega) hb h) | (rw [if_pos (by unfold subB; rw [decide_eq_true (show difN s (onN v) = 0 by omega), decide_eq_true (show popN s < popN best by omega), b01_ne c50]; rfl)] at h; exact ih (s + 1) s _ (by omega) (by omega) h)
          · refine r_aload_n (pc' := 46) dX2_looseSet_45 rfl rfl ?_
            refine r_iload_n (pc' := 47) dX2_looseSet_46 rfl rfl ?_
            refine r_vi1 (pc' := 50) dX2_looseSet_47 rfl qX2_risesWithout lX2_100 hL.1 rfl rfl rfl rfl (Nat.zero_le _) (Nat.zero_le _) (a_risesW hL hC hW (by omega) ?_)
            refine r_if_eq (tgt := 55) (pc' := 53) dX2_looseSet_50 rfl rfl (b01_R _) (fun c50 => ?_) (fun c50 => ?_)
            · refine r_iinc (pc' := 58) dX2_looseSet_55 rfl rfl rfl ?_
              refine r_goto (tgt := 9) dX2_looseSet_58 rfl ?_
              first | exact absurd c42 (by decide) | (rw [if_neg (by unfold subB; rw [decide_eq_false (show ¬ difN s (onN v) = 0 by omega), Bool.false_and, Bool.false_and]; decide)] at h; exact ih (s + 1) best _ (by omega) hb h) | (rw [if_neg (by rw [decide_eq_false (show ¬ popN s < popN best by omega), Bool.and_false, Bool.false_and]; decide)] at h; exact ih (s + 1) best _ (by omega) hb h) | (rw [if_neg (by rw [b01_eq c50, Bool.and_false]; decide)] at h; exact ih (s + 1) best _ (by omega) hb h) | (rw [if_pos (by unfold subB; rw [decide_eq_true (show difN s (onN v) = 0 by omega), decide_eq_true (show popN s < popN best by omega), b01_ne c50]; rfl)] at h; exact ih (s + 1) s _ (by omega) (by omega) h)
            · refine r_iload_n (pc' := 54) dX2_looseSet_53 rfl rfl ?_
              refine r_istore_n (pc' := 55) dX2_looseSet_54 rfl rfl ?_
              refine r_iinc (pc' := 58) dX2_looseSet_55 rfl rfl rfl ?_
              refine r_goto (tgt := 9) dX2_looseSet_58 rfl ?_
              first | exact absurd c42 (by decide) | (rw [if_neg (by unfold subB; rw [decide_eq_false (show ¬ difN s (onN v) = 0 by omega), Bool.false_and, Bool.false_and]; decide)] at h; exact ih (s + 1) best _ (by omega) hb h) | (rw [if_neg (by rw [decide_eq_false (show ¬ popN s < popN best by omega), Bool.and_false, Bool.false_and]; decide)] at h; exact ih (s + 1) best _ (by omega) hb h) | (rw [if_neg (by rw [b01_eq c50, Bool.and_false]; decide)] at h; exact ih (s + 1) best _ (by omega) hb h) | (rw [if_pos (by unfold subB; rw [decide_eq_true (show difN s (onN v) = 0 by omega), decide_eq_true (show popN s < popN best by omega), b01_ne c50]; rfl)] at h; exact ih (s + 1) s _ (by omega) (by omega) h)
def looseN (v : LV) : Nat := loF (fun s => subB s (onN v)) (fun s => rwF (Lo v) s (Ln v) 0 (-1)) (onN v) 0 (onN v)
theorem onN_lt {F : Nat} {v : LV} (h : LW F v) : onN v < 128 := orF_lt _ _ _ (by decide) (fun q _ hq => pow7 (by have := h.2.2.1 q (by omega); have := h.1; omega))
theorem a_looseSet {X : CX} {d : Nat} {g : Mem} {K : Int → Mem → Prop} {i a f w F : Nat} {v : LV} (hL : isL i a f w) (hC : LC g i a f w v) (hW : LW F v) (h : K (looseN v) g) : EI X (d + 2) mX2_looseSet [vr i] Z0 g K := by
  show AJ X (d + 2) mX2_looseSet 0 0 (QI Z0 K) 0 0 0 [some (vr i), none, none, none, none] [] Z0 g
  refine r_aload_n (pc' := 1) dX2_looseSet_0 rfl rfl ?_
  refine r_vi0 (pc' := 4) dX2_looseSet_1 rfl qX2_onSet lX2_90 hL.1 rfl rfl rfl (Nat.zero_le _) (Nat.zero_le _) (a_onSet hL hC hW ?_)
  refine r_istore_n (pc' := 5) dX2_looseSet_4 rfl rfl ?_
  refine r_iload_n (pc' := 6) dX2_looseSet_5 rfl rfl ?_
  refine r_istore_n (pc' := 7) dX2_looseSet_6 rfl rfl ?_
  refine r_iconst (pc' := 8) dX2_looseSet_7 rfl ?_
  refine r_istore_n (pc' := 9) dX2_looseSet_8 rfl rfl ?_
  exact l_loose hL hC hW (onN_lt hW) (onN v) 0 (onN v) none (by omega) (onN_lt hW) h
theorem l_pull {X : CX} {d : Nat} {g : Mem} {K : Int → Mem → Prop} {i a f w F : Nat} {v : LV} (hL : isL i a f w) (hC : LC g i a f w v) (hW : LW F v) {j pa pb pc pe pf ph : Nat} {u : PV} (hP : isP j pa pb pc pe pf ph) (hQ : PC_ g j pa pb pc pe pf ph u) (hU : PW u) (hF : F = Pf u) {s : Int} {y : Nat} (hy7 : y ≤ 7) : ∀ (k p : Nat) (left : Int) (x : Option VV), min (Ln v) y - p = k → p ≤ min (Ln v) y → -500 + 18 * k ≤ left → left ≤ 99 → K (max 0 (plF (Lo v) (Ph u) (Lt v) k p left)) g → AJ X (d + 1) mX2_pullAt 0 0 (QI Z0 K) 0 0 6 [some (vr i), some (vr j), some (vi s), some (vi (y : Int)), some (vi left), some (vi (p : Int)), x] [] Z0 g := by
  obtain ⟨hc, ho, hf, hw, ht, hi, hy⟩ := id hC
  obtain ⟨w0, w1, w2, w3, w4, w5, w6, w7⟩ := id hW
  obtain ⟨p6, p7, p8, p9, p10, pk, pg, px, py⟩ := id hQ
  obtain ⟨u0, u1, u2, u3, u4, u5, u6, u7⟩ := id hU
  intro k
  induction k with
  | zero =>
    intro p left x hk hp h1 h2 h
    refine r_iload (pc' := 8) dX2_pullAt_6 rfl rfl ?_
    refine r_aload_n (pc' := 9) dX2_pullAt_8 rfl rfl ?_
    refine r_getf (pc' := 12) (kI := 3) dX2_pullAt_9 rfl fX2_21 hL.1 rfl rfl hc ?_
    refine r_icmp_ge (tgt := 72) (pc' := 15) dX2_pullAt_12 rfl rfl (by omega) (by omega) (fun c12 => ?_) (fun c12 => ?_)
    · refine r_iconst (pc' := 73) dX2_pullAt_72 rfl ?_
      refine r_iload (pc' := 75) dX2_pullAt_73 rfl rfl ?_
      refine r_si2 (pc' := 78) dX2_pullAt_75 rfl qJ9_max lX2_103 rfl rfl rfl (Nat.zero_le _) (Nat.zero_le _) (a_max _ _ (by decide) (by omega) ?_)
      refine r_reti dX2_pullAt_78 rfl (Or.inl rfl) ?_
      exact h
    · refine r_iload (pc' := 17) dX2_pullAt_15 rfl rfl ?_
      refine r_iload_n (pc' := 18) dX2_pullAt_17 rfl rfl ?_
      refine r_icmp_ge (tgt := 72) (pc' := 21) dX2_pullAt_18 rfl rfl (by omega) (by omega) (fun c18 => ?_) (fun c18 => ?_)
      · refine r_iconst (pc' := 73) dX2_pullAt_72 rfl ?_
        refine r_iload (pc' := 75) dX2_pullAt_73 rfl rfl ?_
        refine r_si2 (pc' := 78) dX2_pullAt_75 rfl qJ9_max lX2_103 rfl rfl rfl (Nat.zero_le _) (Nat.zero_le _) (a_max _ _ (by decide) (by omega) ?_)
        refine r_reti dX2_pullAt_78 rfl (Or.inl rfl) ?_
        exact h
      · exact absurd c18 (by omega)
  | succ k ih =>
    intro p left x hk hp h1 h2 h
    have q1 := w2 p (by omega)
    have q2 := u5 (Lo v p) (by omega)
    have q3 := pg (Lo v p) (by omega)
    unfold plF at h
    refine r_iload (pc' := 8) dX2_pullAt_6 rfl rfl ?_
    refine r_aload_n (pc' := 9) dX2_pullAt_8 rfl rfl ?_
    refine r_getf (pc' := 12) (kI := 3) dX2_pullAt_9 rfl fX2_21 hL.1 rfl rfl hc ?_
    refine r_icmp_ge (tgt := 72) (pc' := 15) dX2_pullAt_12 rfl rfl (by omega) (by omega) (fun c12 => ?_) (fun c12 => ?_)
    · exact absurd c12 (by omega)
    · refine r_iload (pc' := 17) dX2_pullAt_15 rfl rfl ?_
      refine r_iload_n (pc' := 18) dX2_pullAt_17 rfl rfl ?_
      refine r_icmp_ge (tgt := 72) (pc' := 21) dX2_pullAt_18 rfl rfl (by omega) (by omega) (fun c18 => ?_) (fun c18 => ?_)
      · exact absurd c18 (by omega)
      · refine r_aload_n (pc' := 22) dX2_pullAt_21 rfl rfl ?_
        refine r_getr (pc' := 25) dX2_pullAt_22 rfl fX2_9 hL.1 rfl ?_
        refine r_iload (pc' := 27) dX2_pullAt_25 rfl rfl ?_
        refine r_iaload (pc' := 28) dX2_pullAt_27 rfl hL.2.1 (by decide) (by omega) (by omega) (ho p (by omega)) ?_
        refine r_istore (pc' := 30) dX2_pullAt_28 rfl rfl ?_
        refine r_iload (pc' := 32) dX2_pullAt_30 rfl rfl ?_
        refine r_aload_n (pc' := 33) dX2_pullAt_32 rfl rfl ?_
        refine r_getf (pc' := 36) (kI := 4) dX2_pullAt_33 rfl fX2_25 hL.1 rfl rfl ht ?_
        refine r_iload (pc' := 38) dX2_pullAt_36 rfl rfl ?_
        refine r_ni2 (pc' := 41) dX2_pullAt_38 rfl qX10_hasBit nX2_54 rfl rfl rfl (Nat.zero_le _) (Nat.zero_le _) (a_hasBitN w4 (by omega) ?_)
        refine r_if_eq (tgt := 56) (pc' := 44) dX2_pullAt_41 rfl rfl (b01_R _) (fun c41 => ?_) (fun c41 => ?_)
        · refine r_aload_n (pc' := 57) dX2_pullAt_56 rfl rfl ?_
          refine r_getr (pc' := 60) dX2_pullAt_57 rfl fX2_65 hP.1 rfl ?_
          refine r_iload (pc' := 62) dX2_pullAt_60 rfl rfl ?_
          refine r_iaload (pc' := 63) dX2_pullAt_62 rfl hP.2.2.1 (by decide) (by omega) (by omega) q3 ?_
          refine r_isub (pc' := 64) dX2_pullAt_63 rfl ?_
          refine r_istore (pc' := 66) dX2_pullAt_64 rfl rfl ?_
          refine r_iinc (pc' := 69) dX2_pullAt_66 rfl rfl rfl ?_
          refine r_goto (tgt := 6) dX2_pullAt_69 rfl ?_
          first | (rw [if_pos (b01_ne c41)] at h; exact ih (p + 1) _ _ (by omega) (by omega) (by omega) (by omega) h) | (rw [if_neg (by rw [b01_eq c41]; decide)] at h; exact ih (p + 1) _ _ (by omega) (by omega) (by omega) (by omega) h)
        · refine r_iconst (pc' := 45) dX2_pullAt_44 rfl ?_
          refine r_aload_n (pc' := 46) dX2_pullAt_45 rfl rfl ?_
          refine r_getr (pc' := 49) dX2_pullAt_46 rfl fX2_65 hP.1 rfl ?_
          refine r_iload (pc' := 51) dX2_pullAt_49 rfl rfl ?_
          refine r_iaload (pc' := 52) dX2_pullAt_51 rfl hP.2.2.1 (by decide) (by omega) (by omega) q3 ?_
          refine r_imul (pc' := 53) dX2_pullAt_52 rfl ?_
          refine r_goto (tgt := 63) dX2_pullAt_53 rfl ?_
          refine r_isub (pc' := 64) dX2_pullAt_63 rfl ?_
          refine r_istore (pc' := 66) dX2_pullAt_64 rfl rfl ?_
          refine r_iinc (pc' := 69) dX2_pullAt_66 rfl rfl rfl ?_
          refine r_goto (tgt := 6) dX2_pullAt_69 rfl ?_
          first | (rw [if_pos (b01_ne c41)] at h; exact ih (p + 1) _ _ (by omega) (by omega) (by omega) (by omega) h) | (rw [if_neg (by rw [b01_eq c41]; decide)] at h; exact ih (p + 1) _ _ (by omega) (by omega) (by omega) (by omega) h)
theorem a_pullAt {X : CX} {d : Nat} {g : Mem} {K : Int → Mem → Prop} {i a f w F : Nat} {v : LV} (hL : isL i a f w) (hC : LC g i a f w v) (hW : LW F v) {j pa pb pc pe pf ph : Nat} {u : PV} (hP : isP j pa pb pc pe pf ph) (hQ : PC_ g j pa pb pc pe pf ph u) (hU : PW u) (hF : F = Pf u) {s : Int} (hs0 : 0 ≤ s) (hs1 : s ≤ 99) {y : Nat} (hy7 : y ≤ 7) (h : K (max 0 (plF (Lo v) (Ph u) (Lt v) (min (Ln v) y) 0 s)) g) : EI X (d + 1) mX2_pullAt [vr i, vr j, vi s, vi (y : Int)] Z0 g K := by
  show AJ X (d + 1) mX2_pullAt 0 0 (QI Z0 K) 0 0 0 [some (vr i), some (vr j), some (vi s), some (vi (y : Int)), none, none, none] [] Z0 g
  refine r_iload_n (pc' := 1) dX2_pullAt_0 rfl rfl ?_
  refine r_istore (pc' := 3) dX2_pullAt_1 rfl rfl ?_
  refine r_iconst (pc' := 4) dX2_pullAt_3 rfl ?_
  refine r_istore (pc' := 6) dX2_pullAt_4 rfl rfl ?_
  exact l_pull hL hC hW hP hQ hU hF hy7 (min (Ln v) y) 0 s none (by omega) (by omega) (by have := hW.2.1; omega) hs1 h
theorem a_hasFlag {X : CX} {d : Nat} {g : Mem} {K : Int → Mem → Prop} {j pa pb pc pe pf ph : Nat} {u : PV} (hP : isP j pa pb pc pe pf ph) (hQ : PC_ g j pa pb pc pe pf ph u) (hU : PW u) (y : Int) (hy : R32 y) (h : K (b01 (decide (0 ≤ y ∧ y < Pf u))) g) : EI X (d) mX5_hasFlag [vr j, vi y] Z0 g K := by
  show AJ X (d) mX5_hasFlag 0 0 (QI Z0 K) 0 0 0 [some (vr j), some (vi y)] [] Z0 g
  obtain ⟨p6, p7, p8, p9, p10, pk, pg, px, py⟩ := id hQ
  obtain ⟨u0, u1, u2, u3, u4, u5, u6, u7⟩ := id hU
  refine r_iload_n (pc' := 1) dX5_hasFlag_0 rfl rfl ?_
  refine r_if_lt (tgt := 16) (pc' := 4) dX5_hasFlag_1 rfl rfl (by omega) (fun c1 => ?_) (fun c1 => ?_)
  · refine r_iconst (pc' := 17) dX5_hasFlag_16 rfl ?_
    refine r_reti dX5_hasFlag_17 rfl (Or.inr ⟨rfl, by first | exact Or.inl rfl | exact Or.inr rfl | omega⟩) ?_
    first | (rw [decide_eq_true (by omega)] at h; exact h) | (rw [decide_eq_false (by omega)] at h; exact h)
  · refine r_iload_n (pc' := 5) dX5_hasFlag_4 rfl rfl ?_
    refine r_aload_n (pc' := 6) dX5_hasFlag_5 rfl rfl ?_
    refine r_getf (pc' := 9) (kI := 8) dX5_hasFlag_6 rfl fX5_38 hP.1 rfl rfl p8 ?_
    refine r_icmp_ge (tgt := 16) (pc' := 12) dX5_hasFlag_9 rfl rfl (by omega) (by omega) (fun c9 => ?_) (fun c9 => ?_)
    · refine r_iconst (pc' := 17) dX5_hasFlag_16 rfl ?_
      refine r_reti dX5_hasFlag_17 rfl (Or.inr ⟨rfl, by first | exact Or.inl rfl | exact Or.inr rfl | omega⟩) ?_
      first | (rw [decide_eq_true (by omega)] at h; exact h) | (rw [decide_eq_false (by omega)] at h; exact h)
    · refine r_iconst (pc' := 13) dX5_hasFlag_12 rfl ?_
      refine r_goto (tgt := 17) dX5_hasFlag_13 rfl ?_
      refine r_reti dX5_hasFlag_17 rfl (Or.inr ⟨rfl, by first | exact Or.inl rfl | exact Or.inr rfl | omega⟩) ?_
      first | (rw [decide_eq_true (by omega)] at h; exact h) | (rw [decide_eq_false (by omega)] at h; exact h)
theorem a_allFlags {X : CX} {d : Nat} {g : Mem} {K : Int → Mem → Prop} {j pa pb pc pe pf ph : Nat} {u : PV} (hP : isP j pa pb pc pe pf ph) (hQ : PC_ g j pa pb pc pe pf ph u) (hU : PW u) (h : K ((2 ^ Pf u - 1 : Nat) : Int) g) : EI X (d) mX5_allFlags [vr j] Z0 g K := by
  show AJ X (d) mX5_allFlags 0 0 (QI Z0 K) 0 0 0 [some (vr j)] [] Z0 g
  obtain ⟨p6, p7, p8, p9, p10, pk, pg, px, py⟩ := id hQ
  obtain ⟨u0, u1, u2, u3, u4, u5, u6, u7⟩ := id hU
  have e1 := Nat.one_le_two_pow (n := Pf u)
  have e : b_shl 1 (Pf u : Int) - 1 = ((2 ^ Pf u - 1 : Nat) : Int) := by
    have h2 : 2 ^ Pf u ≤ 2 ^ 7 := Nat.pow_le_pow_right (by decide) u2
    have := b_shl_n (a := 1) (k := Pf u) (by omega) (by omega)
    rw [Nat.one_mul] at this
    rw [show b_shl 1 (Pf u : Int) = _ from this]
    omega
  refine r_iconst (pc' := 1) dX5_allFlags_0 rfl ?_
  refine r_aload_n (pc' := 2) dX5_allFlags_1 rfl rfl ?_
  refine r_getf (pc' := 5) (kI := 8) dX5_allFlags_2 rfl fX5_38 hP.1 rfl rfl p8 ?_
  refine r_ishl (pc' := 6) dX5_allFlags_5 rfl ?_
  refine r_iconst (pc' := 7) dX5_allFlags_6 rfl ?_
  refine r_isub (pc' := 8) dX5_allFlags_7 rfl ?_
  refine r_reti dX5_allFlags_8 rfl (Or.inl rfl) ?_
  rw [e]
  exact h
theorem a_wordKind {X : CX} {d : Nat} {g : Mem} {K : Int → Mem → Prop} {j pa pb pc pe pf ph : Nat} {u : PV} (hP : isP j pa pb pc pe pf ph) (hQ : PC_ g j pa pb pc pe pf ph u) (hU : PW u) {x k : Nat} (hx : x < Pw u) (hk : k < Pl u x) (h : K (Px u x k) g) : EI X (d) mX5_wordKind [vr j, vi (x : Int), vi (k : Int)] Z0 g K := by
  show AJ X (d) mX5_wordKind 0 0 (QI Z0 K) 0 0 0 [some (vr j), some (vi (x : Int)), some (vi (k : Int))] [] Z0 g
  obtain ⟨p6, p7, p8, p9, p10, pk, pg, px, py⟩ := id hQ
  obtain ⟨u0, u1, u2, u3, u4, u5, u6, u7⟩ := id hU
  have q1 := u6 x hx
  have q2 := (px x hx).2 k hk
  refine r_aload_n (pc' := 1) dX5_wordKind_0 rfl rfl ?_
  refine r_getr (pc' := 4) dX5_wordKind_1 rfl fX5_18 hP.1 rfl ?_
  refine r_iload_n (pc' := 5) dX5_wordKind_4 rfl rfl ?_
  refine r_iconst (pc' := 6) dX5_wordKind_5 rfl ?_
  refine r_imul (pc' := 7) dX5_wordKind_6 rfl ?_
  refine r_iload_n (pc' := 8) dX5_wordKind_7 rfl rfl ?_
  refine r_iadd (pc' := 9) dX5_wordKind_8 rfl ?_
  refine r_iaload (pc' := 10) (x := (Px u x k : Int)) dX5_wordKind_9 rfl hP.2.2.2.1 (by decide) (by omega) (by omega) (by rw [Int.mul_comm]; exact q2) ?_
  refine r_reti dX5_wordKind_10 rfl (Or.inl rfl) ?_
  exact h
theorem l_pHook {X : CX} {d : Nat} {g : Mem} {K : Int → Mem → Prop} {j pa pb pc pe pf ph : Nat} {u : PV} (hP : isP j pa pb pc pe pf ph) (hQ : PC_ g j pa pb pc pe pf ph u) (hU : PW u) {y : Nat} (hy : y < Pq u) : ∀ (k p acc : Nat), p + k = 7 → acc < 128 → K ((orF (fun p => decide (Pa u y ≤ p + Pr u y) && decide (p ≤ Pa u y + Pr u y)) (fun p => 2 ^ p) k p acc : Nat) : Int) g → AJ X (d) mX5_placesOfHook 0 0 (QI Z0 K) 0 0 4 [some (vr j), some (vi (y : Int)), some (vi (acc : Int)), some (vi (p : Int))] [] Z0 g := by
  obtain ⟨p6, p7, p8, p9, p10, pk, pg, px, py⟩ := id hQ
  obtain ⟨u0, u1, u2, u3, u4, u5, u6, u7⟩ := id hU
  intro k
  induction k with
  | zero =>
    intro p acc hp ha h
    refine r_iload_n (pc' := 5) dX5_placesOfHook_4 rfl rfl ?_
    refine r_bipush (pc' := 7) dX5_placesOfHook_5 rfl (by decide) ?_
    refine r_icmp_gt (tgt := 56) (pc' := 10) dX5_placesOfHook_7 rfl rfl (by omega) (by omega) (fun c7 => ?_) (fun c7 => ?_)
    · refine r_iload_n (pc' := 57) dX5_placesOfHook_56 rfl rfl ?_
      refine r_reti dX5_placesOfHook_57 rfl (Or.inl rfl) ?_
      exact h
    · exact absurd c7 (by omega)
  | succ k ih =>
    intro p acc hp ha h
    have y1 := (py y hy).1
    have y2 := (py y hy).2
    have y3 := u7 y hy
    have e : b_or (acc : Int) (b_shl 1 (p : Int)) = ((acc ||| 2 ^ p : Nat) : Int) := by rw [shl1 (by omega), or_n ha (pow7 (by omega))]
    unfold orF at h
    refine r_iload_n (pc' := 5) dX5_placesOfHook_4 rfl rfl ?_
    refine r_bipush (pc' := 7) dX5_placesOfHook_5 rfl (by decide) ?_
    refine r_icmp_gt (tgt := 56) (pc' := 10) dX5_placesOfHook_7 rfl rfl (by omega) (by omega) (fun c7 => ?_) (fun c7 => ?_)
    · exact absurd c7 (by omega)
    · refine r_iload_n (pc' := 11) dX5_placesOfHook_10 rfl rfl ?_
      refine r_aload_n (pc' := 12) dX5_placesOfHook_11 rfl rfl ?_
      refine r_getr (pc' := 15) dX5_placesOfHook_12 rfl fX5_24 hP.1 rfl ?_
      refine r_iload_n (pc' := 16) dX5_placesOfHook_15 rfl rfl ?_
      refine r_iaload (pc' := 17) dX5_placesOfHook_16 rfl hP.2.2.2.2.2.1 (by decide) (by omega) (by omega) y1 ?_
      refine r_aload_n (pc' := 18) dX5_placesOfHook_17 rfl rfl ?_
      refine r_getr (pc' := 21) dX5_placesOfHook_18 rfl fX5_27 hP.1 rfl ?_
      refine r_iload_n (pc' := 22) dX5_placesOfHook_21 rfl rfl ?_
      refine r_iaload (pc' := 23) dX5_placesOfHook_22 rfl hP.2.2.2.2.2.2 (by decide) (by omega) (by omega) y2 ?_
      refine r_isub (pc' := 24) dX5_placesOfHook_23 rfl ?_
      refine r_icmp_lt (tgt := 50) (pc' := 27) dX5_placesOfHook_24 rfl rfl (by omega) (by omega) (fun c24 => ?_) (fun c24 => ?_)
      · refine r_iinc (pc' := 53) dX5_placesOfHook_50 rfl rfl rfl ?_
        refine r_goto (tgt := 4) dX5_placesOfHook_53 rfl ?_
        first | (rw [if_pos (by rw [decide_eq_true (by omega : Pa u y ≤ p + Pr u y), decide_eq_true (by omega : p ≤ Pa u y + Pr u y)]; rfl)] at h; exact ih (p + 1) _ (by omega) (or128 ha (pow7 (by omega))) h) | (rw [if_neg (by rw [decide_eq_false (by omega : ¬ Pa u y ≤ p + Pr u y), Bool.false_and]; decide)] at h; exact ih (p + 1) _ (by omega) ha h) | (rw [if_neg (by rw [decide_eq_false (by omega : ¬ p ≤ Pa u y + Pr u y), Bool.and_false]; decide)] at h; exact ih (p + 1) _ (by omega) ha h)
      · refine r_iload_n (pc' := 28) dX5_placesOfHook_27 rfl rfl ?_
        refine r_aload_n (pc' := 29) dX5_placesOfHook_28 rfl rfl ?_
        refine r_getr (pc' := 32) dX5_placesOfHook_29 rfl fX5_24 hP.1 rfl ?_
        refine r_iload_n (pc' := 33) dX5_placesOfHook_32 rfl rfl ?_
        refine r_iaload (pc' := 34) dX5_placesOfHook_33 rfl hP.2.2.2.2.2.1 (by decide) (by omega) (by omega) y1 ?_
        refine r_aload_n (pc' := 35) dX5_placesOfHook_34 rfl rfl ?_
        refine r_getr (pc' := 38) dX5_placesOfHook_35 rfl fX5_27 hP.1 rfl ?_
        refine r_iload_n (pc' := 39) dX5_placesOfHook_38 rfl rfl ?_
        refine r_iaload (pc' := 40) dX5_placesOfHook_39 rfl hP.2.2.2.2.2.2 (by decide) (by omega) (by omega) y2 ?_
        refine r_iadd (pc' := 41) dX5_placesOfHook_40 rfl ?_
        refine r_icmp_gt (tgt := 50) (pc' := 44) dX5_placesOfHook_41 rfl rfl (by omega) (by omega) (fun c41 => ?_) (fun c41 => ?_)
        · refine r_iinc (pc' := 53) dX5_placesOfHook_50 rfl rfl rfl ?_
          refine r_goto (tgt := 4) dX5_placesOfHook_53 rfl ?_
          first | (rw [if_pos (by rw [decide_eq_true (by omega : Pa u y ≤ p + Pr u y), decide_eq_true (by omega : p ≤ Pa u y + Pr u y)]; rfl)] at h; exact ih (p + 1) _ (by omega) (or128 ha (pow7 (by omega))) h) | (rw [if_neg (by rw [decide_eq_false (by omega : ¬ Pa u y ≤ p + Pr u y), Bool.false_and]; decide)] at h; exact ih (p + 1) _ (by omega) ha h) | (rw [if_neg (by rw [decide_eq_false (by omega : ¬ p ≤ Pa u y + Pr u y), Bool.and_false]; decide)] at h; exact ih (p + 1) _ (by omega) ha h)
        · refine r_iload_n (pc' := 45) dX5_placesOfHook_44 rfl rfl ?_
          refine r_iconst (pc' := 46) dX5_placesOfHook_45 rfl ?_
          refine r_iload_n (pc' := 47) dX5_placesOfHook_46 rfl rfl ?_
          refine r_ishl (pc' := 48) dX5_placesOfHook_47 rfl ?_
          refine r_ior (pc' := 49) dX5_placesOfHook_48 rfl ?_
          rw [e]
          refine r_istore_n (pc' := 50) dX5_placesOfHook_49 rfl rfl ?_
          refine r_iinc (pc' := 53) dX5_placesOfHook_50 rfl rfl rfl ?_
          refine r_goto (tgt := 4) dX5_placesOfHook_53 rfl ?_
          first | (rw [if_pos (by rw [decide_eq_true (by omega : Pa u y ≤ p + Pr u y), decide_eq_true (by omega : p ≤ Pa u y + Pr u y)]; rfl)] at h; exact ih (p + 1) _ (by omega) (or128 ha (pow7 (by omega))) h) | (rw [if_neg (by rw [decide_eq_false (by omega : ¬ Pa u y ≤ p + Pr u y), Bool.false_and]; decide)] at h; exact ih (p + 1) _ (by omega) ha h) | (rw [if_neg (by rw [decide_eq_false (by omega : ¬ p ≤ Pa u y + Pr u y), Bool.and_false]; decide)] at h; exact ih (p + 1) _ (by omega) ha h)
def hkN (u : PV) (y : Nat) : Nat := orF (fun p => decide (Pa u y ≤ p + Pr u y) && decide (p ≤ Pa u y + Pr u y)) (fun p => 2 ^ p) 7 0 0
theorem hkN_lt (u : PV) (y : Nat) : hkN u y < 128 := orF_lt _ _ _ (by decide) (fun q _ hq => pow7 (by omega))
theorem a_pHook {X : CX} {d : Nat} {g : Mem} {K : Int → Mem → Prop} {j pa pb pc pe pf ph : Nat} {u : PV} (hP : isP j pa pb pc pe pf ph) (hQ : PC_ g j pa pb pc pe pf ph u) (hU : PW u) {y : Nat} (hy : y < Pq u) (h : K (hkN u y) g) : EI X (d) mX5_placesOfHook [vr j, vi (y : Int)] Z0 g K := by
  show AJ X (d) mX5_placesOfHook 0 0 (QI Z0 K) 0 0 0 [some (vr j), some (vi (y : Int)), none, none] [] Z0 g
  refine r_iconst (pc' := 1) dX5_placesOfHook_0 rfl ?_
  refine r_istore_n (pc' := 2) dX5_placesOfHook_1 rfl rfl ?_
  refine r_iconst (pc' := 3) dX5_placesOfHook_2 rfl ?_
  refine r_istore_n (pc' := 4) dX5_placesOfHook_3 rfl rfl ?_
  exact l_pHook hP hQ hU hy 7 0 0 (by omega) (by decide) h
theorem l_pHooks {X : CX} {d : Nat} {g : Mem} {K : Int → Mem → Prop} {j pa pb pc pe pf ph : Nat} {u : PV} (hP : isP j pa pb pc pe pf ph) (hQ : PC_ g j pa pb pc pe pf ph u) (hU : PW u) {s : Nat} (hs : s < 128) : ∀ (k p acc : Nat), p + k = Pq u → acc < 128 → K ((orF (fun p => s.testBit p) (hkN u) k p acc : Nat) : Int) g → AJ X (d + 1) mX5_placesOfHooks 0 0 (QI Z0 K) 0 0 4 [some (vr j), some (vi (s : Int)), some (vi (acc : Int)), some (vi (p : Int))] [] Z0 g := by
  obtain ⟨p6, p7, p8, p9, p10, pk, pg, px, py⟩ := id hQ
  obtain ⟨u0, u1, u2, u3, u4, u5, u6, u7⟩ := id hU
  intro k
  induction k with
  | zero =>
    intro p acc hp ha h
    refine r_iload_n (pc' := 5) dX5_placesOfHooks_4 rfl rfl ?_
    refine r_aload_n (pc' := 6) dX5_placesOfHooks_5 rfl rfl ?_
    refine r_getf (pc' := 9) (kI := 10) dX5_placesOfHooks_6 rfl fX5_44 hP.1 rfl rfl p10 ?_
    refine r_icmp_ge (tgt := 34) (pc' := 12) dX5_placesOfHooks_9 rfl rfl (by omega) (by omega) (fun c9 => ?_) (fun c9 => ?_)
    · refine r_iload_n (pc' := 35) dX5_placesOfHooks_34 rfl rfl ?_
      refine r_reti dX5_placesOfHooks_35 rfl (Or.inl rfl) ?_
      exact h
    · exact absurd c9 (by omega)
  | succ k ih =>
    intro p acc hp ha h
    have e := or_n ha (hkN_lt u p)
    unfold orF at h
    refine r_iload_n (pc' := 5) dX5_placesOfHooks_4 rfl rfl ?_
    refine r_aload_n (pc' := 6) dX5_placesOfHooks_5 rfl rfl ?_
    refine r_getf (pc' := 9) (kI := 10) dX5_placesOfHooks_6 rfl fX5_44 hP.1 rfl rfl p10 ?_
    refine r_icmp_ge (tgt := 34) (pc' := 12) dX5_placesOfHooks_9 rfl rfl (by omega) (by omega) (fun c9 => ?_) (fun c9 => ?_)
    · exact absurd c9 (by omega)
    · refine r_iload_n (pc' := 13) dX5_placesOfHooks_12 rfl rfl ?_
      refine r_iload_n (pc' := 14) dX5_placesOfHooks_13 rfl rfl ?_
      refine r_ni2 (pc' := 17) dX5_placesOfHooks_14 rfl qX10_hasBit nX5_62 rfl rfl rfl (Nat.zero_le _) (Nat.zero_le _) (a_hasBitN hs (by omega) ?_)
      refine r_if_eq (tgt := 28) (pc' := 20) dX5_placesOfHooks_17 rfl rfl (b01_R _) (fun c17 => ?_) (fun c17 => ?_)
      · refine r_iinc (pc' := 31) dX5_placesOfHooks_28 rfl rfl rfl ?_
        refine r_goto (tgt := 4) dX5_placesOfHooks_31 rfl ?_
        first | (rw [if_pos (b01_ne c17)] at h; exact ih (p + 1) _ (by omega) (or128 ha (hkN_lt u p)) h) | (rw [if_neg (by rw [b01_eq c17]; decide)] at h; exact ih (p + 1) _ (by omega) ha h)
      · refine r_iload_n (pc' := 21) dX5_placesOfHooks_20 rfl rfl ?_
        refine r_aload_n (pc' := 22) dX5_placesOfHooks_21 rfl rfl ?_
        refine r_iload_n (pc' := 23) dX5_placesOfHooks_22 rfl rfl ?_
        refine r_vi1 (pc' := 26) dX5_placesOfHooks_23 rfl qX5_placesOfHook lX5_66 hP.1 rfl rfl rfl rfl (Nat.zero_le _) (Nat.zero_le _) (a_pHook hP hQ hU (by omega) ?_)
        refine r_ior (pc' := 27) dX5_placesOfHooks_26 rfl ?_
        rw [e]
        refine r_istore_n (pc' := 28) dX5_placesOfHooks_27 rfl rfl ?_
        refine r_iinc (pc' := 31) dX5_placesOfHooks_28 rfl rfl rfl ?_
        refine r_goto (tgt := 4) dX5_placesOfHooks_31 rfl ?_
        first | (rw [if_pos (b01_ne c17)] at h; exact ih (p + 1) _ (by omega) (or128 ha (hkN_lt u p)) h) | (rw [if_neg (by rw [b01_eq c17]; decide)] at h; exact ih (p + 1) _ (by omega) ha h)
def hksN (u : PV) (s : Nat) : Nat := orF (fun p => s.testBit p) (hkN u) (Pq u) 0 0
theorem hksN_lt (u : PV) (s : Nat) : hksN u s < 128 := orF_lt _ _ _ (by decide) (fun q _ _ => hkN_lt u q)
/-- the first set, of the fewest, that is so (none: -1) -/
def fwF (r : Nat → Bool) : Nat → Nat → Int → Int
  | 0, _, best => best
  | k + 1, s, best => fwF r k (s + 1) (if (best = -1 ∨ popN s < popN best.toNat) ∧ r s = true then (s : Int) else best)
theorem a_pHooks {X : CX} {d : Nat} {g : Mem} {K : Int → Mem → Prop} {j pa pb pc pe pf ph : Nat} {u : PV} (hP : isP j pa pb pc pe pf ph) (hQ : PC_ g j pa pb pc pe pf ph u) (hU : PW u) {s : Nat} (hs : s < 128) (h : K (hksN u s) g) : EI X (d + 1) mX5_placesOfHooks [vr j, vi (s : Int)] Z0 g K := by
  show AJ X (d + 1) mX5_placesOfHooks 0 0 (QI Z0 K) 0 0 0 [some (vr j), some (vi (s : Int)), none, none] [] Z0 g
  refine r_iconst (pc' := 1) dX5_placesOfHooks_0 rfl ?_
  refine r_istore_n (pc' := 2) dX5_placesOfHooks_1 rfl rfl ?_
  refine r_iconst (pc' := 3) dX5_placesOfHooks_2 rfl ?_
  refine r_istore_n (pc' := 4) dX5_placesOfHooks_3 rfl rfl ?_
  exact l_pHooks hP hQ hU hs (Pq u) 0 0 (by omega) (by decide) h
theorem a_bitCountI {X : CX} {d : Nat} {g : Mem} {K : Int → Mem → Prop} {x : Int} (h0 : 0 ≤ x) (hx : x < 128) (h : K (popN x.toNat) g) : EI X d mJ6_bitCount [vi x] Z0 g K := by
  have e := a_bitCount (X := X) (d := d) (g := g) (K := K) (x := x.toNat) (by omega) h
  rw [show ((x.toNat : Nat) : Int) = x by omega] at e
  exact e
theorem l_fewest {X : CX} {d : Nat} {g : Mem} {K : Int → Mem → Prop} {j pa pb pc pe pf ph : Nat} {u : PV} (hP : isP j pa pb pc pe pf ph) (hQ : PC_ g j pa pb pc pe pf ph u) (hU : PW u) {x : Nat} (hx : x < 128) : ∀ (k s : Nat) (best : Int) (y : Option VV), s + k = 2 ^ Pq u → -1 ≤ best ∧ best < 128 → K (fwF (fun s => decide (difN x (hksN u s) = 0)) k s best) g → AJ X (d + 2) mX5_fewestHooks 0 0 (QI Z0 K) 0 0 4 [some (vr j), some (vi (x : Int)), some (vi best), some (vi (s : Int)), y] [] Z0 g := by
  obtain ⟨p6, p7, p8, p9, p10, pk, pg, px, py⟩ := id hQ
  obtain ⟨u0, u1, u2, u3, u4, u5, u6, u7⟩ := id hU
  intro k
  induction k with
  | zero =>
    intro s best y hs hb h
    have e0 : b_shl 1 (Pq u : Int) = ((2 ^ Pq u : Nat) : Int) := by rw [shl1 (by omega)]
    have e3 := pow7 (k := Pq u) (by omega)
    refine r_iload_n (pc' := 5) dX5_fewestHooks_4 rfl rfl ?_
    refine r_iconst (pc' := 6) dX5_fewestHooks_5 rfl ?_
    refine r_aload_n (pc' := 7) dX5_fewestHooks_6 rfl rfl ?_
    refine r_getf (pc' := 10) (kI := 10) dX5_fewestHooks_7 rfl fX5_44 hP.1 rfl rfl p10 ?_
    refine r_ishl (pc' := 11) dX5_fewestHooks_10 rfl ?_
    rw [e0]
    refine r_icmp_ge (tgt := 62) (pc' := 14) dX5_fewestHooks_11 rfl rfl (by omega) (by omega) (fun c11 => ?_) (fun c11 => ?_)
    · refine r_iload_n (pc' := 63) dX5_fewestHooks_62 rfl rfl ?_
      refine r_reti dX5_fewestHooks_63 rfl (Or.inl rfl) ?_
      exact h
    · exact absurd c11 (by omega)
  | succ k ih =>
    intro s best y hs hb h
    have e0 : b_shl 1 (Pq u : Int) = ((2 ^ Pq u : Nat) : Int) := by rw [shl1 (by omega)]
    have e3 := pow7 (k := Pq u) (by omega)
    have e1 := dif_n (s := x) (t := hksN u s) hx
    have e2 := difN_lt (s := x) (t := hksN u s) hx
    have n1 := popN_le s
    have n2 := popN_le best.toNat
    unfold fwF at h
    refine r_iload_n (pc' := 5) dX5_fewestHooks_4 rfl rfl ?_
    refine r_iconst (pc' := 6) dX5_fewestHooks_5 rfl ?_
    refine r_aload_n (pc' := 7) dX5_fewestHooks_6 rfl rfl ?_
    refine r_getf (pc' := 10) (kI := 10) dX5_fewestHooks_7 rfl fX5_44 hP.1 rfl rfl p10 ?_
    refine r_ishl (pc' := 11) dX5_fewestHooks_10 rfl ?_
    rw [e0]
    refine r_icmp_ge (tgt := 62) (pc' := 14) dX5_fewestHooks_11 rfl rfl (by omega) (by omega) (fun c11 => ?_) (fun c11 => ?_)
    · exact absurd c11 (by omega)
    · refine r_iload_n (pc' := 15) dX5_fewestHooks_14 rfl rfl ?_
      refine r_iconst (pc' := 16) dX5_fewestHooks_15 rfl ?_
      refine r_icmp_eq (tgt := 30) (pc' := 19) dX5_fewestHooks_16 rfl rfl (by omega) (by omega) (fun c16 => ?_) (fun c16 => ?_)
      · refine r_iconst (pc' := 31) dX5_fewestHooks_30 rfl ?_
        refine r_goto (tgt := 35) dX5_fewestHooks_31 rfl ?_
        refine r_istore (pc' := 37) dX5_fewestHooks_35 rfl rfl ?_
        refine r_iload (pc' := 39) dX5_fewestHooks_37 rfl rfl ?_
        refine r_if_eq (tgt := 56) (pc' := 42) dX5_fewestHooks_39 rfl rfl (by omega) (fun c39 => ?_) (fun c39 => ?_)
        · refine r_iinc (pc' := 59) dX5_fewestHooks_56 rfl rfl rfl ?_
          refine r_goto (tgt := 4) dX5_fewestHooks_59 rfl ?_
          first | exact absurd c39 (by decide) | (rw [if_neg (fun hq => absurd (of_decide_eq_true hq.2) (by omega))] at h; exact ih (s + 1) best _ (by omega) hb h) | (rw [if_neg (fun hq => by rcases hq.1 with q | q <;> omega)] at h; exact ih (s + 1) best _ (by omega) hb h) | (rw [if_pos ⟨by first | exact Or.inl (by omega) | exact Or.inr (by omega), decide_eq_true (by omega)⟩] at h; exact ih (s + 1) _ _ (by omega) (by omega) h)
        · refine r_iload_n (pc' := 43) dX5_fewestHooks_42 rfl rfl ?_
          refine r_aload_n (pc' := 44) dX5_fewestHooks_43 rfl rfl ?_
          refine r_iload_n (pc' := 45) dX5_fewestHooks_44 rfl rfl ?_
          refine r_vi1 (pc' := 48) dX5_fewestHooks_45 rfl qX5_placesOfHooks lX5_59 hP.1 rfl rfl rfl rfl (Nat.zero_le _) (Nat.zero_le _) (a_pHooks hP hQ hU (by omega) ?_)
          refine r_iconst (pc' := 49) dX5_fewestHooks_48 rfl ?_
          refine r_ixor (pc' := 50) dX5_fewestHooks_49 rfl ?_
          refine r_iand (pc' := 51) dX5_fewestHooks_50 rfl ?_
          rw [e1]
          refine r_if_ne (tgt := 56) (pc' := 54) dX5_fewestHooks_51 rfl rfl (by omega) (fun c51 => ?_) (fun c51 => ?_)
          · refine r_iinc (pc' := 59) dX5_fewestHooks_56 rfl rfl rfl ?_
            refine r_goto (tgt := 4) dX5_fewestHooks_59 rfl ?_
            first | exact absurd c39 (by decide) | (rw [if_neg (fun hq => absurd (of_decide_eq_true hq.2) (by omega))] at h; exact ih (s + 1) best _ (by omega) hb h) | (rw [if_neg (fun hq => by rcases hq.1 with q | q <;> omega)] at h; exact ih (s + 1) best _ (by omega) hb h) | (rw [if_pos ⟨by first | exact Or.inl (by omega) | exact Or.inr (by omega), decide_eq_true (by omega)⟩] at h; exact ih (s + 1) _ _ (by omega) (by omega) h)
          · refine r_iload_n (pc' := 55) dX5_fewestHooks_54 rfl rfl ?_
            refine r_istore_n (pc' := 56) dX5_fewestHooks_55 rfl rfl ?_
            refine r_iinc (pc' := 59) dX5_fewestHooks_56 rfl rfl rfl ?_
            refine r_goto (tgt := 4) dX5_fewestHooks_59 rfl ?_
            first | exact absurd c39 (by decide) | (rw [if_neg (fun hq => absurd (of_decide_eq_true hq.2) (by omega))] at h; exact ih (s + 1) best _ (by omega) hb h) | (rw [if_neg (fun hq => by rcases hq.1 with q | q <;> omega)] at h; exact ih (s + 1) best _ (by omega) hb h) | (rw [if_pos ⟨by first | exact Or.inl (by omega) | exact Or.inr (by omega), decide_eq_true (by omega)⟩] at h; exact ih (s + 1) _ _ (by omega) (by omega) h)
      · refine r_iload_n (pc' := 20) dX5_fewestHooks_19 rfl rfl ?_
        refine r_si1 (pc' := 23) dX5_fewestHooks_20 rfl qJ6_bitCount lX5_53 rfl rfl rfl (Nat.zero_le _) (Nat.zero_le _) (a_bitCount (by omega) ?_)
        refine r_iload_n (pc' := 24) dX5_fewestHooks_23 rfl rfl ?_
        refine r_si1 (pc' := 27) dX5_fewestHooks_24 rfl qJ6_bitCount lX5_53 rfl rfl rfl (Nat.zero_le _) (Nat.zero_le _) (a_bitCountI (x := best) (by omega) (by omega) ?_)
        refine r_icmp_ge (tgt := 34) (pc' := 30) dX5_fewestHooks_27 rfl rfl (by omega) (by omega) (fun c27 => ?_) (fun c27 => ?_)
        · refine r_iconst (pc' := 35) dX5_fewestHooks_34 rfl ?_
          refine r_istore (pc' := 37) dX5_fewestHooks_35 rfl rfl ?_
          refine r_iload (pc' := 39) dX5_fewestHooks_37 rfl rfl ?_
          refine r_if_eq (tgt := 56) (pc' := 42) dX5_fewestHooks_39 rfl rfl (by omega) (fun c39 => ?_) (fun c39 => ?_)
          · refine r_iinc (pc' := 59) dX5_fewestHooks_56 rfl rfl rfl ?_
            refine r_goto (tgt := 4) dX5_fewestHooks_59 rfl ?_
            first | exact absurd c39 (by decide) | (rw [if_neg (fun hq => absurd (of_decide_eq_true hq.2) (by omega))] at h; exact ih (s + 1) best _ (by omega) hb h) | (rw [if_neg (fun hq => by rcases hq.1 with q | q <;> omega)] at h; exact ih (s + 1) best _ (by omega) hb h) | (rw [if_pos ⟨by first | exact Or.inl (by omega) | exact Or.inr (by omega), decide_eq_true (by omega)⟩] at h; exact ih (s + 1) _ _ (by omega) (by omega) h)
          · refine r_iload_n (pc' := 43) dX5_fewestHooks_42 rfl rfl ?_
            refine r_aload_n (pc' := 44) dX5_fewestHooks_43 rfl rfl ?_
            refine r_iload_n (pc' := 45) dX5_fewestHooks_44 rfl rfl ?_
            refine r_vi1 (pc' := 48) dX5_fewestHooks_45 rfl qX5_placesOfHooks lX5_59 hP.1 rfl rfl rfl rfl (Nat.zero_le _) (Nat.zero_le _) (a_pHooks hP hQ hU (by omega) ?_)
            refine r_iconst (pc' := 49) dX5_fewestHooks_48 rfl ?_
            refine r_ixor (pc' := 50) dX5_fewestHooks_49 rfl ?_
            refine r_iand (pc' := 51) dX5_fewestHooks_50 rfl ?_
            rw [e1]
            refine r_if_ne (tgt := 56) (pc' := 54) dX5_fewestHooks_51 rfl rfl (by omega) (fun c51 => ?_) (fun c51 => ?_)
            · refine r_iinc (pc' := 59) dX5_fewestHooks_56 rfl rfl rfl ?_
              refine r_goto (tgt := 4) dX5_fewestHooks_59 rfl ?_
              first | exact absurd c39 (by decide) | (rw [if_neg (fun hq => absurd (of_decide_eq_true hq.2) (by omega))] at h; exact ih (s + 1) best _ (by omega) hb h) | (rw [if_neg (fun hq => by rcases hq.1 with q | q <;> omega)] at h; exact ih (s + 1) best _ (by omega) hb h) | (rw [if_pos ⟨by first | exact Or.inl (by omega) | exact Or.inr (by omega), decide_eq_true (by omega)⟩] at h; exact ih (s + 1) _ _ (by omega) (by omega) h)
            · refine r_iload_n (pc' := 55) dX5_fewestHooks_54 rfl rfl ?_
              refine r_istore_n (pc' := 56) dX5_fewestHooks_55 rfl rfl ?_
              refine r_iinc (pc' := 59) dX5_fewestHooks_56 rfl rfl rfl ?_
              refine r_goto (tgt := 4) dX5_fewestHooks_59 rfl ?_
              first | exact absurd c39 (by decide) | (rw [if_neg (fun hq => absurd (of_decide_eq_true hq.2) (by omega))] at h; exact ih (s + 1) best _ (by omega) hb h) | (rw [if_neg (fun hq => by rcases hq.1 with q | q <;> omega)] at h; exact ih (s + 1) best _ (by omega) hb h) | (rw [if_pos ⟨by first | exact Or.inl (by omega) | exact Or.inr (by omega), decide_eq_true (by omega)⟩] at h; exact ih (s + 1) _ _ (by omega) (by omega) h)
        · refine r_iconst (pc' := 31) dX5_fewestHooks_30 rfl ?_
          refine r_goto (tgt := 35) dX5_fewestHooks_31 rfl ?_
          refine r_istore (pc' := 37) dX5_fewestHooks_35 rfl rfl ?_
          refine r_iload (pc' := 39) dX5_fewestHooks_37 rfl rfl ?_
          refine r_if_eq (tgt := 56) (pc' := 42) dX5_fewestHooks_39 rfl rfl (by omega) (fun c39 => ?_) (fun c39 => ?_)
          · refine r_iinc (pc' := 59) dX5_fewestHooks_56 rfl rfl rfl ?_
            refine r_goto (tgt := 4) dX5_fewestHooks_59 rfl ?_
            first | exact absurd c39 (by decide) | (rw [if_neg (fun hq => absurd (of_decide_eq_true hq.2) (by omega))] at h; exact ih (s + 1) best _ (by omega) hb h) | (rw [if_neg (fun hq => by rcases hq.1 with q | q <;> omega)] at h; exact ih (s + 1) best _ (by omega) hb h) | (rw [if_pos ⟨by first | exact Or.inl (by omega) | exact Or.inr (by omega), decide_eq_true (by omega)⟩] at h; exact ih (s + 1) _ _ (by omega) (by omega) h)
          · refine r_iload_n (pc' := 43) dX5_fewestHooks_42 rfl rfl ?_
            refine r_aload_n (pc' := 44) dX5_fewestHooks_43 rfl rfl ?_
            refine r_iload_n (pc' := 45) dX5_fewestHooks_44 rfl rfl ?_
            refine r_vi1 (pc' := 48) dX5_fewestHooks_45 rfl qX5_placesOfHooks lX5_59 hP.1 rfl rfl rfl rfl (Nat.zero_le _) (Nat.zero_le _) (a_pHooks hP hQ hU (by omega) ?_)
            refine r_iconst (pc' := 49) dX5_fewestHooks_48 rfl ?_
            refine r_ixor (pc' := 50) dX5_fewestHooks_49 rfl ?_
            refine r_iand (pc' := 51) dX5_fewestHooks_50 rfl ?_
            rw [e1]
            refine r_if_ne (tgt := 56) (pc' := 54) dX5_fewestHooks_51 rfl rfl (by omega) (fun c51 => ?_) (fun c51 => ?_)
            · refine r_iinc (pc' := 59) dX5_fewestHooks_56 rfl rfl rfl ?_
              refine r_goto (tgt := 4) dX5_fewestHooks_59 rfl ?_
              first | exact absurd c39 (by decide) | (rw [if_neg (fun hq => absurd (of_decide_eq_true hq.2) (by omega))] at h; exact ih (s + 1) best _ (by omega) hb h) | (rw [if_neg (fun hq => by rcases hq.1 with q | q <;> omega)] at h; exact ih (s + 1) best _ (by omega) hb h) | (rw [if_pos ⟨by first | exact Or.inl (by omega) | exact Or.inr (by omega), decide_eq_true (by omega)⟩] at h; exact ih (s + 1) _ _ (by omega) (by omega) h)
            · refine r_iload_n (pc' := 55) dX5_fewestHooks_54 rfl rfl ?_
              refine r_istore_n (pc' := 56) dX5_fewestHooks_55 rfl rfl ?_
              refine r_iinc (pc' := 59) dX5_fewestHooks_56 rfl rfl rfl ?_
              refine r_goto (tgt := 4) dX5_fewestHooks_59 rfl ?_
              first | exact absurd c39 (by decide) | (rw [if_neg (fun hq => absurd (of_decide_eq_true hq.2) (by omega))] at h; exact ih (s + 1) best _ (by omega) hb h) | (rw [if_neg (fun hq => by rcases hq.1 with q | q <;> omega)] at h; exact ih (s + 1) best _ (by omega) hb h) | (rw [if_pos ⟨by first | exact Or.inl (by omega) | exact Or.inr (by omega), decide_eq_true (by omega)⟩] at h; exact ih (s + 1) _ _ (by omega) (by omega) h)
theorem a_fewest {X : CX} {d : Nat} {g : Mem} {K : Int → Mem → Prop} {j pa pb pc pe pf ph : Nat} {u : PV} (hP : isP j pa pb pc pe pf ph) (hQ : PC_ g j pa pb pc pe pf ph u) (hU : PW u) {x : Nat} (hx : x < 128) (h : K (fwF (fun s => decide (difN x (hksN u s) = 0)) (2 ^ Pq u) 0 (-1)) g) : EI X (d + 2) mX5_fewestHooks [vr j, vi (x : Int)] Z0 g K := by
  show AJ X (d + 2) mX5_fewestHooks 0 0 (QI Z0 K) 0 0 0 [some (vr j), some (vi (x : Int)), none, none, none] [] Z0 g
  refine r_iconst (pc' := 1) dX5_fewestHooks_0 rfl ?_
  refine r_istore_n (pc' := 2) dX5_fewestHooks_1 rfl rfl ?_
  refine r_iconst (pc' := 3) dX5_fewestHooks_2 rfl ?_
  refine r_istore_n (pc' := 4) dX5_fewestHooks_3 rfl rfl ?_
  exact l_fewest hP hQ hU hx (2 ^ Pq u) 0 (-1) none (by omega) (by decide) h
