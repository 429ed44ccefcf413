theorem wayT_s (u : PV) (v : LV) (k q : Nat) : wayT u v (k + 1) q = if q = Ln v - (k + 1) then sumF (fun x => begB u v x q) (fun x => wayT u v k (q + Pl u x)) (Pw u) 0 0 else wayT u v k q := rfl
theorem wayT_st {u : PV} {v : LV} {q : Nat} : ∀ (j k : Nat), Ln v - q ≤ k → k + j ≤ Ln v → q ≤ Ln v → wayT u v (k + j) q = wayT u v k q
  | 0, _, _, _, _ => rfl
  | j + 1, k, h1, h2, h3 => by
    rw [show k + (j + 1) = (k + j) + 1 by omega, wayT_s, if_neg (by omega)]
    exact wayT_st j k h1 (by omega) h3
theorem sumF_pos {c : Nat → Bool} {t : Nat → Nat} : ∀ (k x acc : Nat), 0 < sumF c t k x acc → 0 < acc ∨ ∃ y, x ≤ y ∧ y < x + k ∧ c y = true ∧ 0 < t y
  | 0, _, _, h => Or.inl h
  | k + 1, x, acc, h => by
    unfold sumF at h
    rcases sumF_pos k (x + 1) _ h with h | ⟨y, a, b, e, f⟩
    · by_cases hc : c x = true
      · rw [if_pos hc] at h
        by_cases ht : 0 < t x
        · exact Or.inr ⟨x, by omega, by omega, hc, ht⟩
        · exact Or.inl (by omega)
      · rw [if_neg hc] at h
        exact Or.inl h
    · exact Or.inr ⟨y, by omega, by omega, e, f⟩
theorem wayT_pos {u : PV} {v : LV} (hU : PW u) {q : Nat} (hq : q < Ln v) (h : 0 < wayT u v (Ln v) q) : ∃ x, x < Pw u ∧ begB u v x q = true ∧ 0 < wayT u v (Ln v) (q + Pl u x) := by
  obtain ⟨k, hk⟩ : ∃ k, Ln v = q + (k + 1) := ⟨Ln v - q - 1, by omega⟩
  have e1 : wayT u v (Ln v) q = wayT u v (k + 1) q := by
    have := wayT_st (u := u) (v := v) (q := q) q (k + 1) (by omega) (by omega) (by omega)
    rw [show k + 1 + q = Ln v by omega] at this
    exact this
  rw [e1, wayT_s, if_pos (by omega)] at h
  rcases sumF_pos _ _ _ h with h | ⟨x, h1, h2, h3, h4⟩
  · exact absurd h (by decide)
  · refine ⟨x, by omega, h3, ?_⟩
    have hb := begB_le h3
    have hl := hU.2.2.2.2.2.2.1 x (by omega)
    have := wayT_st (u := u) (v := v) (q := q + Pl u x) (q + 1) k (by omega) (by omega) hb
    rw [show k + (q + 1) = Ln v by omega] at this
    rw [this]
    exact h4
theorem fwO_no {u : PV} {v : LV} {p : Nat} : ∀ (k x : Nat), fwO u v p k x = -1 → ∀ y, x ≤ y → y < x + k → begB u v y p = true → ¬ 0 < wayT u v (Ln v) (p + Pl u y)
  | 0, _, _, y, a, b, _ => by omega
  | k + 1, x, h, y, a, b, e => by
    intro f
    unfold fwO at h
    by_cases hc : (begB u v x p && decide (0 < wayT u v (Ln v) (p + Pl u x))) = true
    · rw [if_pos hc] at h
      omega
    · rw [if_neg hc] at h
      by_cases hy : y = x
      · subst hy
        exact hc (by rw [e, decide_eq_true f]; rfl)
      · exact fwO_no k (x + 1) h y (by omega) (by omega) e f
theorem fwO_w {u : PV} {v : LV} {p : Nat} : ∀ (k x : Nat), fwO u v p k x ≠ -1 → 0 < wayT u v (Ln v) (p + Pl u (fwO u v p k x).toNat)
  | 0, _, h => absurd rfl h
  | k + 1, x, h => by
    unfold fwO at h ⊢
    by_cases hc : (begB u v x p && decide (0 < wayT u v (Ln v) (p + Pl u x))) = true
    · rw [if_pos hc]
      rw [Bool.and_eq_true] at hc
      exact of_decide_eq_true hc.2
    · rw [if_neg hc] at h ⊢
      exact fwO_w k (x + 1) h
theorem lm_firI {X : CX} {d : Nat} {g : Mem} {K : Int → Mem → Prop} {u : PV} {v : LV} (hB : MB g u v)  (hwy : ∀ q : Nat, q ≤ Ln v → g 176 q = (wayT u v (Ln v) q : Int)) {p : Nat} (hp : p ≤ 7) {row : Int} : ∀ (k x : Nat), x + k = Pw u → fwO u v p k x ≠ -1 → AJ X (d + 2) mX11_firstOf 0 0 (QI Z0 K) 0 0 55 [some (vr 166), some (vi row), some (vi (p : Int)), some (vi (fwO u v p k x))] [] Z0 g → AJ X (d + 2) mX11_firstOf 0 0 (QI Z0 K) 0 0 25 [some (vr 166), some (vi row), some (vi (p : Int)), some (vi (x : Int))] [] Z0 g := by
  obtain ⟨hQ, hU, hC, hW⟩ := id hB
  obtain ⟨hy, hi, hc, ht, ho, hf, hw_⟩ := id hC
  obtain ⟨w0, w1, w2, w3, w4, w5, w6, w7⟩ := id hW
  obtain ⟨p6, p7, p8, p9, p10, pk, pg, px, py⟩ := id hQ
  obtain ⟨u0, u1, u2, u3, u4, u5, u6, u7⟩ := id hU
  intro k
  induction k with
  | zero =>
    intro x hx hn h
    exact absurd rfl hn
  | succ k ih =>
    intro x hx hn h
    have q2 := u6 x (by omega)
    have wb := wayT_le hU v (Ln v) (p + Pl u x)
    have wb2 : 6 ^ Ln v ≤ 6 ^ 7 := Nat.pow_le_pow_right (by decide) w1
    unfold fwO at hn h
    refine r_aload_n (pc' := 26) dX11_firstOf_25 rfl rfl ?_
    refine r_iload_n (pc' := 27) dX11_firstOf_26 rfl rfl ?_
    refine r_iload_n (pc' := 28) dX11_firstOf_27 rfl rfl ?_
    refine r_vi2 (pc' := 31) dX11_firstOf_28 rfl qX11_fits lX11_129 z166 rfl rfl rfl rfl (Nat.zero_le _) (Nat.zero_le _) (m_fits hB (by omega) hp ?_)
    refine r_if_eq (tgt := 49) (pc' := 34) dX11_firstOf_31 rfl rfl (b01_R _) (fun c31 => ?_) (fun c31 => ?_)
    · refine r_iinc (pc' := 52) dX11_firstOf_49 rfl rfl rfl ?_
      refine r_goto (tgt := 25) dX11_firstOf_52 rfl ?_
      first
        | (rw [if_neg (by rw [b01_eq c31, Bool.false_and]; decide)] at h hn
           exact ih (x + 1) (by omega) hn h)
        | (rw [if_neg (by rw [decide_eq_false (by omega), Bool.and_false]; decide)] at h hn
           exact ih (x + 1) (by omega) hn h)
    · have hbe := begB_le (b01_ne c31)
      refine r_aload_n (pc' := 35) dX11_firstOf_34 rfl rfl ?_
      refine r_getr (pc' := 38) dX11_firstOf_35 rfl fX11_42 z166 rfl ?_
      refine r_iload_n (pc' := 39) dX11_firstOf_38 rfl rfl ?_
      refine r_aload_n (pc' := 40) dX11_firstOf_39 rfl rfl ?_
      refine r_iload_n (pc' := 41) dX11_firstOf_40 rfl rfl ?_
      refine r_vi1 (pc' := 44) dX11_firstOf_41 rfl qX11_longOf lX11_125 z166 rfl rfl rfl rfl (Nat.zero_le _) (Nat.zero_le _) (m_long hB (by omega) ?_)
      refine r_iadd (pc' := 45) dX11_firstOf_44 rfl ?_
      refine r_iaload (pc' := 46) (x := (wayT u v (Ln v) (p + Pl u x) : Int)) dX11_firstOf_45 rfl z176 (by decide) (by omega) (by omega) (hwy (p + Pl u x) (by omega)) ?_
      refine r_if_ne (tgt := 55) (pc' := 49) dX11_firstOf_46 rfl rfl (by omega) (fun c46 => ?_) (fun c46 => ?_)
      · rw [if_pos (by rw [b01_ne c31, decide_eq_true (by omega)]; rfl)] at h
        exact h
      · refine r_iinc (pc' := 52) dX11_firstOf_49 rfl rfl rfl ?_
        refine r_goto (tgt := 25) dX11_firstOf_52 rfl ?_
        first
          | (rw [if_neg (by rw [b01_eq c31, Bool.false_and]; decide)] at h hn
             exact ih (x + 1) (by omega) hn h)
          | (rw [if_neg (by rw [decide_eq_false (by omega), Bool.and_false]; decide)] at h hn
             exact ih (x + 1) (by omega) hn h)
theorem lm_fir {X : CX} {d : Nat} {g : Mem} {K : Int → Mem → Prop} {u : PV} {v : LV} (hB : MB g u v)  (hwy : ∀ q : Nat, q ≤ Ln v → g 176 q = (wayT u v (Ln v) q : Int)) : ∀ (k p : Nat) (row : Int) (y : Option VV), p ≤ Ln v → Ln v ≤ p + k → 0 < wayT u v (Ln v) p → K (frF u v k p row) g → AJ X (d + 2) mX11_firstOf 0 0 (QI Z0 K) 0 0 13 [some (vr 166), some (vi row), some (vi (p : Int)), y] [] Z0 g := by
  obtain ⟨hQ, hU, hC, hW⟩ := id hB
  obtain ⟨hy, hi, hc, ht, ho, hf, hw_⟩ := id hC
  obtain ⟨w0, w1, w2, w3, w4, w5, w6, w7⟩ := id hW
  obtain ⟨p6, p7, p8, p9, p10, pk, pg, px, py⟩ := id hQ
  obtain ⟨u0, u1, u2, u3, u4, u5, u6, u7⟩ := id hU
  intro k
  induction k with
  | zero =>
    intro p row y hp hk hw h
    refine r_iload_n (pc' := 14) dX11_firstOf_13 rfl rfl ?_
    refine r_aload_n (pc' := 15) dX11_firstOf_14 rfl rfl ?_
    refine r_getr (pc' := 18) dX11_firstOf_15 rfl fX11_19 z166 rfl ?_
    refine r_iconst (pc' := 19) dX11_firstOf_18 rfl ?_
    refine r_iaload (pc' := 20) dX11_firstOf_19 rfl z170 (by decide) (by omega) (by omega) hc ?_
    refine r_icmp_ge (tgt := 75) (pc' := 23) dX11_firstOf_20 rfl rfl (by omega) (by omega) (fun c20 => ?_) (fun c20 => ?_)
    · refine r_iload_n (pc' := 76) dX11_firstOf_75 rfl rfl ?_
      refine r_reti dX11_firstOf_76 rfl (Or.inl rfl) ?_
      exact h
    · exact absurd c20 (by omega)
  | succ k ih =>
    intro p row y hp hk hw h
    unfold frF at h
    refine r_iload_n (pc' := 14) dX11_firstOf_13 rfl rfl ?_
    refine r_aload_n (pc' := 15) dX11_firstOf_14 rfl rfl ?_
    refine r_getr (pc' := 18) dX11_firstOf_15 rfl fX11_19 z166 rfl ?_
    refine r_iconst (pc' := 19) dX11_firstOf_18 rfl ?_
    refine r_iaload (pc' := 20) dX11_firstOf_19 rfl z170 (by decide) (by omega) (by omega) hc ?_
    refine r_icmp_ge (tgt := 75) (pc' := 23) dX11_firstOf_20 rfl rfl (by omega) (by omega) (fun c20 => ?_) (fun c20 => ?_)
    · refine r_iload_n (pc' := 76) dX11_firstOf_75 rfl rfl ?_
      refine r_reti dX11_firstOf_76 rfl (Or.inl rfl) ?_
      rw [if_neg (by omega)] at h
      exact h
    · refine r_iconst (pc' := 24) dX11_firstOf_23 rfl ?_
      refine r_istore_n (pc' := 25) dX11_firstOf_24 rfl rfl ?_
      have hne : fwO u v p (Pw u) 0 ≠ -1 := by
        intro hn
        obtain ⟨x, x1, x2, x3⟩ := wayT_pos hU (by omega) hw
        exact fwO_no (Pw u) 0 hn x (by omega) (by omega) x2 x3
      obtain ⟨b4, b5, hbg⟩ := (fwO_b (u := u) (v := v) (p := p) (Pw u) 0).2.2 hne
      have hww := fwO_w (Pw u) 0 hne
      have hbl := begB_le hbg
      have hpl := u6 (fwO u v p (Pw u) 0).toNat (by omega)
      rw [if_pos (by omega), if_neg hne] at h
      refine lm_firI hB hwy (by omega) (Pw u) 0 (by omega) hne ?_
      refine r_bipush (pc' := 57) dX11_firstOf_55 rfl (by decide) ?_
      refine r_iload_n (pc' := 58) dX11_firstOf_57 rfl rfl ?_
      refine r_imul (pc' := 59) dX11_firstOf_58 rfl ?_
      refine r_iload_n (pc' := 60) dX11_firstOf_59 rfl rfl ?_
      refine r_iadd (pc' := 61) dX11_firstOf_60 rfl ?_
      refine r_iconst (pc' := 62) dX11_firstOf_61 rfl ?_
      refine r_iadd (pc' := 63) dX11_firstOf_62 rfl ?_
      refine r_istore_n (pc' := 64) dX11_firstOf_63 rfl rfl ?_
      refine r_iload_n (pc' := 65) dX11_firstOf_64 rfl rfl ?_
      refine r_aload_n (pc' := 66) dX11_firstOf_65 rfl rfl ?_
      refine r_iload_n (pc' := 67) dX11_firstOf_66 rfl rfl ?_
      refine r_vi1 (pc' := 70) dX11_firstOf_67 rfl qX11_longOf lX11_125 z166 rfl rfl rfl rfl (Nat.zero_le _) (Nat.zero_le _) (m_longI hB (by omega) (by omega) ?_)
      refine r_iadd (pc' := 71) dX11_firstOf_70 rfl ?_
      refine r_istore_n (pc' := 72) dX11_firstOf_71 rfl rfl ?_
      refine r_goto (tgt := 13) dX11_firstOf_72 rfl ?_
      refine ih (p + Pl u (fwO u v p (Pw u) 0).toNat) _ _ hbl (by omega) hww ?_
      rw [show (10 : Int) * row + (fwO u v p (Pw u) 0) + 1 = row * 10 + (fwO u v p (Pw u) 0) + 1 by omega]
      exact h
theorem m_first {X : CX} {d : Nat} {g : Mem} {K : Int → Mem → Prop} {u : PV} {v : LV} (hB : MB g u v) (h : ∀ g' : Mem, Fr [176] g g' → K (firstN u v) g') : EI X (d + 3) mX11_firstOf [vr 166] Z0 g K := by
  show AJ X (d + 3) mX11_firstOf 0 0 (QI Z0 K) 0 0 0 [some (vr 166), none, none, none] [] Z0 g
  obtain ⟨hQ, hU, hC, hW⟩ := id hB
  obtain ⟨hy, hi, hc, ht, ho, hf, hw_⟩ := id hC
  obtain ⟨w0, w1, w2, w3, w4, w5, w6, w7⟩ := id hW
  obtain ⟨p6, p7, p8, p9, p10, pk, pg, px, py⟩ := id hQ
  obtain ⟨u0, u1, u2, u3, u4, u5, u6, u7⟩ := id hU
  have wb := wayT_le hU v (Ln v) 0
  have wb2 : 6 ^ Ln v ≤ 6 ^ 7 := Nat.pow_le_pow_right (by decide) w1
  refine r_aload_n (pc' := 1) dX11_firstOf_0 rfl rfl ?_
  refine r_vi0 (pc' := 4) dX11_firstOf_1 rfl qX11_readings lX11_132 z166 rfl rfl rfl (Nat.zero_le _) (Nat.zero_le _) (m_readings hB (fun g1 h1 f1 => ?_))
  have h9 := h g1 f1
  unfold firstN at h9
  unfold readN at h9 ⊢
  refine r_if_ne (tgt := 9) (pc' := 7) dX11_firstOf_4 rfl rfl (by omega) (fun c4 => ?_) (fun c4 => ?_)
  · refine r_iconst (pc' := 10) dX11_firstOf_9 rfl ?_
    refine r_istore_n (pc' := 11) dX11_firstOf_10 rfl rfl ?_
    refine r_iconst (pc' := 12) dX11_firstOf_11 rfl ?_
    refine r_istore_n (pc' := 13) dX11_firstOf_12 rfl rfl ?_
    rw [if_neg (by omega)] at h9
    exact lm_fir (hB.fr (f1 168 (by decide)) (f1 170 (by decide))) h1 7 0 0 none (by omega) (by omega) (by omega) h9
  · refine r_iconst (pc' := 8) dX11_firstOf_7 rfl ?_
    refine r_reti dX11_firstOf_8 rfl (Or.inl rfl) ?_
    rw [if_pos (by omega)] at h9
    exact h9
