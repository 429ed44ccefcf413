def mpB (g : Mem) (c c' : Nat) (φ : Int → Int) (b' : Int) (n : Nat) : Mem := fun j q => if j = c' ∧ b' ≤ q ∧ q < b' + n then g c (φ (q - b')) else g j q
theorem mpB_0 (g : Mem) (c c' : Nat) (φ : Int → Int) (b' : Int) : mpB g c c' φ b' 0 = g := by
  funext j q
  unfold mpB
  rw [if_neg (by omega)]
theorem mpB_succ {g : Mem} {c c' : Nat} {φ : Int → Int} {b' : Int} {n : Nat} {j x : Int} (hj : j = b' + n) (hx : x = g c (φ n)) : mu (mpB g c c' φ b' n) c' j x = mpB g c c' φ b' (n + 1) := by
  funext i q
  subst hj
  subst hx
  unfold mu mpB
  by_cases h : i = c' ∧ q = b' + n
  · rw [if_pos h, if_pos ⟨h.1, by omega, by omega⟩, show q - b' = n by omega]
  · rw [if_neg h]
    by_cases h2 : i = c' ∧ b' ≤ q ∧ q < b' + n
    · rw [if_pos h2, if_pos ⟨h2.1, by omega, by omega⟩]
    · rw [if_neg h2, if_neg (by rintro ⟨h3, h4, h5⟩; exact h2 ⟨h3, h4, by have : ¬ q = b' + n := fun e => h ⟨h3, e⟩; omega⟩)]
theorem mpB_off {g : Mem} {c c' : Nat} {φ : Int → Int} {b' : Int} {n j : Nat} (h : j ≠ c') : mpB g c c' φ b' n j = g j := by
  funext q
  unfold mpB
  rw [if_neg (fun e => h e.1)]
theorem mpB_at {g : Mem} {c c' : Nat} {φ : Int → Int} {b' : Int} {n : Nat} {q : Int} (h1 : b' ≤ q) (h2 : q < b' + n) : mpB g c c' φ b' n c' q = g c (φ (q - b')) := by
  unfold mpB
  rw [if_pos ⟨rfl, h1, h2⟩]
theorem mpB_out {g : Mem} {c c' : Nat} {φ : Int → Int} {b' : Int} {n : Nat} {q : Int} (h : q < b' ∨ b' + n ≤ q) : mpB g c c' φ b' n c' q = g c' q := by
  unfold mpB
  rw [if_neg (by omega)]
theorem lm_turnA {X : CX} {d : Nat} {g : Mem} {K : Int → Mem → Prop} {kN : Nat} (h7 : kN ≤ 7) (hk : ∀ y : Option VV, AJ X (d + 1) mX11_turn 0 0 (QI Z0 K) 0 0 48 [some (vr 166), some (vi (kN : Int)), y] [] Z0 (cpB g 170 177 4 0 kN)) : ∀ (k i : Nat), i + k = kN → AJ X (d + 1) mX11_turn 0 0 (QI Z0 K) 0 0 23 [some (vr 166), some (vi (kN : Int)), some (vi (i : Int))] [] Z0 (cpB g 170 177 4 0 i) := by
  intro k
  induction k with
  | zero =>
    intro i hi
    have e : i = kN := by omega
    subst e
    refine r_iload_n (pc' := 24) dX11_turn_23 rfl rfl ?_
    refine r_iload_n (pc' := 25) dX11_turn_24 rfl rfl ?_
    refine r_icmp_ge (tgt := 48) (pc' := 28) dX11_turn_25 rfl rfl (by omega) (by omega) (fun c25 => ?_) (fun c25 => ?_)
    · exact hk _
    · exact absurd c25 (by omega)
  | succ k ih =>
    intro i hi
    refine r_iload_n (pc' := 24) dX11_turn_23 rfl rfl ?_
    refine r_iload_n (pc' := 25) dX11_turn_24 rfl rfl ?_
    refine r_icmp_ge (tgt := 48) (pc' := 28) dX11_turn_25 rfl rfl (by omega) (by omega) (fun c25 => ?_) (fun c25 => ?_)
    · exact absurd c25 (by omega)
    · refine r_aload_n (pc' := 29) dX11_turn_28 rfl rfl ?_
      refine r_getr (pc' := 32) dX11_turn_29 rfl fX11_45 z166 rfl ?_
      refine r_iload_n (pc' := 33) dX11_turn_32 rfl rfl ?_
      refine r_aload_n (pc' := 34) dX11_turn_33 rfl rfl ?_
      refine r_getr (pc' := 37) dX11_turn_34 rfl fX11_19 z166 rfl ?_
      refine r_iconst (pc' := 38) dX11_turn_37 rfl ?_
      refine r_iload_n (pc' := 39) dX11_turn_38 rfl rfl ?_
      refine r_iadd (pc' := 40) dX11_turn_39 rfl ?_
      refine r_iaload (pc' := 41) (x := g 170 (4 + (i : Int))) dX11_turn_40 rfl z170 (by decide) (by omega) (by omega) (by rw [cpB_off (by decide)]) ?_
      refine r_iastore (pc' := 42) (g' := (cpB g 170 177 4 0 (i + 1))) dX11_turn_41 rfl z177 (by decide) (by omega) (by omega) (cpB_succ (by omega) rfl) ?_
      refine r_iinc (pc' := 45) dX11_turn_42 rfl rfl rfl ?_
      refine r_goto (tgt := 23) dX11_turn_45 rfl ?_
      exact ih (i + 1) (by omega)
theorem lm_turnB {X : CX} {d : Nat} {g : Mem} {K : Int → Mem → Prop} {kN : Nat} (h7 : kN ≤ 7) (hk : ∀ y : Option VV, AJ X (d + 1) mX11_turn 0 0 (QI Z0 K) 0 0 79 [some (vr 166), some (vi (kN : Int)), y] [] Z0 (mpB g 177 170 (fun t => (kN : Int) - 1 - t) 4 kN)) : ∀ (k i : Nat), i + k = kN → AJ X (d + 1) mX11_turn 0 0 (QI Z0 K) 0 0 50 [some (vr 166), some (vi (kN : Int)), some (vi (i : Int))] [] Z0 (mpB g 177 170 (fun t => (kN : Int) - 1 - t) 4 i) := by
  intro k
  induction k with
  | zero =>
    intro i hi
    have e : i = kN := by omega
    subst e
    refine r_iload_n (pc' := 51) dX11_turn_50 rfl rfl ?_
    refine r_iload_n (pc' := 52) dX11_turn_51 rfl rfl ?_
    refine r_icmp_ge (tgt := 79) (pc' := 55) dX11_turn_52 rfl rfl (by omega) (by omega) (fun c52 => ?_) (fun c52 => ?_)
    · exact hk _
    · exact absurd c52 (by omega)
  | succ k ih =>
    intro i hi
    refine r_iload_n (pc' := 51) dX11_turn_50 rfl rfl ?_
    refine r_iload_n (pc' := 52) dX11_turn_51 rfl rfl ?_
    refine r_icmp_ge (tgt := 79) (pc' := 55) dX11_turn_52 rfl rfl (by omega) (by omega) (fun c52 => ?_) (fun c52 => ?_)
    · exact absurd c52 (by omega)
    · refine r_aload_n (pc' := 56) dX11_turn_55 rfl rfl ?_
      refine r_getr (pc' := 59) dX11_turn_56 rfl fX11_19 z166 rfl ?_
      refine r_iconst (pc' := 60) dX11_turn_59 rfl ?_
      refine r_iload_n (pc' := 61) dX11_turn_60 rfl rfl ?_
      refine r_iadd (pc' := 62) dX11_turn_61 rfl ?_
      refine r_aload_n (pc' := 63) dX11_turn_62 rfl rfl ?_
      refine r_getr (pc' := 66) dX11_turn_63 rfl fX11_45 z166 rfl ?_
      refine r_iload_n (pc' := 67) dX11_turn_66 rfl rfl ?_
      refine r_iconst (pc' := 68) dX11_turn_67 rfl ?_
      refine r_isub (pc' := 69) dX11_turn_68 rfl ?_
      refine r_iload_n (pc' := 70) dX11_turn_69 rfl rfl ?_
      refine r_isub (pc' := 71) dX11_turn_70 rfl ?_
      refine r_iaload (pc' := 72) (x := g 177 ((kN : Int) - 1 - (i : Int))) dX11_turn_71 rfl z177 (by decide) (by omega) (by omega) (by rw [mpB_off (by decide)]) ?_
      refine r_iastore (pc' := 73) (g' := (mpB g 177 170 (fun t => (kN : Int) - 1 - t) 4 (i + 1))) dX11_turn_72 rfl z170 (by decide) (by omega) (by omega) (mpB_succ (by omega) rfl) ?_
      refine r_iinc (pc' := 76) dX11_turn_73 rfl rfl rfl ?_
      refine r_goto (tgt := 50) dX11_turn_76 rfl ?_
      exact ih (i + 1) (by omega)
theorem M_turn {X : CX} {d : Nat} {g : Mem} {K : Int → Mem → Prop} {tN : Nat} {tX : Nat → Int} {flt : Int} {u : PV} {v : LV} {kn : Nat} {kL : Nat → LV} {im : Nat → Bool × Int × LV} {sd : Int} {ln : Nat} {la : Nat → Nat} {lr : Nat → Bool} {bn : Nat} {bp : Nat → Nat} {bf : Nat → Int} (hM : MS g tN tX flt u v kn kL im sd ln la lr bn bp bf) (hS : WS tN tX flt u v kn kL im sd ln la lr bn bp bf) (k : Int) (hk0 : R32 k) (h : ∀ g' : Mem, MS g' tN tX flt u (if 2 ≤ k ∧ k ≤ Ln v then turnV v k.toNat else v) (if 2 ≤ k ∧ k ≤ Ln v then pN kn else kn) (if 2 ≤ k ∧ k ≤ Ln v then pL kn kL v else kL) im sd ln la lr bn bp bf → FrM g g' → K (E_turn v k) g') : EI X (d + 1) mX11_turn [vr 166, vi k] Z0 g K := by
  show AJ X (d + 1) mX11_turn 0 0 (QI Z0 K) 0 0 0 [some (vr 166), some (vi k), none] [] Z0 g
  obtain ⟨⟨m1, m2⟩, m3, m4, m5, ⟨m6, m7⟩, m8, m9, ⟨m10, m11⟩, ⟨m12, m13⟩⟩ := id hM
  obtain ⟨⟨s1, s2⟩, s3, s4, s5, ⟨s6, s7⟩, s8, ⟨s9, s10⟩, ⟨s11, s12⟩, ⟨s13, s14⟩⟩ := id hS
  have hB : MB g u v := ⟨m4, s4, m5, s5⟩
  obtain ⟨hQ, hU, hC, hW⟩ := id hB
  obtain ⟨hy, hi, hc, ht, ho, hf, hw_⟩ := id hC
  obtain ⟨w0, w1, w2, w3, w4, w5, w6, w7⟩ := id hW
  obtain ⟨p6, p7, p8, p9, p10, pk, pg, px, py⟩ := id hQ
  obtain ⟨u0, u1, u2, u3, u4, u5, u6, u7⟩ := id hU
  refine r_iload_n (pc' := 1) dX11_turn_0 rfl rfl ?_
  refine r_iconst (pc' := 2) dX11_turn_1 rfl ?_
  refine r_aload_n (pc' := 3) dX11_turn_2 rfl rfl ?_
  refine r_getr (pc' := 6) dX11_turn_3 rfl fX11_19 z166 rfl ?_
  refine r_iconst (pc' := 7) dX11_turn_6 rfl ?_
  refine r_iaload (pc' := 8) dX11_turn_7 rfl z170 (by decide) (by omega) (by omega) hc ?_
  refine r_si3 (pc' := 11) dX11_turn_8 rfl qX11_in lX11_67 rfl rfl rfl (Nat.zero_le _) (Nat.zero_le _) (m_in k 2 (Ln v : Int) (by omega) (by omega) (by omega) ?_)
  refine r_if_ne (tgt := 17) (pc' := 14) dX11_turn_11 rfl rfl (b01_R _) (fun c11 => ?_) (fun c11 => ?_)
  · have hd11 := of_decide_eq_true (b01_ne c11)
    obtain ⟨kN, rfl⟩ : ∃ kN : Nat, k = (kN : Int) := ⟨k.toNat, by omega⟩
    refine r_aload_n (pc' := 18) dX11_turn_17 rfl rfl ?_
    refine r_vv0 (pc' := 21) dX11_turn_18 rfl qX11_keeps lX11_163 z166 rfl rfl rfl (Nat.zero_le _) (Nat.zero_le _) (m_keeps hM hS (fun g1 hM1 fm1 => ?_))
    obtain ⟨⟨k1, k2⟩, k3, k4, k5, ⟨k6, k7⟩, k8, k9, ⟨k10, k11⟩, ⟨k12, k13⟩⟩ := id hM1
    have hB1 : MB g1 u v := ⟨k4, s4, k5, s5⟩
    obtain ⟨jy, ji, jc, jt, jo, jf, jw⟩ := id k5
    refine r_iconst (pc' := 22) dX11_turn_21 rfl ?_
    refine r_istore_n (pc' := 23) dX11_turn_22 rfl rfl ?_
    have tl : ∀ y : Option VV, AJ X (d + 1) mX11_turn 0 0 (QI Z0 K) 0 0 48 [some (vr 166), some (vi (kN : Int)), y] [] Z0 (cpB g1 170 177 4 0 kN) := fun y => by
      refine r_iconst (pc' := 49) dX11_turn_48 rfl ?_
      refine r_istore_n (pc' := 50) dX11_turn_49 rfl rfl ?_
      have hl : LSr (mpB (cpB g1 170 177 4 0 kN) 177 170 (fun t => (kN : Int) - 1 - t) 4 kN) (turnV v kN) := by
        have out_ : ∀ q : Int, q < 4 ∨ 4 + (kN : Int) ≤ q → (mpB (cpB g1 170 177 4 0 kN) 177 170 (fun t => (kN : Int) - 1 - t) 4 kN) 170 q = g1 170 q := fun q hq => by rw [mpB_out hq, cpB_off (by decide)]
        refine ⟨by rw [out_ 0 (by omega)]; exact jy, by rw [out_ 1 (by omega)]; exact ji, by rw [out_ 2 (by omega)]; exact jc, by rw [out_ 3 (by omega)]; exact jt, fun p hp => ?_, fun p hp => by rw [out_ _ (by omega)]; exact jf p hp, fun p hp => by rw [out_ _ (by omega)]; exact jw p hp⟩
        have hp1 : p < Ln v := hp
        show _ = (((if p < kN then Lo v (kN - 1 - p) else Lo v p) : Nat) : Int)
        by_cases hk : p < kN
        · rw [if_pos hk, mpB_at (by omega) (by omega), cpB_at (by omega) (by omega), show (4 : Int) + ((kN : Int) - 1 - (4 + (p : Int) - 4) - 0) = 4 + ((kN - 1 - p : Nat) : Int) by omega]
          exact jo _ (by omega)
        · rw [if_neg hk, out_ _ (by omega)]
          exact jo p hp1
      have tl : ∀ y : Option VV, AJ X (d + 1) mX11_turn 0 0 (QI Z0 K) 0 0 79 [some (vr 166), some (vi (kN : Int)), y] [] Z0 (mpB (cpB g1 170 177 4 0 kN) 177 170 (fun t => (kN : Int) - 1 - t) 4 kN) := fun y => by
        refine r_aload_n (pc' := 80) dX11_turn_79 rfl rfl ?_
        refine r_getr (pc' := 83) dX11_turn_80 rfl fX11_19 z166 rfl ?_
        refine r_iconst (pc' := 84) dX11_turn_83 rfl ?_
        refine r_iaload (pc' := 85) (x := (Lo v ((kN : Int).toNat - 1) : Int)) dX11_turn_84 rfl z170 (by decide) (by omega) (by omega) (by rw [mpB_at (by decide) (by omega), cpB_at (by omega) (by omega), show (4 : Int) + ((kN : Int) - 1 - (4 - 4) - 0) = 4 + ((kN - 1 : Nat) : Int) by omega]; exact jo _ (by omega)) ?_
        refine r_reti dX11_turn_85 rfl (Or.inl rfl) ?_
        have hok : 2 ≤ (kN : Int) ∧ (kN : Int) ≤ Ln v := by omega
        have hfj : ∀ j, j ≠ 170 → j ≠ 177 → (mpB (cpB g1 170 177 4 0 kN) 177 170 (fun t => (kN : Int) - 1 - t) 4 kN) j = g1 j := fun j a b => by rw [mpB_off a, cpB_off b]
        have h9 := h _ (by simp only [if_pos hok]; exact hM1.line hl (fun j _ a b => hfj j a b)) (fm1.tr (FrM.line hfj))
        unfold E_turn at h9
        rw [if_pos hok] at h9
        exact h9
      have e0 := lm_turnB (X := X) (d := d) (K := K) (g := (cpB g1 170 177 4 0 kN)) (kN := kN) (by omega) tl (kN) 0 (by omega)
      rw [mpB_0] at e0
      exact e0
    have e0 := lm_turnA (X := X) (d := d) (K := K) (g := g1) (kN := kN) (by omega) tl (kN) 0 (by omega)
    rw [cpB_0] at e0
    exact e0
  · have hd11 := of_decide_eq_false (b01_eq c11)
    refine r_ldc (z := -1000000002) (pc' := 16) dX11_turn_14 rfl kX11_71 ?_
    refine r_reti dX11_turn_16 rfl (Or.inl rfl) ?_
    have hno : ¬ (2 ≤ k ∧ k ≤ Ln v) := by omega
    have h9 := h g (by simp only [if_neg hno]; exact hM) (FrM.rf g)
    unfold E_turn at h9
    rw [if_neg hno] at h9
    exact h9
theorem lm_cutsA {X : CX} {d : Nat} {g : Mem} {K : Mem → Prop} {w n : Nat} (h7 : n ≤ 7) (hy : w < n) (hk : ∀ y : Option VV, AJ X (d) mX11_cuts 0 0 (QV Z0 K) 0 0 38 [some (vr 166), some (vi (w : Int)), some (vi (n : Int)), y] [] Z0 (mpB g 170 177 (fun t => 4 + (t + (w : Int)) % (n : Int)) 0 n)) : ∀ (k i : Nat), i + k = n → AJ X (d) mX11_cuts 0 0 (QV Z0 K) 0 0 9 [some (vr 166), some (vi (w : Int)), some (vi (n : Int)), some (vi (i : Int))] [] Z0 (mpB g 170 177 (fun t => 4 + (t + (w : Int)) % (n : Int)) 0 i) := by
  intro k
  induction k with
  | zero =>
    intro i hi
    have e : i = n := by omega
    subst e
    refine r_iload_n (pc' := 10) dX11_cuts_9 rfl rfl ?_
    refine r_iload_n (pc' := 11) dX11_cuts_10 rfl rfl ?_
    refine r_icmp_ge (tgt := 38) (pc' := 14) dX11_cuts_11 rfl rfl (by omega) (by omega) (fun c11 => ?_) (fun c11 => ?_)
    · exact hk _
    · exact absurd c11 (by omega)
  | succ k ih =>
    intro i hi
    refine r_iload_n (pc' := 10) dX11_cuts_9 rfl rfl ?_
    refine r_iload_n (pc' := 11) dX11_cuts_10 rfl rfl ?_
    refine r_icmp_ge (tgt := 38) (pc' := 14) dX11_cuts_11 rfl rfl (by omega) (by omega) (fun c11 => ?_) (fun c11 => ?_)
    · exact absurd c11 (by omega)
    · refine r_aload_n (pc' := 15) dX11_cuts_14 rfl rfl ?_
      refine r_getr (pc' := 18) dX11_cuts_15 rfl fX11_45 z166 rfl ?_
      refine r_iload_n (pc' := 19) dX11_cuts_18 rfl rfl ?_
      refine r_aload_n (pc' := 20) dX11_cuts_19 rfl rfl ?_
      refine r_getr (pc' := 23) dX11_cuts_20 rfl fX11_19 z166 rfl ?_
      refine r_iconst (pc' := 24) dX11_cuts_23 rfl ?_
      refine r_iload_n (pc' := 25) dX11_cuts_24 rfl rfl ?_
      refine r_iload_n (pc' := 26) dX11_cuts_25 rfl rfl ?_
      refine r_iadd (pc' := 27) dX11_cuts_26 rfl ?_
      refine r_iload_n (pc' := 28) dX11_cuts_27 rfl rfl ?_
      refine r_irem (pc' := 29) dX11_cuts_28 rfl (by omega) (by omega) (by omega) ?_
      refine r_iadd (pc' := 30) dX11_cuts_29 rfl ?_
      refine r_iaload (pc' := 31) (x := g 170 (4 + ((i : Int) + (w : Int)) % (n : Int))) dX11_cuts_30 rfl z170 (by decide) (by have := Int.tmod_nonneg (n : Int) (show 0 ≤ (i : Int) + (w : Int) by omega); omega) (by have := Int.tmod_lt_of_pos ((i : Int) + (w : Int)) (show 0 < (n : Int) by omega); omega) (by rw [mpB_off (by decide), Int.tmod_eq_emod_of_nonneg (by omega)]) ?_
      refine r_iastore (pc' := 32) (g' := (mpB g 170 177 (fun t => 4 + (t + (w : Int)) % (n : Int)) 0 (i + 1))) dX11_cuts_31 rfl z177 (by decide) (by omega) (by omega) (mpB_succ (by omega) rfl) ?_
      refine r_iinc (pc' := 35) dX11_cuts_32 rfl rfl rfl ?_
      refine r_goto (tgt := 9) dX11_cuts_35 rfl ?_
      exact ih (i + 1) (by omega)
theorem lm_cutsB {X : CX} {d : Nat} {g : Mem} {K : Mem → Prop} {w n : Nat} (h7 : n ≤ 7) (hk : ∀ y : Option VV, AJ X (d) mX11_cuts 0 0 (QV Z0 K) 0 0 65 [some (vr 166), some (vi (w : Int)), some (vi (n : Int)), y] [] Z0 (cpB g 177 170 0 4 n)) : ∀ (k i : Nat), i + k = n → AJ X (d) mX11_cuts 0 0 (QV Z0 K) 0 0 40 [some (vr 166), some (vi (w : Int)), some (vi (n : Int)), some (vi (i : Int))] [] Z0 (cpB g 177 170 0 4 i) := by
  intro k
  induction k with
  | zero =>
    intro i hi
    have e : i = n := by omega
    subst e
    refine r_iload_n (pc' := 41) dX11_cuts_40 rfl rfl ?_
    refine r_iload_n (pc' := 42) dX11_cuts_41 rfl rfl ?_
    refine r_icmp_ge (tgt := 65) (pc' := 45) dX11_cuts_42 rfl rfl (by omega) (by omega) (fun c42 => ?_) (fun c42 => ?_)
    · exact hk _
    · exact absurd c42 (by omega)
  | succ k ih =>
    intro i hi
    refine r_iload_n (pc' := 41) dX11_cuts_40 rfl rfl ?_
    refine r_iload_n (pc' := 42) dX11_cuts_41 rfl rfl ?_
    refine r_icmp_ge (tgt := 65) (pc' := 45) dX11_cuts_42 rfl rfl (by omega) (by omega) (fun c42 => ?_) (fun c42 => ?_)
    · exact absurd c42 (by omega)
    · refine r_aload_n (pc' := 46) dX11_cuts_45 rfl rfl ?_
      refine r_getr (pc' := 49) dX11_cuts_46 rfl fX11_19 z166 rfl ?_
      refine r_iconst (pc' := 50) dX11_cuts_49 rfl ?_
      refine r_iload_n (pc' := 51) dX11_cuts_50 rfl rfl ?_
      refine r_iadd (pc' := 52) dX11_cuts_51 rfl ?_
      refine r_aload_n (pc' := 53) dX11_cuts_52 rfl rfl ?_
      refine r_getr (pc' := 56) dX11_cuts_53 rfl fX11_45 z166 rfl ?_
      refine r_iload_n (pc' := 57) dX11_cuts_56 rfl rfl ?_
      refine r_iaload (pc' := 58) (x := g 177 (0 + (i : Int))) dX11_cuts_57 rfl z177 (by decide) (by omega) (by omega) (by rw [cpB_off (by decide), Int.zero_add]) ?_
      refine r_iastore (pc' := 59) (g' := (cpB g 177 170 0 4 (i + 1))) dX11_cuts_58 rfl z170 (by decide) (by omega) (by omega) (cpB_succ rfl rfl) ?_
      refine r_iinc (pc' := 62) dX11_cuts_59 rfl rfl rfl ?_
      refine r_goto (tgt := 40) dX11_cuts_62 rfl ?_
      exact ih (i + 1) (by omega)
theorem m_cuts {X : CX} {d : Nat} {g : Mem} {K : Mem → Prop} {u : PV} {v : LV} (hB : MB g u v) {w : Nat} (hyn : w < Ln v) (h : ∀ g' : Mem, LSr g' (cutV v w) → (∀ j, j ≠ 170 → j ≠ 177 → g' j = g j) → K g') : EV X (d) mX11_cuts [vr 166, vi (w : Int)] Z0 g K := by
  show AJ X (d) mX11_cuts 0 0 (QV Z0 K) 0 0 0 [some (vr 166), some (vi (w : Int)), none, none] [] Z0 g
  obtain ⟨hQ, hU, hC, hW⟩ := id hB
  obtain ⟨hy, hi, hc, ht, ho, hf, hw_⟩ := id hC
  obtain ⟨w0, w1, w2, w3, w4, w5, w6, w7⟩ := id hW
  obtain ⟨p6, p7, p8, p9, p10, pk, pg, px, py⟩ := id hQ
  obtain ⟨u0, u1, u2, u3, u4, u5, u6, u7⟩ := id hU
  refine r_aload_n (pc' := 1) dX11_cuts_0 rfl rfl ?_
  refine r_getr (pc' := 4) dX11_cuts_1 rfl fX11_19 z166 rfl ?_
  refine r_iconst (pc' := 5) dX11_cuts_4 rfl ?_
  refine r_iaload (pc' := 6) dX11_cuts_5 rfl z170 (by decide) (by omega) (by omega) hc ?_
  refine r_istore_n (pc' := 7) dX11_cuts_6 rfl rfl ?_
  refine r_iconst (pc' := 8) dX11_cuts_7 rfl ?_
  refine r_istore_n (pc' := 9) dX11_cuts_8 rfl rfl ?_
  have tl : ∀ y2 : Option VV, AJ X (d) mX11_cuts 0 0 (QV Z0 K) 0 0 38 [some (vr 166), some (vi (w : Int)), some (vi (Ln v : Int)), y2] [] Z0 (mpB g 170 177 (fun t => 4 + (t + (w : Int)) % ((Ln v : Nat) : Int)) 0 (Ln v)) := fun y2 => by
    refine r_iconst (pc' := 39) dX11_cuts_38 rfl ?_
    refine r_istore_n (pc' := 40) dX11_cuts_39 rfl rfl ?_
    have tl : ∀ y2 : Option VV, AJ X (d) mX11_cuts 0 0 (QV Z0 K) 0 0 65 [some (vr 166), some (vi (w : Int)), some (vi (Ln v : Int)), y2] [] Z0 (cpB (mpB g 170 177 (fun t => 4 + (t + (w : Int)) % ((Ln v : Nat) : Int)) 0 (Ln v)) 177 170 0 4 (Ln v)) := fun y2 => by
      refine r_retn dX11_cuts_65 rfl ?_
      have out_ : ∀ q : Int, q < 4 ∨ 4 + (Ln v : Int) ≤ q → (cpB (mpB g 170 177 (fun t => 4 + (t + (w : Int)) % ((Ln v : Nat) : Int)) 0 (Ln v)) 177 170 0 4 (Ln v)) 170 q = g 170 q := fun q hq => by rw [cpB_out hq, mpB_off (by decide)]
      refine h _ ⟨by rw [out_ 0 (by omega)]; exact hy, by rw [out_ 1 (by omega)]; exact hi, by rw [out_ 2 (by omega)]; exact hc, by rw [out_ 3 (by omega)]; exact ht, fun p hp => ?_, fun p hp => by rw [out_ _ (by omega)]; exact hf p hp, fun p hp => by rw [out_ _ (by omega)]; exact hw_ p hp⟩ (fun j a b => by rw [cpB_off a, mpB_off b])
      have hp1 : p < Ln v := hp
      show _ = ((Lo v ((p + w) % Ln v) : Nat) : Int)
      rw [cpB_at (by omega) (by omega), mpB_at (by omega) (by omega), show (0 : Int) + (4 + (p : Int) - 4) - 0 + (w : Int) = ((p + w : Nat) : Int) by omega]
      exact ho _ (Nat.mod_lt _ (by omega))
    have e0 := lm_cutsB (X := X) (d := d) (K := K) (g := (mpB g 170 177 (fun t => 4 + (t + (w : Int)) % ((Ln v : Nat) : Int)) 0 (Ln v))) (w := w) (n := Ln v) (by omega) tl (Ln v) 0 (by omega)
    rw [cpB_0] at e0
    exact e0
  have e0 := lm_cutsA (X := X) (d := d) (K := K) (g := g) (w := w) (n := Ln v) (by omega) hyn tl (Ln v) 0 (by omega)
  rw [mpB_0] at e0
  exact e0
theorem m_cutsI {X : CX} {d : Nat} {g : Mem} {K : Mem → Prop} {u : PV} {v : LV} (hB : MB g u v) {p : Int} (h0 : 0 ≤ p) (hyn : p < Ln v) (h : ∀ g' : Mem, LSr g' (cutV v p.toNat) → (∀ j, j ≠ 170 → j ≠ 177 → g' j = g j) → K g') : EV X d mX11_cuts [vr 166, vi p] Z0 g K := by
  have e := m_cuts (X := X) (d := d) (K := K) hB (w := p.toNat) (by omega) h
  rw [show ((p.toNat : Nat) : Int) = p by omega] at e
  exact e
theorem M_cut {X : CX} {d : Nat} {g : Mem} {K : Int → Mem → Prop} {tN : Nat} {tX : Nat → Int} {flt : Int} {u : PV} {v : LV} {kn : Nat} {kL : Nat → LV} {im : Nat → Bool × Int × LV} {sd : Int} {ln : Nat} {la : Nat → Nat} {lr : Nat → Bool} {bn : Nat} {bp : Nat → Nat} {bf : Nat → Int} (hM : MS g tN tX flt u v kn kL im sd ln la lr bn bp bf) (hS : WS tN tX flt u v kn kL im sd ln la lr bn bp bf) (p : Int) (hk0 : R32 p) (h : ∀ g' : Mem, MS g' tN tX flt u (if 1 ≤ p ∧ p < Ln v then cutV v p.toNat else v) (if 1 ≤ p ∧ p < Ln v then pN kn else kn) (if 1 ≤ p ∧ p < Ln v then pL kn kL v else kL) im sd ln la lr bn bp bf → FrM g g' → K (E_cut v p) g') : EI X (d + 1) mX11_cut [vr 166, vi p] Z0 g K := by
  show AJ X (d + 1) mX11_cut 0 0 (QI Z0 K) 0 0 0 [some (vr 166), some (vi p)] [] Z0 g
  obtain ⟨⟨m1, m2⟩, m3, m4, m5, ⟨m6, m7⟩, m8, m9, ⟨m10, m11⟩, ⟨m12, m13⟩⟩ := id hM
  obtain ⟨⟨s1, s2⟩, s3, s4, s5, ⟨s6, s7⟩, s8, ⟨s9, s10⟩, ⟨s11, s12⟩, ⟨s13, s14⟩⟩ := id hS
  have hB : MB g u v := ⟨m4, s4, m5, s5⟩
  obtain ⟨hQ, hU, hC, hW⟩ := id hB
  obtain ⟨hy, hi, hc, ht, ho, hf, hw_⟩ := id hC
  obtain ⟨w0, w1, w2, w3, w4, w5, w6, w7⟩ := id hW
  obtain ⟨p6, p7, p8, p9, p10, pk, pg, px, py⟩ := id hQ
  obtain ⟨u0, u1, u2, u3, u4, u5, u6, u7⟩ := id hU
  refine r_iload_n (pc' := 1) dX11_cut_0 rfl rfl ?_
  refine r_iconst (pc' := 2) dX11_cut_1 rfl ?_
  refine r_aload_n (pc' := 3) dX11_cut_2 rfl rfl ?_
  refine r_getr (pc' := 6) dX11_cut_3 rfl fX11_19 z166 rfl ?_
  refine r_iconst (pc' := 7) dX11_cut_6 rfl ?_
  refine r_iaload (pc' := 8) dX11_cut_7 rfl z170 (by decide) (by omega) (by omega) hc ?_
  refine r_iconst (pc' := 9) dX11_cut_8 rfl ?_
  refine r_isub (pc' := 10) dX11_cut_9 rfl ?_
  refine r_si3 (pc' := 13) dX11_cut_10 rfl qX11_in lX11_67 rfl rfl rfl (Nat.zero_le _) (Nat.zero_le _) (m_in p 1 ((Ln v : Int) - 1) (by omega) (by omega) (by omega) ?_)
  refine r_if_ne (tgt := 19) (pc' := 16) dX11_cut_13 rfl rfl (b01_R _) (fun c13 => ?_) (fun c13 => ?_)
  · have hd13 := of_decide_eq_true (b01_ne c13)
    refine r_aload_n (pc' := 20) dX11_cut_19 rfl rfl ?_
    refine r_vv0 (pc' := 23) dX11_cut_20 rfl qX11_keeps lX11_163 z166 rfl rfl rfl (Nat.zero_le _) (Nat.zero_le _) (m_keeps hM hS (fun g1 hM1 fm1 => ?_))
    obtain ⟨⟨k1, k2⟩, k3, k4, k5, ⟨k6, k7⟩, k8, k9, ⟨k10, k11⟩, ⟨k12, k13⟩⟩ := id hM1
    have hB1 : MB g1 u v := ⟨k4, s4, k5, s5⟩
    obtain ⟨jy, ji, jc, jt, jo, jf, jw⟩ := id k5
    refine r_aload_n (pc' := 24) dX11_cut_23 rfl rfl ?_
    refine r_iload_n (pc' := 25) dX11_cut_24 rfl rfl ?_
    refine r_vv1 (pc' := 28) dX11_cut_25 rfl qX11_cuts lX11_166 z166 rfl rfl rfl rfl (Nat.zero_le _) (Nat.zero_le _) (m_cutsI hB1 (p := p) (by omega) (by omega) (fun g2 hl2 fr2 => ?_))
    refine r_aload_n (pc' := 29) dX11_cut_28 rfl rfl ?_
    refine r_getr (pc' := 32) dX11_cut_29 rfl fX11_19 z166 rfl ?_
    refine r_iconst (pc' := 33) dX11_cut_32 rfl ?_
    refine r_iaload (pc' := 34) (x := (Lo v p.toNat : Int)) dX11_cut_33 rfl z170 (by decide) (by omega) (by omega) (by have q := hl2.2.2.2.2.1 0 (show 0 < Ln v by omega); have q2 : (Lo (cutV v p.toNat) 0 : Nat) = Lo v p.toNat := (by show Lo v ((0 + p.toNat) % Ln v) = _; rw [Nat.zero_add, Nat.mod_eq_of_lt (by omega)]); rw [q2] at q; exact q) ?_
    refine r_reti dX11_cut_34 rfl (Or.inl rfl) ?_
    have hok : 1 ≤ p ∧ p < Ln v := by omega
    have h9 := h _ (by simp only [if_pos hok]; exact hM1.line hl2 (fun j _ a b => fr2 j a b)) (fm1.tr (FrM.line fr2))
    unfold E_cut at h9
    rw [if_pos hok] at h9
    exact h9
  · have hd13 := of_decide_eq_false (b01_eq c13)
    refine r_ldc (z := -1000000002) (pc' := 18) dX11_cut_16 rfl kX11_71 ?_
    refine r_reti dX11_cut_18 rfl (Or.inl rfl) ?_
    have hno : ¬ (1 ≤ p ∧ p < Ln v) := by omega
    have h9 := h g (by simp only [if_neg hno]; exact hM) (FrM.rf g)
    unfold E_cut at h9
    rw [if_neg hno] at h9
    exact h9
