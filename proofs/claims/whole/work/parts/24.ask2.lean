theorem plF_b {u : PV} {o : Nat → Nat} {wet : Nat} : ∀ (k p : Nat) (x : Int), plF o (Ph u) wet k p x ≤ x
  | 0, _, x => Int.le_refl _
  | k + 1, p, x => by
    unfold plF
    refine Int.le_trans (plF_b k (p + 1) _) ?_
    split <;> omega
theorem l_far {X : CX} {d : Nat} {g : Mem} {K : Int → Mem → Prop} {u : PV} {v : LV} (hB : CB g u v)  (s : Int) (hs0 : 0 ≤ s) (hs1 : s ≤ 99) : ∀ (k p : Nat) (best : Int), p + k = Ln v → K (faF (farC u v s) k p best) g → AJ X (d + 2) mX10_farthest 0 0 (QI Z0 K) 0 0 17 [some (vr 0), some (vi s), some (vi best), some (vi (p : Int))] [] Z0 g := by
  obtain ⟨hQ, hU, hC, hW⟩ := id hB
  obtain ⟨hc, ho, hf, hw_, ht, hi, hy⟩ := id hC
  obtain ⟨w0, w1, w2, w3, w4, w5, w6, w7⟩ := id hW
  obtain ⟨p6, p7, p8, p9, p10, pk, pg, px, py⟩ := id hQ
  obtain ⟨u0, u1, u2, u3, u4, u5, u6, u7⟩ := id hU
  intro k
  induction k with
  | zero =>
    intro p best hp h
    refine r_iload_n (pc' := 18) dX10_farthest_17 rfl rfl ?_
    refine r_aload_n (pc' := 19) dX10_farthest_18 rfl rfl ?_
    refine r_getr (pc' := 22) dX10_farthest_19 rfl fX10_29 z0 rfl ?_
    refine r_getf (pc' := 25) (kI := 3) dX10_farthest_22 rfl fX10_140 isL17.1 rfl rfl hc ?_
    refine r_icmp_ge (tgt := 53) (pc' := 28) dX10_farthest_25 rfl rfl (by omega) (by omega) (fun c25 => ?_) (fun c25 => ?_)
    · refine r_iload_n (pc' := 54) dX10_farthest_53 rfl rfl ?_
      refine r_reti dX10_farthest_54 rfl (Or.inl rfl) ?_
      exact h
    · exact absurd c25 (by omega)
  | succ k ih =>
    intro p best hp h
    have hb := plF_b (u := u) (o := Lo v) (wet := Lt v) (min (Ln v) p) 0 s
    rw [show faF (farC u v s) (k + 1) p best = faF (farC u v s) k (p + 1) (if decide (0 < max 0 (plF (Lo v) (Ph u) (Lt v) (min (Ln v) p) 0 s)) = true then (p : Int) else best) from rfl] at h
    refine r_iload_n (pc' := 18) dX10_farthest_17 rfl rfl ?_
    refine r_aload_n (pc' := 19) dX10_farthest_18 rfl rfl ?_
    refine r_getr (pc' := 22) dX10_farthest_19 rfl fX10_29 z0 rfl ?_
    refine r_getf (pc' := 25) (kI := 3) dX10_farthest_22 rfl fX10_140 isL17.1 rfl rfl hc ?_
    refine r_icmp_ge (tgt := 53) (pc' := 28) dX10_farthest_25 rfl rfl (by omega) (by omega) (fun c25 => ?_) (fun c25 => ?_)
    · exact absurd c25 (by omega)
    · refine r_aload_n (pc' := 29) dX10_farthest_28 rfl rfl ?_
      refine r_getr (pc' := 32) dX10_farthest_29 rfl fX10_29 z0 rfl ?_
      refine r_aload_n (pc' := 33) dX10_farthest_32 rfl rfl ?_
      refine r_getr (pc' := 36) dX10_farthest_33 rfl fX10_23 z0 rfl ?_
      refine r_iload_n (pc' := 37) dX10_farthest_36 rfl rfl ?_
      refine r_iload_n (pc' := 38) dX10_farthest_37 rfl rfl ?_
      refine r_vi3 (pc' := 41) dX10_farthest_38 rfl qX2_pullAt lX10_263 isL17.1 rfl rfl rfl rfl (Nat.zero_le _) (Nat.zero_le _) (a_pullAt isL17 hC hW isP10 hQ hU rfl (by omega) (by omega) (y := p) (by omega) ?_)
      refine r_iconst (pc' := 42) dX10_farthest_41 rfl ?_
      refine r_icmp_lt (tgt := 47) (pc' := 45) dX10_farthest_42 rfl rfl (by omega) (by omega) (fun c42 => ?_) (fun c42 => ?_)
      · refine r_iinc (pc' := 50) dX10_farthest_47 rfl rfl rfl ?_
        refine r_goto (tgt := 17) dX10_farthest_50 rfl ?_
        first | (rw [decide_eq_true (by omega), if_pos rfl] at h; exact ih (p + 1) _ (by omega) h) | (rw [decide_eq_false (by omega), if_neg (by decide)] at h; exact ih (p + 1) _ (by omega) h)
      · refine r_iload_n (pc' := 46) dX10_farthest_45 rfl rfl ?_
        refine r_istore_n (pc' := 47) dX10_farthest_46 rfl rfl ?_
        refine r_iinc (pc' := 50) dX10_farthest_47 rfl rfl rfl ?_
        refine r_goto (tgt := 17) dX10_farthest_50 rfl ?_
        first | (rw [decide_eq_true (by omega), if_pos rfl] at h; exact ih (p + 1) _ (by omega) h) | (rw [decide_eq_false (by omega), if_neg (by decide)] at h; exact ih (p + 1) _ (by omega) h)
theorem C_farthest {X : CX} {d : Nat} {g : Mem} {K : Int → Mem → Prop} {tN : Nat} {tX : Nat → Int} {flt : Int} {u : PV} {v : LV} {kn : Nat} {kL : Nat → LV} {im : Nat → Bool × Int × LV} {sd : Int} {ln : Nat} {la : Nat → Nat} {lr : Nat → Bool} {bn : Nat} {bp : Nat → Nat} {bf : Nat → Int} (hS : CS g tN tX flt u v kn kL im sd ln la lr bn bp bf) (s : Int) (hs : R32 s) (h : ∀ g' : Mem, CS g' tN tX flt u v kn kL im sd ln la lr bn bp bf → FrC g g' → K (E_far u v s) g') : EI X (d + 2) mX10_farthest [vr 0, vi s] Z0 g K := by
  show AJ X (d + 2) mX10_farthest 0 0 (QI Z0 K) 0 0 0 [some (vr 0), some (vi s), none, none] [] Z0 g
  obtain ⟨⟨t1, t2, t3⟩, ⟨f1, f2⟩, hB, ⟨top, hP⟩, hI, ⟨sd1, sd2, sd3⟩, hK, hN⟩ := id hS
  obtain ⟨hQ, hU, hC, hW⟩ := id hB
  obtain ⟨hc, ho, hf, hw_, ht, hi, hy⟩ := id hC
  obtain ⟨w0, w1, w2, w3, w4, w5, w6, w7⟩ := id hW
  obtain ⟨p6, p7, p8, p9, p10, pk, pg, px, py⟩ := id hQ
  obtain ⟨u0, u1, u2, u3, u4, u5, u6, u7⟩ := id hU
  have h9 := h g hS (FrC.rf g)
  unfold E_far at h9
  refine r_iload_n (pc' := 1) dX10_farthest_0 rfl rfl ?_
  refine r_if_lt (tgt := 10) (pc' := 4) dX10_farthest_1 rfl rfl (by omega) (fun c1 => ?_) (fun c1 => ?_)
  · refine r_ldc (z := -1000000002) (pc' := 12) dX10_farthest_10 rfl kX10_86 ?_
    refine r_reti dX10_farthest_12 rfl (Or.inl rfl) ?_
    rw [if_neg (by omega)] at h9
    exact h9
  · refine r_iload_n (pc' := 5) dX10_farthest_4 rfl rfl ?_
    refine r_bipush (pc' := 7) dX10_farthest_5 rfl (by decide) ?_
    refine r_icmp_le (tgt := 13) (pc' := 10) dX10_farthest_7 rfl rfl (by omega) (by omega) (fun c7 => ?_) (fun c7 => ?_)
    · refine r_iconst (pc' := 14) dX10_farthest_13 rfl ?_
      refine r_istore_n (pc' := 15) dX10_farthest_14 rfl rfl ?_
      refine r_iconst (pc' := 16) dX10_farthest_15 rfl ?_
      refine r_istore_n (pc' := 17) dX10_farthest_16 rfl rfl ?_
      rw [if_pos (by omega)] at h9
      exact l_far hB s (by omega) (by omega) (Ln v) 0 (-1) (by omega) h9
    · refine r_ldc (z := -1000000002) (pc' := 12) dX10_farthest_10 rfl kX10_86 ?_
      refine r_reti dX10_farthest_12 rfl (Or.inl rfl) ?_
      rw [if_neg (by omega)] at h9
      exact h9
theorem b_and_R (a b : Int) : R32 (b_and a b) := ⟨Int32.le_toInt _, Int32.toInt_lt _⟩
def plsN (v : LV) (s : Nat) : Nat := orF (fun p => s.testBit (Lo v p)) (fun p => 2 ^ p) (Ln v) 0 0
theorem plsN_lt {F : Nat} {v : LV} (h : LW F v) (s : Nat) : plsN v s < 128 := orF_lt _ _ _ (by decide) (fun q _ hq => by
  have := h.2.1
  have : 2 ^ q ≤ 2 ^ 6 := Nat.pow_le_pow_right (by decide) (by omega)
  omega)
def E_hooked (u : PV) (v : LV) (x : Int) : Int := if 0 ≤ x ∧ x < 2 ^ Pf u then (if difN x.toNat (onN v) = 0 then fwF (fun s => decide (difN (plsN v x.toNat) (hksN u s) = 0)) (2 ^ Pq u) 0 (-1) else -1) else -1000000001
theorem a_placesOfI {X : CX} {d : Nat} {g : Mem} {K : Int → Mem → Prop} {i a f w F : Nat} {v : LV} (hL : isL i a f w) (hC : LC g i a f w v) (hW : LW F v) {s : Int} (h0 : 0 ≤ s) (hs : s < 128) (h : K (plsN v s.toNat : Nat) g) : EI X (d + 1) mX2_placesOf [vr i, vi s] Z0 g K := by
  have e := a_placesOf (X := X) (d := d) (K := K) hL hC hW (s := s.toNat) (by omega) h
  rw [show ((s.toNat : Nat) : Int) = s by omega] at e
  exact e
theorem C_hooked {X : CX} {d : Nat} {g : Mem} {K : Int → Mem → Prop} {tN : Nat} {tX : Nat → Int} {flt : Int} {u : PV} {v : LV} {kn : Nat} {kL : Nat → LV} {im : Nat → Bool × Int × LV} {sd : Int} {ln : Nat} {la : Nat → Nat} {lr : Nat → Bool} {bn : Nat} {bp : Nat → Nat} {bf : Nat → Int} (hS : CS g tN tX flt u v kn kL im sd ln la lr bn bp bf) (x : Int) (hx : R32 x) (h : ∀ g' : Mem, CS g' tN tX flt u v kn kL im sd ln la lr bn bp bf → FrC g g' → K (E_hooked u v x) g') : EI X (d + 4) mX10_hooked [vr 0, vi x] Z0 g K := by
  show AJ X (d + 4) mX10_hooked 0 0 (QI Z0 K) 0 0 0 [some (vr 0), some (vi x)] [] Z0 g
  obtain ⟨⟨t1, t2, t3⟩, ⟨f1, f2⟩, hB, ⟨top, hP⟩, hI, ⟨sd1, sd2, sd3⟩, hK, hN⟩ := id hS
  obtain ⟨hQ, hU, hC, hW⟩ := id hB
  obtain ⟨hc, ho, hf, hw_, ht, hi, hy⟩ := id hC
  obtain ⟨w0, w1, w2, w3, w4, w5, w6, w7⟩ := id hW
  obtain ⟨p6, p7, p8, p9, p10, pk, pg, px, py⟩ := id hQ
  obtain ⟨u0, u1, u2, u3, u4, u5, u6, u7⟩ := id hU
  have h9 := h g hS (FrC.rf g)
  unfold E_hooked at h9
  have hp7 : (2 : Int) ^ Pf u ≤ 128 := by
    have := Nat.pow_le_pow_right (n := 2) (by decide) u2
    have e : ((2 ^ Pf u : Nat) : Int) = (2 : Int) ^ Pf u := by simp
    omega
  refine r_iload_n (pc' := 1) dX10_hooked_0 rfl rfl ?_
  refine r_aload_n (pc' := 2) dX10_hooked_1 rfl rfl ?_
  refine r_getr (pc' := 5) dX10_hooked_2 rfl fX10_23 z0 rfl ?_
  refine r_vi0 (pc' := 8) dX10_hooked_5 rfl qX5_allFlags lX10_267 isP10.1 rfl rfl rfl (Nat.zero_le _) (Nat.zero_le _) (a_allFlags isP10 hQ hU ?_)
  refine r_iconst (pc' := 9) dX10_hooked_8 rfl ?_
  refine r_ixor (pc' := 10) dX10_hooked_9 rfl ?_
  refine r_iand (pc' := 11) dX10_hooked_10 rfl ?_
  refine r_if_eq (tgt := 17) (pc' := 14) dX10_hooked_11 rfl rfl (b_and_R _ _) (fun c11 => ?_) (fun c11 => ?_)
  · have hb := (bitsub hx u2).mp c11
    rw [if_pos hb] at h9
    have ed := dif_n (s := x.toNat) (t := onN v) (by omega)
    rw [show ((x.toNat : Nat) : Int) = x by omega] at ed
    refine r_iload_n (pc' := 18) dX10_hooked_17 rfl rfl ?_
    refine r_aload_n (pc' := 19) dX10_hooked_18 rfl rfl ?_
    refine r_getr (pc' := 22) dX10_hooked_19 rfl fX10_29 z0 rfl ?_
    refine r_vi0 (pc' := 25) dX10_hooked_22 rfl qX2_onSet lX10_141 isL17.1 rfl rfl rfl (Nat.zero_le _) (Nat.zero_le _) (a_onSet isL17 hC hW ?_)
    refine r_iconst (pc' := 26) dX10_hooked_25 rfl ?_
    refine r_ixor (pc' := 27) dX10_hooked_26 rfl ?_
    refine r_iand (pc' := 28) dX10_hooked_27 rfl ?_
    refine r_if_eq (tgt := 33) (pc' := 31) dX10_hooked_28 rfl rfl (b_and_R _ _) (fun c28 => ?_) (fun c28 => ?_)
    · rw [ed] at c28
      rw [if_pos (by omega)] at h9
      refine r_aload_n (pc' := 34) dX10_hooked_33 rfl rfl ?_
      refine r_getr (pc' := 37) dX10_hooked_34 rfl fX10_23 z0 rfl ?_
      refine r_aload_n (pc' := 38) dX10_hooked_37 rfl rfl ?_
      refine r_getr (pc' := 41) dX10_hooked_38 rfl fX10_29 z0 rfl ?_
      refine r_iload_n (pc' := 42) dX10_hooked_41 rfl rfl ?_
      refine r_vi1 (pc' := 45) dX10_hooked_42 rfl qX2_placesOf lX10_270 isL17.1 rfl rfl rfl rfl (Nat.zero_le _) (Nat.zero_le _) (a_placesOfI isL17 hC hW (by omega) (by omega) ?_)
      refine r_vi1 (pc' := 48) dX10_hooked_45 rfl qX5_fewestHooks lX10_273 isP10.1 rfl rfl rfl rfl (Nat.zero_le _) (Nat.zero_le _) (a_fewest isP10 hQ hU (plsN_lt hW _) ?_)
      refine r_reti dX10_hooked_48 rfl (Or.inl rfl) ?_
      exact h9
    · rw [ed] at c28
      rw [if_neg (by omega)] at h9
      refine r_iconst (pc' := 32) dX10_hooked_31 rfl ?_
      refine r_reti dX10_hooked_32 rfl (Or.inl rfl) ?_
      exact h9
  · have hb := fun q => c11 ((bitsub hx u2).mpr q)
    rw [if_neg hb] at h9
    refine r_ldc (z := -1000000001) (pc' := 16) dX10_hooked_14 rfl kX10_177 ?_
    refine r_reti dX10_hooked_16 rfl (Or.inl rfl) ?_
    exact h9
theorem bit1 {f : Nat} (h : f < 7) : b_shl 1 (f : Int) = ((2 ^ f : Nat) : Int) := by
  have : 2 ^ f ≤ 2 ^ 6 := Nat.pow_le_pow_right (by decide) (by omega)
  have := b_shl_n (a := 1) (k := f) (by omega) (by omega)
  rw [Nat.one_mul] at this
  exact this
def gapA (v : LV) (p : Nat) : Nat := if 0 < p then Lo v (p - 1) + 1 else 0
def gapB (u : PV) (v : LV) (p : Nat) : Nat := if p < Ln v then Lo v p else Pf u
def gapQ (u : PV) (v : LV) (p : Nat) : Nat := orF (fun _ => true) (fun f => 2 ^ f) (gapB u v p - gapA v p) (gapA v p) 0 &&& offN u v
def E_gap (u : PV) (v : LV) (p : Int) : Int := if 0 ≤ p ∧ p ≤ Ln v then (gapQ u v p.toNat : Int) else -1000000002
theorem gapA_le {F : Nat} {v : LV} (h : LW F v) {p : Nat} (hp : p ≤ Ln v) : gapA v p ≤ 7 := by
  unfold gapA
  have := h.1
  split
  · have := h.2.2.1 (p - 1) (by omega); omega
  · omega
theorem gapB_le {F : Nat} {u : PV} {v : LV} (hU : PW u) (h : LW F v) (p : Nat) : gapB u v p ≤ 7 := by
  unfold gapB
  have := h.1
  have := hU.2.2.1
  split
  · have := h.2.2.1 p (by omega); omega
  · omega
theorem l_gap {X : CX} {d : Nat} {g : Mem} {K : Int → Mem → Prop} {tN : Nat} {tX : Nat → Int} {flt : Int} {u : PV} {v : LV} {kn : Nat} {kL : Nat → LV} {im : Nat → Bool × Int × LV} {sd : Int} {ln : Nat} {la : Nat → Nat} {lr : Nat → Bool} {bn : Nat} {bp : Nat → Nat} {bf : Nat → Int} (hS : CS g tN tX flt u v kn kL im sd ln la lr bn bp bf) (p above : Int) (A : Nat) (B : Nat) (hb7 : B ≤ 7) (h : ∀ r : Nat, r = orF (fun _ => true) (fun f => 2 ^ f) (B - A) A 0 → K ((r &&& offN u v : Nat) : Int) g) : ∀ (k f acc : Nat), k = B - f → acc < 128 → orF (fun _ => true) (fun f => 2 ^ f) k f acc = orF (fun _ => true) (fun f => 2 ^ f) (B - A) A 0 → f ≤ 7 → AJ X (d + 2) mX10_gap 0 0 (QI Z0 K) 0 0 75 [some (vr 0), some (vi p), some (vi above), some (vi (B : Int)), some (vi (acc : Int)), some (vi (f : Int))] [] Z0 g := by
  intro k
  induction k with
  | zero =>
    intro f acc hk ha he hf
    have e := b_and_n (a := acc) (b := offN u v) (by omega)
    refine r_iload (pc' := 77) dX10_gap_75 rfl rfl ?_
    refine r_iload_n (pc' := 78) dX10_gap_77 rfl rfl ?_
    refine r_icmp_ge (tgt := 96) (pc' := 81) dX10_gap_78 rfl rfl (by omega) (by omega) (fun c78 => ?_) (fun c78 => ?_)
    · refine r_iload (pc' := 98) dX10_gap_96 rfl rfl ?_
      refine r_aload_n (pc' := 99) dX10_gap_98 rfl rfl ?_
      refine r_vi0 (pc' := 102) dX10_gap_99 rfl qX10_offSet lX10_276 z0 rfl rfl rfl (Nat.zero_le _) (Nat.zero_le _) (a_offSet hS ?_)
      refine r_iand (pc' := 103) dX10_gap_102 rfl ?_
      refine r_reti dX10_gap_103 rfl (Or.inl rfl) ?_
      rw [e]
      exact h acc he
    · exact absurd c78 (by omega)
  | succ k ih =>
    intro f acc hk ha he hf
    have h6 : f ≤ 6 := by omega
    have e1 := bit1 (f := f) (by omega)
    have e2 : 2 ^ f < 128 := by
      have : 2 ^ f ≤ 2 ^ 6 := Nat.pow_le_pow_right (by decide) h6
      omega
    have e3 := or_n ha e2
    have e4 : acc ||| 2 ^ f < 128 := Nat.or_lt_two_pow (n := 7) ha e2
    rw [show orF (fun _ => true) (fun f => 2 ^ f) (k + 1) f acc = orF (fun _ => true) (fun f => 2 ^ f) k (f + 1) (acc ||| 2 ^ f) from rfl] at he
    refine r_iload (pc' := 77) dX10_gap_75 rfl rfl ?_
    refine r_iload_n (pc' := 78) dX10_gap_77 rfl rfl ?_
    refine r_icmp_ge (tgt := 96) (pc' := 81) dX10_gap_78 rfl rfl (by omega) (by omega) (fun c78 => ?_) (fun c78 => ?_)
    · exact absurd c78 (by omega)
    · refine r_iload (pc' := 83) dX10_gap_81 rfl rfl ?_
      refine r_iconst (pc' := 84) dX10_gap_83 rfl ?_
      refine r_iload (pc' := 86) dX10_gap_84 rfl rfl ?_
      refine r_ishl (pc' := 87) dX10_gap_86 rfl ?_
      rw [e1]
      refine r_ior (pc' := 88) dX10_gap_87 rfl ?_
      rw [e3]
      refine r_istore (pc' := 90) dX10_gap_88 rfl rfl ?_
      refine r_iinc (pc' := 93) dX10_gap_90 rfl rfl rfl ?_
      refine r_goto (tgt := 75) dX10_gap_93 rfl ?_
      exact ih (f + 1) _ (by omega) e4 he (by omega)
theorem C_gap {X : CX} {d : Nat} {g : Mem} {K : Int → Mem → Prop} {tN : Nat} {tX : Nat → Int} {flt : Int} {u : PV} {v : LV} {kn : Nat} {kL : Nat → LV} {im : Nat → Bool × Int × LV} {sd : Int} {ln : Nat} {la : Nat → Nat} {lr : Nat → Bool} {bn : Nat} {bp : Nat → Nat} {bf : Nat → Int} (hS : CS g tN tX flt u v kn kL im sd ln la lr bn bp bf) (p : Int) (hp : R32 p) (h : ∀ g' : Mem, CS g' tN tX flt u v kn kL im sd ln la lr bn bp bf → FrC g g' → K (E_gap u v p) g') : EI X (d + 2) mX10_gap [vr 0, vi p] Z0 g K := by
  show AJ X (d + 2) mX10_gap 0 0 (QI Z0 K) 0 0 0 [some (vr 0), some (vi p), none, none, none, none] [] Z0 g
  obtain ⟨⟨t1, t2, t3⟩, ⟨f1, f2⟩, hB, ⟨top, hP⟩, hI, ⟨sd1, sd2, sd3⟩, hK, hN⟩ := id hS
  obtain ⟨hQ, hU, hC, hW⟩ := id hB
  obtain ⟨hc, ho, hf, hw_, ht, hi, hy⟩ := id hC
  obtain ⟨w0, w1, w2, w3, w4, w5, w6, w7⟩ := id hW
  obtain ⟨p6, p7, p8, p9, p10, pk, pg, px, py⟩ := id hQ
  obtain ⟨u0, u1, u2, u3, u4, u5, u6, u7⟩ := id hU
  have h9 := h g hS (FrC.rf g)
  unfold E_gap at h9
  refine r_iload_n (pc' := 1) dX10_gap_0 rfl rfl ?_
  refine r_if_lt (tgt := 15) (pc' := 4) dX10_gap_1 rfl rfl (by omega) (fun c1 => ?_) (fun c1 => ?_)
  · refine r_ldc (z := -1000000002) (pc' := 17) dX10_gap_15 rfl kX10_86 ?_
    refine r_reti dX10_gap_17 rfl (Or.inl rfl) ?_
    rw [if_neg (by omega)] at h9
    exact h9
  · refine r_iload_n (pc' := 5) dX10_gap_4 rfl rfl ?_
    refine r_aload_n (pc' := 6) dX10_gap_5 rfl rfl ?_
    refine r_getr (pc' := 9) dX10_gap_6 rfl fX10_29 z0 rfl ?_
    refine r_getf (pc' := 12) (kI := 3) dX10_gap_9 rfl fX10_140 isL17.1 rfl rfl hc ?_
    refine r_icmp_le (tgt := 18) (pc' := 15) dX10_gap_12 rfl rfl (by omega) (by omega) (fun c12 => ?_) (fun c12 => ?_)
    · have hpn : ((p.toNat : Nat) : Int) = p := by omega
      rw [if_pos (by omega)] at h9
      have gA := gapA_le hW (p := p.toNat) (by omega)
      have gB := gapB_le hU hW p.toNat
      refine r_iload_n (pc' := 19) dX10_gap_18 rfl rfl ?_
      refine r_if_le (tgt := 35) (pc' := 22) dX10_gap_19 rfl rfl (by omega) (fun c19 => ?_) (fun c19 => ?_)
      · have eA : (-1 : Int) = (gapA v p.toNat : Int) - 1 := by
          unfold gapA
          rw [if_neg (by omega)]
          rfl
        refine r_iconst (pc' := 36) dX10_gap_35 rfl ?_
        try rw [eA]
        refine r_istore_n (pc' := 37) dX10_gap_36 rfl rfl ?_
        refine r_iload_n (pc' := 38) dX10_gap_37 rfl rfl ?_
        refine r_aload_n (pc' := 39) dX10_gap_38 rfl rfl ?_
        refine r_getr (pc' := 42) dX10_gap_39 rfl fX10_29 z0 rfl ?_
        refine r_getf (pc' := 45) (kI := 3) dX10_gap_42 rfl fX10_140 isL17.1 rfl rfl hc ?_
        refine r_icmp_ge (tgt := 59) (pc' := 48) dX10_gap_45 rfl rfl (by omega) (by omega) (fun c45 => ?_) (fun c45 => ?_)
        · refine r_aload_n (pc' := 60) dX10_gap_59 rfl rfl ?_
          refine r_getr (pc' := 63) dX10_gap_60 rfl fX10_23 z0 rfl ?_
          refine r_getf (pc' := 66) (kI := 8) (x := (gapB u v p.toNat : Int)) dX10_gap_63 rfl fX10_119 isP10.1 rfl rfl (by rw [p8]; unfold gapB; rw [if_neg (by omega)]) ?_
          refine r_istore_n (pc' := 67) dX10_gap_66 rfl rfl ?_
          refine r_iconst (pc' := 68) dX10_gap_67 rfl ?_
          refine r_istore (pc' := 70) dX10_gap_68 rfl rfl ?_
          refine r_iload_n (pc' := 71) dX10_gap_70 rfl rfl ?_
          refine r_iconst (pc' := 72) dX10_gap_71 rfl ?_
          refine r_iadd (pc' := 73) dX10_gap_72 rfl ?_
          rw [show (gapA v p.toNat : Int) - 1 + 1 = (gapA v p.toNat : Int) by omega]
          refine r_istore (pc' := 75) dX10_gap_73 rfl rfl ?_
          exact l_gap hS p _ (gapA v p.toNat) (gapB u v p.toNat) gB (fun r hr => by rw [hr]; exact h9) _ (gapA v p.toNat) 0 rfl (by decide) rfl gA
        · refine r_aload_n (pc' := 49) dX10_gap_48 rfl rfl ?_
          refine r_getr (pc' := 52) dX10_gap_49 rfl fX10_29 z0 rfl ?_
          refine r_iload_n (pc' := 53) dX10_gap_52 rfl rfl ?_
          refine r_vi1 (pc' := 56) dX10_gap_53 rfl qX2_flagAt lX10_194 isL17.1 rfl rfl rfl rfl (Nat.zero_le _) (Nat.zero_le _) (a_flagAt isL17 hC hW p (by omega) ?_)
          have eB : (if 0 ≤ p ∧ p < (Ln v : Int) then (Lo v p.toNat : Int) else -1) = (gapB u v p.toNat : Int) := by
            rw [if_pos (by omega)]
            unfold gapB
            rw [if_pos (by omega)]
          rw [eB]
          refine r_goto (tgt := 66) dX10_gap_56 rfl ?_
          refine r_istore_n (pc' := 67) dX10_gap_66 rfl rfl ?_
          refine r_iconst (pc' := 68) dX10_gap_67 rfl ?_
          refine r_istore (pc' := 70) dX10_gap_68 rfl rfl ?_
          refine r_iload_n (pc' := 71) dX10_gap_70 rfl rfl ?_
          refine r_iconst (pc' := 72) dX10_gap_71 rfl ?_
          refine r_iadd (pc' := 73) dX10_gap_72 rfl ?_
          rw [show (gapA v p.toNat : Int) - 1 + 1 = (gapA v p.toNat : Int) by omega]
          refine r_istore (pc' := 75) dX10_gap_73 rfl rfl ?_
          exact l_gap hS p _ (gapA v p.toNat) (gapB u v p.toNat) gB (fun r hr => by rw [hr]; exact h9) _ (gapA v p.toNat) 0 rfl (by decide) rfl gA
      · refine r_aload_n (pc' := 23) dX10_gap_22 rfl rfl ?_
        refine r_getr (pc' := 26) dX10_gap_23 rfl fX10_29 z0 rfl ?_
        refine r_iload_n (pc' := 27) dX10_gap_26 rfl rfl ?_
        refine r_iconst (pc' := 28) dX10_gap_27 rfl ?_
        refine r_isub (pc' := 29) dX10_gap_28 rfl ?_
        refine r_vi1 (pc' := 32) dX10_gap_29 rfl qX2_flagAt lX10_194 isL17.1 rfl rfl rfl rfl (Nat.zero_le _) (Nat.zero_le _) (a_flagAt isL17 hC hW (p - 1) (by omega) ?_)
        have eA : (if 0 ≤ p - 1 ∧ p - 1 < (Ln v : Int) then (Lo v (p - 1).toNat : Int) else -1) = (gapA v p.toNat : Int) - 1 := by
          rw [if_pos (by omega)]
          unfold gapA
          rw [if_pos (by omega), show (p - 1).toNat = p.toNat - 1 by omega]
          omega
        rw [eA]
        refine r_goto (tgt := 36) dX10_gap_32 rfl ?_
        try rw [eA]
        refine r_istore_n (pc' := 37) dX10_gap_36 rfl rfl ?_
        refine r_iload_n (pc' := 38) dX10_gap_37 rfl rfl ?_
        refine r_aload_n (pc' := 39) dX10_gap_38 rfl rfl ?_
        refine r_getr (pc' := 42) dX10_gap_39 rfl fX10_29 z0 rfl ?_
        refine r_getf (pc' := 45) (kI := 3) dX10_gap_42 rfl fX10_140 isL17.1 rfl rfl hc ?_
        refine r_icmp_ge (tgt := 59) (pc' := 48) dX10_gap_45 rfl rfl (by omega) (by omega) (fun c45 => ?_) (fun c45 => ?_)
        · refine r_aload_n (pc' := 60) dX10_gap_59 rfl rfl ?_
          refine r_getr (pc' := 63) dX10_gap_60 rfl fX10_23 z0 rfl ?_
          refine r_getf (pc' := 66) (kI := 8) (x := (gapB u v p.toNat : Int)) dX10_gap_63 rfl fX10_119 isP10.1 rfl rfl (by rw [p8]; unfold gapB; rw [if_neg (by omega)]) ?_
          refine r_istore_n (pc' := 67) dX10_gap_66 rfl rfl ?_
          refine r_iconst (pc' := 68) dX10_gap_67 rfl ?_
          refine r_istore (pc' := 70) dX10_gap_68 rfl rfl ?_
          refine r_iload_n (pc' := 71) dX10_gap_70 rfl rfl ?_
          refine r_iconst (pc' := 72) dX10_gap_71 rfl ?_
          refine r_iadd (pc' := 73) dX10_gap_72 rfl ?_
          rw [show (gapA v p.toNat : Int) - 1 + 1 = (gapA v p.toNat : Int) by omega]
          refine r_istore (pc' := 75) dX10_gap_73 rfl rfl ?_
          exact l_gap hS p _ (gapA v p.toNat) (gapB u v p.toNat) gB (fun r hr => by rw [hr]; exact h9) _ (gapA v p.toNat) 0 rfl (by decide) rfl gA
        · refine r_aload_n (pc' := 49) dX10_gap_48 rfl rfl ?_
          refine r_getr (pc' := 52) dX10_gap_49 rfl fX10_29 z0 rfl ?_
          refine r_iload_n (pc' := 53) dX10_gap_52 rfl rfl ?_
          refine r_vi1 (pc' := 56) dX10_gap_53 rfl qX2_flagAt lX10_194 isL17.1 rfl rfl rfl rfl (Nat.zero_le _) (Nat.zero_le _) (a_flagAt isL17 hC hW p (by omega) ?_)
          have eB : (if 0 ≤ p ∧ p < (Ln v : Int) then (Lo v p.toNat : Int) else -1) = (gapB u v p.toNat : Int) := by
            rw [if_pos (by omega)]
            unfold gapB
            rw [if_pos (by omega)]
          rw [eB]
          refine r_goto (tgt := 66) dX10_gap_56 rfl ?_
          refine r_istore_n (pc' := 67) dX10_gap_66 rfl rfl ?_
          refine r_iconst (pc' := 68) dX10_gap_67 rfl ?_
          refine r_istore (pc' := 70) dX10_gap_68 rfl rfl ?_
          refine r_iload_n (pc' := 71) dX10_gap_70 rfl rfl ?_
          refine r_iconst (pc' := 72) dX10_gap_71 rfl ?_
          refine r_iadd (pc' := 73) dX10_gap_72 rfl ?_
          rw [show (gapA v p.toNat : Int) - 1 + 1 = (gapA v p.toNat : Int) by omega]
          refine r_istore (pc' := 75) dX10_gap_73 rfl rfl ?_
          exact l_gap hS p _ (gapA v p.toNat) (gapB u v p.toNat) gB (fun r hr => by rw [hr]; exact h9) _ (gapA v p.toNat) 0 rfl (by decide) rfl gA
    · refine r_ldc (z := -1000000002) (pc' := 17) dX10_gap_15 rfl kX10_86 ?_
      refine r_reti dX10_gap_17 rfl (Or.inl rfl) ?_
      rw [if_neg (by omega)] at h9
      exact h9
theorem clm_b {x q : Int} (hx : 0 ≤ x) (hx1 : x ≤ 1000000000) (hq : 0 ≤ q) (hq1 : q ≤ 100) : 0 ≤ x * q ∧ x * q ≤ 100000000000 ∧ 0 ≤ (x * q).tdiv 100 ∧ (x * q).tdiv 100 ≤ 1000000000 := by
  have h1 := Int.mul_nonneg hx hq
  have h2 := Int.mul_le_mul_of_nonneg_left hq1 hx
  rw [Int.tdiv_eq_ediv_of_nonneg h1]
  omega
theorem l_calm {X : CX} {d : Nat} {g : Mem} {K : Int → Mem → Prop}   (n q : Int) (hn0 : 0 ≤ n) (hn : n ≤ 60) (hq0 : 0 ≤ q) (hq : q ≤ 100) : ∀ (k i : Nat) (x : Int), (i : Int) + k = n → 0 ≤ x → x ≤ 1000000000 → K (clF q k x) g → AJ X (d) mX10_calm 0 0 (QI Z0 K) 0 0 30 [some (vr 0), some (vi n), some (vi q), some (vl x), none, some (vi (i : Int))] [] Z0 g := by
  intro k
  induction k with
  | zero =>
    intro i x hp h0 h1 h
    refine r_iload (pc' := 32) dX10_calm_30 rfl rfl ?_
    refine r_iload_n (pc' := 33) dX10_calm_32 rfl rfl ?_
    refine r_icmp_ge (tgt := 51) (pc' := 36) dX10_calm_33 rfl rfl (by omega) (by omega) (fun c33 => ?_) (fun c33 => ?_)
    · refine r_lload_n (pc' := 52) dX10_calm_51 rfl rfl ?_
      refine r_l2i (pc' := 53) dX10_calm_52 rfl ?_
      refine r_reti dX10_calm_53 rfl (Or.inl rfl) ?_
      exact h
    · exact absurd c33 (by omega)
  | succ k ih =>
    intro i x hp h0 h1 h
    obtain ⟨b1, b2, b3, b4⟩ := clm_b h0 h1 hq0 hq
    unfold clF at h
    refine r_iload (pc' := 32) dX10_calm_30 rfl rfl ?_
    refine r_iload_n (pc' := 33) dX10_calm_32 rfl rfl ?_
    refine r_icmp_ge (tgt := 51) (pc' := 36) dX10_calm_33 rfl rfl (by omega) (by omega) (fun c33 => ?_) (fun c33 => ?_)
    · exact absurd c33 (by omega)
    · refine r_lload_n (pc' := 37) dX10_calm_36 rfl rfl ?_
      refine r_iload_n (pc' := 38) dX10_calm_37 rfl rfl ?_
      refine r_i2l (pc' := 39) dX10_calm_38 rfl (by omega) ?_
      refine r_lmul (pc' := 40) dX10_calm_39 rfl ?_
      refine r_ldc2_w (z := 100) (pc' := 43) dX10_calm_40 rfl kX10_287 ?_
      refine r_ldiv (pc' := 44) dX10_calm_43 rfl (by omega) (by omega) (by omega) ?_
      refine r_lstore_n (pc' := 45) dX10_calm_44 rfl rfl rfl ?_
      refine r_iinc (pc' := 48) dX10_calm_45 rfl rfl rfl ?_
      refine r_goto (tgt := 30) dX10_calm_48 rfl ?_
      exact ih (i + 1) _ (by omega) b3 b4 h
theorem C_calm {X : CX} {d : Nat} {g : Mem} {K : Int → Mem → Prop} {tN : Nat} {tX : Nat → Int} {flt : Int} {u : PV} {v : LV} {kn : Nat} {kL : Nat → LV} {im : Nat → Bool × Int × LV} {sd : Int} {ln : Nat} {la : Nat → Nat} {lr : Nat → Bool} {bn : Nat} {bp : Nat → Nat} {bf : Nat → Int} (hS : CS g tN tX flt u v kn kL im sd ln la lr bn bp bf) (n q : Int) (hn : R32 n) (hq : R32 q) (h : ∀ g' : Mem, CS g' tN tX flt u v kn kL im sd ln la lr bn bp bf → FrC g g' → K (E_calm n q) g') : EI X (d) mX10_calm [vr 0, vi n, vi q] Z0 g K := by
  show AJ X (d) mX10_calm 0 0 (QI Z0 K) 0 0 0 [some (vr 0), some (vi n), some (vi q), none, none, none] [] Z0 g
  have h9 := h g hS (FrC.rf g)
  unfold E_calm at h9
  refine r_iload_n (pc' := 1) dX10_calm_0 rfl rfl ?_
  refine r_if_lt (tgt := 20) (pc' := 4) dX10_calm_1 rfl rfl (by omega) (fun c1 => ?_) (fun c1 => ?_)
  · refine r_ldc (z := -1000000002) (pc' := 22) dX10_calm_20 rfl kX10_86 ?_
    refine r_reti dX10_calm_22 rfl (Or.inl rfl) ?_
    rw [if_neg (by omega)] at h9
    exact h9
  · refine r_iload_n (pc' := 5) dX10_calm_4 rfl rfl ?_
    refine r_bipush (pc' := 7) dX10_calm_5 rfl (by decide) ?_
    refine r_icmp_gt (tgt := 20) (pc' := 10) dX10_calm_7 rfl rfl (by omega) (by omega) (fun c7 => ?_) (fun c7 => ?_)
    · refine r_ldc (z := -1000000002) (pc' := 22) dX10_calm_20 rfl kX10_86 ?_
      refine r_reti dX10_calm_22 rfl (Or.inl rfl) ?_
      rw [if_neg (by omega)] at h9
      exact h9
    · refine r_iload_n (pc' := 11) dX10_calm_10 rfl rfl ?_
      refine r_if_lt (tgt := 20) (pc' := 14) dX10_calm_11 rfl rfl (by omega) (fun c11 => ?_) (fun c11 => ?_)
      · refine r_ldc (z := -1000000002) (pc' := 22) dX10_calm_20 rfl kX10_86 ?_
        refine r_reti dX10_calm_22 rfl (Or.inl rfl) ?_
        rw [if_neg (by omega)] at h9
        exact h9
      · refine r_iload_n (pc' := 15) dX10_calm_14 rfl rfl ?_
        refine r_bipush (pc' := 17) dX10_calm_15 rfl (by decide) ?_
        refine r_icmp_le (tgt := 23) (pc' := 20) dX10_calm_17 rfl rfl (by omega) (by omega) (fun c17 => ?_) (fun c17 => ?_)
        · refine r_ldc2_w (z := 1000000000) (pc' := 26) dX10_calm_23 rfl kX10_285 ?_
          refine r_lstore_n (pc' := 27) dX10_calm_26 rfl rfl rfl ?_
          refine r_iconst (pc' := 28) dX10_calm_27 rfl ?_
          refine r_istore (pc' := 30) dX10_calm_28 rfl rfl ?_
          rw [if_pos (by omega)] at h9
          exact l_calm n q (by omega) (by omega) (by omega) (by omega) n.toNat 0 1000000000 (by omega) (by decide) (by decide) h9
        · refine r_ldc (z := -1000000002) (pc' := 22) dX10_calm_20 rfl kX10_86 ?_
          refine r_reti dX10_calm_22 rfl (Or.inl rfl) ?_
          rw [if_neg (by omega)] at h9
          exact h9
theorem C_couldBe {X : CX} {d : Nat} {g : Mem} {K : Int → Mem → Prop} {tN : Nat} {tX : Nat → Int} {flt : Int} {u : PV} {v : LV} {kn : Nat} {kL : Nat → LV} {im : Nat → Bool × Int × LV} {sd : Int} {ln : Nat} {la : Nat → Nat} {lr : Nat → Bool} {bn : Nat} {bp : Nat → Nat} {bf : Nat → Int} (hS : CS g tN tX flt u v kn kL im sd ln la lr bn bp bf) (h : ∀ g' : Mem, CS g' tN tX flt u v kn kL im sd ln la lr bn bp bf → FrC g g' → K ((cldN u v ln la lr : Nat)) g') : EI X (d + 3) mX10_couldBe [vr 0] Z0 g K := by
  show AJ X (d + 3) mX10_couldBe 0 0 (QI Z0 K) 0 0 0 [some (vr 0)] [] Z0 g
  obtain ⟨⟨t1, t2, t3⟩, ⟨f1, f2⟩, hB, ⟨top, hP⟩, hI, ⟨sd1, sd2, sd3⟩, hK, hN⟩ := id hS
  obtain ⟨hQ, hU, hC, hW⟩ := id hB
  obtain ⟨hc, ho, hf, hw_, ht, hi, hy⟩ := id hC
  obtain ⟨w0, w1, w2, w3, w4, w5, w6, w7⟩ := id hW
  obtain ⟨p6, p7, p8, p9, p10, pk, pg, px, py⟩ := id hQ
  obtain ⟨u0, u1, u2, u3, u4, u5, u6, u7⟩ := id hU
  refine r_aload_n (pc' := 1) dX10_couldBe_0 rfl rfl ?_
  refine r_getr (pc' := 4) dX10_couldBe_1 rfl fX10_71 z0 rfl ?_
  refine r_aload_n (pc' := 5) dX10_couldBe_4 rfl rfl ?_
  refine r_getr (pc' := 8) dX10_couldBe_5 rfl fX10_23 z0 rfl ?_
  refine r_aload_n (pc' := 9) dX10_couldBe_8 rfl rfl ?_
  refine r_vi0 (pc' := 12) dX10_couldBe_9 rfl qX10_offSet lX10_276 z0 rfl rfl rfl (Nat.zero_le _) (Nat.zero_le _) (a_offSet hS ?_)
  refine r_vi2 (pc' := 15) dX10_couldBe_12 rfl qX3_fitting lX10_293 z160 rfl rfl rfl rfl (Nat.zero_le _) (Nat.zero_le _) (a_fit hB hK (offN_lt hU v) ?_)
  refine r_reti dX10_couldBe_15 rfl (Or.inl rfl) ?_
  exact h g hS (FrC.rf g)
theorem C_next {X : CX} {d : Nat} {g : Mem} {K : Int → Mem → Prop} {tN : Nat} {tX : Nat → Int} {flt : Int} {u : PV} {v : LV} {kn : Nat} {kL : Nat → LV} {im : Nat → Bool × Int × LV} {sd : Int} {ln : Nat} {la : Nat → Nat} {lr : Nat → Bool} {bn : Nat} {bp : Nat → Nat} {bf : Nat → Int} (hS : CS g tN tX flt u v kn kL im sd ln la lr bn bp bf) (h : ∀ g' : Mem, CS g' tN tX flt u v kn kL im sd ln la lr bn bp bf → FrC g g' → K (E_next u v ln la lr) g') : EI X (d + 3) mX10_next [vr 0] Z0 g K := by
  show AJ X (d + 3) mX10_next 0 0 (QI Z0 K) 0 0 0 [some (vr 0)] [] Z0 g
  obtain ⟨⟨t1, t2, t3⟩, ⟨f1, f2⟩, hB, ⟨top, hP⟩, hI, ⟨sd1, sd2, sd3⟩, hK, hN⟩ := id hS
  obtain ⟨hQ, hU, hC, hW⟩ := id hB
  obtain ⟨hc, ho, hf, hw_, ht, hi, hy⟩ := id hC
  obtain ⟨w0, w1, w2, w3, w4, w5, w6, w7⟩ := id hW
  obtain ⟨p6, p7, p8, p9, p10, pk, pg, px, py⟩ := id hQ
  obtain ⟨u0, u1, u2, u3, u4, u5, u6, u7⟩ := id hU
  refine r_aload_n (pc' := 1) dX10_next_0 rfl rfl ?_
  refine r_getr (pc' := 4) dX10_next_1 rfl fX10_71 z0 rfl ?_
  refine r_aload_n (pc' := 5) dX10_next_4 rfl rfl ?_
  refine r_getr (pc' := 8) dX10_next_5 rfl fX10_23 z0 rfl ?_
  refine r_aload_n (pc' := 9) dX10_next_8 rfl rfl ?_
  refine r_getr (pc' := 12) dX10_next_9 rfl fX10_71 z0 rfl ?_
  refine r_aload_n (pc' := 13) dX10_next_12 rfl rfl ?_
  refine r_getr (pc' := 16) dX10_next_13 rfl fX10_23 z0 rfl ?_
  refine r_aload_n (pc' := 17) dX10_next_16 rfl rfl ?_
  refine r_vi0 (pc' := 20) dX10_next_17 rfl qX10_offSet lX10_276 z0 rfl rfl rfl (Nat.zero_le _) (Nat.zero_le _) (a_offSet hS ?_)
  refine r_vi2 (pc' := 23) dX10_next_20 rfl qX3_fitting lX10_293 z160 rfl rfl rfl rfl (Nat.zero_le _) (Nat.zero_le _) (a_fit hB hK (offN_lt hU v) ?_)
  refine r_vi2 (pc' := 26) dX10_next_23 rfl qX3_bestLook lX10_297 z160 rfl rfl rfl rfl (Nat.zero_le _) (Nat.zero_le _) (a_best hB (fitF_lt hU _ _ _ (offN_lt hU v)) ?_)
  refine r_reti dX10_next_26 rfl (Or.inl rfl) ?_
  exact h g hS (FrC.rf g)
theorem C_judge {X : CX} {d : Nat} {g : Mem} {K : Int → Mem → Prop} {tN : Nat} {tX : Nat → Int} {flt : Int} {u : PV} {v : LV} {kn : Nat} {kL : Nat → LV} {im : Nat → Bool × Int × LV} {sd : Int} {ln : Nat} {la : Nat → Nat} {lr : Nat → Bool} {bn : Nat} {bp : Nat → Nat} {bf : Nat → Int} (hS : CS g tN tX flt u v kn kL im sd ln la lr bn bp bf) (h : ∀ g' : Mem, CS g' tN tX flt u v kn kL im sd ln la lr bn bp bf → FrC g g' → K (wrF v bp bf bn 0) g') : EI X (d + 2) mX10_judge [vr 0] Z0 g K := by
  show AJ X (d + 2) mX10_judge 0 0 (QI Z0 K) 0 0 0 [some (vr 0)] [] Z0 g
  obtain ⟨⟨t1, t2, t3⟩, ⟨f1, f2⟩, hB, ⟨top, hP⟩, hI, ⟨sd1, sd2, sd3⟩, hK, hN⟩ := id hS
  obtain ⟨hQ, hU, hC, hW⟩ := id hB
  obtain ⟨hc, ho, hf, hw_, ht, hi, hy⟩ := id hC
  obtain ⟨w0, w1, w2, w3, w4, w5, w6, w7⟩ := id hW
  obtain ⟨p6, p7, p8, p9, p10, pk, pg, px, py⟩ := id hQ
  obtain ⟨u0, u1, u2, u3, u4, u5, u6, u7⟩ := id hU
  refine r_aload_n (pc' := 1) dX10_judge_0 rfl rfl ?_
  refine r_getr (pc' := 4) dX10_judge_1 rfl fX10_78 z0 rfl ?_
  refine r_aload_n (pc' := 5) dX10_judge_4 rfl rfl ?_
  refine r_getr (pc' := 8) dX10_judge_5 rfl fX10_29 z0 rfl ?_
  refine r_vi1 (pc' := 11) dX10_judge_8 rfl qX0_firstWrong lX10_302 z163 rfl rfl rfl rfl (Nat.zero_le _) (Nat.zero_le _) (a_wrong hB hN ?_)
  refine r_reti dX10_judge_11 rfl (Or.inl rfl) ?_
  exact h g hS (FrC.rf g)
