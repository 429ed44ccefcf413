theorem bitsub {x : Int} (hx : R32 x) {F : Nat} (hF : F ≤ 7) : b_and x (b_xor ((2 ^ F - 1 : Nat) : Int) (-1)) = 0 ↔ 0 ≤ x ∧ x < 2 ^ F := by
  have hp : 2 ^ F ≤ 2 ^ 7 := Nat.pow_le_pow_right (by decide) hF
  have e0 : b_and x (b_xor ((2 ^ F - 1 : Nat) : Int) (-1)) = (Int32.ofInt x &&& (Int32.ofNat (2 ^ F - 1) ^^^ Int32.ofInt (-1))).toInt := by
    show (Int32.ofInt x &&& Int32.ofInt ((Int32.ofNat (2 ^ F - 1) ^^^ Int32.ofInt (-1)).toInt)).toInt = _
    rw [i32_of]
  rw [e0]
  generalize hn : (Int32.ofInt x).toBitVec.toNat = n
  have hn32 : n < 2 ^ 32 := by rw [← hn]; exact BitVec.isLt _
  have key : (Int32.ofInt x &&& (Int32.ofNat (2 ^ F - 1) ^^^ Int32.ofInt (-1))).toInt = 0 ↔ n < 2 ^ F := by
    rw [show ((0 : Int) = (0 : Int32).toInt) from rfl, Int32.toInt_inj, ← Int32.toBitVec_inj]
    show (Int32.ofInt x).toBitVec &&& (BitVec.ofNat 32 (2 ^ F - 1) ^^^ BitVec.allOnes 32) = 0#32 ↔ _
    constructor
    · intro h
      apply Nat.lt_pow_two_of_testBit
      intro i hi
      by_cases hi32 : i < 32
      · have := congrArg (fun b => b.getLsbD i) h
        simp only [BitVec.getLsbD_and, BitVec.getLsbD_xor, BitVec.getLsbD_allOnes, BitVec.getLsbD_ofNat, hi32, decide_true, Bool.true_and, Nat.testBit_two_pow_sub_one, BitVec.getLsbD_zero, Nat.zero_testBit] at this
        rw [decide_eq_false (by omega : ¬ i < F)] at this
        simp only [Bool.false_xor, Bool.and_true] at this
        rw [← hn]
        exact this
      · exact Nat.testBit_lt_two_pow (Nat.lt_of_lt_of_le hn32 (Nat.pow_le_pow_right (by decide) (by omega)))
    · intro h
      apply BitVec.eq_of_getLsbD_eq
      intro i hi32
      simp only [BitVec.getLsbD_and, BitVec.getLsbD_xor, BitVec.getLsbD_allOnes, BitVec.getLsbD_ofNat, hi32, decide_true, Bool.true_and, Nat.testBit_two_pow_sub_one, BitVec.getLsbD_zero, Nat.zero_testBit]
      by_cases hi : i < F
      · rw [decide_eq_true hi]; simp
      · rw [decide_eq_false hi]
        simp only [Bool.false_xor, Bool.and_true]
        show (Int32.ofInt x).toBitVec.toNat.testBit i = false
        rw [hn]
        exact Nat.testBit_lt_two_pow (Nat.lt_of_lt_of_le h (Nat.pow_le_pow_right (by decide) (by omega)))
  rw [key]
  have hx2 := i32_toInt hx
  have hto : (Int32.ofInt x).toInt = if 2 * n < 2 ^ 32 then (n : Int) else (n : Int) - (2 ^ 32 : Nat) := by
    show (Int32.ofInt x).toBitVec.toInt = _
    rw [BitVec.toInt_eq_toNat_cond, hn]
  rw [hx2] at hto
  have ep : ((2 ^ F : Nat) : Int) = (2 : Int) ^ F := by simp
  rw [← ep]
  constructor
  · intro h
    rw [if_pos (by omega)] at hto
    omega
  · rintro ⟨h1, h2⟩
    split at hto <;> omega
def offN (u : PV) (v : LV) : Nat := difN (2 ^ Pf u - 1) (onN v)
theorem all_lt {u : PV} (hU : PW u) : 2 ^ Pf u - 1 < 128 := by
  have := hU.2.2.1
  have : 2 ^ Pf u ≤ 2 ^ 7 := Nat.pow_le_pow_right (by decide) this
  omega
theorem offN_lt {u : PV} (hU : PW u) (v : LV) : offN u v < 128 := difN_lt (all_lt hU)
def rchN (u : PV) (v : LV) (y : Nat) : Nat := orF (fun p => decide (Pa u y ≤ p + Pr u y) && decide (p ≤ Pa u y + Pr u y)) (fun p => 2 ^ Lo v p) (Ln v) 0 0
theorem hk_bit {u : PV} {y p : Nat} (hp : p < 7) : (hkN u y).testBit p = (decide (Pa u y ≤ p + Pr u y) && decide (p ≤ Pa u y + Pr u y)) := by
  unfold hkN
  rw [orF_bit, Nat.zero_testBit, Bool.false_or, decide_eq_true (by omega), Bool.true_and]
def E_flag (u : PV) (v : LV) (f w : Int) : Int := if 0 ≤ f ∧ f < Pf u then (if w = 0 then (Pk u f.toNat : Int) else if w = 1 then (Ph u f.toNat : Int) else if w = 2 then plc (Lo v) f (Ln v) 0 else if w = 3 then Lf v f.toNat else if w = 4 then Lw v f.toNat else -1000000002) else -1000000001
def E_at (v : LV) (p : Int) : Int := if 0 ≤ p ∧ p ≤ 6 then atN v p.toNat else -1000000002
def E_hook (u : PV) (v : LV) (y w : Int) : Int := if 0 ≤ y ∧ y < Pq u then (if w = 0 then (Pa u y.toNat : Int) else if w = 1 then (Pr u y.toNat : Int) else if w = 2 then (rchN u v y.toNat : Int) else -1000000002) else -1000000001
def E_word (u : PV) (x k : Int) : Int := if 0 ≤ x ∧ x < Pw u then (if 0 ≤ k ∧ k ≤ 3 then (if k < Pl u x.toNat then (Px u x.toNat k.toNat : Int) else -1) else -1000000002) else -1000000001
def E_turnings (v : LV) (w : Int) : Int := if w = 0 then fewN (Ln v) (rkP (Lo v) (Ln v)) else if w = 1 then ftN (Ln v) (rkP (Lo v) (Ln v)) else -1000000002
def E_loose (v : LV) (w : Int) : Int := if w = 0 then (popN (looseN v) : Int) else if w = 1 then (looseN v : Int) else -1000000002
def E_felt (u : PV) (v : LV) (s p : Int) : Int := if (0 ≤ s ∧ s ≤ 99) ∧ (0 ≤ p ∧ p ≤ 7) then max 0 (plF (Lo v) (Ph u) (Lt v) (min (Ln v) p.toNat) 0 s) else -1000000002
def faF (c : Nat → Bool) : Nat → Nat → Int → Int
  | 0, _, best => best
  | k + 1, p, best => faF c k (p + 1) (if c p then (p : Int) else best)
def farC (u : PV) (v : LV) (s : Int) (p : Nat) : Bool := decide (0 < max 0 (plF (Lo v) (Ph u) (Lt v) (min (Ln v) p) 0 s))
def E_far (u : PV) (v : LV) (s : Int) : Int := if 0 ≤ s ∧ s ≤ 99 then faF (farC u v s) (Ln v) 0 (-1) else -1000000002
def E_ends (u : PV) (v : LV) (w : Int) : Int := if w = 0 then 1000 + ldF (hv u v) (Ln v) 0 else if w = 1 then (if Ln v = 0 then -1 else if hv u v 0 - ldF (hv u v) (Ln v - 1) 1 < hv u v (Ln v - 1) - ldF (hv u v) (Ln v - 1) 0 then 1 else 0) else -1000000002
def clF (q : Int) : Nat → Int → Int
  | 0, x => x
  | k + 1, x => clF q k ((x * q).tdiv 100)
def E_calm (n q : Int) : Int := if (0 ≤ n ∧ n ≤ 60) ∧ (0 ≤ q ∧ q ≤ 100) then clF q n.toNat 1000000000 else -1000000002
def cldN (u : PV) (v : LV) (ln : Nat) (la : Nat → Nat) (lr : Nat → Bool) : Nat := fitF u la lr ln 0 (offN u v)
def E_next (u : PV) (v : LV) (ln : Nat) (la : Nat → Nat) (lr : Nat → Bool) : Int := blF u (cldN u v ln la lr) 20 0 (-1) (popN (cldN u v ln la lr))
theorem C_fault {X : CX} {d : Nat} {g : Mem} {K : Int → Mem → Prop} {tN : Nat} {tX : Nat → Int} {flt : Int} {u : PV} {v : LV} {kn : Nat} {kL : Nat → LV} {im : Nat → Bool × Int × LV} {sd : Int} {ln : Nat} {la : Nat → Nat} {lr : Nat → Bool} {bn : Nat} {bp : Nat → Nat} {bf : Nat → Int} (hS : CS g tN tX flt u v kn kL im sd ln la lr bn bp bf) (h : ∀ g' : Mem, CS g' tN tX flt u v kn kL im sd ln la lr bn bp bf → FrC g g' → K (flt) g') : EI X (d) mX10_fault [vr 0] Z0 g K := by
  show AJ X (d) mX10_fault 0 0 (QI Z0 K) 0 0 0 [some (vr 0)] [] Z0 g
  obtain ⟨⟨t1, t2, t3⟩, ⟨f1, f2⟩, hB, ⟨top, hP⟩, hI, ⟨sd1, sd2, sd3⟩, hK, hN⟩ := id hS
  obtain ⟨hQ, hU, hC, hW⟩ := id hB
  obtain ⟨hc, ho, hf, hw_, ht, hi, hy⟩ := id hC
  obtain ⟨w0, w1, w2, w3, w4, w5, w6, w7⟩ := id hW
  obtain ⟨p6, p7, p8, p9, p10, pk, pg, px, py⟩ := id hQ
  obtain ⟨u0, u1, u2, u3, u4, u5, u6, u7⟩ := id hU
  refine r_aload_n (pc' := 1) dX10_fault_0 rfl rfl ?_
  refine r_getr (pc' := 4) dX10_fault_1 rfl fX10_10 z0 rfl ?_
  refine r_getf (pc' := 7) (kI := 3) dX10_fault_4 rfl fX10_122 z1 rfl rfl f1 ?_
  refine r_reti dX10_fault_7 rfl (Or.inl rfl) ?_
  have h9 := h g hS (FrC.rf g)
  exact h9
theorem a_offSet {X : CX} {d : Nat} {g : Mem} {K : Int → Mem → Prop} {tN : Nat} {tX : Nat → Int} {flt : Int} {u : PV} {v : LV} {kn : Nat} {kL : Nat → LV} {im : Nat → Bool × Int × LV} {sd : Int} {ln : Nat} {la : Nat → Nat} {lr : Nat → Bool} {bn : Nat} {bp : Nat → Nat} {bf : Nat → Int} (hS : CS g tN tX flt u v kn kL im sd ln la lr bn bp bf) (h : K (offN u v) g) : EI X (d + 1) mX10_offSet [vr 0] Z0 g K := by
  show AJ X (d + 1) mX10_offSet 0 0 (QI Z0 K) 0 0 0 [some (vr 0)] [] Z0 g
  obtain ⟨⟨t1, t2, t3⟩, ⟨f1, f2⟩, hB, ⟨top, hP⟩, hI, ⟨sd1, sd2, sd3⟩, hK, hN⟩ := id hS
  obtain ⟨hQ, hU, hC, hW⟩ := id hB
  obtain ⟨hc, ho, hf, hw_, ht, hi, hy⟩ := id hC
  obtain ⟨w0, w1, w2, w3, w4, w5, w6, w7⟩ := id hW
  obtain ⟨p6, p7, p8, p9, p10, pk, pg, px, py⟩ := id hQ
  obtain ⟨u0, u1, u2, u3, u4, u5, u6, u7⟩ := id hU
  have e := dif_n (s := 2 ^ Pf u - 1) (t := onN v) (all_lt hU)
  refine r_aload_n (pc' := 1) dX10_offSet_0 rfl rfl ?_
  refine r_getr (pc' := 4) dX10_offSet_1 rfl fX10_23 z0 rfl ?_
  refine r_vi0 (pc' := 7) dX10_offSet_4 rfl qX5_allFlags lX10_267 isP10.1 rfl rfl rfl (Nat.zero_le _) (Nat.zero_le _) (a_allFlags isP10 hQ hU ?_)
  refine r_aload_n (pc' := 8) dX10_offSet_7 rfl rfl ?_
  refine r_getr (pc' := 11) dX10_offSet_8 rfl fX10_29 z0 rfl ?_
  refine r_vi0 (pc' := 14) dX10_offSet_11 rfl qX2_onSet lX10_141 isL17.1 rfl rfl rfl (Nat.zero_le _) (Nat.zero_le _) (a_onSet isL17 hC hW ?_)
  refine r_iconst (pc' := 15) dX10_offSet_14 rfl ?_
  refine r_ixor (pc' := 16) dX10_offSet_15 rfl ?_
  refine r_iand (pc' := 17) dX10_offSet_16 rfl ?_
  refine r_reti dX10_offSet_17 rfl (Or.inl rfl) ?_
  rw [e]
  exact h
theorem C_flag {X : CX} {d : Nat} {g : Mem} {K : Int → Mem → Prop} {tN : Nat} {tX : Nat → Int} {flt : Int} {u : PV} {v : LV} {kn : Nat} {kL : Nat → LV} {im : Nat → Bool × Int × LV} {sd : Int} {ln : Nat} {la : Nat → Nat} {lr : Nat → Bool} {bn : Nat} {bp : Nat → Nat} {bf : Nat → Int} (hS : CS g tN tX flt u v kn kL im sd ln la lr bn bp bf) (f w : Int) (hf0 : R32 f) (hw0 : R32 w) (h : ∀ g' : Mem, CS g' tN tX flt u v kn kL im sd ln la lr bn bp bf → FrC g g' → K (E_flag u v f w) g') : EI X (d + 2) mX10_flag [vr 0, vi f, vi w] Z0 g K := by
  show AJ X (d + 2) mX10_flag 0 0 (QI Z0 K) 0 0 0 [some (vr 0), some (vi f), some (vi w)] [] Z0 g
  obtain ⟨⟨t1, t2, t3⟩, ⟨f1, f2⟩, hB, ⟨top, hP⟩, hI, ⟨sd1, sd2, sd3⟩, hK, hN⟩ := id hS
  obtain ⟨hQ, hU, hC, hW⟩ := id hB
  obtain ⟨hc, ho, hf, hw_, ht, hi, hy⟩ := id hC
  obtain ⟨w0, w1, w2, w3, w4, w5, w6, w7⟩ := id hW
  obtain ⟨p6, p7, p8, p9, p10, pk, pg, px, py⟩ := id hQ
  obtain ⟨u0, u1, u2, u3, u4, u5, u6, u7⟩ := id hU
  have h9 := h g hS (FrC.rf g)
  unfold E_flag at h9
  refine r_aload_n (pc' := 1) dX10_flag_0 rfl rfl ?_
  refine r_getr (pc' := 4) dX10_flag_1 rfl fX10_23 z0 rfl ?_
  refine r_iload_n (pc' := 5) dX10_flag_4 rfl rfl ?_
  refine r_vi1 (pc' := 8) dX10_flag_5 rfl qX5_hasFlag lX10_173 isP10.1 rfl rfl rfl rfl (Nat.zero_le _) (Nat.zero_le _) (a_hasFlag isP10 hQ hU f hf0 ?_)
  refine r_if_ne (tgt := 14) (pc' := 11) dX10_flag_8 rfl rfl (b01_R _) (fun c8 => ?_) (fun c8 => ?_)
  · have hd := of_decide_eq_true (b01_ne c8)
    have ef : ((f.toNat : Nat) : Int) = f := by omega
    have hk1 := pk f.toNat (by omega)
    have hg1 := pg f.toNat (by omega)
    have hf1 := hf f.toNat (by omega)
    have hw1 := hw_ f.toNat (by omega)
    rw [ef] at hk1 hg1 hf1 hw1
    refine r_iload_n (pc' := 15) dX10_flag_14 rfl rfl ?_
    by_cases hsw : w = 0 ∨ w = 1 ∨ w = 2 ∨ w = 3 ∨ w = 4
    · rcases hsw with rfl | rfl | rfl | rfl | rfl
      · refine r_tabI (tgt := 48) dX10_flag_15 (by decide) (by decide) (by decide) rfl rfl ?_
        refine r_aload_n (pc' := 49) dX10_flag_48 rfl rfl ?_
        refine r_getr (pc' := 52) dX10_flag_49 rfl fX10_23 z0 rfl ?_
        refine r_getr (pc' := 55) dX10_flag_52 rfl fX10_178 isP10.1 rfl ?_
        refine r_iload_n (pc' := 56) dX10_flag_55 rfl rfl ?_
        refine r_iaload (pc' := 57) dX10_flag_56 rfl isP10.2.1 (by decide) (by omega) (by omega) hk1 ?_
        refine r_reti dX10_flag_57 rfl (Or.inl rfl) ?_
        rw [if_pos (by omega), if_pos (by omega)] at h9
        exact h9
      · refine r_tabI (tgt := 58) dX10_flag_15 (by decide) (by decide) (by decide) rfl rfl ?_
        refine r_aload_n (pc' := 59) dX10_flag_58 rfl rfl ?_
        refine r_getr (pc' := 62) dX10_flag_59 rfl fX10_23 z0 rfl ?_
        refine r_getr (pc' := 65) dX10_flag_62 rfl fX10_181 isP10.1 rfl ?_
        refine r_iload_n (pc' := 66) dX10_flag_65 rfl rfl ?_
        refine r_iaload (pc' := 67) dX10_flag_66 rfl isP10.2.2.1 (by decide) (by omega) (by omega) hg1 ?_
        refine r_reti dX10_flag_67 rfl (Or.inl rfl) ?_
        rw [if_pos (by omega), if_neg (by omega), if_pos (by omega)] at h9
        exact h9
      · refine r_tabI (tgt := 68) dX10_flag_15 (by decide) (by decide) (by decide) rfl rfl ?_
        refine r_aload_n (pc' := 69) dX10_flag_68 rfl rfl ?_
        refine r_getr (pc' := 72) dX10_flag_69 rfl fX10_29 z0 rfl ?_
        refine r_iload_n (pc' := 73) dX10_flag_72 rfl rfl ?_
        refine r_vi1 (pc' := 76) dX10_flag_73 rfl qX2_placeOf lX10_184 isL17.1 rfl rfl rfl rfl (Nat.zero_le _) (Nat.zero_le _) (a_placeOf isL17 hC hW f hf0 ?_)
        refine r_reti dX10_flag_76 rfl (Or.inl rfl) ?_
        rw [if_pos (by omega), if_neg (by omega), if_neg (by omega), if_pos (by omega)] at h9
        exact h9
      · refine r_tabI (tgt := 77) dX10_flag_15 (by decide) (by decide) (by decide) rfl rfl ?_
        refine r_aload_n (pc' := 78) dX10_flag_77 rfl rfl ?_
        refine r_getr (pc' := 81) dX10_flag_78 rfl fX10_29 z0 rfl ?_
        refine r_getr (pc' := 84) dX10_flag_81 rfl fX10_188 isL17.1 rfl ?_
        refine r_iload_n (pc' := 85) dX10_flag_84 rfl rfl ?_
        refine r_iaload (pc' := 86) dX10_flag_85 rfl isL17.2.2.1 (by decide) (by omega) (by omega) hf1 ?_
        refine r_reti dX10_flag_86 rfl (Or.inl rfl) ?_
        rw [if_pos (by omega), if_neg (by omega), if_neg (by omega), if_neg (by omega), if_pos (by omega)] at h9
        exact h9
      · refine r_tabI (tgt := 87) dX10_flag_15 (by decide) (by decide) (by decide) rfl rfl ?_
        refine r_aload_n (pc' := 88) dX10_flag_87 rfl rfl ?_
        refine r_getr (pc' := 91) dX10_flag_88 rfl fX10_29 z0 rfl ?_
        refine r_getr (pc' := 94) dX10_flag_91 rfl fX10_191 isL17.1 rfl ?_
        refine r_iload_n (pc' := 95) dX10_flag_94 rfl rfl ?_
        refine r_iaload (pc' := 96) dX10_flag_95 rfl isL17.2.2.2 (by decide) (by omega) (by omega) hw1 ?_
        refine r_reti dX10_flag_96 rfl (Or.inl rfl) ?_
        rw [if_pos (by omega), if_neg (by omega), if_neg (by omega), if_neg (by omega), if_neg (by omega), if_pos (by omega)] at h9
        exact h9
    · refine r_tabO (tgt := 97) dX10_flag_15 (by omega) (by omega) rfl ?_
      refine r_ldc (z := -1000000002) (pc' := 99) dX10_flag_97 rfl kX10_86 ?_
      refine r_reti dX10_flag_99 rfl (Or.inl rfl) ?_
      rw [if_pos (by omega), if_neg (by omega), if_neg (by omega), if_neg (by omega), if_neg (by omega), if_neg (by omega)] at h9
      exact h9
  · refine r_ldc (z := -1000000001) (pc' := 13) dX10_flag_11 rfl kX10_177 ?_
    refine r_reti dX10_flag_13 rfl (Or.inl rfl) ?_
    have hd := of_decide_eq_false (b01_eq c8)
    rw [if_neg hd] at h9
    exact h9
theorem C_at {X : CX} {d : Nat} {g : Mem} {K : Int → Mem → Prop} {tN : Nat} {tX : Nat → Int} {flt : Int} {u : PV} {v : LV} {kn : Nat} {kL : Nat → LV} {im : Nat → Bool × Int × LV} {sd : Int} {ln : Nat} {la : Nat → Nat} {lr : Nat → Bool} {bn : Nat} {bp : Nat → Nat} {bf : Nat → Int} (hS : CS g tN tX flt u v kn kL im sd ln la lr bn bp bf) (p : Int) (hp : R32 p) (h : ∀ g' : Mem, CS g' tN tX flt u v kn kL im sd ln la lr bn bp bf → FrC g g' → K (E_at v p) g') : EI X (d + 1) mX10_at [vr 0, vi p] Z0 g K := by
  show AJ X (d + 1) mX10_at 0 0 (QI Z0 K) 0 0 0 [some (vr 0), some (vi p)] [] Z0 g
  obtain ⟨⟨t1, t2, t3⟩, ⟨f1, f2⟩, hB, ⟨top, hP⟩, hI, ⟨sd1, sd2, sd3⟩, hK, hN⟩ := id hS
  obtain ⟨hQ, hU, hC, hW⟩ := id hB
  obtain ⟨hc, ho, hf, hw_, ht, hi, hy⟩ := id hC
  obtain ⟨w0, w1, w2, w3, w4, w5, w6, w7⟩ := id hW
  obtain ⟨p6, p7, p8, p9, p10, pk, pg, px, py⟩ := id hQ
  obtain ⟨u0, u1, u2, u3, u4, u5, u6, u7⟩ := id hU
  have h9 := h g hS (FrC.rf g)
  unfold E_at at h9
  refine r_iload_n (pc' := 1) dX10_at_0 rfl rfl ?_
  refine r_if_lt (tgt := 10) (pc' := 4) dX10_at_1 rfl rfl (by omega) (fun c1 => ?_) (fun c1 => ?_)
  · refine r_ldc (z := -1000000002) (pc' := 12) dX10_at_10 rfl kX10_86 ?_
    refine r_reti dX10_at_12 rfl (Or.inl rfl) ?_
    rw [if_neg (by omega)] at h9
    exact h9
  · refine r_iload_n (pc' := 5) dX10_at_4 rfl rfl ?_
    refine r_bipush (pc' := 7) dX10_at_5 rfl (by decide) ?_
    refine r_icmp_le (tgt := 13) (pc' := 10) dX10_at_7 rfl rfl (by omega) (by omega) (fun c7 => ?_) (fun c7 => ?_)
    · refine r_aload_n (pc' := 14) dX10_at_13 rfl rfl ?_
      refine r_getr (pc' := 17) dX10_at_14 rfl fX10_29 z0 rfl ?_
      refine r_iload_n (pc' := 18) dX10_at_17 rfl rfl ?_
      refine r_vi1 (pc' := 21) dX10_at_18 rfl qX2_flagAt lX10_194 isL17.1 rfl rfl rfl rfl (Nat.zero_le _) (Nat.zero_le _) (a_flagAt isL17 hC hW p hp ?_)
      refine r_reti dX10_at_21 rfl (Or.inl rfl) ?_
      rw [if_pos (by omega)] at h9
      unfold atN at h9
      by_cases hpn : p < Ln v
      · rw [if_pos ⟨by omega, hpn⟩]
        rw [if_pos (by omega)] at h9
        exact h9
      · rw [if_neg (by omega)]
        rw [if_neg (by omega)] at h9
        exact h9
    · refine r_ldc (z := -1000000002) (pc' := 12) dX10_at_10 rfl kX10_86 ?_
      refine r_reti dX10_at_12 rfl (Or.inl rfl) ?_
      rw [if_neg (by omega)] at h9
      exact h9
theorem a_pHookI {X : CX} {d : Nat} {g : Mem} {K : Int → Mem → Prop} {j pa pb pc pe pf ph : Nat} {u : PV} (hP : isP j pa pb pc pe pf ph) (hQ : PC_ g j pa pb pc pe pf ph u) (hU : PW u) {y : Int} (h0 : 0 ≤ y) (hy : y < Pq u) (h : K (hkN u y.toNat) g) : EI X d mX5_placesOfHook [vr j, vi y] Z0 g K := by
  have e := a_pHook (X := X) (d := d) (K := K) hP hQ hU (y := y.toNat) (by omega) h
  rw [show ((y.toNat : Nat) : Int) = y by omega] at e
  exact e
theorem a_wordKindI {X : CX} {d : Nat} {g : Mem} {K : Int → Mem → Prop} {j pa pb pc pe pf ph : Nat} {u : PV} (hP : isP j pa pb pc pe pf ph) (hQ : PC_ g j pa pb pc pe pf ph u) (hU : PW u) {x k : Int} (h0 : 0 ≤ x) (hx : x < Pw u) (hk0 : 0 ≤ k) (hk : k < Pl u x.toNat) (h : K (Px u x.toNat k.toNat) g) : EI X d mX5_wordKind [vr j, vi x, vi k] Z0 g K := by
  have e := a_wordKind (X := X) (d := d) (K := K) hP hQ hU (x := x.toNat) (k := k.toNat) (by omega) (by omega) h
  rw [show ((x.toNat : Nat) : Int) = x by omega, show ((k.toNat : Nat) : Int) = k by omega] at e
  exact e
theorem a_pullAtI {X : CX} {d : Nat} {g : Mem} {K : Int → Mem → Prop} {u : PV} {v : LV} (hB : CB g u v) {s y : Int} (hs0 : 0 ≤ s) (hs1 : s ≤ 99) (hy0 : 0 ≤ y) (hy7 : y ≤ 7) (h : K (max 0 (plF (Lo v) (Ph u) (Lt v) (min (Ln v) y.toNat) 0 s)) g) : EI X (d + 1) mX2_pullAt [vr 17, vr 10, vi s, vi y] Z0 g K := by
  have e := a_pullAt (X := X) (d := d) (K := K) isL17 hB.2.2.1 hB.2.2.2 isP10 hB.1 hB.2.1 rfl hs0 hs1 (y := y.toNat) (by omega) h
  rw [show ((y.toNat : Nat) : Int) = y by omega] at e
  exact e
theorem C_hook {X : CX} {d : Nat} {g : Mem} {K : Int → Mem → Prop} {tN : Nat} {tX : Nat → Int} {flt : Int} {u : PV} {v : LV} {kn : Nat} {kL : Nat → LV} {im : Nat → Bool × Int × LV} {sd : Int} {ln : Nat} {la : Nat → Nat} {lr : Nat → Bool} {bn : Nat} {bp : Nat → Nat} {bf : Nat → Int} (hS : CS g tN tX flt u v kn kL im sd ln la lr bn bp bf) (y w : Int) (hy0 : R32 y) (hw0 : R32 w) (h : ∀ g' : Mem, CS g' tN tX flt u v kn kL im sd ln la lr bn bp bf → FrC g g' → K (E_hook u v y w) g') : EI X (d + 2) mX10_hook [vr 0, vi y, vi w] Z0 g K := by
  show AJ X (d + 2) mX10_hook 0 0 (QI Z0 K) 0 0 0 [some (vr 0), some (vi y), some (vi w)] [] Z0 g
  obtain ⟨⟨t1, t2, t3⟩, ⟨f1, f2⟩, hB, ⟨top, hP⟩, hI, ⟨sd1, sd2, sd3⟩, hK, hN⟩ := id hS
  obtain ⟨hQ, hU, hC, hW⟩ := id hB
  obtain ⟨hc, ho, hf, hw_, ht, hi, hy⟩ := id hC
  obtain ⟨w0, w1, w2, w3, w4, w5, w6, w7⟩ := id hW
  obtain ⟨p6, p7, p8, p9, p10, pk, pg, px, py⟩ := id hQ
  obtain ⟨u0, u1, u2, u3, u4, u5, u6, u7⟩ := id hU
  have h9 := h g hS (FrC.rf g)
  unfold E_hook at h9
  refine r_iload_n (pc' := 1) dX10_hook_0 rfl rfl ?_
  refine r_if_lt (tgt := 15) (pc' := 4) dX10_hook_1 rfl rfl (by omega) (fun c1 => ?_) (fun c1 => ?_)
  · refine r_ldc (z := -1000000001) (pc' := 17) dX10_hook_15 rfl kX10_177 ?_
    refine r_reti dX10_hook_17 rfl (Or.inl rfl) ?_
    rw [if_neg (by omega)] at h9
    exact h9
  · refine r_iload_n (pc' := 5) dX10_hook_4 rfl rfl ?_
    refine r_aload_n (pc' := 6) dX10_hook_5 rfl rfl ?_
    refine r_getr (pc' := 9) dX10_hook_6 rfl fX10_23 z0 rfl ?_
    refine r_getf (pc' := 12) (kI := 10) dX10_hook_9 rfl fX10_131 isP10.1 rfl rfl p10 ?_
    refine r_icmp_lt (tgt := 18) (pc' := 15) dX10_hook_12 rfl rfl (by omega) (by omega) (fun c12 => ?_) (fun c12 => ?_)
    · have ey : ((y.toNat : Nat) : Int) = y := by omega
      have y1 := (py y.toNat (by omega)).1
      have y2 := (py y.toNat (by omega)).2
      rw [ey] at y1 y2
      refine r_iload_n (pc' := 19) dX10_hook_18 rfl rfl ?_
      by_cases hsw : w = 0 ∨ w = 1 ∨ w = 2
      · rcases hsw with rfl | rfl | rfl
        · refine r_tabI (tgt := 44) dX10_hook_19 (by decide) (by decide) (by decide) rfl rfl ?_
          refine r_aload_n (pc' := 45) dX10_hook_44 rfl rfl ?_
          refine r_getr (pc' := 48) dX10_hook_45 rfl fX10_23 z0 rfl ?_
          refine r_getr (pc' := 51) dX10_hook_48 rfl fX10_197 isP10.1 rfl ?_
          refine r_iload_n (pc' := 52) dX10_hook_51 rfl rfl ?_
          refine r_iaload (pc' := 53) dX10_hook_52 rfl isP10.2.2.2.2.2.1 (by decide) (by omega) (by omega) y1 ?_
          refine r_reti dX10_hook_53 rfl (Or.inl rfl) ?_
          rw [if_pos (by omega), if_pos (by omega)] at h9
          exact h9
        · refine r_tabI (tgt := 54) dX10_hook_19 (by decide) (by decide) (by decide) rfl rfl ?_
          refine r_aload_n (pc' := 55) dX10_hook_54 rfl rfl ?_
          refine r_getr (pc' := 58) dX10_hook_55 rfl fX10_23 z0 rfl ?_
          refine r_getr (pc' := 61) dX10_hook_58 rfl fX10_200 isP10.1 rfl ?_
          refine r_iload_n (pc' := 62) dX10_hook_61 rfl rfl ?_
          refine r_iaload (pc' := 63) dX10_hook_62 rfl isP10.2.2.2.2.2.2 (by decide) (by omega) (by omega) y2 ?_
          refine r_reti dX10_hook_63 rfl (Or.inl rfl) ?_
          rw [if_pos (by omega), if_neg (by omega), if_pos (by omega)] at h9
          exact h9
        · refine r_tabI (tgt := 64) dX10_hook_19 (by decide) (by decide) (by decide) rfl rfl ?_
          refine r_aload_n (pc' := 65) dX10_hook_64 rfl rfl ?_
          refine r_getr (pc' := 68) dX10_hook_65 rfl fX10_29 z0 rfl ?_
          refine r_aload_n (pc' := 69) dX10_hook_68 rfl rfl ?_
          refine r_getr (pc' := 72) dX10_hook_69 rfl fX10_23 z0 rfl ?_
          refine r_iload_n (pc' := 73) dX10_hook_72 rfl rfl ?_
          refine r_vi1 (pc' := 76) dX10_hook_73 rfl qX5_placesOfHook lX10_203 isP10.1 rfl rfl rfl rfl (Nat.zero_le _) (Nat.zero_le _) (a_pHookI isP10 hQ hU (y := y) (by omega) (by omega) ?_)
          refine r_vi1 (pc' := 79) dX10_hook_76 rfl qX2_flagsAt lX10_206 isL17.1 rfl rfl rfl rfl (Nat.zero_le _) (Nat.zero_le _) (a_flagsAt isL17 hC hW (hkN_lt u y.toNat) ?_)
          rw [show orF (fun p => (hkN u y.toNat).testBit p) (fun p => 2 ^ Lo v p) (Ln v) 0 0 = rchN u v y.toNat from orF_congr _ _ _ (fun q _ hq => ⟨hk_bit (by omega), fun _ => rfl⟩)]
          refine r_reti dX10_hook_79 rfl (Or.inl rfl) ?_
          rw [if_pos (by omega), if_neg (by omega), if_neg (by omega), if_pos (by omega)] at h9
          exact h9
      · refine r_tabO (tgt := 80) dX10_hook_19 (by omega) (by omega) rfl ?_
        refine r_ldc (z := -1000000002) (pc' := 82) dX10_hook_80 rfl kX10_86 ?_
        refine r_reti dX10_hook_82 rfl (Or.inl rfl) ?_
        rw [if_pos (by omega), if_neg (by omega), if_neg (by omega), if_neg (by omega)] at h9
        exact h9
    · refine r_ldc (z := -1000000001) (pc' := 17) dX10_hook_15 rfl kX10_177 ?_
      refine r_reti dX10_hook_17 rfl (Or.inl rfl) ?_
      rw [if_neg (by omega)] at h9
      exact h9
theorem C_word {X : CX} {d : Nat} {g : Mem} {K : Int → Mem → Prop} {tN : Nat} {tX : Nat → Int} {flt : Int} {u : PV} {v : LV} {kn : Nat} {kL : Nat → LV} {im : Nat → Bool × Int × LV} {sd : Int} {ln : Nat} {la : Nat → Nat} {lr : Nat → Bool} {bn : Nat} {bp : Nat → Nat} {bf : Nat → Int} (hS : CS g tN tX flt u v kn kL im sd ln la lr bn bp bf) (x k : Int) (hx0 : R32 x) (hk0 : R32 k) (h : ∀ g' : Mem, CS g' tN tX flt u v kn kL im sd ln la lr bn bp bf → FrC g g' → K (E_word u x k) g') : EI X (d + 1) mX10_word [vr 0, vi x, vi k] Z0 g K := by
  show AJ X (d + 1) mX10_word 0 0 (QI Z0 K) 0 0 0 [some (vr 0), some (vi x), some (vi k)] [] Z0 g
  obtain ⟨⟨t1, t2, t3⟩, ⟨f1, f2⟩, hB, ⟨top, hP⟩, hI, ⟨sd1, sd2, sd3⟩, hK, hN⟩ := id hS
  obtain ⟨hQ, hU, hC, hW⟩ := id hB
  obtain ⟨hc, ho, hf, hw_, ht, hi, hy⟩ := id hC
  obtain ⟨w0, w1, w2, w3, w4, w5, w6, w7⟩ := id hW
  obtain ⟨p6, p7, p8, p9, p10, pk, pg, px, py⟩ := id hQ
  obtain ⟨u0, u1, u2, u3, u4, u5, u6, u7⟩ := id hU
  have h9 := h g hS (FrC.rf g)
  unfold E_word at h9
  refine r_iload_n (pc' := 1) dX10_word_0 rfl rfl ?_
  refine r_if_lt (tgt := 15) (pc' := 4) dX10_word_1 rfl rfl (by omega) (fun c1 => ?_) (fun c1 => ?_)
  · refine r_ldc (z := -1000000001) (pc' := 17) dX10_word_15 rfl kX10_177 ?_
    refine r_reti dX10_word_17 rfl (Or.inl rfl) ?_
    rw [if_neg (by omega)] at h9
    exact h9
  · refine r_iload_n (pc' := 5) dX10_word_4 rfl rfl ?_
    refine r_aload_n (pc' := 6) dX10_word_5 rfl rfl ?_
    refine r_getr (pc' := 9) dX10_word_6 rfl fX10_23 z0 rfl ?_
    refine r_getf (pc' := 12) (kI := 9) dX10_word_9 rfl fX10_128 isP10.1 rfl rfl p9 ?_
    refine r_icmp_lt (tgt := 18) (pc' := 15) dX10_word_12 rfl rfl (by omega) (by omega) (fun c12 => ?_) (fun c12 => ?_)
    · have ex : ((x.toNat : Nat) : Int) = x := by omega
      have x1 := (px x.toNat (by omega)).1
      have x2 := u6 x.toNat (by omega)
      rw [ex] at x1
      refine r_iload_n (pc' := 19) dX10_word_18 rfl rfl ?_
      refine r_if_lt (tgt := 27) (pc' := 22) dX10_word_19 rfl rfl (by omega) (fun c19 => ?_) (fun c19 => ?_)
      · refine r_ldc (z := -1000000002) (pc' := 29) dX10_word_27 rfl kX10_86 ?_
        refine r_reti dX10_word_29 rfl (Or.inl rfl) ?_
        rw [if_pos (by omega), if_neg (by omega)] at h9
        exact h9
      · refine r_iload_n (pc' := 23) dX10_word_22 rfl rfl ?_
        refine r_iconst (pc' := 24) dX10_word_23 rfl ?_
        refine r_icmp_lt (tgt := 30) (pc' := 27) dX10_word_24 rfl rfl (by omega) (by omega) (fun c24 => ?_) (fun c24 => ?_)
        · refine r_iload_n (pc' := 31) dX10_word_30 rfl rfl ?_
          refine r_aload_n (pc' := 32) dX10_word_31 rfl rfl ?_
          refine r_getr (pc' := 35) dX10_word_32 rfl fX10_23 z0 rfl ?_
          refine r_getr (pc' := 38) dX10_word_35 rfl fX10_209 isP10.1 rfl ?_
          refine r_iload_n (pc' := 39) dX10_word_38 rfl rfl ?_
          refine r_iaload (pc' := 40) dX10_word_39 rfl isP10.2.2.2.2.1 (by decide) (by omega) (by omega) x1 ?_
          refine r_icmp_ge (tgt := 55) (pc' := 43) dX10_word_40 rfl rfl (by omega) (by omega) (fun c40 => ?_) (fun c40 => ?_)
          · refine r_iconst (pc' := 56) dX10_word_55 rfl ?_
            refine r_reti dX10_word_56 rfl (Or.inl rfl) ?_
            rw [if_pos (by omega), if_pos (by omega)] at h9
            first | (rw [if_pos (by omega)] at h9; exact h9) | (rw [if_neg (by omega)] at h9; exact h9)
          · refine r_aload_n (pc' := 44) dX10_word_43 rfl rfl ?_
            refine r_getr (pc' := 47) dX10_word_44 rfl fX10_23 z0 rfl ?_
            refine r_iload_n (pc' := 48) dX10_word_47 rfl rfl ?_
            refine r_iload_n (pc' := 49) dX10_word_48 rfl rfl ?_
            refine r_vi2 (pc' := 52) dX10_word_49 rfl qX5_wordKind lX10_212 isP10.1 rfl rfl rfl rfl (Nat.zero_le _) (Nat.zero_le _) (a_wordKindI isP10 hQ hU (by omega) (by omega) (by omega) (by omega) ?_)
            refine r_goto (tgt := 56) dX10_word_52 rfl ?_
            refine r_reti dX10_word_56 rfl (Or.inl rfl) ?_
            rw [if_pos (by omega), if_pos (by omega)] at h9
            first | (rw [if_pos (by omega)] at h9; exact h9) | (rw [if_neg (by omega)] at h9; exact h9)
        · refine r_ldc (z := -1000000002) (pc' := 29) dX10_word_27 rfl kX10_86 ?_
          refine r_reti dX10_word_29 rfl (Or.inl rfl) ?_
          rw [if_pos (by omega), if_neg (by omega)] at h9
          exact h9
    · refine r_ldc (z := -1000000001) (pc' := 17) dX10_word_15 rfl kX10_177 ?_
      refine r_reti dX10_word_17 rfl (Or.inl rfl) ?_
      rw [if_neg (by omega)] at h9
      exact h9
theorem C_turnings {X : CX} {d : Nat} {g : Mem} {K : Int → Mem → Prop} {tN : Nat} {tX : Nat → Int} {flt : Int} {u : PV} {v : LV} {kn : Nat} {kL : Nat → LV} {im : Nat → Bool × Int × LV} {sd : Int} {ln : Nat} {la : Nat → Nat} {lr : Nat → Bool} {bn : Nat} {bp : Nat → Nat} {bf : Nat → Int} (hS : CS g tN tX flt u v kn kL im sd ln la lr bn bp bf) (w : Int) (hw0 : R32 w) (h : ∀ g' : Mem, CS g' tN tX flt u v kn kL im sd ln la lr bn bp bf → FrC g g' → K (E_turnings v w) g') : EI X (d + 22) mX10_turnings [vr 0, vi w] Z0 g K := by
  show AJ X (d + 22) mX10_turnings 0 0 (QI Z0 K) 0 0 0 [some (vr 0), some (vi w)] [] Z0 g
  obtain ⟨⟨t1, t2, t3⟩, ⟨f1, f2⟩, hB, ⟨top, hP⟩, hI, ⟨sd1, sd2, sd3⟩, hK, hN⟩ := id hS
  obtain ⟨hQ, hU, hC, hW⟩ := id hB
  obtain ⟨hc, ho, hf, hw_, ht, hi, hy⟩ := id hC
  obtain ⟨w0, w1, w2, w3, w4, w5, w6, w7⟩ := id hW
  obtain ⟨p6, p7, p8, p9, p10, pk, pg, px, py⟩ := id hQ
  obtain ⟨u0, u1, u2, u3, u4, u5, u6, u7⟩ := id hU
  refine r_iload_n (pc' := 1) dX10_turnings_0 rfl rfl ?_
  by_cases hsw : w = 0 ∨ w = 1
  · rcases hsw with rfl | rfl
    · refine r_look (tgt := 28) dX10_turnings_1 (by decide) (by decide) rfl rfl ?_
      refine r_aload_n (pc' := 29) dX10_turnings_28 rfl rfl ?_
      refine r_getr (pc' := 32) dX10_turnings_29 rfl fX10_50 z0 rfl ?_
      refine r_aload_n (pc' := 33) dX10_turnings_32 rfl rfl ?_
      refine r_getr (pc' := 36) dX10_turnings_33 rfl fX10_29 z0 rfl ?_
      refine r_vi1 (pc' := 39) dX10_turnings_36 rfl qX9_fewest lX10_253 z154 rfl rfl rfl rfl (Nat.zero_le _) (Nat.zero_le _) (a_few hB (fun g1 q1 q2 fr1 => ?_))
      refine r_reti dX10_turnings_39 rfl (Or.inl rfl) ?_
      have h9 := h g1 (hS.eq [154, 155] fr1 (by decide)) (FrC.of fr1 (by decide))
      unfold E_turnings at h9
      rw [if_pos (by omega)] at h9
      exact h9
    · refine r_look (tgt := 40) dX10_turnings_1 (by decide) (by decide) rfl rfl ?_
      refine r_aload_n (pc' := 41) dX10_turnings_40 rfl rfl ?_
      refine r_getr (pc' := 44) dX10_turnings_41 rfl fX10_50 z0 rfl ?_
      refine r_aload_n (pc' := 45) dX10_turnings_44 rfl rfl ?_
      refine r_getr (pc' := 48) dX10_turnings_45 rfl fX10_29 z0 rfl ?_
      refine r_vi1 (pc' := 51) dX10_turnings_48 rfl qX9_firstTurn lX10_257 z154 rfl rfl rfl rfl (Nat.zero_le _) (Nat.zero_le _) (a_ft hB (fun g1 fr1 => ?_))
      refine r_reti dX10_turnings_51 rfl (Or.inl rfl) ?_
      have h9 := h g1 (hS.eq [154, 155] fr1 (by decide)) (FrC.of fr1 (by decide))
      unfold E_turnings at h9
      rw [if_neg (by omega), if_pos (by omega)] at h9
      exact h9
  · refine r_look (off := 51) (tgt := 52) dX10_turnings_1 (by decide) (by omega) (by simp only [Op.lookupswitch.offset_cons, Op.lookupswitch.offset_nil]; (repeat' split) <;> first | rfl | (exfalso; omega)) rfl ?_
    refine r_ldc (z := -1000000002) (pc' := 54) dX10_turnings_52 rfl kX10_86 ?_
    refine r_reti dX10_turnings_54 rfl (Or.inl rfl) ?_
    have h9 := h g hS (FrC.rf g)
    unfold E_turnings at h9
    rw [if_neg (by omega), if_neg (by omega)] at h9
    exact h9
theorem looseN_lt {F : Nat} {v : LV} (h : LW F v) : looseN v < 128 := by
  have key : ∀ (k s best : Nat) (c r : Nat → Bool), s + k ≤ 128 → best < 128 → loF c r k s best < 128 := by
    intro k
    induction k with
    | zero => intro s best c r _ hb; exact hb
    | succ k ih =>
      intro s best c r hs hb
      unfold loF
      refine ih (s + 1) _ c r (by omega) ?_
      split
      · omega
      · exact hb
  have := onN_lt h
  exact key _ _ _ _ _ (by omega) (by omega)
theorem C_loose {X : CX} {d : Nat} {g : Mem} {K : Int → Mem → Prop} {tN : Nat} {tX : Nat → Int} {flt : Int} {u : PV} {v : LV} {kn : Nat} {kL : Nat → LV} {im : Nat → Bool × Int × LV} {sd : Int} {ln : Nat} {la : Nat → Nat} {lr : Nat → Bool} {bn : Nat} {bp : Nat → Nat} {bf : Nat → Int} (hS : CS g tN tX flt u v kn kL im sd ln la lr bn bp bf) (w : Int) (hw0 : R32 w) (h : ∀ g' : Mem, CS g' tN tX flt u v kn kL im sd ln la lr bn bp bf → FrC g g' → K (E_loose v w) g') : EI X (d + 4) mX10_loose [vr 0, vi w] Z0 g K := by
  show AJ X (d + 4) mX10_loose 0 0 (QI Z0 K) 0 0 0 [some (vr 0), some (vi w)] [] Z0 g
  obtain ⟨⟨t1, t2, t3⟩, ⟨f1, f2⟩, hB, ⟨top, hP⟩, hI, ⟨sd1, sd2, sd3⟩, hK, hN⟩ := id hS
  obtain ⟨hQ, hU, hC, hW⟩ := id hB
  obtain ⟨hc, ho, hf, hw_, ht, hi, hy⟩ := id hC
  obtain ⟨w0, w1, w2, w3, w4, w5, w6, w7⟩ := id hW
  obtain ⟨p6, p7, p8, p9, p10, pk, pg, px, py⟩ := id hQ
  obtain ⟨u0, u1, u2, u3, u4, u5, u6, u7⟩ := id hU
  refine r_iload_n (pc' := 1) dX10_loose_0 rfl rfl ?_
  by_cases hsw : w = 0 ∨ w = 1
  · rcases hsw with rfl | rfl
    · refine r_look (tgt := 28) dX10_loose_1 (by decide) (by decide) rfl rfl ?_
      refine r_aload_n (pc' := 29) dX10_loose_28 rfl rfl ?_
      refine r_getr (pc' := 32) dX10_loose_29 rfl fX10_29 z0 rfl ?_
      refine r_vi0 (pc' := 35) dX10_loose_32 rfl qX2_looseSet lX10_260 isL17.1 rfl rfl rfl (Nat.zero_le _) (Nat.zero_le _) (a_looseSet isL17 hC hW ?_)
      refine r_si1 (pc' := 38) dX10_loose_35 rfl qJ6_bitCount lX10_235 rfl rfl rfl (Nat.zero_le _) (Nat.zero_le _) (a_bitCount (looseN_lt hW) ?_)
      refine r_reti dX10_loose_38 rfl (Or.inl rfl) ?_
      have h9 := h g hS (FrC.rf g)
      unfold E_loose at h9
      rw [if_pos (by omega)] at h9
      exact h9
    · refine r_look (tgt := 39) dX10_loose_1 (by decide) (by decide) rfl rfl ?_
      refine r_aload_n (pc' := 40) dX10_loose_39 rfl rfl ?_
      refine r_getr (pc' := 43) dX10_loose_40 rfl fX10_29 z0 rfl ?_
      refine r_vi0 (pc' := 46) dX10_loose_43 rfl qX2_looseSet lX10_260 isL17.1 rfl rfl rfl (Nat.zero_le _) (Nat.zero_le _) (a_looseSet isL17 hC hW ?_)
      refine r_reti dX10_loose_46 rfl (Or.inl rfl) ?_
      have h9 := h g hS (FrC.rf g)
      unfold E_loose at h9
      rw [if_neg (by omega), if_pos (by omega)] at h9
      exact h9
  · refine r_look (off := 46) (tgt := 47) dX10_loose_1 (by decide) (by omega) (by simp only [Op.lookupswitch.offset_cons, Op.lookupswitch.offset_nil]; (repeat' split) <;> first | rfl | (exfalso; omega)) rfl ?_
    refine r_ldc (z := -1000000002) (pc' := 49) dX10_loose_47 rfl kX10_86 ?_
    refine r_reti dX10_loose_49 rfl (Or.inl rfl) ?_
    have h9 := h g hS (FrC.rf g)
    unfold E_loose at h9
    rw [if_neg (by omega), if_neg (by omega)] at h9
    exact h9
theorem C_ends {X : CX} {d : Nat} {g : Mem} {K : Int → Mem → Prop} {tN : Nat} {tX : Nat → Int} {flt : Int} {u : PV} {v : LV} {kn : Nat} {kL : Nat → LV} {im : Nat → Bool × Int × LV} {sd : Int} {ln : Nat} {la : Nat → Nat} {lr : Nat → Bool} {bn : Nat} {bp : Nat → Nat} {bf : Nat → Int} (hS : CS g tN tX flt u v kn kL im sd ln la lr bn bp bf) (w : Int) (hw0 : R32 w) (h : ∀ g' : Mem, CS g' tN tX flt u v kn kL im sd ln la lr bn bp bf → FrC g g' → K (E_ends u v w) g') : EI X (d + 4) mX10_ends [vr 0, vi w] Z0 g K := by
  show AJ X (d + 4) mX10_ends 0 0 (QI Z0 K) 0 0 0 [some (vr 0), some (vi w)] [] Z0 g
  obtain ⟨⟨t1, t2, t3⟩, ⟨f1, f2⟩, hB, ⟨top, hP⟩, hI, ⟨sd1, sd2, sd3⟩, hK, hN⟩ := id hS
  obtain ⟨hQ, hU, hC, hW⟩ := id hB
  obtain ⟨hc, ho, hf, hw_, ht, hi, hy⟩ := id hC
  obtain ⟨w0, w1, w2, w3, w4, w5, w6, w7⟩ := id hW
  obtain ⟨p6, p7, p8, p9, p10, pk, pg, px, py⟩ := id hQ
  obtain ⟨u0, u1, u2, u3, u4, u5, u6, u7⟩ := id hU
  refine r_iload_n (pc' := 1) dX10_ends_0 rfl rfl ?_
  by_cases hsw : w = 0 ∨ w = 1
  · rcases hsw with rfl | rfl
    · refine r_look (tgt := 28) dX10_ends_1 (by decide) (by decide) rfl rfl ?_
      refine r_sipush (pc' := 31) dX10_ends_28 rfl (by decide) ?_
      refine r_aload_n (pc' := 32) dX10_ends_31 rfl rfl ?_
      refine r_getr (pc' := 35) dX10_ends_32 rfl fX10_64 z0 rfl ?_
      refine r_aload_n (pc' := 36) dX10_ends_35 rfl rfl ?_
      refine r_getr (pc' := 39) dX10_ends_36 rfl fX10_23 z0 rfl ?_
      refine r_aload_n (pc' := 40) dX10_ends_39 rfl rfl ?_
      refine r_getr (pc' := 43) dX10_ends_40 rfl fX10_29 z0 rfl ?_
      refine r_vi2 (pc' := 46) dX10_ends_43 rfl qX8_more lX10_279 z158 rfl rfl rfl rfl (Nat.zero_le _) (Nat.zero_le _) (a_more hB (fun g1 fr1 => ?_))
      refine r_iadd (pc' := 47) dX10_ends_46 rfl ?_
      refine r_reti dX10_ends_47 rfl (Or.inl rfl) ?_
      have h9 := h g1 (hS.eq [159] fr1 (by decide)) (FrC.of fr1 (by decide))
      unfold E_ends at h9
      rw [if_pos (by omega)] at h9
      exact h9
    · refine r_look (tgt := 48) dX10_ends_1 (by decide) (by decide) rfl rfl ?_
      refine r_aload_n (pc' := 49) dX10_ends_48 rfl rfl ?_
      refine r_getr (pc' := 52) dX10_ends_49 rfl fX10_64 z0 rfl ?_
      refine r_aload_n (pc' := 53) dX10_ends_52 rfl rfl ?_
      refine r_getr (pc' := 56) dX10_ends_53 rfl fX10_23 z0 rfl ?_
      refine r_aload_n (pc' := 57) dX10_ends_56 rfl rfl ?_
      refine r_getr (pc' := 60) dX10_ends_57 rfl fX10_29 z0 rfl ?_
      refine r_vi2 (pc' := 63) dX10_ends_60 rfl qX8_firstEnd lX10_282 z158 rfl rfl rfl rfl (Nat.zero_le _) (Nat.zero_le _) (a_firstEnd hB (fun g1 fr1 => ?_))
      refine r_reti dX10_ends_63 rfl (Or.inl rfl) ?_
      have h9 := h g1 (hS.eq [159] fr1 (by decide)) (FrC.of fr1 (by decide))
      unfold E_ends at h9
      rw [if_neg (by omega), if_pos (by omega)] at h9
      exact h9
  · refine r_look (off := 63) (tgt := 64) dX10_ends_1 (by decide) (by omega) (by simp only [Op.lookupswitch.offset_cons, Op.lookupswitch.offset_nil]; (repeat' split) <;> first | rfl | (exfalso; omega)) rfl ?_
    refine r_ldc (z := -1000000002) (pc' := 66) dX10_ends_64 rfl kX10_86 ?_
    refine r_reti dX10_ends_66 rfl (Or.inl rfl) ?_
    have h9 := h g hS (FrC.rf g)
    unfold E_ends at h9
    rw [if_neg (by omega), if_neg (by omega)] at h9
    exact h9
theorem C_felt {X : CX} {d : Nat} {g : Mem} {K : Int → Mem → Prop} {tN : Nat} {tX : Nat → Int} {flt : Int} {u : PV} {v : LV} {kn : Nat} {kL : Nat → LV} {im : Nat → Bool × Int × LV} {sd : Int} {ln : Nat} {la : Nat → Nat} {lr : Nat → Bool} {bn : Nat} {bp : Nat → Nat} {bf : Nat → Int} (hS : CS g tN tX flt u v kn kL im sd ln la lr bn bp bf) (s p : Int) (hs0 : R32 s) (hp0 : R32 p) (h : ∀ g' : Mem, CS g' tN tX flt u v kn kL im sd ln la lr bn bp bf → FrC g g' → K (E_felt u v s p) g') : EI X (d + 2) mX10_felt [vr 0, vi s, vi p] Z0 g K := by
  show AJ X (d + 2) mX10_felt 0 0 (QI Z0 K) 0 0 0 [some (vr 0), some (vi s), some (vi p)] [] Z0 g
  obtain ⟨⟨t1, t2, t3⟩, ⟨f1, f2⟩, hB, ⟨top, hP⟩, hI, ⟨sd1, sd2, sd3⟩, hK, hN⟩ := id hS
  obtain ⟨hQ, hU, hC, hW⟩ := id hB
  obtain ⟨hc, ho, hf, hw_, ht, hi, hy⟩ := id hC
  obtain ⟨w0, w1, w2, w3, w4, w5, w6, w7⟩ := id hW
  obtain ⟨p6, p7, p8, p9, p10, pk, pg, px, py⟩ := id hQ
  obtain ⟨u0, u1, u2, u3, u4, u5, u6, u7⟩ := id hU
  have h9 := h g hS (FrC.rf g)
  unfold E_felt at h9
  refine r_iload_n (pc' := 1) dX10_felt_0 rfl rfl ?_
  refine r_if_lt (tgt := 20) (pc' := 4) dX10_felt_1 rfl rfl (by omega) (fun c1 => ?_) (fun c1 => ?_)
  · refine r_ldc (z := -1000000002) (pc' := 22) dX10_felt_20 rfl kX10_86 ?_
    refine r_reti dX10_felt_22 rfl (Or.inl rfl) ?_
    rw [if_neg (by omega)] at h9
    exact h9
  · refine r_iload_n (pc' := 5) dX10_felt_4 rfl rfl ?_
    refine r_bipush (pc' := 7) dX10_felt_5 rfl (by decide) ?_
    refine r_icmp_gt (tgt := 20) (pc' := 10) dX10_felt_7 rfl rfl (by omega) (by omega) (fun c7 => ?_) (fun c7 => ?_)
    · refine r_ldc (z := -1000000002) (pc' := 22) dX10_felt_20 rfl kX10_86 ?_
      refine r_reti dX10_felt_22 rfl (Or.inl rfl) ?_
      rw [if_neg (by omega)] at h9
      exact h9
    · refine r_iload_n (pc' := 11) dX10_felt_10 rfl rfl ?_
      refine r_if_lt (tgt := 20) (pc' := 14) dX10_felt_11 rfl rfl (by omega) (fun c11 => ?_) (fun c11 => ?_)
      · refine r_ldc (z := -1000000002) (pc' := 22) dX10_felt_20 rfl kX10_86 ?_
        refine r_reti dX10_felt_22 rfl (Or.inl rfl) ?_
        rw [if_neg (by omega)] at h9
        exact h9
      · refine r_iload_n (pc' := 15) dX10_felt_14 rfl rfl ?_
        refine r_bipush (pc' := 17) dX10_felt_15 rfl (by decide) ?_
        refine r_icmp_le (tgt := 23) (pc' := 20) dX10_felt_17 rfl rfl (by omega) (by omega) (fun c17 => ?_) (fun c17 => ?_)
        · refine r_aload_n (pc' := 24) dX10_felt_23 rfl rfl ?_
          refine r_getr (pc' := 27) dX10_felt_24 rfl fX10_29 z0 rfl ?_
          refine r_aload_n (pc' := 28) dX10_felt_27 rfl rfl ?_
          refine r_getr (pc' := 31) dX10_felt_28 rfl fX10_23 z0 rfl ?_
          refine r_iload_n (pc' := 32) dX10_felt_31 rfl rfl ?_
          refine r_iload_n (pc' := 33) dX10_felt_32 rfl rfl ?_
          refine r_vi3 (pc' := 36) dX10_felt_33 rfl qX2_pullAt lX10_263 isL17.1 rfl rfl rfl rfl (Nat.zero_le _) (Nat.zero_le _) (a_pullAtI hB (by omega) (by omega) (by omega) (by omega) ?_)
          refine r_reti dX10_felt_36 rfl (Or.inl rfl) ?_
          rw [if_pos (by omega)] at h9
          exact h9
        · refine r_ldc (z := -1000000002) (pc' := 22) dX10_felt_20 rfl kX10_86 ?_
          refine r_reti dX10_felt_22 rfl (Or.inl rfl) ?_
          rw [if_neg (by omega)] at h9
          exact h9
