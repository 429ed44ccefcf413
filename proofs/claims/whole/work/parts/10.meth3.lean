theorem n_dif (s t : Nat) : Int32.ofNat s &&& (Int32.ofNat t ^^^ Int32.ofInt (-1)) = Int32.ofNat (s ^^^ (s &&& t)) := by
  apply Int32.toBitVec_inj.mp
  show BitVec.ofNat 32 s &&& (BitVec.ofNat 32 t ^^^ BitVec.allOnes 32) = BitVec.ofNat 32 (s ^^^ (s &&& t))
  apply BitVec.eq_of_getLsbD_eq
  intro i hi
  simp only [BitVec.getLsbD_and, BitVec.getLsbD_xor, BitVec.getLsbD_allOnes, BitVec.getLsbD_ofNat, Nat.testBit_xor, Nat.testBit_and, hi, decide_true, Bool.true_and]
  cases s.testBit i <;> cases t.testBit i <;> rfl
/-- the bits of s that t hasn't -/
def difN (s t : Nat) : Nat := s ^^^ (s &&& t)
theorem difN_bit (s t i : Nat) : (difN s t).testBit i = (s.testBit i && !t.testBit i) := by
  unfold difN
  rw [Nat.testBit_xor, Nat.testBit_and]
  cases s.testBit i <;> cases t.testBit i <;> rfl
theorem difN_lt {s t : Nat} (h : s < 128) : difN s t < 128 := Nat.xor_lt_two_pow (n := 7) h (Nat.lt_of_le_of_lt Nat.and_le_left h)
theorem dif_n {s t : Nat} (h : s < 128) : b_and (s : Int) (b_xor (t : Int) (-1)) = ((difN s t : Nat) : Int) := by
  have h2 := difN_lt (t := t) h
  show (Int32.ofInt (s : Int) &&& Int32.ofInt ((Int32.ofInt (t : Int) ^^^ Int32.ofInt (-1)).toInt)).toInt = _
  rw [i32_of]
  show (Int32.ofNat s &&& (Int32.ofNat t ^^^ Int32.ofInt (-1))).toInt = _
  rw [n_dif]
  exact n_toInt (a := difN s t) (by omega)
theorem tm_n (a b : Nat) : (a : Int).tmod (b : Int) = ((a % b : Nat) : Int) := rfl
def rfB (o : Nat → Nat) (n s : Nat) : Bool := allF (fun p => decide (o ((s + p - 1) % n) ≤ o ((s + p) % n))) (n - 1) 1
def rcF (c : Nat → Bool) : Nat → Nat → Int
  | 0, _ => -1
  | k + 1, p => if c p then (p : Int) else rcF c k (p + 1)
def crF (o : Nat → Nat) (n : Nat) : Nat → Nat → Nat → Nat
  | 0, _, acc => acc
  | k + 1, p, acc => crF o n k (p + 1) (cnF (fun q => decide (o q < o p)) (n - (p + 1)) (p + 1) acc)
theorem crF_le (o : Nat → Nat) (n : Nat) : ∀ (k p acc : Nat), crF o n k p acc ≤ acc + k * n
  | 0, _, acc => by unfold crF; omega
  | k + 1, p, acc => by
    unfold crF
    have h1 := crF_le o n k (p + 1) (cnF (fun q => decide (o q < o p)) (n - (p + 1)) (p + 1) acc)
    have h2 := cnF_le (c := fun q => decide (o q < o p)) (n - (p + 1)) (p + 1) acc
    rw [Nat.succ_mul]
    omega
def rwF (o : Nat → Nat) (s : Nat) : Nat → Nat → Int → Bool
  | 0, _, _ => true
  | k + 1, p, last => if s.testBit (o p) then rwF o s k (p + 1) last else if (o p : Int) < last then false else rwF o s k (p + 1) (o p)
def loF (c : Nat → Bool) (r : Nat → Bool) : Nat → Nat → Nat → Nat
  | 0, _, best => best
  | k + 1, s, best => loF c r k (s + 1) (if (c s && decide (popN s < popN best)) && r s then s else best)
def plF (o h : Nat → Nat) (wet : Nat) : Nat → Nat → Int → Int
  | 0, _, left => left
  | k + 1, p, left => plF o h wet k (p + 1) (left - (if wet.testBit (o p) then 2 * (h (o p) : Int) else (h (o p) : Int)))
theorem l_outSet {X : CX} {d : Nat} {g : Mem} {K : Int → Mem → Prop} {i a f w F : Nat} {v : LV} (hL : isL i a f w) (hC : LC g i a f w v) (hW : LW F v) {j pa pb pc pe pf ph : Nat} {u : PV} (hP : isP j pa pb pc pe pf ph) (hQ : PC_ g j pa pb pc pe pf ph u) (hU : PW u) (hF : F = Pf u)  : ∀ (k p acc : Nat), p + k = Ln v → acc < 128 → K ((orF (fun p => outP u v (Lo v p)) (fun p => 2 ^ Lo v p) k p acc : Nat) : Int) g → AJ X (d + 2) mX2_outSet 0 0 (QI Z0 K) 0 0 4 [some (vr i), some (vr j), some (vi (acc : Int)), some (vi (p : Int))] [] Z0 g := by
  obtain ⟨hc, ho, hf, hw, ht, hi, hy⟩ := id hC
  obtain ⟨w0, w1, w2, w3, w4, w5, w6, w7⟩ := id hW
  obtain ⟨p6, p7, p8, p9, p10, pk, pg, px, py⟩ := id hQ
  obtain ⟨u0, u1, u2, u3, u4, u5, u6, u7⟩ := id hU
  intro k
  induction k with
  | zero =>
    intro p acc hp ha h
    refine r_iload_n (pc' := 5) dX2_outSet_4 rfl rfl ?_
    refine r_aload_n (pc' := 6) dX2_outSet_5 rfl rfl ?_
    refine r_getf (pc' := 9) (kI := 3) dX2_outSet_6 rfl fX2_21 hL.1 rfl rfl hc ?_
    refine r_icmp_ge (tgt := 43) (pc' := 12) dX2_outSet_9 rfl rfl (by omega) (by omega) (fun c9 => ?_) (fun c9 => ?_)
    · refine r_iload_n (pc' := 44) dX2_outSet_43 rfl rfl ?_
      refine r_reti dX2_outSet_44 rfl (Or.inl rfl) ?_
      exact h
    · exact absurd c9 (by omega)
  | succ k ih =>
    intro p acc hp ha h
    have w2p := w2 p (by omega)
    have e : b_or (acc : Int) (b_shl 1 (Lo v p : Int)) = ((acc ||| 2 ^ (Lo v p) : Nat) : Int) := by rw [shl1 (by omega), or_n ha (pow7 (by omega))]
    unfold orF at h
    refine r_iload_n (pc' := 5) dX2_outSet_4 rfl rfl ?_
    refine r_aload_n (pc' := 6) dX2_outSet_5 rfl rfl ?_
    refine r_getf (pc' := 9) (kI := 3) dX2_outSet_6 rfl fX2_21 hL.1 rfl rfl hc ?_
    refine r_icmp_ge (tgt := 43) (pc' := 12) dX2_outSet_9 rfl rfl (by omega) (by omega) (fun c9 => ?_) (fun c9 => ?_)
    · exact absurd c9 (by omega)
    · refine r_aload_n (pc' := 13) dX2_outSet_12 rfl rfl ?_
      refine r_aload_n (pc' := 14) dX2_outSet_13 rfl rfl ?_
      refine r_aload_n (pc' := 15) dX2_outSet_14 rfl rfl ?_
      refine r_getr (pc' := 18) dX2_outSet_15 rfl fX2_9 hL.1 rfl ?_
      refine r_iload_n (pc' := 19) dX2_outSet_18 rfl rfl ?_
      refine r_iaload (pc' := 20) dX2_outSet_19 rfl hL.2.1 (by decide) (by omega) (by omega) (ho p (by omega)) ?_
      refine r_vi2 (pc' := 23) dX2_outSet_20 rfl qX2_isOut lX2_58 hL.1 rfl rfl rfl rfl (Nat.zero_le _) (Nat.zero_le _) (a_isOut hL hC hW hP hQ hU hF (by omega) ?_)
      refine r_if_eq (tgt := 37) (pc' := 26) dX2_outSet_23 rfl rfl (b01_R _) (fun c23 => ?_) (fun c23 => ?_)
      · refine r_iinc (pc' := 40) dX2_outSet_37 rfl rfl rfl ?_
        refine r_goto (tgt := 4) dX2_outSet_40 rfl ?_
        first | (rw [if_pos (b01_ne c23)] at h; exact ih (p + 1) _ (by omega) (or128 ha (pow7 (by omega))) h) | (rw [if_neg (by rw [b01_eq c23]; decide)] at h; exact ih (p + 1) _ (by omega) ha h)
      · refine r_iload_n (pc' := 27) dX2_outSet_26 rfl rfl ?_
        refine r_iconst (pc' := 28) dX2_outSet_27 rfl ?_
        refine r_aload_n (pc' := 29) dX2_outSet_28 rfl rfl ?_
        refine r_getr (pc' := 32) dX2_outSet_29 rfl fX2_9 hL.1 rfl ?_
        refine r_iload_n (pc' := 33) dX2_outSet_32 rfl rfl ?_
        refine r_iaload (pc' := 34) dX2_outSet_33 rfl hL.2.1 (by decide) (by omega) (by omega) (ho p (by omega)) ?_
        refine r_ishl (pc' := 35) dX2_outSet_34 rfl ?_
        refine r_ior (pc' := 36) dX2_outSet_35 rfl ?_
        rw [e]
        refine r_istore_n (pc' := 37) dX2_outSet_36 rfl rfl ?_
        refine r_iinc (pc' := 40) dX2_outSet_37 rfl rfl rfl ?_
        refine r_goto (tgt := 4) dX2_outSet_40 rfl ?_
        first | (rw [if_pos (b01_ne c23)] at h; exact ih (p + 1) _ (by omega) (or128 ha (pow7 (by omega))) h) | (rw [if_neg (by rw [b01_eq c23]; decide)] at h; exact ih (p + 1) _ (by omega) ha h)
def outN (u : PV) (v : LV) : Nat := orF (fun p => outP u v (Lo v p)) (fun p => 2 ^ Lo v p) (Ln v) 0 0
theorem a_outSet {X : CX} {d : Nat} {g : Mem} {K : Int → Mem → Prop} {i a f w F : Nat} {v : LV} (hL : isL i a f w) (hC : LC g i a f w v) (hW : LW F v) {j pa pb pc pe pf ph : Nat} {u : PV} (hP : isP j pa pb pc pe pf ph) (hQ : PC_ g j pa pb pc pe pf ph u) (hU : PW u) (hF : F = Pf u) (h : K (outN u v) g) : EI X (d + 2) mX2_outSet [vr i, vr j] Z0 g K := by
  show AJ X (d + 2) mX2_outSet 0 0 (QI Z0 K) 0 0 0 [some (vr i), some (vr j), none, none] [] Z0 g
  refine r_iconst (pc' := 1) dX2_outSet_0 rfl ?_
  refine r_istore_n (pc' := 2) dX2_outSet_1 rfl rfl ?_
  refine r_iconst (pc' := 3) dX2_outSet_2 rfl ?_
  refine r_istore_n (pc' := 4) dX2_outSet_3 rfl rfl ?_
  exact l_outSet hL hC hW hP hQ hU hF (Ln v) 0 0 (by omega) (by decide) h
theorem l_risesFrom {X : CX} {d : Nat} {g : Mem} {K : Int → Mem → Prop} {i a f w F : Nat} {v : LV} (hL : isL i a f w) (hC : LC g i a f w v) (hW : LW F v) {s : Nat} (hs : s < 7) : ∀ (k p : Nat), 1 ≤ p → p ≤ 7 → Ln v - p = k → K (b01 (allF (fun p => decide (Lo v ((s + p - 1) % Ln v) ≤ Lo v ((s + p) % Ln v))) k p)) g → AJ X (d) mX2_risesFrom 0 0 (QI Z0 K) 0 0 2 [some (vr i), some (vi (s : Int)), some (vi (p : Int))] [] Z0 g := by
  obtain ⟨hc, ho, hf, hw, ht, hi, hy⟩ := id hC
  obtain ⟨w0, w1, w2, w3, w4, w5, w6, w7⟩ := id hW
  intro k
  induction k with
  | zero =>
    intro p h1 h7 hp h
    refine r_iload_n (pc' := 3) dX2_risesFrom_2 rfl rfl ?_
    refine r_aload_n (pc' := 4) dX2_risesFrom_3 rfl rfl ?_
    refine r_getf (pc' := 7) (kI := 3) dX2_risesFrom_4 rfl fX2_21 hL.1 rfl rfl hc ?_
    refine r_icmp_ge (tgt := 49) (pc' := 10) dX2_risesFrom_7 rfl rfl (by omega) (by omega) (fun c7 => ?_) (fun c7 => ?_)
    · refine r_iconst (pc' := 50) dX2_risesFrom_49 rfl ?_
      refine r_reti dX2_risesFrom_50 rfl (Or.inr ⟨rfl, by first | exact Or.inl rfl | exact Or.inr rfl | omega⟩) ?_
      exact h
    · exact absurd c7 (by omega)
  | succ k ih =>
    intro p h1 h7 hp h
    have hn : 0 < Ln v := by omega
    have m1 := Nat.mod_lt (s + p) hn
    have m2 := Nat.mod_lt (s + p - 1) hn
    have e1 : ((s : Int) + (p : Int)).tmod (Ln v : Int) = (((s + p) % Ln v : Nat) : Int) := tm_n (s + p) _
    have e2 : ((s : Int) + (p : Int) - 1).tmod (Ln v : Int) = (((s + p - 1) % Ln v : Nat) : Int) := by rw [show (s : Int) + (p : Int) - 1 = ((s + p - 1 : Nat) : Int) by omega]; exact tm_n _ _
    have q1 := w2 _ m1
    have q2 := w2 _ m2
    refine r_iload_n (pc' := 3) dX2_risesFrom_2 rfl rfl ?_
    refine r_aload_n (pc' := 4) dX2_risesFrom_3 rfl rfl ?_
    refine r_getf (pc' := 7) (kI := 3) dX2_risesFrom_4 rfl fX2_21 hL.1 rfl rfl hc ?_
    refine r_icmp_ge (tgt := 49) (pc' := 10) dX2_risesFrom_7 rfl rfl (by omega) (by omega) (fun c7 => ?_) (fun c7 => ?_)
    · exact absurd c7 (by omega)
    · refine r_aload_n (pc' := 11) dX2_risesFrom_10 rfl rfl ?_
      refine r_getr (pc' := 14) dX2_risesFrom_11 rfl fX2_9 hL.1 rfl ?_
      refine r_iload_n (pc' := 15) dX2_risesFrom_14 rfl rfl ?_
      refine r_iload_n (pc' := 16) dX2_risesFrom_15 rfl rfl ?_
      refine r_iadd (pc' := 17) dX2_risesFrom_16 rfl ?_
      refine r_aload_n (pc' := 18) dX2_risesFrom_17 rfl rfl ?_
      refine r_getf (pc' := 21) (kI := 3) dX2_risesFrom_18 rfl fX2_21 hL.1 rfl rfl hc ?_
      refine r_irem (pc' := 22) dX2_risesFrom_21 rfl (by omega) (by omega) (by omega) ?_
      rw [e1]
      refine r_iaload (pc' := 23) dX2_risesFrom_22 rfl hL.2.1 (by decide) (by omega) (by omega) (ho _ m1) ?_
      refine r_aload_n (pc' := 24) dX2_risesFrom_23 rfl rfl ?_
      refine r_getr (pc' := 27) dX2_risesFrom_24 rfl fX2_9 hL.1 rfl ?_
      refine r_iload_n (pc' := 28) dX2_risesFrom_27 rfl rfl ?_
      refine r_iload_n (pc' := 29) dX2_risesFrom_28 rfl rfl ?_
      refine r_iadd (pc' := 30) dX2_risesFrom_29 rfl ?_
      refine r_iconst (pc' := 31) dX2_risesFrom_30 rfl ?_
      refine r_isub (pc' := 32) dX2_risesFrom_31 rfl ?_
      refine r_aload_n (pc' := 33) dX2_risesFrom_32 rfl rfl ?_
      refine r_getf (pc' := 36) (kI := 3) dX2_risesFrom_33 rfl fX2_21 hL.1 rfl rfl hc ?_
      refine r_irem (pc' := 37) dX2_risesFrom_36 rfl (by omega) (by omega) (by omega) ?_
      rw [e2]
      refine r_iaload (pc' := 38) dX2_risesFrom_37 rfl hL.2.1 (by decide) (by omega) (by omega) (ho _ m2) ?_
      refine r_icmp_ge (tgt := 43) (pc' := 41) dX2_risesFrom_38 rfl rfl (by omega) (by omega) (fun c38 => ?_) (fun c38 => ?_)
      · refine r_iinc (pc' := 46) dX2_risesFrom_43 rfl rfl rfl ?_
        refine r_goto (tgt := 2) dX2_risesFrom_46 rfl ?_
        exact ih (p + 1) (by omega) (by omega) (by omega) (by rw [allF, decide_eq_true (by omega : Lo v ((s + p - 1) % Ln v) ≤ Lo v ((s + p) % Ln v)), Bool.true_and] at h; exact h)
      · refine r_iconst (pc' := 42) dX2_risesFrom_41 rfl ?_
        refine r_reti dX2_risesFrom_42 rfl (Or.inr ⟨rfl, by first | exact Or.inl rfl | exact Or.inr rfl | omega⟩) ?_
        rw [allF, decide_eq_false (by omega : ¬ Lo v ((s + p - 1) % Ln v) ≤ Lo v ((s + p) % Ln v)), Bool.false_and] at h
        exact h
theorem a_risesFrom {X : CX} {d : Nat} {g : Mem} {K : Int → Mem → Prop} {i a f w F : Nat} {v : LV} (hL : isL i a f w) (hC : LC g i a f w v) (hW : LW F v) {s : Nat} (hs : s < 7) (h : K (b01 (rfB (Lo v) (Ln v) s)) g) : EI X (d) mX2_risesFrom [vr i, vi (s : Int)] Z0 g K := by
  show AJ X (d) mX2_risesFrom 0 0 (QI Z0 K) 0 0 0 [some (vr i), some (vi (s : Int)), none] [] Z0 g
  refine r_iconst (pc' := 1) dX2_risesFrom_0 rfl ?_
  refine r_istore_n (pc' := 2) dX2_risesFrom_1 rfl rfl ?_
  exact l_risesFrom hL hC hW hs (Ln v - 1) 1 (by omega) (by omega) rfl h
theorem a_rises {X : CX} {d : Nat} {g : Mem} {K : Int → Mem → Prop} {i a f w F : Nat} {v : LV} (hL : isL i a f w) (hC : LC g i a f w v) (hW : LW F v) (h : K (b01 (rfB (Lo v) (Ln v) 0)) g) : EI X (d + 1) mX2_rises [vr i] Z0 g K := by
  show AJ X (d + 1) mX2_rises 0 0 (QI Z0 K) 0 0 0 [some (vr i)] [] Z0 g
  refine r_aload_n (pc' := 1) dX2_rises_0 rfl rfl ?_
  refine r_iconst (pc' := 2) dX2_rises_1 rfl ?_
  refine r_vi1 (pc' := 5) dX2_rises_2 rfl qX2_risesFrom lX2_82 hL.1 rfl rfl rfl rfl (Nat.zero_le _) (Nat.zero_le _) (a_risesFrom (s := 0) hL hC hW (by decide) ?_)
  refine r_reti dX2_rises_5 rfl (Or.inr ⟨rfl, b01_01 _⟩) ?_
  exact h
theorem l_rightCut {X : CX} {d : Nat} {g : Mem} {K : Int → Mem → Prop} {i a f w F : Nat} {v : LV} (hL : isL i a f w) (hC : LC g i a f w v) (hW : LW F v)  : ∀ (k p : Nat), 1 ≤ p → p ≤ 7 → Ln v - p = k → K (rcF (rfB (Lo v) (Ln v)) k p) g → AJ X (d + 1) mX2_rightCut 0 0 (QI Z0 K) 0 0 11 [some (vr i), some (vi (p : Int))] [] Z0 g := by
  obtain ⟨hc, ho, hf, hw, ht, hi, hy⟩ := id hC
  obtain ⟨w0, w1, w2, w3, w4, w5, w6, w7⟩ := id hW
  intro k
  induction k with
  | zero =>
    intro p h1 h7 hp h
    refine r_iload_n (pc' := 12) dX2_rightCut_11 rfl rfl ?_
    refine r_aload_n (pc' := 13) dX2_rightCut_12 rfl rfl ?_
    refine r_getf (pc' := 16) (kI := 3) dX2_rightCut_13 rfl fX2_21 hL.1 rfl rfl hc ?_
    refine r_icmp_ge (tgt := 35) (pc' := 19) dX2_rightCut_16 rfl rfl (by omega) (by omega) (fun c16 => ?_) (fun c16 => ?_)
    · refine r_iconst (pc' := 36) dX2_rightCut_35 rfl ?_
      refine r_reti dX2_rightCut_36 rfl (Or.inl rfl) ?_
      exact h
    · exact absurd c16 (by omega)
  | succ k ih =>
    intro p h1 h7 hp h
    refine r_iload_n (pc' := 12) dX2_rightCut_11 rfl rfl ?_
    refine r_aload_n (pc' := 13) dX2_rightCut_12 rfl rfl ?_
    refine r_getf (pc' := 16) (kI := 3) dX2_rightCut_13 rfl fX2_21 hL.1 rfl rfl hc ?_
    refine r_icmp_ge (tgt := 35) (pc' := 19) dX2_rightCut_16 rfl rfl (by omega) (by omega) (fun c16 => ?_) (fun c16 => ?_)
    · exact absurd c16 (by omega)
    · refine r_aload_n (pc' := 20) dX2_rightCut_19 rfl rfl ?_
      refine r_iload_n (pc' := 21) dX2_rightCut_20 rfl rfl ?_
      refine r_vi1 (pc' := 24) dX2_rightCut_21 rfl qX2_risesFrom lX2_82 hL.1 rfl rfl rfl rfl (Nat.zero_le _) (Nat.zero_le _) (a_risesFrom hL hC hW (by omega) ?_)
      refine r_if_eq (tgt := 29) (pc' := 27) dX2_rightCut_24 rfl rfl (b01_R _) (fun c24 => ?_) (fun c24 => ?_)
      · refine r_iinc (pc' := 32) dX2_rightCut_29 rfl rfl rfl ?_
        refine r_goto (tgt := 11) dX2_rightCut_32 rfl ?_
        exact ih (p + 1) (by omega) (by omega) (by omega) (by rw [rcF, if_neg (by rw [b01_eq c24]; decide)] at h; exact h)
      · refine r_iload_n (pc' := 28) dX2_rightCut_27 rfl rfl ?_
        refine r_reti dX2_rightCut_28 rfl (Or.inl rfl) ?_
        rw [rcF, if_pos (b01_ne c24)] at h
        exact h
def cutN (o : Nat → Nat) (n : Nat) : Int := if rfB o n 0 then 0 else rcF (rfB o n) (n - 1) 1
theorem a_rightCut {X : CX} {d : Nat} {g : Mem} {K : Int → Mem → Prop} {i a f w F : Nat} {v : LV} (hL : isL i a f w) (hC : LC g i a f w v) (hW : LW F v) (h : K (cutN (Lo v) (Ln v)) g) : EI X (d + 2) mX2_rightCut [vr i] Z0 g K := by
  show AJ X (d + 2) mX2_rightCut 0 0 (QI Z0 K) 0 0 0 [some (vr i), none] [] Z0 g
  unfold cutN at h
  refine r_aload_n (pc' := 1) dX2_rightCut_0 rfl rfl ?_
  refine r_vi0 (pc' := 4) dX2_rightCut_1 rfl qX2_rises lX2_86 hL.1 rfl rfl rfl (Nat.zero_le _) (Nat.zero_le _) (a_rises hL hC hW ?_)
  refine r_if_eq (tgt := 9) (pc' := 7) dX2_rightCut_4 rfl rfl (b01_R _) (fun c4 => ?_) (fun c4 => ?_)
  · refine r_iconst (pc' := 10) dX2_rightCut_9 rfl ?_
    refine r_istore_n (pc' := 11) dX2_rightCut_10 rfl rfl ?_
    rw [if_neg (by rw [b01_eq c4]; decide)] at h
    exact l_rightCut hL hC hW (Ln v - 1) 1 (by omega) (by omega) rfl h
  · refine r_iconst (pc' := 8) dX2_rightCut_7 rfl ?_
    refine r_reti dX2_rightCut_8 rfl (Or.inl rfl) ?_
    rw [if_pos (b01_ne c4)] at h
    exact h
theorem l_crossI {X : CX} {d : Nat} {g : Mem} {K : Int → Mem → Prop} {i a f w F : Nat} {v : LV} (hL : isL i a f w) (hC : LC g i a f w v) (hW : LW F v) {p : Nat} (hp : p < Ln v) : ∀ (k q acc : Nat), q + k = Ln v → p < q → acc + k ≤ 1000 → AJ X (d) mX2_crossed 0 0 (QI Z0 K) 0 0 48 [some (vr i), some (vi ((cnF (fun q => decide (Lo v q < Lo v p)) k q acc : Nat) : Int)), some (vi (p : Int)), some (vi (Ln v : Int))] [] Z0 g → AJ X (d) mX2_crossed 0 0 (QI Z0 K) 0 0 16 [some (vr i), some (vi (acc : Int)), some (vi (p : Int)), some (vi (q : Int))] [] Z0 g := by
  obtain ⟨hc, ho, hf, hw, ht, hi, hy⟩ := id hC
  obtain ⟨w0, w1, w2, w3, w4, w5, w6, w7⟩ := id hW
  intro k
  induction k with
  | zero =>
    intro q acc hq hpq ha h
    refine r_iload_n (pc' := 17) dX2_crossed_16 rfl rfl ?_
    refine r_aload_n (pc' := 18) dX2_crossed_17 rfl rfl ?_
    refine r_getf (pc' := 21) (kI := 3) dX2_crossed_18 rfl fX2_21 hL.1 rfl rfl hc ?_
    refine r_icmp_ge (tgt := 48) (pc' := 24) dX2_crossed_21 rfl rfl (by omega) (by omega) (fun c21 => ?_) (fun c21 => ?_)
    · rw [show (Ln v : Int) = (q : Int) by omega] at h
      exact h
    · exact absurd c21 (by omega)
  | succ k ih =>
    intro q acc hq hpq ha h
    have q1 := w2 q (by omega)
    have q2 := w2 p (by omega)
    unfold cnF at h
    refine r_iload_n (pc' := 17) dX2_crossed_16 rfl rfl ?_
    refine r_aload_n (pc' := 18) dX2_crossed_17 rfl rfl ?_
    refine r_getf (pc' := 21) (kI := 3) dX2_crossed_18 rfl fX2_21 hL.1 rfl rfl hc ?_
    refine r_icmp_ge (tgt := 48) (pc' := 24) dX2_crossed_21 rfl rfl (by omega) (by omega) (fun c21 => ?_) (fun c21 => ?_)
    · exact absurd c21 (by omega)
    · refine r_aload_n (pc' := 25) dX2_crossed_24 rfl rfl ?_
      refine r_getr (pc' := 28) dX2_crossed_25 rfl fX2_9 hL.1 rfl ?_
      refine r_iload_n (pc' := 29) dX2_crossed_28 rfl rfl ?_
      refine r_iaload (pc' := 30) dX2_crossed_29 rfl hL.2.1 (by decide) (by omega) (by omega) (ho q (by omega)) ?_
      refine r_aload_n (pc' := 31) dX2_crossed_30 rfl rfl ?_
      refine r_getr (pc' := 34) dX2_crossed_31 rfl fX2_9 hL.1 rfl ?_
      refine r_iload_n (pc' := 35) dX2_crossed_34 rfl rfl ?_
      refine r_iaload (pc' := 36) dX2_crossed_35 rfl hL.2.1 (by decide) (by omega) (by omega) (ho p (by omega)) ?_
      refine r_icmp_ge (tgt := 42) (pc' := 39) dX2_crossed_36 rfl rfl (by omega) (by omega) (fun c36 => ?_) (fun c36 => ?_)
      · refine r_iinc (pc' := 45) dX2_crossed_42 rfl rfl rfl ?_
        refine r_goto (tgt := 16) dX2_crossed_45 rfl ?_
        first | (rw [if_pos (decide_eq_true (by omega : Lo v q < Lo v p))] at h; exact ih (q + 1) (acc + 1) (by omega) (by omega) (by omega) h) | (rw [if_neg (by rw [decide_eq_false (by omega : ¬ Lo v q < Lo v p)]; decide)] at h; exact ih (q + 1) acc (by omega) (by omega) (by omega) h)
      · refine r_iinc (pc' := 42) dX2_crossed_39 rfl rfl rfl ?_
        refine r_iinc (pc' := 45) dX2_crossed_42 rfl rfl rfl ?_
        refine r_goto (tgt := 16) dX2_crossed_45 rfl ?_
        first | (rw [if_pos (decide_eq_true (by omega : Lo v q < Lo v p))] at h; exact ih (q + 1) (acc + 1) (by omega) (by omega) (by omega) h) | (rw [if_neg (by rw [decide_eq_false (by omega : ¬ Lo v q < Lo v p)]; decide)] at h; exact ih (q + 1) acc (by omega) (by omega) (by omega) h)
theorem l_crossO {X : CX} {d : Nat} {g : Mem} {K : Int → Mem → Prop} {i a f w F : Nat} {v : LV} (hL : isL i a f w) (hC : LC g i a f w v) (hW : LW F v)  : ∀ (k p acc : Nat) (x : Option VV), p + k = Ln v → acc ≤ 7 * p → K ((crF (Lo v) (Ln v) k p acc : Nat) : Int) g → AJ X (d) mX2_crossed 0 0 (QI Z0 K) 0 0 4 [some (vr i), some (vi (acc : Int)), some (vi (p : Int)), x] [] Z0 g := by
  obtain ⟨hc, ho, hf, hw, ht, hi, hy⟩ := id hC
  obtain ⟨w0, w1, w2, w3, w4, w5, w6, w7⟩ := id hW
  intro k
  induction k with
  | zero =>
    intro p acc x hp ha h
    refine r_iload_n (pc' := 5) dX2_crossed_4 rfl rfl ?_
    refine r_aload_n (pc' := 6) dX2_crossed_5 rfl rfl ?_
    refine r_getf (pc' := 9) (kI := 3) dX2_crossed_6 rfl fX2_21 hL.1 rfl rfl hc ?_
    refine r_icmp_ge (tgt := 54) (pc' := 12) dX2_crossed_9 rfl rfl (by omega) (by omega) (fun c9 => ?_) (fun c9 => ?_)
    · refine r_iload_n (pc' := 55) dX2_crossed_54 rfl rfl ?_
      refine r_reti dX2_crossed_55 rfl (Or.inl rfl) ?_
      exact h
    · exact absurd c9 (by omega)
  | succ k ih =>
    intro p acc x hp ha h
    have hb := cnF_le (c := fun q => decide (Lo v q < Lo v p)) (Ln v - (p + 1)) (p + 1) acc
    refine r_iload_n (pc' := 5) dX2_crossed_4 rfl rfl ?_
    refine r_aload_n (pc' := 6) dX2_crossed_5 rfl rfl ?_
    refine r_getf (pc' := 9) (kI := 3) dX2_crossed_6 rfl fX2_21 hL.1 rfl rfl hc ?_
    refine r_icmp_ge (tgt := 54) (pc' := 12) dX2_crossed_9 rfl rfl (by omega) (by omega) (fun c9 => ?_) (fun c9 => ?_)
    · exact absurd c9 (by omega)
    · refine r_iload_n (pc' := 13) dX2_crossed_12 rfl rfl ?_
      refine r_iconst (pc' := 14) dX2_crossed_13 rfl ?_
      refine r_iadd (pc' := 15) dX2_crossed_14 rfl ?_
      refine r_istore_n (pc' := 16) dX2_crossed_15 rfl rfl ?_
      refine l_crossI hL hC hW (p := p) (by omega) (Ln v - (p + 1)) (p + 1) acc (by omega) (by omega) (by omega) ?_
      refine r_iinc (pc' := 51) dX2_crossed_48 rfl rfl rfl ?_
      refine r_goto (tgt := 4) dX2_crossed_51 rfl ?_
      exact ih (p + 1) _ _ (by omega) (by omega) h
theorem a_crossed {X : CX} {d : Nat} {g : Mem} {K : Int → Mem → Prop} {i a f w F : Nat} {v : LV} (hL : isL i a f w) (hC : LC g i a f w v) (hW : LW F v) (h : K ((crF (Lo v) (Ln v) (Ln v) 0 0 : Nat) : Int) g) : EI X (d) mX2_crossed [vr i] Z0 g K := by
  show AJ X (d) mX2_crossed 0 0 (QI Z0 K) 0 0 0 [some (vr i), none, none, none] [] Z0 g
  refine r_iconst (pc' := 1) dX2_crossed_0 rfl ?_
  refine r_istore_n (pc' := 2) dX2_crossed_1 rfl rfl ?_
  refine r_iconst (pc' := 3) dX2_crossed_2 rfl ?_
  refine r_istore_n (pc' := 4) dX2_crossed_3 rfl rfl ?_
  exact l_crossO hL hC hW (Ln v) 0 0 none (by omega) (by omega) h
theorem l_risesW {X : CX} {d : Nat} {g : Mem} {K : Int → Mem → Prop} {i a f w F : Nat} {v : LV} (hL : isL i a f w) (hC : LC g i a f w v) (hW : LW F v) {s : Nat} (hs : s < 128) : ∀ (k p : Nat) (last : Int), p + k = Ln v → R32 last → K (b01 (rwF (Lo v) s k p last)) g → AJ X (d + 1) mX2_risesWithout 0 0 (QI Z0 K) 0 0 4 [some (vr i), some (vi (s : Int)), some (vi last), some (vi (p : Int))] [] Z0 g := by
  obtain ⟨hc, ho, hf, hw, ht, hi, hy⟩ := id hC
  obtain ⟨w0, w1, w2, w3, w4, w5, w6, w7⟩ := id hW
  intro k
  induction k with
  | zero =>
    intro p last hp hl h
    refine r_iload_n (pc' := 5) dX2_risesWithout_4 rfl rfl ?_
    refine r_aload_n (pc' := 6) dX2_risesWithout_5 rfl rfl ?_
    refine r_getf (pc' := 9) (kI := 3) dX2_risesWithout_6 rfl fX2_21 hL.1 rfl rfl hc ?_
    refine r_icmp_ge (tgt := 50) (pc' := 12) dX2_risesWithout_9 rfl rfl (by omega) (by omega) (fun c9 => ?_) (fun c9 => ?_)
    · refine r_iconst (pc' := 51) dX2_risesWithout_50 rfl ?_
      refine r_reti dX2_risesWithout_51 rfl (Or.inr ⟨rfl, by first | exact Or.inl rfl | exact Or.inr rfl | omega⟩) ?_
      exact h
    · exact absurd c9 (by omega)
  | succ k ih =>
    intro p last hp hl h
    have q1 := w2 p (by omega)
    unfold rwF at h
    refine r_iload_n (pc' := 5) dX2_risesWithout_4 rfl rfl ?_
    refine r_aload_n (pc' := 6) dX2_risesWithout_5 rfl rfl ?_
    refine r_getf (pc' := 9) (kI := 3) dX2_risesWithout_6 rfl fX2_21 hL.1 rfl rfl hc ?_
    refine r_icmp_ge (tgt := 50) (pc' := 12) dX2_risesWithout_9 rfl rfl (by omega) (by omega) (fun c9 => ?_) (fun c9 => ?_)
    · exact absurd c9 (by omega)
    · refine r_iload_n (pc' := 13) dX2_risesWithout_12 rfl rfl ?_
      refine r_aload_n (pc' := 14) dX2_risesWithout_13 rfl rfl ?_
      refine r_getr (pc' := 17) dX2_risesWithout_14 rfl fX2_9 hL.1 rfl ?_
      refine r_iload_n (pc' := 18) dX2_risesWithout_17 rfl rfl ?_
      refine r_iaload (pc' := 19) dX2_risesWithout_18 rfl hL.2.1 (by decide) (by omega) (by omega) (ho p (by omega)) ?_
      refine r_ni2 (pc' := 22) dX2_risesWithout_19 rfl qX10_hasBit nX2_54 rfl rfl rfl (Nat.zero_le _) (Nat.zero_le _) (a_hasBitN hs (by omega) ?_)
      refine r_if_ne (tgt := 44) (pc' := 25) dX2_risesWithout_22 rfl rfl (b01_R _) (fun c22 => ?_) (fun c22 => ?_)
      · refine r_iinc (pc' := 47) dX2_risesWithout_44 rfl rfl rfl ?_
        refine r_goto (tgt := 4) dX2_risesWithout_47 rfl ?_
        first | (rw [if_pos (b01_ne c22)] at h; exact ih (p + 1) last (by omega) hl h) | (rw [if_neg (by rw [b01_eq c22]; decide), if_neg (by omega)] at h; exact ih (p + 1) _ (by omega) (by omega) h)
      · refine r_aload_n (pc' := 26) dX2_risesWithout_25 rfl rfl ?_
        refine r_getr (pc' := 29) dX2_risesWithout_26 rfl fX2_9 hL.1 rfl ?_
        refine r_iload_n (pc' := 30) dX2_risesWithout_29 rfl rfl ?_
        refine r_iaload (pc' := 31) dX2_risesWithout_30 rfl hL.2.1 (by decide) (by omega) (by omega) (ho p (by omega)) ?_
        refine r_iload_n (pc' := 32) dX2_risesWithout_31 rfl rfl ?_
        refine r_icmp_ge (tgt := 37) (pc' := 35) dX2_risesWithout_32 rfl rfl (by omega) (by omega) (fun c32 => ?_) (fun c32 => ?_)
        · refine r_aload_n (pc' := 38) dX2_risesWithout_37 rfl rfl ?_
          refine r_getr (pc' := 41) dX2_risesWithout_38 rfl fX2_9 hL.1 rfl ?_
          refine r_iload_n (pc' := 42) dX2_risesWithout_41 rfl rfl ?_
          refine r_iaload (pc' := 43) dX2_risesWithout_42 rfl hL.2.1 (by decide) (by omega) (by omega) (ho p (by omega)) ?_
          refine r_istore_n (pc' := 44) dX2_risesWithout_43 rfl rfl ?_
          refine r_iinc (pc' := 47) dX2_risesWithout_44 rfl rfl rfl ?_
          refine r_goto (tgt := 4) dX2_risesWithout_47 rfl ?_
          first | (rw [if_pos (b01_ne c22)] at h; exact ih (p + 1) last (by omega) hl h) | (rw [if_neg (by rw [b01_eq c22]; decide), if_neg (by omega)] at h; exact ih (p + 1) _ (by omega) (by omega) h)
        · refine r_iconst (pc' := 36) dX2_risesWithout_35 rfl ?_
          refine r_reti dX2_risesWithout_36 rfl (Or.inr ⟨rfl, by first | exact Or.inl rfl | exact Or.inr rfl | omega⟩) ?_
          rw [if_neg (by rw [b01_eq c22]; decide), if_pos (by omega)] at h
          exact h
theorem a_risesW {X : CX} {d : Nat} {g : Mem} {K : Int → Mem → Prop} {i a f w F : Nat} {v : LV} (hL : isL i a f w) (hC : LC g i a f w v) (hW : LW F v) {s : Nat} (hs : s < 128) (h : K (b01 (rwF (Lo v) s (Ln v) 0 (-1))) g) : EI X (d + 1) mX2_risesWithout [vr i, vi (s : Int)] Z0 g K := by
  show AJ X (d + 1) mX2_risesWithout 0 0 (QI Z0 K) 0 0 0 [some (vr i), some (vi (s : Int)), none, none] [] Z0 g
  refine r_iconst (pc' := 1) dX2_risesWithout_0 rfl ?_
  refine r_istore_n (pc' := 2) dX2_risesWithout_1 rfl rfl ?_
  refine r_iconst (pc' := 3) dX2_risesWithout_2 rfl ?_
  refine r_istore_n (pc' := 4) dX2_risesWithout_3 rfl rfl ?_
  exact l_risesW hL hC hW hs (Ln v) 0 (-1) (by omega) (by decide) h
