/-- the numbers of four bits within a long -/
def bv (x : Int) : BitVec 64 := (Int64.ofInt x).toBitVec
def nibN (x : Int) (j : Nat) : Nat := (bv x).toNat >>> (4 * j) % 16
theorem nibN_bit (x : Int) (j b : Nat) : (nibN x j).testBit b = (decide (b < 4) && (bv x).getLsbD (4 * j + b)) := by
  unfold nibN
  rw [show (16 : Nat) = 2 ^ 4 from rfl, Nat.testBit_mod_two_pow, Nat.testBit_shiftRight]
  rfl
theorem nibN_lt (x : Int) (j : Nat) : nibN x j < 16 := Nat.mod_lt _ (by decide)
theorem sh64 : ∀ k, k < 64 → (((Int32.ofNat k).toInt64 &&& 63).toBitVec.smod 64).toNat = k := by decide +kernel
theorem bv_shr {x : Int} {k : Nat} (hk : k < 64) : bv (l_shr x (k : Int)) = (bv x).sshiftRight k := by
  unfold bv l_shr
  rw [i64_of]
  show (Int64.ofInt x).toBitVec.sshiftRight' (((Int32.ofNat k).toInt64 &&& 63).toBitVec.smod 64) = _
  rw [BitVec.sshiftRight_eq', sh64 k hk]
theorem bv_shl {x : Int} {k : Nat} (hk : k < 64) : bv (l_shl x (k : Int)) = (bv x) <<< k := by
  unfold bv l_shl
  rw [i64_of]
  show (Int64.ofInt x).toBitVec <<< (((Int32.ofNat k).toInt64 &&& 63).toBitVec.smod 64) = _
  rw [BitVec.shiftLeft_eq', sh64 k hk]
theorem bv_and (a b : Int) : bv (l_and a b) = bv a &&& bv b := by
  unfold bv l_and
  rw [i64_of]
  rfl
theorem bv_or (a b : Int) : bv (l_or a b) = bv a ||| bv b := by
  unfold bv l_or
  rw [i64_of]
  rfl
theorem bv_xor (a b : Int) : bv (l_xor a b) = bv a ^^^ bv b := by
  unfold bv l_xor
  rw [i64_of]
  rfl
theorem bv_15 : ∀ i, i < 64 → (bv 15).getLsbD i = decide (i < 4) := by decide +kernel
theorem bv_m1 : ∀ i, i < 64 → (bv (-1)).getLsbD i = true := by decide +kernel
theorem bv_s : ∀ s, s < 16 → ∀ i, i < 64 → (bv ((s : Nat) : Int)).getLsbD i = s.testBit i := by decide +kernel
theorem t_lt4 : ∀ s, s < 16 → ∀ b, b < 64 → 4 ≤ b → s.testBit b = false := by decide +kernel
theorem toI_s : ∀ n, n < 16 → (BitVec.ofNat 64 n).toInt = (n : Int) := by decide +kernel
theorem nib_get {x : Int} {j : Nat} (hj : j < 16) : l_and (l_shr x ((4 * j : Nat) : Int)) 15 = (nibN x j : Int) := by
  show (Int64.ofInt (l_shr x ((4 * j : Nat) : Int)) &&& Int64.ofInt 15).toBitVec.toInt = _
  have e : (Int64.ofInt (l_shr x ((4 * j : Nat) : Int)) &&& Int64.ofInt 15).toBitVec = BitVec.ofNat 64 (nibN x j) := by
    show bv (l_shr x ((4 * j : Nat) : Int)) &&& bv 15 = _
    rw [bv_shr (by omega)]
    apply BitVec.eq_of_getLsbD_eq
    intro i hi
    rw [BitVec.getLsbD_and, BitVec.getLsbD_sshiftRight, bv_15 i hi, BitVec.getLsbD_ofNat, nibN_bit, decide_eq_true hi, Bool.true_and, decide_eq_false (show ¬ 64 ≤ i by omega), Bool.not_false, Bool.true_and]
    by_cases h : i < 4
    · rw [if_pos (by omega), decide_eq_true h, Bool.and_true, Bool.true_and]
    · rw [decide_eq_false h, Bool.and_false, Bool.false_and]
  rw [e]
  exact toI_s _ (nibN_lt _ _)
def nibS (x : Int) (j s : Nat) : Int := l_or (l_and x (l_xor (l_shl 15 ((4 * j : Nat) : Int)) (-1))) (l_shl ((s : Nat) : Int) ((4 * j : Nat) : Int))
theorem nibS_bit {x : Int} {j s : Nat} (hj : j < 16) (hs : s < 16) {i : Nat} (hi : i < 64) : (bv (nibS x j s)).getLsbD i = if 4 * j ≤ i ∧ i < 4 * j + 4 then s.testBit (i - 4 * j) else (bv x).getLsbD i := by
  unfold nibS
  rw [bv_or, bv_and, bv_xor, bv_shl (by omega), bv_shl (by omega), BitVec.getLsbD_or, BitVec.getLsbD_and, BitVec.getLsbD_xor, BitVec.getLsbD_shiftLeft, BitVec.getLsbD_shiftLeft, bv_m1 i hi, decide_eq_true hi, Bool.true_and]
  by_cases h : i < 4 * j
  · rw [decide_eq_true h, if_neg (by omega)]
    simp
  · rw [decide_eq_false h, bv_15 _ (by omega), bv_s s hs _ (by omega)]
    by_cases h2 : i < 4 * j + 4
    · rw [if_pos (by omega), decide_eq_true (show i - 4 * j < 4 by omega)]
      simp
    · rw [if_neg (by omega), decide_eq_false (show ¬ i - 4 * j < 4 by omega), t_lt4 s hs _ (by omega) (by omega)]
      simp
theorem nibS_at {x : Int} {j s : Nat} (hj : j < 16) (hs : s < 16) {k : Nat} (hk : k < 16) : nibN (nibS x j s) k = if k = j then s else nibN x k := by
  apply Nat.eq_of_testBit_eq
  intro b
  rw [nibN_bit]
  by_cases hb : b < 4
  · rw [decide_eq_true hb, Bool.true_and, nibS_bit hj hs (by omega)]
    by_cases e : k = j
    · subst e
      rw [if_pos (by omega), if_pos rfl, show 4 * k + b - 4 * k = b by omega]
    · rw [if_neg (by omega), if_neg e, nibN_bit, decide_eq_true hb, Bool.true_and]
  · rw [decide_eq_false hb, Bool.false_and]
    by_cases e : k = j
    · subst e
      rw [if_pos rfl]
      by_cases h64 : b < 64
      · exact (t_lt4 s hs b h64 (by omega)).symm
      · symm
        apply Nat.testBit_lt_two_pow
        have : 2 ^ 4 ≤ 2 ^ b := Nat.pow_le_pow_right (by decide) (by omega)
        omega
    · rw [if_neg e, nibN_bit, decide_eq_false hb, Bool.false_and]
def nibG (g : Mem) (v : Nat) : Nat := nibN (g 178 ((v / 16 : Nat) : Int)) (v % 16)
theorem td_n (a b : Nat) : (a : Int).tdiv (b : Int) = ((a / b : Nat) : Int) := rfl
theorem nibG_lt (g : Mem) (v : Nat) : nibG g v < 16 := nibN_lt _ _
theorem nib_m1 : ∀ j, j < 16 → nibN (-1) j = 15 := by decide +kernel
theorem m_farAt {X : CX} {d : Nat} {g : Mem} {K : Int → Mem → Prop} {v : Nat} (hv : v < 5040) (h : K (nibG g v) g) : EI X (d) mX11_farAt [vr 166, vi (v : Int)] Z0 g K := by
  show AJ X (d) mX11_farAt 0 0 (QI Z0 K) 0 0 0 [some (vr 166), some (vi (v : Int))] [] Z0 g
  have e := nib_get (x := g 178 ((v / 16 : Nat) : Int)) (j := v % 16) (by omega)
  refine r_aload_n (pc' := 1) dX11_farAt_0 rfl rfl ?_
  refine r_getr (pc' := 4) dX11_farAt_1 rfl fX11_48 z166 rfl ?_
  refine r_iload_n (pc' := 5) dX11_farAt_4 rfl rfl ?_
  refine r_bipush (pc' := 7) dX11_farAt_5 rfl (by decide) ?_
  refine r_idiv (pc' := 8) dX11_farAt_7 rfl (by omega) (by omega) (by omega) ?_
  rw [show ((v : Int)).tdiv 16 = ((v / 16 : Nat) : Int) from td_n v 16]
  refine r_laload (pc' := 9) dX11_farAt_8 rfl z178 (by decide) (by omega) (by omega) rfl ?_
  refine r_iconst (pc' := 10) dX11_farAt_9 rfl ?_
  refine r_iload_n (pc' := 11) dX11_farAt_10 rfl rfl ?_
  refine r_bipush (pc' := 13) dX11_farAt_11 rfl (by decide) ?_
  refine r_irem (pc' := 14) dX11_farAt_13 rfl (by omega) (by omega) (by omega) ?_
  refine r_imul (pc' := 15) dX11_farAt_14 rfl ?_
  rw [show ((v : Int)).tmod 16 = ((v % 16 : Nat) : Int) from tm_n v 16, show (4 : Int) * ((v % 16 : Nat) : Int) = ((4 * (v % 16) : Nat) : Int) by omega]
  refine r_lshr (pc' := 16) dX11_farAt_15 rfl ?_
  refine r_ldc2_w (z := 15) (pc' := 19) dX11_farAt_16 rfl kX11_189 ?_
  refine r_land (pc' := 20) dX11_farAt_19 rfl ?_
  rw [e]
  refine r_l2i (pc' := 21) dX11_farAt_20 rfl ?_
  refine r_reti dX11_farAt_21 rfl (Or.inl rfl) ?_
  exact h
theorem m_isFar {X : CX} {d : Nat} {g : Mem} {K : Mem → Prop} {v s : Nat} (hv : v < 5040) (hs : s < 16) (h : ∀ g' : Mem, (∀ w, w < 5040 → nibG g' w = if w = v then s else nibG g w) → (∀ j, j ≠ 178 → g' j = g j) → K g') : EV X (d) mX11_isFar [vr 166, vi (v : Int), vi (s : Int)] Z0 g K := by
  show AJ X (d) mX11_isFar 0 0 (QV Z0 K) 0 0 0 [some (vr 166), some (vi (v : Int)), some (vi (s : Int)), none, none] [] Z0 g
  refine r_ldc2_w (z := 15) (pc' := 3) dX11_isFar_0 rfl kX11_189 ?_
  refine r_iconst (pc' := 4) dX11_isFar_3 rfl ?_
  refine r_iload_n (pc' := 5) dX11_isFar_4 rfl rfl ?_
  refine r_bipush (pc' := 7) dX11_isFar_5 rfl (by decide) ?_
  refine r_irem (pc' := 8) dX11_isFar_7 rfl (by omega) (by omega) (by omega) ?_
  refine r_imul (pc' := 9) dX11_isFar_8 rfl ?_
  rw [show ((v : Int)).tmod 16 = ((v % 16 : Nat) : Int) from tm_n v 16, show (4 : Int) * ((v % 16 : Nat) : Int) = ((4 * (v % 16) : Nat) : Int) by omega]
  refine r_lshl (pc' := 10) dX11_isFar_9 rfl ?_
  refine r_lstore_n (pc' := 11) dX11_isFar_10 rfl rfl rfl ?_
  refine r_aload_n (pc' := 12) dX11_isFar_11 rfl rfl ?_
  refine r_getr (pc' := 15) dX11_isFar_12 rfl fX11_48 z166 rfl ?_
  refine r_iload_n (pc' := 16) dX11_isFar_15 rfl rfl ?_
  refine r_bipush (pc' := 18) dX11_isFar_16 rfl (by decide) ?_
  refine r_idiv (pc' := 19) dX11_isFar_18 rfl (by omega) (by omega) (by omega) ?_
  rw [show ((v : Int)).tdiv 16 = ((v / 16 : Nat) : Int) from td_n v 16]
  refine r_aload_n (pc' := 20) dX11_isFar_19 rfl rfl ?_
  refine r_getr (pc' := 23) dX11_isFar_20 rfl fX11_48 z166 rfl ?_
  refine r_iload_n (pc' := 24) dX11_isFar_23 rfl rfl ?_
  refine r_bipush (pc' := 26) dX11_isFar_24 rfl (by decide) ?_
  refine r_idiv (pc' := 27) dX11_isFar_26 rfl (by omega) (by omega) (by omega) ?_
  rw [show ((v : Int)).tdiv 16 = ((v / 16 : Nat) : Int) from td_n v 16]
  refine r_laload (pc' := 28) dX11_isFar_27 rfl z178 (by decide) (by omega) (by omega) rfl ?_
  refine r_lload_n (pc' := 29) dX11_isFar_28 rfl rfl ?_
  refine r_ldc2_w (z := -1) (pc' := 32) dX11_isFar_29 rfl kX11_191 ?_
  refine r_lxor (pc' := 33) dX11_isFar_32 rfl ?_
  refine r_land (pc' := 34) dX11_isFar_33 rfl ?_
  refine r_iload_n (pc' := 35) dX11_isFar_34 rfl rfl ?_
  refine r_i2l (pc' := 36) dX11_isFar_35 rfl (by omega) ?_
  refine r_iconst (pc' := 37) dX11_isFar_36 rfl ?_
  refine r_iload_n (pc' := 38) dX11_isFar_37 rfl rfl ?_
  refine r_bipush (pc' := 40) dX11_isFar_38 rfl (by decide) ?_
  refine r_irem (pc' := 41) dX11_isFar_40 rfl (by omega) (by omega) (by omega) ?_
  refine r_imul (pc' := 42) dX11_isFar_41 rfl ?_
  rw [show ((v : Int)).tmod 16 = ((v % 16 : Nat) : Int) from tm_n v 16, show (4 : Int) * ((v % 16 : Nat) : Int) = ((4 * (v % 16) : Nat) : Int) by omega]
  refine r_lshl (pc' := 43) dX11_isFar_42 rfl ?_
  refine r_lor (pc' := 44) dX11_isFar_43 rfl ?_
  refine r_lastore (pc' := 45) dX11_isFar_44 rfl z178 (by decide) (by omega) (by omega) rfl ?_
  refine r_retn dX11_isFar_45 rfl ?_
  refine h (mu g 178 ((v / 16 : Nat) : Int) (nibS (g 178 ((v / 16 : Nat) : Int)) (v % 16) s)) (fun w hw => ?_) (fun j hj => mu_ne hj)
  unfold nibG
  by_cases e : w / 16 = v / 16
  · rw [e, mu_at, nibS_at (by omega) hs (by omega)]
    by_cases e2 : w = v
    · subst e2
      rw [if_pos rfl, if_pos rfl]
    · rw [if_neg (by omega), if_neg e2]
  · rw [mu_at' (by omega), if_neg (fun q => e (by rw [q]))]
