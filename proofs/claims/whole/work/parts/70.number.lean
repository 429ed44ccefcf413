theorem nx_ok : ∀ met, met < 128 → ∀ f, f < 8 → met.testBit (nxF met 8 f) = false := by decide +kernel
theorem lf_le (v : Nat) : ∀ j, lfF v j ≤ v
  | 0 => Nat.le_refl _
  | j + 1 => Nat.le_trans (Nat.div_le_self _ _) (lf_le v j)
theorem lm_numI {X : CX} {d : Nat} {g : Mem} {K : Int → Mem → Prop} {c n : Nat} (hz : Z0[c]? = some (.inl (0, 7))) (hn : n ≤ 7) {o : Nat → Nat} (ho : ∀ p : Nat, p < n → g c p = (o p : Int)) (hb : ∀ p, p < n → o p ≤ 100)  {w : Int} {p : Nat} (hp : p < n) : ∀ (k q acc : Nat), q + k = n → AJ X (d) mX11_numberOf 0 0 (QI Z0 K) 0 0 49 [some (vr c), some (vi (n : Int)), some (vi w), some (vi (p : Int)), some (vi ((cnF (fun q => decide (o q < o p)) k q acc : Nat) : Int)), some (vi (n : Int))] [] Z0 g → AJ X (d) mX11_numberOf 0 0 (QI Z0 K) 0 0 17 [some (vr c), some (vi (n : Int)), some (vi w), some (vi (p : Int)), some (vi (acc : Int)), some (vi (q : Int))] [] Z0 g := by
  intro k
  induction k with
  | zero =>
    intro q acc hq h
    have e : (n : Int) = (q : Int) := by omega
    have h : AJ X (d) mX11_numberOf 0 0 (QI Z0 K) 0 0 49 [some (vr c), some (vi (n : Int)), some (vi w), some (vi (p : Int)), some (vi (acc : Int)), some (vi (n : Int))] [] Z0 g := h
    refine r_iload (pc' := 19) dX11_numberOf_17 rfl rfl ?_
    refine r_iload_n (pc' := 20) dX11_numberOf_19 rfl rfl ?_
    refine r_icmp_ge (tgt := 49) (pc' := 23) dX11_numberOf_20 rfl rfl (by omega) (by omega) (fun c20 => ?_) (fun c20 => ?_)
    · rw [← e]
      exact h
    · exact absurd c20 (by omega)
  | succ k ih =>
    intro q acc hq h
    have q1 := ho q (by omega)
    have q2 := ho p hp
    have b1 := hb q (by omega)
    have b2 := hb p hp
    refine r_iload (pc' := 19) dX11_numberOf_17 rfl rfl ?_
    refine r_iload_n (pc' := 20) dX11_numberOf_19 rfl rfl ?_
    refine r_icmp_ge (tgt := 49) (pc' := 23) dX11_numberOf_20 rfl rfl (by omega) (by omega) (fun c20 => ?_) (fun c20 => ?_)
    · exact absurd c20 (by omega)
    · refine r_iload (pc' := 25) dX11_numberOf_23 rfl rfl ?_
      refine r_aload_n (pc' := 26) dX11_numberOf_25 rfl rfl ?_
      refine r_iload (pc' := 28) dX11_numberOf_26 rfl rfl ?_
      refine r_iaload (pc' := 29) (x := (o q : Int)) dX11_numberOf_28 rfl hz (by decide) (by omega) (by omega) q1 ?_
      refine r_aload_n (pc' := 30) dX11_numberOf_29 rfl rfl ?_
      refine r_iload_n (pc' := 31) dX11_numberOf_30 rfl rfl ?_
      refine r_iaload (pc' := 32) (x := (o p : Int)) dX11_numberOf_31 rfl hz (by decide) (by omega) (by omega) q2 ?_
      refine r_icmp_ge (tgt := 39) (pc' := 35) dX11_numberOf_32 rfl rfl (by omega) (by omega) (fun c32 => ?_) (fun c32 => ?_)
      · refine r_iconst (pc' := 40) dX11_numberOf_39 rfl ?_
        refine r_iadd (pc' := 41) dX11_numberOf_40 rfl ?_
        refine r_istore (pc' := 43) dX11_numberOf_41 rfl rfl ?_
        refine r_iinc (pc' := 46) dX11_numberOf_43 rfl rfl rfl ?_
        refine r_goto (tgt := 17) dX11_numberOf_46 rfl ?_
        first
          | (rw [cnF_t (c := (fun q => decide (o q < o p))) (p := q) (decide_eq_true (by omega))] at h
             exact ih (q + 1) (acc + 1) (by omega) h)
          | (rw [cnF_f (c := (fun q => decide (o q < o p))) (p := q) (decide_eq_false (by omega))] at h
             rw [show (acc : Int) + 0 = (acc : Int) by omega]
             exact ih (q + 1) acc (by omega) h)
      · refine r_iconst (pc' := 36) dX11_numberOf_35 rfl ?_
        refine r_goto (tgt := 40) dX11_numberOf_36 rfl ?_
        refine r_iadd (pc' := 41) dX11_numberOf_40 rfl ?_
        refine r_istore (pc' := 43) dX11_numberOf_41 rfl rfl ?_
        refine r_iinc (pc' := 46) dX11_numberOf_43 rfl rfl rfl ?_
        refine r_goto (tgt := 17) dX11_numberOf_46 rfl ?_
        first
          | (rw [cnF_t (c := (fun q => decide (o q < o p))) (p := q) (decide_eq_true (by omega))] at h
             exact ih (q + 1) (acc + 1) (by omega) h)
          | (rw [cnF_f (c := (fun q => decide (o q < o p))) (p := q) (decide_eq_false (by omega))] at h
             rw [show (acc : Int) + 0 = (acc : Int) by omega]
             exact ih (q + 1) acc (by omega) h)
theorem lm_num {X : CX} {d : Nat} {g : Mem} {K : Int → Mem → Prop} {c n : Nat} (hz : Z0[c]? = some (.inl (0, 7))) (hn : n ≤ 7) {o : Nat → Nat} (ho : ∀ p : Nat, p < n → g c p = (o p : Int)) (hb : ∀ p, p < n → o p ≤ 100)  : ∀ (k p : Nat) (y z : Option VV), p + k = n → K ((numF n o : Nat) : Int) g → AJ X (d) mX11_numberOf 0 0 (QI Z0 K) 0 0 4 [some (vr c), some (vi (n : Int)), some (vi ((nvF o n p : Nat) : Int)), some (vi (p : Int)), y, z] [] Z0 g := by
  intro k
  induction k with
  | zero =>
    intro p y z hp h
    have e : p = n := by omega
    subst e
    refine r_iload_n (pc' := 5) dX11_numberOf_4 rfl rfl ?_
    refine r_iload_n (pc' := 6) dX11_numberOf_5 rfl rfl ?_
    refine r_icmp_ge (tgt := 64) (pc' := 9) dX11_numberOf_6 rfl rfl (by omega) (by omega) (fun c6 => ?_) (fun c6 => ?_)
    · refine r_iload_n (pc' := 65) dX11_numberOf_64 rfl rfl ?_
      refine r_reti dX11_numberOf_65 rfl (Or.inl rfl) ?_
      exact h
    · exact absurd c6 (by omega)
  | succ k ih =>
    intro p y z hp h
    have e : ((nvF o n p : Nat) : Int) * ((n : Int) - (p : Int)) + ((lsN o n p : Nat) : Int) = ((nvF o n (p + 1) : Nat) : Int) := by
      show _ = ((nvF o n p * (n - p) + lsN o n p : Nat) : Int)
      rw [Int.natCast_add, Int.natCast_mul, show ((n - p : Nat) : Int) = (n : Int) - (p : Int) by omega]
    refine r_iload_n (pc' := 5) dX11_numberOf_4 rfl rfl ?_
    refine r_iload_n (pc' := 6) dX11_numberOf_5 rfl rfl ?_
    refine r_icmp_ge (tgt := 64) (pc' := 9) dX11_numberOf_6 rfl rfl (by omega) (by omega) (fun c6 => ?_) (fun c6 => ?_)
    · exact absurd c6 (by omega)
    · refine r_iconst (pc' := 10) dX11_numberOf_9 rfl ?_
      refine r_istore (pc' := 12) dX11_numberOf_10 rfl rfl ?_
      refine r_iload_n (pc' := 13) dX11_numberOf_12 rfl rfl ?_
      refine r_iconst (pc' := 14) dX11_numberOf_13 rfl ?_
      refine r_iadd (pc' := 15) dX11_numberOf_14 rfl ?_
      refine r_istore (pc' := 17) dX11_numberOf_15 rfl rfl ?_
      refine lm_numI hz hn ho hb (by omega) (n - (p + 1)) (p + 1) 0 (by omega) ?_
      refine r_iload_n (pc' := 50) dX11_numberOf_49 rfl rfl ?_
      refine r_iload_n (pc' := 51) dX11_numberOf_50 rfl rfl ?_
      refine r_iload_n (pc' := 52) dX11_numberOf_51 rfl rfl ?_
      refine r_isub (pc' := 53) dX11_numberOf_52 rfl ?_
      refine r_imul (pc' := 54) dX11_numberOf_53 rfl ?_
      refine r_iload (pc' := 56) dX11_numberOf_54 rfl rfl ?_
      refine r_iadd (pc' := 57) dX11_numberOf_56 rfl ?_
      refine r_istore_n (pc' := 58) dX11_numberOf_57 rfl rfl ?_
      refine r_iinc (pc' := 61) dX11_numberOf_58 rfl rfl rfl ?_
      refine r_goto (tgt := 4) dX11_numberOf_61 rfl ?_
      rw [show cnF (fun q => decide (o q < o p)) (n - (p + 1)) (p + 1) 0 = lsN o n p from rfl, e]
      exact ih (p + 1) _ _ (by omega) h
theorem m_numb {X : CX} {d : Nat} {g : Mem} {K : Int → Mem → Prop} {c n : Nat} (hz : Z0[c]? = some (.inl (0, 7))) (hn : n ≤ 7) {o : Nat → Nat} (ho : ∀ p : Nat, p < n → g c p = (o p : Int)) (hb : ∀ p, p < n → o p ≤ 100) (h : K ((numF n o : Nat) : Int) g) : EI X (d) mX11_numberOf [vr c, vi (n : Int)] Z0 g K := by
  show AJ X (d) mX11_numberOf 0 0 (QI Z0 K) 0 0 0 [some (vr c), some (vi (n : Int)), none, none, none, none] [] Z0 g
  refine r_iconst (pc' := 1) dX11_numberOf_0 rfl ?_
  refine r_istore_n (pc' := 2) dX11_numberOf_1 rfl rfl ?_
  refine r_iconst (pc' := 3) dX11_numberOf_2 rfl ?_
  refine r_istore_n (pc' := 4) dX11_numberOf_3 rfl rfl ?_
  exact lm_num hz hn ho hb n 0 none none (by omega) h
theorem lm_turns {X : CX} {d : Nat} {g : Mem} {K : Mem → Prop} {n k : Nat} (hn : n ≤ 7) (hk : k ≤ n) (h : K (fnB g 181 (fun q : Int => if q < (k : Int) then g 180 ((k : Int) - 1 - q) else g 180 q) n)) : ∀ (j i : Nat), i + j = n → AJ X (d) mX11_turns 0 0 (QV Z0 K) 0 0 3 [some (vr 180), some (vr 181), some (vi (n : Int)), some (vi (k : Int)), some (vi (i : Int))] [] Z0 (fnB g 181 (fun q : Int => if q < (k : Int) then g 180 ((k : Int) - 1 - q) else g 180 q) i) := by
  intro j
  induction j with
  | zero =>
    intro i hi
    have e : i = n := by omega
    subst e
    refine r_iload (pc' := 5) dX11_turns_3 rfl rfl ?_
    refine r_iload_n (pc' := 6) dX11_turns_5 rfl rfl ?_
    refine r_icmp_ge (tgt := 40) (pc' := 9) dX11_turns_6 rfl rfl (by omega) (by omega) (fun c6 => ?_) (fun c6 => ?_)
    · refine r_retn dX11_turns_40 rfl ?_
      exact h
    · exact absurd c6 (by omega)
  | succ j ih =>
    intro i hi
    refine r_iload (pc' := 5) dX11_turns_3 rfl rfl ?_
    refine r_iload_n (pc' := 6) dX11_turns_5 rfl rfl ?_
    refine r_icmp_ge (tgt := 40) (pc' := 9) dX11_turns_6 rfl rfl (by omega) (by omega) (fun c6 => ?_) (fun c6 => ?_)
    · exact absurd c6 (by omega)
    · refine r_aload_n (pc' := 10) dX11_turns_9 rfl rfl ?_
      refine r_iload (pc' := 12) dX11_turns_10 rfl rfl ?_
      refine r_iload (pc' := 14) dX11_turns_12 rfl rfl ?_
      refine r_iload_n (pc' := 15) dX11_turns_14 rfl rfl ?_
      refine r_icmp_ge (tgt := 29) (pc' := 18) dX11_turns_15 rfl rfl (by omega) (by omega) (fun c15 => ?_) (fun c15 => ?_)
      · refine r_aload_n (pc' := 30) dX11_turns_29 rfl rfl ?_
        refine r_iload (pc' := 32) dX11_turns_30 rfl rfl ?_
        refine r_iaload (pc' := 33) (x := g 180 (i : Int)) dX11_turns_32 rfl z180 (by decide) (by omega) (by omega) (by rw [fnB_off (by decide)]) ?_
        refine r_iastore (pc' := 34) (g' := (fnB g 181 (fun q : Int => if q < (k : Int) then g 180 ((k : Int) - 1 - q) else g 180 q) (i + 1))) dX11_turns_33 rfl z181 (by decide) (by omega) (by omega) (fnB_succ rfl (by first | (rw [if_pos (by omega)]) | (rw [if_neg (by omega)]))) ?_
        refine r_iinc (pc' := 37) dX11_turns_34 rfl rfl rfl ?_
        refine r_goto (tgt := 3) dX11_turns_37 rfl ?_
        exact ih (i + 1) (by omega)
      · refine r_aload_n (pc' := 19) dX11_turns_18 rfl rfl ?_
        refine r_iload_n (pc' := 20) dX11_turns_19 rfl rfl ?_
        refine r_iconst (pc' := 21) dX11_turns_20 rfl ?_
        refine r_isub (pc' := 22) dX11_turns_21 rfl ?_
        refine r_iload (pc' := 24) dX11_turns_22 rfl rfl ?_
        refine r_isub (pc' := 25) dX11_turns_24 rfl ?_
        refine r_iaload (pc' := 26) (x := g 180 ((k : Int) - 1 - (i : Int))) dX11_turns_25 rfl z180 (by decide) (by omega) (by omega) (by rw [fnB_off (by decide)]) ?_
        refine r_goto (tgt := 33) dX11_turns_26 rfl ?_
        refine r_iastore (pc' := 34) (g' := (fnB g 181 (fun q : Int => if q < (k : Int) then g 180 ((k : Int) - 1 - q) else g 180 q) (i + 1))) dX11_turns_33 rfl z181 (by decide) (by omega) (by omega) (fnB_succ rfl (by first | (rw [if_pos (by omega)]) | (rw [if_neg (by omega)]))) ?_
        refine r_iinc (pc' := 37) dX11_turns_34 rfl rfl rfl ?_
        refine r_goto (tgt := 3) dX11_turns_37 rfl ?_
        exact ih (i + 1) (by omega)
theorem m_turns {X : CX} {d : Nat} {g : Mem} {K : Mem → Prop} {n k : Nat} (hn : n ≤ 7) (hk : k ≤ n) {o : Nat → Nat} (ho : ∀ p : Nat, p < n → g 180 p = (o p : Int)) (h : ∀ g' : Mem, (∀ p : Nat, p < n → g' 181 p = (flipN o k p : Int)) → (∀ j, j ≠ 181 → g' j = g j) → K g') : EV X (d) mX11_turns [vr 180, vr 181, vi (n : Int), vi (k : Int)] Z0 g K := by
  show AJ X (d) mX11_turns 0 0 (QV Z0 K) 0 0 0 [some (vr 180), some (vr 181), some (vi (n : Int)), some (vi (k : Int)), none] [] Z0 g
  have h9 := h (fnB g 181 (fun q : Int => if q < (k : Int) then g 180 ((k : Int) - 1 - q) else g 180 q) n) (fun p hp => by
    rw [fnB_at (by omega) (by omega)]
    unfold flipN
    by_cases e : p < k
    · rw [if_pos (by omega), if_pos e]
      have := ho (k - 1 - p) (by omega)
      rw [show ((k - 1 - p : Nat) : Int) = (k : Int) - 1 - (p : Int) by omega] at this
      exact this
    · rw [if_neg (by omega), if_neg e]
      exact ho p hp) (fun j hj => fnB_off hj)
  refine r_iconst (pc' := 1) dX11_turns_0 rfl ?_
  refine r_istore (pc' := 3) dX11_turns_1 rfl rfl ?_
  have e0 := lm_turns (X := X) (d := d) hn hk h9 n 0 (by omega)
  rw [fnB_0] at e0
  exact e0
theorem lm_ord1 {X : CX} {d : Nat} {K : Mem → Prop} {n v : Nat} (hn : n ≤ 7) (hv : v < 5040) : ∀ (k j : Nat) (g : Mem), j + k = n → (∀ q : Nat, n - j ≤ q → q < n → g 179 q = (dgF n v q : Int)) → (∀ (g' : Mem) (y : Int) (z : Option VV), (∀ q : Nat, q < n → g' 179 q = (dgF n v q : Int)) → Fr [179] g g' → AJ X (d + 1) mX11_orderOf 0 0 (QV Z0 K) 0 0 42 [some (vr 166), some (vi (v : Int)), some (vi (n : Int)), some (vr 180), some (vi y), z, none, none, none] [] Z0 g') → AJ X (d + 1) mX11_orderOf 0 0 (QV Z0 K) 0 0 8 [some (vr 166), some (vi (v : Int)), some (vi (n : Int)), some (vr 180), some (vi ((lfF v j : Nat) : Int)), some (vi ((n : Int) - 1 - (j : Int))), none, none, none] [] Z0 g := by
  intro k
  induction k with
  | zero =>
    intro j g hj hq h
    refine r_iload (pc' := 10) dX11_orderOf_8 rfl rfl ?_
    refine r_if_lt (tgt := 42) (pc' := 13) dX11_orderOf_10 rfl rfl (by omega) (fun c10 => ?_) (fun c10 => ?_)
    · exact h g _ _ (fun q a => hq q (by omega) a) (Fr.rf _ _)
    · exact absurd c10 (by omega)
  | succ k ih =>
    intro j g hj hq h
    have hl := lf_le v j
    refine r_iload (pc' := 10) dX11_orderOf_8 rfl rfl ?_
    refine r_if_lt (tgt := 42) (pc' := 13) dX11_orderOf_10 rfl rfl (by omega) (fun c10 => ?_) (fun c10 => ?_)
    · exact absurd c10 (by omega)
    · refine r_aload_n (pc' := 14) dX11_orderOf_13 rfl rfl ?_
      refine r_getr (pc' := 17) dX11_orderOf_14 rfl fX11_55 z166 rfl ?_
      refine r_iload (pc' := 19) dX11_orderOf_17 rfl rfl ?_
      refine r_iload (pc' := 21) dX11_orderOf_19 rfl rfl ?_
      refine r_iload_n (pc' := 22) dX11_orderOf_21 rfl rfl ?_
      refine r_iload (pc' := 24) dX11_orderOf_22 rfl rfl ?_
      refine r_isub (pc' := 25) dX11_orderOf_24 rfl ?_
      rw [show (n : Int) - ((n : Int) - 1 - (j : Int)) = ((j + 1 : Nat) : Int) by omega]
      refine r_irem (pc' := 26) dX11_orderOf_25 rfl (by omega) (by omega) (by omega) ?_
      rw [tm_n (lfF v j) (j + 1)]
      refine r_iastore (pc' := 27) dX11_orderOf_26 rfl z179 (by decide) (by omega) (by omega) rfl ?_
      refine r_iload (pc' := 29) dX11_orderOf_27 rfl rfl ?_
      refine r_iload_n (pc' := 30) dX11_orderOf_29 rfl rfl ?_
      refine r_iload (pc' := 32) dX11_orderOf_30 rfl rfl ?_
      refine r_isub (pc' := 33) dX11_orderOf_32 rfl ?_
      rw [show (n : Int) - ((n : Int) - 1 - (j : Int)) = ((j + 1 : Nat) : Int) by omega]
      refine r_idiv (pc' := 34) dX11_orderOf_33 rfl (by omega) (by omega) (by omega) ?_
      refine r_istore (pc' := 36) dX11_orderOf_34 rfl rfl ?_
      refine r_iinc (pc' := 39) dX11_orderOf_36 rfl rfl rfl ?_
      refine r_goto (tgt := 8) dX11_orderOf_39 rfl ?_
      rw [td_n (lfF v j) (j + 1), show (n : Int) - 1 - (j : Int) + -1 = (n : Int) - 1 - ((j + 1 : Nat) : Int) by omega]
      refine ih (j + 1) _ (by omega) (fun q a b => ?_) (fun g' y z a b => h g' y z a (Fr.tr (fun i hi => mu_ne (by simpa using hi)) b))
      by_cases e : q = n - 1 - j
      · rw [show ((q : Nat) : Int) = (n : Int) - 1 - (j : Int) by omega, mu_at]
        unfold dgF
        rw [show n - 1 - q = j by omega, show n - q = j + 1 by omega]
      · rw [mu_at' (by omega)]
        exact hq q (by omega) b
theorem lm_ordW {X : CX} {d : Nat} {g : Mem} {K : Mem → Prop} {n v met p : Nat} (hm : met < 128) {x : Int} {kk : Int} : ∀ (m f : Nat), f + m ≤ 20 → met.testBit (nxF met m f) = false → AJ X (d + 1) mX11_orderOf 0 0 (QV Z0 K) 0 0 90 [some (vr 166), some (vi (v : Int)), some (vi (n : Int)), some (vr 180), some (vi x), some (vi (met : Int)), some (vi (p : Int)), some (vi ((nxF met m f : Nat) : Int)), some (vi kk)] [] Z0 g → AJ X (d + 1) mX11_orderOf 0 0 (QV Z0 K) 0 0 74 [some (vr 166), some (vi (v : Int)), some (vi (n : Int)), some (vr 180), some (vi x), some (vi (met : Int)), some (vi (p : Int)), some (vi (f : Int)), some (vi kk)] [] Z0 g := by
  intro m
  induction m with
  | zero =>
    intro f hf hb h
    have hb : met.testBit f = false := hb
    refine r_iload (pc' := 76) dX11_orderOf_74 rfl rfl ?_
    refine r_iload (pc' := 78) dX11_orderOf_76 rfl rfl ?_
    refine r_si2 (pc' := 81) dX11_orderOf_78 rfl qX11_has lX11_118 rfl rfl rfl (Nat.zero_le _) (Nat.zero_le _) (m_has hm (by omega) ?_)
    refine r_if_eq (tgt := 90) (pc' := 84) dX11_orderOf_81 rfl rfl (b01_R _) (fun c81 => ?_) (fun c81 => ?_)
    · exact h
    · exact absurd (b01_ne c81) (by rw [hb]; decide)
  | succ m ih =>
    intro f hf hb h
    unfold nxF at hb h
    refine r_iload (pc' := 76) dX11_orderOf_74 rfl rfl ?_
    refine r_iload (pc' := 78) dX11_orderOf_76 rfl rfl ?_
    refine r_si2 (pc' := 81) dX11_orderOf_78 rfl qX11_has lX11_118 rfl rfl rfl (Nat.zero_le _) (Nat.zero_le _) (m_has hm (by omega) ?_)
    refine r_if_eq (tgt := 90) (pc' := 84) dX11_orderOf_81 rfl rfl (b01_R _) (fun c81 => ?_) (fun c81 => ?_)
    · rw [if_neg (by rw [b01_eq c81]; decide)] at h
      exact h
    · refine r_iinc (pc' := 87) dX11_orderOf_84 rfl rfl rfl ?_
      refine r_goto (tgt := 74) dX11_orderOf_87 rfl ?_
      rw [if_pos (b01_ne c81)] at hb h
      exact ih (f + 1) (by omega) hb h
theorem lm_ordK {X : CX} {d : Nat} {g : Mem} {K : Mem → Prop} {n v met p e : Nat} (hm : met < 128) (hs : ∀ i, i ≤ e → selF met i < 7) (he : e < 7) {x : Int} : ∀ (j i : Nat), i + j = e + 1 → (∀ y : Option VV, AJ X (d + 1) mX11_orderOf 0 0 (QV Z0 K) 0 0 96 [some (vr 166), some (vi (v : Int)), some (vi (n : Int)), some (vr 180), some (vi x), some (vi (met : Int)), some (vi (p : Int)), some (vi ((selF met e : Nat) : Int)), y] [] Z0 g) → AJ X (d + 1) mX11_orderOf 0 0 (QV Z0 K) 0 0 66 [some (vr 166), some (vi (v : Int)), some (vi (n : Int)), some (vr 180), some (vi x), some (vi (met : Int)), some (vi (p : Int)), some (vi (if i = 0 then -1 else ((selF met (i - 1) : Nat) : Int))), some (vi ((e : Int) - (i : Int)))] [] Z0 g := by
  intro j
  induction j with
  | zero =>
    intro i hi h
    rw [if_neg (by omega), show i - 1 = e by omega]
    refine r_iload (pc' := 68) dX11_orderOf_66 rfl rfl ?_
    refine r_if_lt (tgt := 96) (pc' := 71) dX11_orderOf_68 rfl rfl (by omega) (fun c68 => ?_) (fun c68 => ?_)
    · exact h _
    · exact absurd c68 (by omega)
  | succ j ih =>
    intro i hi h
    obtain ⟨f, hf1, hf2, hf3⟩ : ∃ f : Nat, (if i = 0 then -1 else ((selF met (i - 1) : Nat) : Int)) + 1 = (f : Int) ∧ f < 8 ∧ nxF met 8 f = selF met i := by
      by_cases z : i = 0
      · subst z
        exact ⟨0, rfl, by omega, rfl⟩
      · have := hs (i - 1) (by omega)
        obtain ⟨w, rfl⟩ : ∃ w, i = w + 1 := ⟨i - 1, by omega⟩
        exact ⟨selF met w + 1, by rw [if_neg z, Nat.add_sub_cancel]; rfl, by rw [Nat.add_sub_cancel] at this; omega, rfl⟩
    refine r_iload (pc' := 68) dX11_orderOf_66 rfl rfl ?_
    refine r_if_lt (tgt := 96) (pc' := 71) dX11_orderOf_68 rfl rfl (by omega) (fun c68 => ?_) (fun c68 => ?_)
    · exact absurd c68 (by omega)
    · refine r_iinc (pc' := 74) dX11_orderOf_71 rfl rfl rfl ?_
      rw [hf1]
      refine lm_ordW hm 8 f (by omega) (nx_ok met hm f hf2) ?_
      rw [hf3]
      refine r_iinc (pc' := 93) dX11_orderOf_90 rfl rfl rfl ?_
      refine r_goto (tgt := 66) dX11_orderOf_93 rfl ?_
      have e9 := ih (i + 1) (by omega) h
      rw [if_neg (by omega), Nat.add_sub_cancel, show (e : Int) - ((i + 1 : Nat) : Int) = (e : Int) - (i : Int) + -1 by omega] at e9
      exact e9
theorem lm_ord2 {X : CX} {d : Nat} {K : Mem → Prop} {n v : Nat} (hn : n ≤ 7) : ∀ (k p : Nat) (g : Mem) (x : Int) (y z : Option VV), p + k = n → (∀ q : Nat, q < n → g 179 q = (dgF n v q : Int)) → (∀ q : Nat, q < p → g 180 q = (ordF n v q : Int)) → (∀ g' : Mem, (∀ q : Nat, q < n → g' 180 q = (ordF n v q : Int)) → Fr [180] g g' → K g') → AJ X (d + 1) mX11_orderOf 0 0 (QV Z0 K) 0 0 48 [some (vr 166), some (vi (v : Int)), some (vi (n : Int)), some (vr 180), some (vi x), some (vi ((mtF n v p : Nat) : Int)), some (vi (p : Int)), y, z] [] Z0 g := by
  intro k
  induction k with
  | zero =>
    intro p g x y z hp hl hq h
    refine r_iload (pc' := 50) dX11_orderOf_48 rfl rfl ?_
    refine r_iload_n (pc' := 51) dX11_orderOf_50 rfl rfl ?_
    refine r_icmp_ge (tgt := 117) (pc' := 54) dX11_orderOf_51 rfl rfl (by omega) (by omega) (fun c51 => ?_) (fun c51 => ?_)
    · refine r_retn dX11_orderOf_117 rfl ?_
      exact h g (fun q a => hq q (by omega)) (Fr.rf _ _)
    · exact absurd c51 (by omega)
  | succ k ih =>
    intro p g x y z hp hl hq h
    obtain ⟨m1, m2⟩ := mt_b hn v p (by omega)
    have m3 : mtF n v p < 128 := by have : 2 ^ n ≤ 2 ^ 7 := Nat.pow_le_pow_right (by decide) hn; omega
    have dl := dg_lt (n := n) (v := v) (p := p) (by omega)
    have hs : ∀ i, i ≤ dgF n v p → selF (mtF n v p) i < 7 := fun i hi => by have := (K_1 n (by omega) _ m1 i (by rw [m2]; omega)).1; omega
    have ho7 := hs _ (Nat.le_refl _)
    have er : b_or ((mtF n v p : Nat) : Int) (b_shl 1 ((selF (mtF n v p) (dgF n v p) : Nat) : Int)) = ((mtF n v (p + 1) : Nat) : Int) := by rw [shl1 ho7, or_n m3 (pow7 ho7)]; rfl
    refine r_iload (pc' := 50) dX11_orderOf_48 rfl rfl ?_
    refine r_iload_n (pc' := 51) dX11_orderOf_50 rfl rfl ?_
    refine r_icmp_ge (tgt := 117) (pc' := 54) dX11_orderOf_51 rfl rfl (by omega) (by omega) (fun c51 => ?_) (fun c51 => ?_)
    · exact absurd c51 (by omega)
    · refine r_iconst (pc' := 55) dX11_orderOf_54 rfl ?_
      refine r_istore (pc' := 57) dX11_orderOf_55 rfl rfl ?_
      refine r_aload_n (pc' := 58) dX11_orderOf_57 rfl rfl ?_
      refine r_getr (pc' := 61) dX11_orderOf_58 rfl fX11_55 z166 rfl ?_
      refine r_iload (pc' := 63) dX11_orderOf_61 rfl rfl ?_
      refine r_iaload (pc' := 64) (x := (dgF n v p : Int)) dX11_orderOf_63 rfl z179 (by decide) (by omega) (by omega) (hl p (by omega)) ?_
      refine r_istore (pc' := 66) dX11_orderOf_64 rfl rfl ?_
      have e9 := lm_ordK (X := X) (d := d) (g := g) (K := K) (n := n) (v := v) (p := p) (x := x) m3 hs (by omega) (dgF n v p + 1) 0 (by omega) (fun y => ?_)
      · rw [if_pos rfl, show (dgF n v p : Int) - ((0 : Nat) : Int) = (dgF n v p : Int) by omega] at e9
        exact e9
      refine r_aload_n (pc' := 97) dX11_orderOf_96 rfl rfl ?_
      refine r_iload (pc' := 99) dX11_orderOf_97 rfl rfl ?_
      refine r_iload (pc' := 101) dX11_orderOf_99 rfl rfl ?_
      refine r_iastore (pc' := 102) dX11_orderOf_101 rfl z180 (by decide) (by omega) (by omega) rfl ?_
      refine r_iload (pc' := 104) dX11_orderOf_102 rfl rfl ?_
      refine r_iconst (pc' := 105) dX11_orderOf_104 rfl ?_
      refine r_iload (pc' := 107) dX11_orderOf_105 rfl rfl ?_
      refine r_ishl (pc' := 108) dX11_orderOf_107 rfl ?_
      refine r_ior (pc' := 109) dX11_orderOf_108 rfl ?_
      refine r_istore (pc' := 111) dX11_orderOf_109 rfl rfl ?_
      refine r_iinc (pc' := 114) dX11_orderOf_111 rfl rfl rfl ?_
      refine r_goto (tgt := 48) dX11_orderOf_114 rfl ?_
      rw [er]
      refine ih (p + 1) _ _ _ _ (by omega) (fun q a => by rw [mu_ne (by decide)]; exact hl q a) (fun q a => ?_) (fun g' a b => h g' a (Fr.tr (fun i hi => mu_ne (by simpa using hi)) b))
      by_cases e : q = p
      · subst e
        rw [mu_at]
        rfl
      · rw [mu_at' (by omega)]
        exact hq q (by omega)
theorem m_ord {X : CX} {d : Nat} {g : Mem} {K : Mem → Prop} {n v : Nat} (hn : n ≤ 7) (hv : v < 5040) (h : ∀ g' : Mem, (∀ q : Nat, q < n → g' 180 q = (ordF n v q : Int)) → (∀ j, j ≠ 179 → j ≠ 180 → g' j = g j) → K g') : EV X (d + 1) mX11_orderOf [vr 166, vi (v : Int), vi (n : Int), vr 180] Z0 g K := by
  show AJ X (d + 1) mX11_orderOf 0 0 (QV Z0 K) 0 0 0 [some (vr 166), some (vi (v : Int)), some (vi (n : Int)), some (vr 180), none, none, none, none, none] [] Z0 g
  refine r_iload_n (pc' := 1) dX11_orderOf_0 rfl rfl ?_
  refine r_istore (pc' := 3) dX11_orderOf_1 rfl rfl ?_
  refine r_iload_n (pc' := 4) dX11_orderOf_3 rfl rfl ?_
  refine r_iconst (pc' := 5) dX11_orderOf_4 rfl ?_
  refine r_isub (pc' := 6) dX11_orderOf_5 rfl ?_
  refine r_istore (pc' := 8) dX11_orderOf_6 rfl rfl ?_
  have e8 := lm_ord1 (X := X) (d := d) (K := K) hn hv n 0 g (by omega) (fun q a b => by omega) (fun g1 y z h1 f1 => ?_)
  · rw [show (n : Int) - 1 - ((0 : Nat) : Int) = (n : Int) - 1 by omega] at e8
    exact e8
  refine r_iconst (pc' := 43) dX11_orderOf_42 rfl ?_
  refine r_istore (pc' := 45) dX11_orderOf_43 rfl rfl ?_
  refine r_iconst (pc' := 46) dX11_orderOf_45 rfl ?_
  refine r_istore (pc' := 48) dX11_orderOf_46 rfl rfl ?_
  exact lm_ord2 hn n 0 g1 _ _ _ (by omega) h1 (fun q a => absurd a (by omega)) (fun g' a b => h g' a (fun j x y => (b j (by simpa using y)).trans (f1 j (by simpa using x))))
