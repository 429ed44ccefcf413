theorem onB {o : Nat → Nat} {i : Nat} : ∀ (k p acc : Nat), (orF (fun _ => true) (fun p => 2 ^ o p) k p acc).testBit i = (acc.testBit i || decide (plc o (i : Int) k p ≠ -1))
  | 0, _, acc => by
    show acc.testBit i = _
    rw [show plc o (i : Int) 0 _ = -1 from rfl, decide_eq_false (fun q => q rfl), Bool.or_false]
  | k + 1, p, acc => by
    show (orF (fun _ => true) (fun p => 2 ^ o p) k (p + 1) (acc ||| 2 ^ o p)).testBit i = _
    rw [onB k (p + 1), Nat.testBit_or, Nat.testBit_two_pow]
    have e : plc o (i : Int) (k + 1) p = if (o p : Int) = (i : Int) then (p : Int) else plc o (i : Int) k (p + 1) := rfl
    rw [e]
    by_cases h : o p = i
    · rw [if_pos (by omega), decide_eq_true h, decide_eq_true (show (p : Int) ≠ -1 by omega), Bool.or_true, Bool.true_or]
    · rw [if_neg (by omega), decide_eq_false h, Bool.or_false]
theorem onN_bit (v : LV) (i : Nat) : (onN v).testBit i = decide (plc (Lo v) (i : Int) (Ln v) 0 ≠ -1) := by
  unfold onN
  rw [onB, Nat.zero_testBit, Bool.false_or]
theorem offN_bit (u : PV) (v : LV) (i : Nat) : (offN u v).testBit i = (decide (i < Pf u) && decide (plc (Lo v) (i : Int) (Ln v) 0 = -1)) := by
  unfold offN
  rw [difN_bit, Nat.testBit_two_pow_sub_one, onN_bit]
  by_cases h : plc (Lo v) (i : Int) (Ln v) 0 = -1
  · rw [decide_eq_true h, decide_eq_false (show ¬ (plc (Lo v) (i : Int) (Ln v) 0 ≠ -1) from fun q => q h)]
    rfl
  · rw [decide_eq_false h, decide_eq_true (show plc (Lo v) (i : Int) (Ln v) 0 ≠ -1 from h)]
    rfl
theorem fitB {u : PV} {a : Nat → Nat} {r : Nat → Bool} {f : Nat} : ∀ (k i left : Nat), (fitF u a r k i left).testBit f = (left.testBit f && allF (fun j => (decide (f < Pf u) && ansB u (a j) f) == r j) k i)
  | 0, _, left => by
    show left.testBit f = (left.testBit f && true)
    rw [Bool.and_true]
  | k + 1, i, left => by
    show (fitF u a r k (i + 1) (if r i = true then ansN u left (a i) else difN left (ansN u left (a i)))).testBit f = (left.testBit f && (((decide (f < Pf u) && ansB u (a i) f) == r i) && allF (fun j => (decide (f < Pf u) && ansB u (a j) f) == r j) k (i + 1)))
    rw [fitB k (i + 1)]
    cases hr : r i with
    | true =>
      rw [if_pos rfl, ansN_bit]
      cases decide (f < Pf u) <;> cases ansB u (a i) f <;> cases left.testBit f <;> rfl
    | false =>
      rw [if_neg (by decide), difN_bit, ansN_bit]
      cases decide (f < Pf u) <;> cases ansB u (a i) f <;> cases left.testBit f <;> rfl
def cdB (u : PV) (v : LV) (ln : Nat) (la : Nat → Nat) (lr : Nat → Bool) (f : Nat) : Bool := decide (plc (Lo v) (f : Int) (Ln v) 0 = -1) && allF (fun j => ansB u (la j) f == lr j) ln 0
theorem allF_congr {c c' : Nat → Bool} : ∀ (k p : Nat), (∀ q, p ≤ q → q < p + k → c q = c' q) → allF c k p = allF c' k p
  | 0, _, _ => rfl
  | k + 1, p, h => by
    show (c p && allF c k (p + 1)) = (c' p && allF c' k (p + 1))
    rw [h p (by omega) (by omega), allF_congr k (p + 1) (fun q a b => h q (by omega) (by omega))]
theorem cld_eq (u : PV) (v : LV) (ln : Nat) (la : Nat → Nat) (lr : Nat → Bool) : orF (cdB u v ln la lr) (fun f => 2 ^ f) (Pf u) 0 0 = cldN u v ln la lr := by
  apply Nat.eq_of_testBit_eq
  intro i
  unfold cldN
  rw [orF_bit, fitB, offN_bit, Nat.zero_testBit, Bool.false_or]
  by_cases h : i < Pf u
  · rw [decide_eq_true (show 0 ≤ i ∧ i < 0 + Pf u by omega), decide_eq_true h, Bool.true_and, Bool.true_and]
    unfold cdB
    rw [allF_congr (c' := fun j => (true && ansB u (la j) i) == lr j) ln 0 (fun q _ _ => by rw [Bool.true_and])]
  · rw [decide_eq_false (show ¬ (0 ≤ i ∧ i < 0 + Pf u) by omega), decide_eq_false h, Bool.false_and, Bool.false_and, Bool.false_and]
theorem so_ans {u : PV} (hU : PW u) {f look : Nat} (hf : f < Pf u) (hl : look ≤ 19) {a b : Int} (ha : a = ((look / 10 : Nat) : Int)) (hb : b = ((look % 10 : Nat) : Int)) : soB u f a b = ansB u look f := by
  have h5 := hU.2.2.2.2.2.1 f hf
  unfold soB ansB
  subst ha hb
  by_cases h : look < 10
  · rw [if_pos (by omega), decide_eq_false (show ¬ Ph u f + 10 = look by omega), Bool.or_false]
    exact decide_eq_decide.mpr (by omega)
  · rw [if_neg (by omega), decide_eq_false (show ¬ Pk u f = look by omega), Bool.false_or]
    exact decide_eq_decide.mpr (by omega)
theorem b01_1 {b : Bool} (h : b01 b = 1) : b = true := by cases b; exact absurd h (by decide); rfl
theorem b01_n1 {b : Bool} (h : b01 b ≠ 1) : b = false := by cases b; rfl; exact absurd rfl h
theorem or0 {a : Nat} (h : a < 128) : b_or (a : Int) 0 = ((a : Nat) : Int) := by rw [show (0 : Int) = ((0 : Nat) : Int) from rfl, or_n h (by decide), Nat.or_zero]
theorem lm_couI {X : CX} {d : Nat} {g : Mem} {K : Int → Mem → Prop} {u : PV} {v : LV} (hB : MB g u v)  {ln : Nat} {la : Nat → Nat} {lr : Nat → Bool} (k1 : g 166 11 = ln) (k2 : ∀ i : Nat, i < ln → g 174 (3 * i) = ((la i / 10 : Nat) : Int) ∧ g 174 (3 * i + 1) = ((la i % 10 : Nat) : Int) ∧ g 174 (3 * i + 2) = b01 (lr i)) (k3 : ln ≤ 6) (k4 : ∀ i, i < ln → la i ≤ 19) {f : Nat} (hf1 : f < Pf u) {set : Int} : ∀ (k i : Nat) (b : Bool), i + k = ln → AJ X (d + 1) mX11_could 0 0 (QI Z0 K) 0 0 105 [some (vr 166), some (vi set), some (vi (f : Int)), some (vi (b01 (b && allF (fun j => ansB u (la j) f == lr j) k i))), some (vi (ln : Int))] [] Z0 g → AJ X (d + 1) mX11_could 0 0 (QI Z0 K) 0 0 32 [some (vr 166), some (vi set), some (vi (f : Int)), some (vi (b01 b)), some (vi (i : Int))] [] Z0 g := by
  obtain ⟨hQ, hU, hC, hW⟩ := id hB
  obtain ⟨hy, hi, hc, ht, ho, hf, hw_⟩ := id hC
  obtain ⟨w0, w1, w2, w3, w4, w5, w6, w7⟩ := id hW
  obtain ⟨p6, p7, p8, p9, p10, pk, pg, px, py⟩ := id hQ
  obtain ⟨u0, u1, u2, u3, u4, u5, u6, u7⟩ := id hU
  intro k
  induction k with
  | zero =>
    intro i b hi1 h
    have e : (ln : Int) = (i : Int) := by omega
    have h : AJ X (d + 1) mX11_could 0 0 (QI Z0 K) 0 0 105 [some (vr 166), some (vi set), some (vi (f : Int)), some (vi (b01 (b && true))), some (vi (ln : Int))] [] Z0 g := h
    rw [Bool.and_true, e] at h
    refine r_iload (pc' := 34) dX11_could_32 rfl rfl ?_
    refine r_aload_n (pc' := 35) dX11_could_34 rfl rfl ?_
    refine r_getf (pc' := 38) (kI := 11) dX11_could_35 rfl fX11_112 z166 rfl rfl k1 ?_
    refine r_icmp_ge (tgt := 105) (pc' := 41) dX11_could_38 rfl rfl (by omega) (by omega) (fun c38 => ?_) (fun c38 => ?_)
    · exact h
    · exact absurd c38 (by omega)
  | succ k ih =>
    intro i b hi1 h
    obtain ⟨l1, l2, l3⟩ := k2 i (by omega)
    have l4 := k4 i (by omega)
    refine r_iload (pc' := 34) dX11_could_32 rfl rfl ?_
    refine r_aload_n (pc' := 35) dX11_could_34 rfl rfl ?_
    refine r_getf (pc' := 38) (kI := 11) dX11_could_35 rfl fX11_112 z166 rfl rfl k1 ?_
    refine r_icmp_ge (tgt := 105) (pc' := 41) dX11_could_38 rfl rfl (by omega) (by omega) (fun c38 => ?_) (fun c38 => ?_)
    · exact absurd c38 (by omega)
    · refine r_iload_n (pc' := 42) dX11_could_41 rfl rfl ?_
      refine r_if_eq (tgt := 97) (pc' := 45) dX11_could_42 rfl rfl (b01_R _) (fun c42 => ?_) (fun c42 => ?_)
      · refine r_iconst (pc' := 98) dX11_could_97 rfl ?_
        refine r_istore_n (pc' := 99) dX11_could_98 rfl rfl ?_
        refine r_iinc (pc' := 102) dX11_could_99 rfl rfl rfl ?_
        refine r_goto (tgt := 32) dX11_could_102 rfl ?_
        first
          | (have e9 : (b && allF (fun j => ansB u (la j) f == lr j) (k + 1) i) = (false && allF (fun j => ansB u (la j) f == lr j) k (i + 1)) := by
               rw [b01_eq c42, Bool.false_and, Bool.false_and]
             rw [e9] at h
             exact ih (i + 1) false (by omega) h)
          | (have er : lr i = true := b01_1 c82
             have es : soB u f ((la i / 10 : Nat) : Int) ((la i % 10 : Nat) : Int) = true := b01_1 c90
             rw [so_ans hU hf1 (k4 i (by omega)) rfl rfl] at es
             refine ih (i + 1) true (by omega) ?_
             have e9 : (b && allF (fun j => ansB u (la j) f == lr j) (k + 1) i) = (true && allF (fun j => ansB u (la j) f == lr j) k (i + 1)) := by
               show (b && ((ansB u (la i) f == lr i) && allF (fun j => ansB u (la j) f == lr j) k (i + 1))) = _
               rw [b01_ne c42, es, er]
               rfl
             rw [e9] at h
             exact h)
          | (have er : lr i = true := b01_1 c82
             have es : soB u f ((la i / 10 : Nat) : Int) ((la i % 10 : Nat) : Int) = false := b01_n1 c90
             rw [so_ans hU hf1 (k4 i (by omega)) rfl rfl] at es
             refine ih (i + 1) false (by omega) ?_
             have e9 : (b && allF (fun j => ansB u (la j) f == lr j) (k + 1) i) = (false && allF (fun j => ansB u (la j) f == lr j) k (i + 1)) := by
               show (b && ((ansB u (la i) f == lr i) && allF (fun j => ansB u (la j) f == lr j) k (i + 1))) = _
               rw [b01_ne c42, es, er]
               rfl
             rw [e9] at h
             exact h)
          | (have er : lr i = true := b01_1 c82
             have es : soB u f ((la i / 10 : Nat) : Int) ((la i % 10 : Nat) : Int) = true := b01_ne c90
             rw [so_ans hU hf1 (k4 i (by omega)) rfl rfl] at es
             refine ih (i + 1) true (by omega) ?_
             have e9 : (b && allF (fun j => ansB u (la j) f == lr j) (k + 1) i) = (true && allF (fun j => ansB u (la j) f == lr j) k (i + 1)) := by
               show (b && ((ansB u (la i) f == lr i) && allF (fun j => ansB u (la j) f == lr j) k (i + 1))) = _
               rw [b01_ne c42, es, er]
               rfl
             rw [e9] at h
             exact h)
          | (have er : lr i = true := b01_1 c82
             have es : soB u f ((la i / 10 : Nat) : Int) ((la i % 10 : Nat) : Int) = false := b01_eq c90
             rw [so_ans hU hf1 (k4 i (by omega)) rfl rfl] at es
             refine ih (i + 1) false (by omega) ?_
             have e9 : (b && allF (fun j => ansB u (la j) f == lr j) (k + 1) i) = (false && allF (fun j => ansB u (la j) f == lr j) k (i + 1)) := by
               show (b && ((ansB u (la i) f == lr i) && allF (fun j => ansB u (la j) f == lr j) k (i + 1))) = _
               rw [b01_ne c42, es, er]
               rfl
             rw [e9] at h
             exact h)
          | (have er : lr i = false := b01_n1 c82
             have es : soB u f ((la i / 10 : Nat) : Int) ((la i % 10 : Nat) : Int) = true := b01_1 c90
             rw [so_ans hU hf1 (k4 i (by omega)) rfl rfl] at es
             refine ih (i + 1) false (by omega) ?_
             have e9 : (b && allF (fun j => ansB u (la j) f == lr j) (k + 1) i) = (false && allF (fun j => ansB u (la j) f == lr j) k (i + 1)) := by
               show (b && ((ansB u (la i) f == lr i) && allF (fun j => ansB u (la j) f == lr j) k (i + 1))) = _
               rw [b01_ne c42, es, er]
               rfl
             rw [e9] at h
             exact h)
          | (have er : lr i = false := b01_n1 c82
             have es : soB u f ((la i / 10 : Nat) : Int) ((la i % 10 : Nat) : Int) = false := b01_n1 c90
             rw [so_ans hU hf1 (k4 i (by omega)) rfl rfl] at es
             refine ih (i + 1) true (by omega) ?_
             have e9 : (b && allF (fun j => ansB u (la j) f == lr j) (k + 1) i) = (true && allF (fun j => ansB u (la j) f == lr j) k (i + 1)) := by
               show (b && ((ansB u (la i) f == lr i) && allF (fun j => ansB u (la j) f == lr j) k (i + 1))) = _
               rw [b01_ne c42, es, er]
               rfl
             rw [e9] at h
             exact h)
          | (have er : lr i = false := b01_n1 c82
             have es : soB u f ((la i / 10 : Nat) : Int) ((la i % 10 : Nat) : Int) = true := b01_ne c90
             rw [so_ans hU hf1 (k4 i (by omega)) rfl rfl] at es
             refine ih (i + 1) false (by omega) ?_
             have e9 : (b && allF (fun j => ansB u (la j) f == lr j) (k + 1) i) = (false && allF (fun j => ansB u (la j) f == lr j) k (i + 1)) := by
               show (b && ((ansB u (la i) f == lr i) && allF (fun j => ansB u (la j) f == lr j) k (i + 1))) = _
               rw [b01_ne c42, es, er]
               rfl
             rw [e9] at h
             exact h)
          | (have er : lr i = false := b01_n1 c82
             have es : soB u f ((la i / 10 : Nat) : Int) ((la i % 10 : Nat) : Int) = false := b01_eq c90
             rw [so_ans hU hf1 (k4 i (by omega)) rfl rfl] at es
             refine ih (i + 1) true (by omega) ?_
             have e9 : (b && allF (fun j => ansB u (la j) f == lr j) (k + 1) i) = (true && allF (fun j => ansB u (la j) f == lr j) k (i + 1)) := by
               show (b && ((ansB u (la i) f == lr i) && allF (fun j => ansB u (la j) f == lr j) k (i + 1))) = _
               rw [b01_ne c42, es, er]
               rfl
             rw [e9] at h
             exact h)
      · refine r_aload_n (pc' := 46) dX11_could_45 rfl rfl ?_
        refine r_iload_n (pc' := 47) dX11_could_46 rfl rfl ?_
        refine r_aload_n (pc' := 48) dX11_could_47 rfl rfl ?_
        refine r_getr (pc' := 51) dX11_could_48 rfl fX11_32 z166 rfl ?_
        refine r_iconst (pc' := 52) dX11_could_51 rfl ?_
        refine r_iload (pc' := 54) dX11_could_52 rfl rfl ?_
        refine r_imul (pc' := 55) dX11_could_54 rfl ?_
        refine r_iaload (pc' := 56) dX11_could_55 rfl z174 (by decide) (by omega) (by omega) l1 ?_
        refine r_aload_n (pc' := 57) dX11_could_56 rfl rfl ?_
        refine r_getr (pc' := 60) dX11_could_57 rfl fX11_32 z166 rfl ?_
        refine r_iconst (pc' := 61) dX11_could_60 rfl ?_
        refine r_iload (pc' := 63) dX11_could_61 rfl rfl ?_
        refine r_imul (pc' := 64) dX11_could_63 rfl ?_
        refine r_iconst (pc' := 65) dX11_could_64 rfl ?_
        refine r_iadd (pc' := 66) dX11_could_65 rfl ?_
        refine r_iaload (pc' := 67) dX11_could_66 rfl z174 (by decide) (by omega) (by omega) l2 ?_
        refine r_vi3 (pc' := 70) dX11_could_67 rfl qX11_isSo lX11_229 z166 rfl rfl rfl rfl (Nat.zero_le _) (Nat.zero_le _) (m_isSo hB hf1 _ _ (by omega) (by omega) ?_)
        refine r_aload_n (pc' := 71) dX11_could_70 rfl rfl ?_
        refine r_getr (pc' := 74) dX11_could_71 rfl fX11_32 z166 rfl ?_
        refine r_iconst (pc' := 75) dX11_could_74 rfl ?_
        refine r_iload (pc' := 77) dX11_could_75 rfl rfl ?_
        refine r_imul (pc' := 78) dX11_could_77 rfl ?_
        refine r_iconst (pc' := 79) dX11_could_78 rfl ?_
        refine r_iadd (pc' := 80) dX11_could_79 rfl ?_
        refine r_iaload (pc' := 81) dX11_could_80 rfl z174 (by decide) (by omega) (by omega) l3 ?_
        refine r_iconst (pc' := 82) dX11_could_81 rfl ?_
        refine r_icmp_ne (tgt := 89) (pc' := 85) dX11_could_82 rfl rfl (b01_R _) (by decide) (fun c82 => ?_) (fun c82 => ?_)
        · refine r_iconst (pc' := 90) dX11_could_89 rfl ?_
          refine r_icmp_ne (tgt := 97) (pc' := 93) dX11_could_90 rfl rfl (b01_R _) (by decide) (fun c90 => ?_) (fun c90 => ?_)
          · refine r_iconst (pc' := 98) dX11_could_97 rfl ?_
            refine r_istore_n (pc' := 99) dX11_could_98 rfl rfl ?_
            refine r_iinc (pc' := 102) dX11_could_99 rfl rfl rfl ?_
            refine r_goto (tgt := 32) dX11_could_102 rfl ?_
            first
              | (have e9 : (b && allF (fun j => ansB u (la j) f == lr j) (k + 1) i) = (false && allF (fun j => ansB u (la j) f == lr j) k (i + 1)) := by
                   rw [b01_eq c42, Bool.false_and, Bool.false_and]
                 rw [e9] at h
                 exact ih (i + 1) false (by omega) h)
              | (have er : lr i = true := b01_1 c82
                 have es : soB u f ((la i / 10 : Nat) : Int) ((la i % 10 : Nat) : Int) = true := b01_1 c90
                 rw [so_ans hU hf1 (k4 i (by omega)) rfl rfl] at es
                 refine ih (i + 1) true (by omega) ?_
                 have e9 : (b && allF (fun j => ansB u (la j) f == lr j) (k + 1) i) = (true && allF (fun j => ansB u (la j) f == lr j) k (i + 1)) := by
                   show (b && ((ansB u (la i) f == lr i) && allF (fun j => ansB u (la j) f == lr j) k (i + 1))) = _
                   rw [b01_ne c42, es, er]
                   rfl
                 rw [e9] at h
                 exact h)
              | (have er : lr i = true := b01_1 c82
                 have es : soB u f ((la i / 10 : Nat) : Int) ((la i % 10 : Nat) : Int) = false := b01_n1 c90
                 rw [so_ans hU hf1 (k4 i (by omega)) rfl rfl] at es
                 refine ih (i + 1) false (by omega) ?_
                 have e9 : (b && allF (fun j => ansB u (la j) f == lr j) (k + 1) i) = (false && allF (fun j => ansB u (la j) f == lr j) k (i + 1)) := by
                   show (b && ((ansB u (la i) f == lr i) && allF (fun j => ansB u (la j) f == lr j) k (i + 1))) = _
                   rw [b01_ne c42, es, er]
                   rfl
                 rw [e9] at h
                 exact h)
              | (have er : lr i = true := b01_1 c82
                 have es : soB u f ((la i / 10 : Nat) : Int) ((la i % 10 : Nat) : Int) = true := b01_ne c90
                 rw [so_ans hU hf1 (k4 i (by omega)) rfl rfl] at es
                 refine ih (i + 1) true (by omega) ?_
                 have e9 : (b && allF (fun j => ansB u (la j) f == lr j) (k + 1) i) = (true && allF (fun j => ansB u (la j) f == lr j) k (i + 1)) := by
                   show (b && ((ansB u (la i) f == lr i) && allF (fun j => ansB u (la j) f == lr j) k (i + 1))) = _
                   rw [b01_ne c42, es, er]
                   rfl
                 rw [e9] at h
                 exact h)
              | (have er : lr i = true := b01_1 c82
                 have es : soB u f ((la i / 10 : Nat) : Int) ((la i % 10 : Nat) : Int) = false := b01_eq c90
                 rw [so_ans hU hf1 (k4 i (by omega)) rfl rfl] at es
                 refine ih (i + 1) false (by omega) ?_
                 have e9 : (b && allF (fun j => ansB u (la j) f == lr j) (k + 1) i) = (false && allF (fun j => ansB u (la j) f == lr j) k (i + 1)) := by
                   show (b && ((ansB u (la i) f == lr i) && allF (fun j => ansB u (la j) f == lr j) k (i + 1))) = _
                   rw [b01_ne c42, es, er]
                   rfl
                 rw [e9] at h
                 exact h)
              | (have er : lr i = false := b01_n1 c82
                 have es : soB u f ((la i / 10 : Nat) : Int) ((la i % 10 : Nat) : Int) = true := b01_1 c90
                 rw [so_ans hU hf1 (k4 i (by omega)) rfl rfl] at es
                 refine ih (i + 1) false (by omega) ?_
                 have e9 : (b && allF (fun j => ansB u (la j) f == lr j) (k + 1) i) = (false && allF (fun j => ansB u (la j) f == lr j) k (i + 1)) := by
                   show (b && ((ansB u (la i) f == lr i) && allF (fun j => ansB u (la j) f == lr j) k (i + 1))) = _
                   rw [b01_ne c42, es, er]
                   rfl
                 rw [e9] at h
                 exact h)
              | (have er : lr i = false := b01_n1 c82
                 have es : soB u f ((la i / 10 : Nat) : Int) ((la i % 10 : Nat) : Int) = false := b01_n1 c90
                 rw [so_ans hU hf1 (k4 i (by omega)) rfl rfl] at es
                 refine ih (i + 1) true (by omega) ?_
                 have e9 : (b && allF (fun j => ansB u (la j) f == lr j) (k + 1) i) = (true && allF (fun j => ansB u (la j) f == lr j) k (i + 1)) := by
                   show (b && ((ansB u (la i) f == lr i) && allF (fun j => ansB u (la j) f == lr j) k (i + 1))) = _
                   rw [b01_ne c42, es, er]
                   rfl
                 rw [e9] at h
                 exact h)
              | (have er : lr i = false := b01_n1 c82
                 have es : soB u f ((la i / 10 : Nat) : Int) ((la i % 10 : Nat) : Int) = true := b01_ne c90
                 rw [so_ans hU hf1 (k4 i (by omega)) rfl rfl] at es
                 refine ih (i + 1) false (by omega) ?_
                 have e9 : (b && allF (fun j => ansB u (la j) f == lr j) (k + 1) i) = (false && allF (fun j => ansB u (la j) f == lr j) k (i + 1)) := by
                   show (b && ((ansB u (la i) f == lr i) && allF (fun j => ansB u (la j) f == lr j) k (i + 1))) = _
                   rw [b01_ne c42, es, er]
                   rfl
                 rw [e9] at h
                 exact h)
              | (have er : lr i = false := b01_n1 c82
                 have es : soB u f ((la i / 10 : Nat) : Int) ((la i % 10 : Nat) : Int) = false := b01_eq c90
                 rw [so_ans hU hf1 (k4 i (by omega)) rfl rfl] at es
                 refine ih (i + 1) true (by omega) ?_
                 have e9 : (b && allF (fun j => ansB u (la j) f == lr j) (k + 1) i) = (true && allF (fun j => ansB u (la j) f == lr j) k (i + 1)) := by
                   show (b && ((ansB u (la i) f == lr i) && allF (fun j => ansB u (la j) f == lr j) k (i + 1))) = _
                   rw [b01_ne c42, es, er]
                   rfl
                 rw [e9] at h
                 exact h)
          · refine r_iconst (pc' := 94) dX11_could_93 rfl ?_
            refine r_goto (tgt := 98) dX11_could_94 rfl ?_
            refine r_istore_n (pc' := 99) dX11_could_98 rfl rfl ?_
            refine r_iinc (pc' := 102) dX11_could_99 rfl rfl rfl ?_
            refine r_goto (tgt := 32) dX11_could_102 rfl ?_
            first
              | (have e9 : (b && allF (fun j => ansB u (la j) f == lr j) (k + 1) i) = (false && allF (fun j => ansB u (la j) f == lr j) k (i + 1)) := by
                   rw [b01_eq c42, Bool.false_and, Bool.false_and]
                 rw [e9] at h
                 exact ih (i + 1) false (by omega) h)
              | (have er : lr i = true := b01_1 c82
                 have es : soB u f ((la i / 10 : Nat) : Int) ((la i % 10 : Nat) : Int) = true := b01_1 c90
                 rw [so_ans hU hf1 (k4 i (by omega)) rfl rfl] at es
                 refine ih (i + 1) true (by omega) ?_
                 have e9 : (b && allF (fun j => ansB u (la j) f == lr j) (k + 1) i) = (true && allF (fun j => ansB u (la j) f == lr j) k (i + 1)) := by
                   show (b && ((ansB u (la i) f == lr i) && allF (fun j => ansB u (la j) f == lr j) k (i + 1))) = _
                   rw [b01_ne c42, es, er]
                   rfl
                 rw [e9] at h
                 exact h)
              | (have er : lr i = true := b01_1 c82
                 have es : soB u f ((la i / 10 : Nat) : Int) ((la i % 10 : Nat) : Int) = false := b01_n1 c90
                 rw [so_ans hU hf1 (k4 i (by omega)) rfl rfl] at es
                 refine ih (i + 1) false (by omega) ?_
                 have e9 : (b && allF (fun j => ansB u (la j) f == lr j) (k + 1) i) = (false && allF (fun j => ansB u (la j) f == lr j) k (i + 1)) := by
                   show (b && ((ansB u (la i) f == lr i) && allF (fun j => ansB u (la j) f == lr j) k (i + 1))) = _
                   rw [b01_ne c42, es, er]
                   rfl
                 rw [e9] at h
                 exact h)
              | (have er : lr i = true := b01_1 c82
                 have es : soB u f ((la i / 10 : Nat) : Int) ((la i % 10 : Nat) : Int) = true := b01_ne c90
                 rw [so_ans hU hf1 (k4 i (by omega)) rfl rfl] at es
                 refine ih (i + 1) true (by omega) ?_
                 have e9 : (b && allF (fun j => ansB u (la j) f == lr j) (k + 1) i) = (true && allF (fun j => ansB u (la j) f == lr j) k (i + 1)) := by
                   show (b && ((ansB u (la i) f == lr i) && allF (fun j => ansB u (la j) f == lr j) k (i + 1))) = _
                   rw [b01_ne c42, es, er]
                   rfl
                 rw [e9] at h
                 exact h)
              | (have er : lr i = true := b01_1 c82
                 have es : soB u f ((la i / 10 : Nat) : Int) ((la i % 10 : Nat) : Int) = false := b01_eq c90
                 rw [so_ans hU hf1 (k4 i (by omega)) rfl rfl] at es
                 refine ih (i + 1) false (by omega) ?_
                 have e9 : (b && allF (fun j => ansB u (la j) f == lr j) (k + 1) i) = (false && allF (fun j => ansB u (la j) f == lr j) k (i + 1)) := by
                   show (b && ((ansB u (la i) f == lr i) && allF (fun j => ansB u (la j) f == lr j) k (i + 1))) = _
                   rw [b01_ne c42, es, er]
                   rfl
                 rw [e9] at h
                 exact h)
              | (have er : lr i = false := b01_n1 c82
                 have es : soB u f ((la i / 10 : Nat) : Int) ((la i % 10 : Nat) : Int) = true := b01_1 c90
                 rw [so_ans hU hf1 (k4 i (by omega)) rfl rfl] at es
                 refine ih (i + 1) false (by omega) ?_
                 have e9 : (b && allF (fun j => ansB u (la j) f == lr j) (k + 1) i) = (false && allF (fun j => ansB u (la j) f == lr j) k (i + 1)) := by
                   show (b && ((ansB u (la i) f == lr i) && allF (fun j => ansB u (la j) f == lr j) k (i + 1))) = _
                   rw [b01_ne c42, es, er]
                   rfl
                 rw [e9] at h
                 exact h)
              | (have er : lr i = false := b01_n1 c82
                 have es : soB u f ((la i / 10 : Nat) : Int) ((la i % 10 : Nat) : Int) = false := b01_n1 c90
                 rw [so_ans hU hf1 (k4 i (by omega)) rfl rfl] at es
                 refine ih (i + 1) true (by omega) ?_
                 have e9 : (b && allF (fun j => ansB u (la j) f == lr j) (k + 1) i) = (true && allF (fun j => ansB u (la j) f == lr j) k (i + 1)) := by
                   show (b && ((ansB u (la i) f == lr i) && allF (fun j => ansB u (la j) f == lr j) k (i + 1))) = _
                   rw [b01_ne c42, es, er]
                   rfl
                 rw [e9] at h
                 exact h)
              | (have er : lr i = false := b01_n1 c82
                 have es : soB u f ((la i / 10 : Nat) : Int) ((la i % 10 : Nat) : Int) = true := b01_ne c90
                 rw [so_ans hU hf1 (k4 i (by omega)) rfl rfl] at es
                 refine ih (i + 1) false (by omega) ?_
                 have e9 : (b && allF (fun j => ansB u (la j) f == lr j) (k + 1) i) = (false && allF (fun j => ansB u (la j) f == lr j) k (i + 1)) := by
                   show (b && ((ansB u (la i) f == lr i) && allF (fun j => ansB u (la j) f == lr j) k (i + 1))) = _
                   rw [b01_ne c42, es, er]
                   rfl
                 rw [e9] at h
                 exact h)
              | (have er : lr i = false := b01_n1 c82
                 have es : soB u f ((la i / 10 : Nat) : Int) ((la i % 10 : Nat) : Int) = false := b01_eq c90
                 rw [so_ans hU hf1 (k4 i (by omega)) rfl rfl] at es
                 refine ih (i + 1) true (by omega) ?_
                 have e9 : (b && allF (fun j => ansB u (la j) f == lr j) (k + 1) i) = (true && allF (fun j => ansB u (la j) f == lr j) k (i + 1)) := by
                   show (b && ((ansB u (la i) f == lr i) && allF (fun j => ansB u (la j) f == lr j) k (i + 1))) = _
                   rw [b01_ne c42, es, er]
                   rfl
                 rw [e9] at h
                 exact h)
        · refine r_iconst (pc' := 86) dX11_could_85 rfl ?_
          refine r_goto (tgt := 90) dX11_could_86 rfl ?_
          refine r_icmp_ne (tgt := 97) (pc' := 93) dX11_could_90 rfl rfl (b01_R _) (by decide) (fun c90 => ?_) (fun c90 => ?_)
          · refine r_iconst (pc' := 98) dX11_could_97 rfl ?_
            refine r_istore_n (pc' := 99) dX11_could_98 rfl rfl ?_
            refine r_iinc (pc' := 102) dX11_could_99 rfl rfl rfl ?_
            refine r_goto (tgt := 32) dX11_could_102 rfl ?_
            first
              | (have e9 : (b && allF (fun j => ansB u (la j) f == lr j) (k + 1) i) = (false && allF (fun j => ansB u (la j) f == lr j) k (i + 1)) := by
                   rw [b01_eq c42, Bool.false_and, Bool.false_and]
                 rw [e9] at h
                 exact ih (i + 1) false (by omega) h)
              | (have er : lr i = true := b01_1 c82
                 have es : soB u f ((la i / 10 : Nat) : Int) ((la i % 10 : Nat) : Int) = true := b01_1 c90
                 rw [so_ans hU hf1 (k4 i (by omega)) rfl rfl] at es
                 refine ih (i + 1) true (by omega) ?_
                 have e9 : (b && allF (fun j => ansB u (la j) f == lr j) (k + 1) i) = (true && allF (fun j => ansB u (la j) f == lr j) k (i + 1)) := by
                   show (b && ((ansB u (la i) f == lr i) && allF (fun j => ansB u (la j) f == lr j) k (i + 1))) = _
                   rw [b01_ne c42, es, er]
                   rfl
                 rw [e9] at h
                 exact h)
              | (have er : lr i = true := b01_1 c82
                 have es : soB u f ((la i / 10 : Nat) : Int) ((la i % 10 : Nat) : Int) = false := b01_n1 c90
                 rw [so_ans hU hf1 (k4 i (by omega)) rfl rfl] at es
                 refine ih (i + 1) false (by omega) ?_
                 have e9 : (b && allF (fun j => ansB u (la j) f == lr j) (k + 1) i) = (false && allF (fun j => ansB u (la j) f == lr j) k (i + 1)) := by
                   show (b && ((ansB u (la i) f == lr i) && allF (fun j => ansB u (la j) f == lr j) k (i + 1))) = _
                   rw [b01_ne c42, es, er]
                   rfl
                 rw [e9] at h
                 exact h)
              | (have er : lr i = true := b01_1 c82
                 have es : soB u f ((la i / 10 : Nat) : Int) ((la i % 10 : Nat) : Int) = true := b01_ne c90
                 rw [so_ans hU hf1 (k4 i (by omega)) rfl rfl] at es
                 refine ih (i + 1) true (by omega) ?_
                 have e9 : (b && allF (fun j => ansB u (la j) f == lr j) (k + 1) i) = (true && allF (fun j => ansB u (la j) f == lr j) k (i + 1)) := by
                   show (b && ((ansB u (la i) f == lr i) && allF (fun j => ansB u (la j) f == lr j) k (i + 1))) = _
                   rw [b01_ne c42, es, er]
                   rfl
                 rw [e9] at h
                 exact h)
              | (have er : lr i = true := b01_1 c82
                 have es : soB u f ((la i / 10 : Nat) : Int) ((la i % 10 : Nat) : Int) = false := b01_eq c90
                 rw [so_ans hU hf1 (k4 i (by omega)) rfl rfl] at es
                 refine ih (i + 1) false (by omega) ?_
                 have e9 : (b && allF (fun j => ansB u (la j) f == lr j) (k + 1) i) = (false && allF (fun j => ansB u (la j) f == lr j) k (i + 1)) := by
                   show (b && ((ansB u (la i) f == lr i) && allF (fun j => ansB u (la j) f == lr j) k (i + 1))) = _
                   rw [b01_ne c42, es, er]
                   rfl
                 rw [e9] at h
                 exact h)
              | (have er : lr i = false := b01_n1 c82
                 have es : soB u f ((la i / 10 : Nat) : Int) ((la i % 10 : Nat) : Int) = true := b01_1 c90
                 rw [so_ans hU hf1 (k4 i (by omega)) rfl rfl] at es
                 refine ih (i + 1) false (by omega) ?_
                 have e9 : (b && allF (fun j => ansB u (la j) f == lr j) (k + 1) i) = (false && allF (fun j => ansB u (la j) f == lr j) k (i + 1)) := by
                   show (b && ((ansB u (la i) f == lr i) && allF (fun j => ansB u (la j) f == lr j) k (i + 1))) = _
                   rw [b01_ne c42, es, er]
                   rfl
                 rw [e9] at h
                 exact h)
              | (have er : lr i = false := b01_n1 c82
                 have es : soB u f ((la i / 10 : Nat) : Int) ((la i % 10 : Nat) : Int) = false := b01_n1 c90
                 rw [so_ans hU hf1 (k4 i (by omega)) rfl rfl] at es
                 refine ih (i + 1) true (by omega) ?_
                 have e9 : (b && allF (fun j => ansB u (la j) f == lr j) (k + 1) i) = (true && allF (fun j => ansB u (la j) f == lr j) k (i + 1)) := by
                   show (b && ((ansB u (la i) f == lr i) && allF (fun j => ansB u (la j) f == lr j) k (i + 1))) = _
                   rw [b01_ne c42, es, er]
                   rfl
                 rw [e9] at h
                 exact h)
              | (have er : lr i = false := b01_n1 c82
                 have es : soB u f ((la i / 10 : Nat) : Int) ((la i % 10 : Nat) : Int) = true := b01_ne c90
                 rw [so_ans hU hf1 (k4 i (by omega)) rfl rfl] at es
                 refine ih (i + 1) false (by omega) ?_
                 have e9 : (b && allF (fun j => ansB u (la j) f == lr j) (k + 1) i) = (false && allF (fun j => ansB u (la j) f == lr j) k (i + 1)) := by
                   show (b && ((ansB u (la i) f == lr i) && allF (fun j => ansB u (la j) f == lr j) k (i + 1))) = _
                   rw [b01_ne c42, es, er]
                   rfl
                 rw [e9] at h
                 exact h)
              | (have er : lr i = false := b01_n1 c82
                 have es : soB u f ((la i / 10 : Nat) : Int) ((la i % 10 : Nat) : Int) = false := b01_eq c90
                 rw [so_ans hU hf1 (k4 i (by omega)) rfl rfl] at es
                 refine ih (i + 1) true (by omega) ?_
                 have e9 : (b && allF (fun j => ansB u (la j) f == lr j) (k + 1) i) = (true && allF (fun j => ansB u (la j) f == lr j) k (i + 1)) := by
                   show (b && ((ansB u (la i) f == lr i) && allF (fun j => ansB u (la j) f == lr j) k (i + 1))) = _
                   rw [b01_ne c42, es, er]
                   rfl
                 rw [e9] at h
                 exact h)
          · refine r_iconst (pc' := 94) dX11_could_93 rfl ?_
            refine r_goto (tgt := 98) dX11_could_94 rfl ?_
            refine r_istore_n (pc' := 99) dX11_could_98 rfl rfl ?_
            refine r_iinc (pc' := 102) dX11_could_99 rfl rfl rfl ?_
            refine r_goto (tgt := 32) dX11_could_102 rfl ?_
            first
              | (have e9 : (b && allF (fun j => ansB u (la j) f == lr j) (k + 1) i) = (false && allF (fun j => ansB u (la j) f == lr j) k (i + 1)) := by
                   rw [b01_eq c42, Bool.false_and, Bool.false_and]
                 rw [e9] at h
                 exact ih (i + 1) false (by omega) h)
              | (have er : lr i = true := b01_1 c82
                 have es : soB u f ((la i / 10 : Nat) : Int) ((la i % 10 : Nat) : Int) = true := b01_1 c90
                 rw [so_ans hU hf1 (k4 i (by omega)) rfl rfl] at es
                 refine ih (i + 1) true (by omega) ?_
                 have e9 : (b && allF (fun j => ansB u (la j) f == lr j) (k + 1) i) = (true && allF (fun j => ansB u (la j) f == lr j) k (i + 1)) := by
                   show (b && ((ansB u (la i) f == lr i) && allF (fun j => ansB u (la j) f == lr j) k (i + 1))) = _
                   rw [b01_ne c42, es, er]
                   rfl
                 rw [e9] at h
                 exact h)
              | (have er : lr i = true := b01_1 c82
                 have es : soB u f ((la i / 10 : Nat) : Int) ((la i % 10 : Nat) : Int) = false := b01_n1 c90
                 rw [so_ans hU hf1 (k4 i (by omega)) rfl rfl] at es
                 refine ih (i + 1) false (by omega) ?_
                 have e9 : (b && allF (fun j => ansB u (la j) f == lr j) (k + 1) i) = (false && allF (fun j => ansB u (la j) f == lr j) k (i + 1)) := by
                   show (b && ((ansB u (la i) f == lr i) && allF (fun j => ansB u (la j) f == lr j) k (i + 1))) = _
                   rw [b01_ne c42, es, er]
                   rfl
                 rw [e9] at h
                 exact h)
              | (have er : lr i = true := b01_1 c82
                 have es : soB u f ((la i / 10 : Nat) : Int) ((la i % 10 : Nat) : Int) = true := b01_ne c90
                 rw [so_ans hU hf1 (k4 i (by omega)) rfl rfl] at es
                 refine ih (i + 1) true (by omega) ?_
                 have e9 : (b && allF (fun j => ansB u (la j) f == lr j) (k + 1) i) = (true && allF (fun j => ansB u (la j) f == lr j) k (i + 1)) := by
                   show (b && ((ansB u (la i) f == lr i) && allF (fun j => ansB u (la j) f == lr j) k (i + 1))) = _
                   rw [b01_ne c42, es, er]
                   rfl
                 rw [e9] at h
                 exact h)
              | (have er : lr i = true := b01_1 c82
                 have es : soB u f ((la i / 10 : Nat) : Int) ((la i % 10 : Nat) : Int) = false := b01_eq c90
                 rw [so_ans hU hf1 (k4 i (by omega)) rfl rfl] at es
                 refine ih (i + 1) false (by omega) ?_
                 have e9 : (b && allF (fun j => ansB u (la j) f == lr j) (k + 1) i) = (false && allF (fun j => ansB u (la j) f == lr j) k (i + 1)) := by
                   show (b && ((ansB u (la i) f == lr i) && allF (fun j => ansB u (la j) f == lr j) k (i + 1))) = _
                   rw [b01_ne c42, es, er]
                   rfl
                 rw [e9] at h
                 exact h)
              | (have er : lr i = false := b01_n1 c82
                 have es : soB u f ((la i / 10 : Nat) : Int) ((la i % 10 : Nat) : Int) = true := b01_1 c90
                 rw [so_ans hU hf1 (k4 i (by omega)) rfl rfl] at es
                 refine ih (i + 1) false (by omega) ?_
                 have e9 : (b && allF (fun j => ansB u (la j) f == lr j) (k + 1) i) = (false && allF (fun j => ansB u (la j) f == lr j) k (i + 1)) := by
                   show (b && ((ansB u (la i) f == lr i) && allF (fun j => ansB u (la j) f == lr j) k (i + 1))) = _
                   rw [b01_ne c42, es, er]
                   rfl
                 rw [e9] at h
                 exact h)
              | (have er : lr i = false := b01_n1 c82
                 have es : soB u f ((la i / 10 : Nat) : Int) ((la i % 10 : Nat) : Int) = false := b01_n1 c90
                 rw [so_ans hU hf1 (k4 i (by omega)) rfl rfl] at es
                 refine ih (i + 1) true (by omega) ?_
                 have e9 : (b && allF (fun j => ansB u (la j) f == lr j) (k + 1) i) = (true && allF (fun j => ansB u (la j) f == lr j) k (i + 1)) := by
                   show (b && ((ansB u (la i) f == lr i) && allF (fun j => ansB u (la j) f == lr j) k (i + 1))) = _
                   rw [b01_ne c42, es, er]
                   rfl
                 rw [e9] at h
                 exact h)
              | (have er : lr i = false := b01_n1 c82
                 have es : soB u f ((la i / 10 : Nat) : Int) ((la i % 10 : Nat) : Int) = true := b01_ne c90
                 rw [so_ans hU hf1 (k4 i (by omega)) rfl rfl] at es
                 refine ih (i + 1) false (by omega) ?_
                 have e9 : (b && allF (fun j => ansB u (la j) f == lr j) (k + 1) i) = (false && allF (fun j => ansB u (la j) f == lr j) k (i + 1)) := by
                   show (b && ((ansB u (la i) f == lr i) && allF (fun j => ansB u (la j) f == lr j) k (i + 1))) = _
                   rw [b01_ne c42, es, er]
                   rfl
                 rw [e9] at h
                 exact h)
              | (have er : lr i = false := b01_n1 c82
                 have es : soB u f ((la i / 10 : Nat) : Int) ((la i % 10 : Nat) : Int) = false := b01_eq c90
                 rw [so_ans hU hf1 (k4 i (by omega)) rfl rfl] at es
                 refine ih (i + 1) true (by omega) ?_
                 have e9 : (b && allF (fun j => ansB u (la j) f == lr j) (k + 1) i) = (true && allF (fun j => ansB u (la j) f == lr j) k (i + 1)) := by
                   show (b && ((ansB u (la i) f == lr i) && allF (fun j => ansB u (la j) f == lr j) k (i + 1))) = _
                   rw [b01_ne c42, es, er]
                   rfl
                 rw [e9] at h
                 exact h)
theorem lm_cou {X : CX} {d : Nat} {g : Mem} {K : Int → Mem → Prop} {u : PV} {v : LV} (hB : MB g u v)  {ln : Nat} {la : Nat → Nat} {lr : Nat → Bool} (k1 : g 166 11 = ln) (k2 : ∀ i : Nat, i < ln → g 174 (3 * i) = ((la i / 10 : Nat) : Int) ∧ g 174 (3 * i + 1) = ((la i % 10 : Nat) : Int) ∧ g 174 (3 * i + 2) = b01 (lr i)) (k3 : ln ≤ 6) (k4 : ∀ i, i < ln → la i ≤ 19) : ∀ (k f acc : Nat) (y z : Option VV), f + k = Pf u → acc < 128 → K ((orF (cdB u v ln la lr) (fun f => 2 ^ f) k f acc : Nat) : Int) g → AJ X (d + 1) mX11_could 0 0 (QI Z0 K) 0 0 4 [some (vr 166), some (vi (acc : Int)), some (vi (f : Int)), y, z] [] Z0 g := by
  obtain ⟨hQ, hU, hC, hW⟩ := id hB
  obtain ⟨hy, hi, hc, ht, ho, hf, hw_⟩ := id hC
  obtain ⟨w0, w1, w2, w3, w4, w5, w6, w7⟩ := id hW
  obtain ⟨p6, p7, p8, p9, p10, pk, pg, px, py⟩ := id hQ
  obtain ⟨u0, u1, u2, u3, u4, u5, u6, u7⟩ := id hU
  intro k
  induction k with
  | zero =>
    intro f acc y z hf1 ha h
    refine r_iload_n (pc' := 5) dX11_could_4 rfl rfl ?_
    refine r_aload_n (pc' := 6) dX11_could_5 rfl rfl ?_
    refine r_getr (pc' := 9) dX11_could_6 rfl fX11_13 z166 rfl ?_
    refine r_iconst (pc' := 10) dX11_could_9 rfl ?_
    refine r_iaload (pc' := 11) dX11_could_10 rfl z168 (by decide) (by omega) (by omega) p8 ?_
    refine r_icmp_ge (tgt := 125) (pc' := 14) dX11_could_11 rfl rfl (by omega) (by omega) (fun c11 => ?_) (fun c11 => ?_)
    · refine r_iload_n (pc' := 126) dX11_could_125 rfl rfl ?_
      refine r_reti dX11_could_126 rfl (Or.inl rfl) ?_
      exact h
    · exact absurd c11 (by omega)
  | succ k ih =>
    intro f acc y z hf1 ha h
    have hpb := plc_b (o := Lo v) (f := (f : Int)) (Ln v) 0
    have e : b_or (acc : Int) (b_shl 1 (f : Int)) = ((acc ||| 2 ^ f : Nat) : Int) := by rw [shl1 (by omega), or_n ha (pow7 (by omega))]
    have hst : ∀ b : Bool, b = decide (plc (Lo v) (f : Int) (Ln v) 0 = -1) → AJ X (d + 1) mX11_could 0 0 (QI Z0 K) 0 0 105 [some (vr 166), some (vi (acc : Int)), some (vi (f : Int)), some (vi (b01 (b && allF (fun j => ansB u (la j) f == lr j) ln 0))), some (vi (ln : Int))] [] Z0 g := by
      intro b hb
      have eb : (b && allF (fun j => ansB u (la j) f == lr j) ln 0) = cdB u v ln la lr f := by rw [hb]; rfl
      rw [eb]
      refine r_iload_n (pc' := 106) dX11_could_105 rfl rfl ?_
      refine r_iload_n (pc' := 107) dX11_could_106 rfl rfl ?_
      refine r_if_eq (tgt := 116) (pc' := 110) dX11_could_107 rfl rfl (b01_R _) (fun c107 => ?_) (fun c107 => ?_)
      · refine r_iconst (pc' := 117) dX11_could_116 rfl ?_
        refine r_ior (pc' := 118) dX11_could_117 rfl ?_
        refine r_istore_n (pc' := 119) dX11_could_118 rfl rfl ?_
        refine r_iinc (pc' := 122) dX11_could_119 rfl rfl rfl ?_
        refine r_goto (tgt := 4) dX11_could_122 rfl ?_
        first
          | (rw [e]
             have h : K ((orF (cdB u v ln la lr) (fun f => 2 ^ f) k (f + 1) (if cdB u v ln la lr f = true then acc ||| 2 ^ f else acc) : Nat) : Int) g := h
             rw [if_pos (b01_ne c107)] at h
             exact ih (f + 1) _ _ _ (by omega) (or128 ha (pow7 (by omega))) h)
          | (rw [or0 ha]
             have h : K ((orF (cdB u v ln la lr) (fun f => 2 ^ f) k (f + 1) (if cdB u v ln la lr f = true then acc ||| 2 ^ f else acc) : Nat) : Int) g := h
             rw [if_neg (by rw [b01_eq c107]; decide)] at h
             exact ih (f + 1) _ _ _ (by omega) ha h)
      · refine r_iconst (pc' := 111) dX11_could_110 rfl ?_
        refine r_iload_n (pc' := 112) dX11_could_111 rfl rfl ?_
        refine r_ishl (pc' := 113) dX11_could_112 rfl ?_
        refine r_goto (tgt := 117) dX11_could_113 rfl ?_
        refine r_ior (pc' := 118) dX11_could_117 rfl ?_
        refine r_istore_n (pc' := 119) dX11_could_118 rfl rfl ?_
        refine r_iinc (pc' := 122) dX11_could_119 rfl rfl rfl ?_
        refine r_goto (tgt := 4) dX11_could_122 rfl ?_
        first
          | (rw [e]
             have h : K ((orF (cdB u v ln la lr) (fun f => 2 ^ f) k (f + 1) (if cdB u v ln la lr f = true then acc ||| 2 ^ f else acc) : Nat) : Int) g := h
             rw [if_pos (b01_ne c107)] at h
             exact ih (f + 1) _ _ _ (by omega) (or128 ha (pow7 (by omega))) h)
          | (rw [or0 ha]
             have h : K ((orF (cdB u v ln la lr) (fun f => 2 ^ f) k (f + 1) (if cdB u v ln la lr f = true then acc ||| 2 ^ f else acc) : Nat) : Int) g := h
             rw [if_neg (by rw [b01_eq c107]; decide)] at h
             exact ih (f + 1) _ _ _ (by omega) ha h)
    refine r_iload_n (pc' := 5) dX11_could_4 rfl rfl ?_
    refine r_aload_n (pc' := 6) dX11_could_5 rfl rfl ?_
    refine r_getr (pc' := 9) dX11_could_6 rfl fX11_13 z166 rfl ?_
    refine r_iconst (pc' := 10) dX11_could_9 rfl ?_
    refine r_iaload (pc' := 11) dX11_could_10 rfl z168 (by decide) (by omega) (by omega) p8 ?_
    refine r_icmp_ge (tgt := 125) (pc' := 14) dX11_could_11 rfl rfl (by omega) (by omega) (fun c11 => ?_) (fun c11 => ?_)
    · exact absurd c11 (by omega)
    · refine r_aload_n (pc' := 15) dX11_could_14 rfl rfl ?_
      refine r_iload_n (pc' := 16) dX11_could_15 rfl rfl ?_
      refine r_vi1 (pc' := 19) dX11_could_16 rfl qX11_placeOf lX11_157 z166 rfl rfl rfl rfl (Nat.zero_le _) (Nat.zero_le _) (m_placeOf hB (f : Int) (by omega) ?_)
      refine r_iconst (pc' := 20) dX11_could_19 rfl ?_
      refine r_icmp_ne (tgt := 27) (pc' := 23) dX11_could_20 rfl rfl (by omega) (by omega) (fun c20 => ?_) (fun c20 => ?_)
      · refine r_iconst (pc' := 28) dX11_could_27 rfl ?_
        refine r_istore_n (pc' := 29) dX11_could_28 rfl rfl ?_
        refine r_iconst (pc' := 30) dX11_could_29 rfl ?_
        refine r_istore (pc' := 32) dX11_could_30 rfl rfl ?_
        first
          | exact lm_couI hB k1 k2 k3 k4 (by omega) ln 0 true (by omega) (hst true (decide_eq_true (by omega)).symm)
          | exact lm_couI hB k1 k2 k3 k4 (by omega) ln 0 false (by omega) (hst false (decide_eq_false (by omega)).symm)
      · refine r_iconst (pc' := 24) dX11_could_23 rfl ?_
        refine r_goto (tgt := 28) dX11_could_24 rfl ?_
        refine r_istore_n (pc' := 29) dX11_could_28 rfl rfl ?_
        refine r_iconst (pc' := 30) dX11_could_29 rfl ?_
        refine r_istore (pc' := 32) dX11_could_30 rfl rfl ?_
        first
          | exact lm_couI hB k1 k2 k3 k4 (by omega) ln 0 true (by omega) (hst true (decide_eq_true (by omega)).symm)
          | exact lm_couI hB k1 k2 k3 k4 (by omega) ln 0 false (by omega) (hst false (decide_eq_false (by omega)).symm)
theorem m_could {X : CX} {d : Nat} {g : Mem} {K : Int → Mem → Prop} {u : PV} {v : LV} (hB : MB g u v) {ln : Nat} {la : Nat → Nat} {lr : Nat → Bool} (k1 : g 166 11 = ln) (k2 : ∀ i : Nat, i < ln → g 174 (3 * i) = ((la i / 10 : Nat) : Int) ∧ g 174 (3 * i + 1) = ((la i % 10 : Nat) : Int) ∧ g 174 (3 * i + 2) = b01 (lr i)) (k3 : ln ≤ 6) (k4 : ∀ i, i < ln → la i ≤ 19) (h : K ((cldN u v ln la lr : Nat) : Int) g) : EI X (d + 1) mX11_could [vr 166] Z0 g K := by
  show AJ X (d + 1) mX11_could 0 0 (QI Z0 K) 0 0 0 [some (vr 166), none, none, none, none] [] Z0 g
  rw [← cld_eq] at h
  refine r_iconst (pc' := 1) dX11_could_0 rfl ?_
  refine r_istore_n (pc' := 2) dX11_could_1 rfl rfl ?_
  refine r_iconst (pc' := 3) dX11_could_2 rfl ?_
  refine r_istore_n (pc' := 4) dX11_could_3 rfl rfl ?_
  exact lm_cou hB k1 k2 k3 k4 (Pf u) 0 0 none none (by omega) (by decide) h
theorem M_couldBe {X : CX} {d : Nat} {g : Mem} {K : Int → Mem → Prop} {tN : Nat} {tX : Nat → Int} {flt : Int} {u : PV} {v : LV} {kn : Nat} {kL : Nat → LV} {im : Nat → Bool × Int × LV} {sd : Int} {ln : Nat} {la : Nat → Nat} {lr : Nat → Bool} {bn : Nat} {bp : Nat → Nat} {bf : Nat → Int} (hM : MS g tN tX flt u v kn kL im sd ln la lr bn bp bf) (hS : WS tN tX flt u v kn kL im sd ln la lr bn bp bf) (h : ∀ g' : Mem, MS g' tN tX flt u v kn kL im sd ln la lr bn bp bf → FrM g g' → K ((cldN u v ln la lr : Nat)) g') : EI X (d + 2) mX11_couldBe [vr 166] Z0 g K := by
  show AJ X (d + 2) mX11_couldBe 0 0 (QI Z0 K) 0 0 0 [some (vr 166)] [] Z0 g
  obtain ⟨⟨m1, m2⟩, m3, m4, m5, ⟨m6, m7⟩, m8, m9, ⟨m10, m11⟩, ⟨m12, m13⟩⟩ := id hM
  obtain ⟨⟨s1, s2⟩, s3, s4, s5, ⟨s6, s7⟩, s8, ⟨s9, s10⟩, ⟨s11, s12⟩, ⟨s13, s14⟩⟩ := id hS
  have hB : MB g u v := ⟨m4, s4, m5, s5⟩
  obtain ⟨hQ, hU, hC, hW⟩ := id hB
  obtain ⟨hy, hi, hc, ht, ho, hf, hw_⟩ := id hC
  obtain ⟨w0, w1, w2, w3, w4, w5, w6, w7⟩ := id hW
  obtain ⟨p6, p7, p8, p9, p10, pk, pg, px, py⟩ := id hQ
  obtain ⟨u0, u1, u2, u3, u4, u5, u6, u7⟩ := id hU
  refine r_aload_n (pc' := 1) dX11_couldBe_0 rfl rfl ?_
  refine r_vi0 (pc' := 4) dX11_couldBe_1 rfl qX11_could lX11_232 z166 rfl rfl rfl (Nat.zero_le _) (Nat.zero_le _) (m_could hB m10 m11 s11 s12 ?_)
  refine r_reti dX11_couldBe_4 rfl (Or.inl rfl) ?_
  exact h g hM (FrM.rf g)
