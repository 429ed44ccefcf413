theorem isD17 : isD 18 19 20 := ⟨by decide, by decide, by decide⟩
theorem PC_.fr {g g' : Mem} {i a b c e f h : Nat} {v : PV} (hq : PC_ g i a b c e f h v) (S : List Nat) (hf : Fr S g g') (hn : ∀ x ∈ [i, a, b, c, e, f, h], x ∉ S) : PC_ g' i a b c e f h v := by
  unfold PC_
  rw [hf i (hn i (by simp)), hf a (hn a (by simp)), hf b (hn b (by simp)), hf c (hn c (by simp)), hf e (hn e (by simp)), hf f (hn f (by simp)), hf h (hn h (by simp))]
  exact hq
/-- the flags on the line, in their order -/
def Ll (v : LV) : List Nat := (List.range (Ln v)).map (Lo v)
theorem Ll_get (v : LV) (p : Nat) : (Ll v)[p]? = if p < Ln v then some (Lo v p) else none := by
  unfold Ll
  by_cases h : p < Ln v <;> simp [h]
theorem Ll_len (v : LV) : (Ll v).length = Ln v := by simp [Ll]
theorem Ll_nodup {F : Nat} {v : LV} (h : LW F v) : (Ll v).Nodup := by
  unfold Ll
  rw [List.Nodup, List.pairwise_map]
  exact List.Pairwise.imp_of_mem (fun ha hb hne e => hne (h.2.2.2.1 _ _ (List.mem_range.mp ha) (List.mem_range.mp hb) e)) List.nodup_range
def vf (v : LV) (F : Nat → Int) : LV := (Ln v, Lo v, F, Lw v, Lt v, Li v, Ly v)
theorem LW_vf {F : Nat} {v : LV} (h : LW F v) {G : Nat → Int} (hG : ∀ k : Nat, k < 7 → 0 ≤ G k ∧ G k ≤ 99) : LW F (vf v G) := ⟨h.1, h.2.1, h.2.2.1, h.2.2.2.1, h.2.2.2.2.1, hG, h.2.2.2.2.2.2.1, h.2.2.2.2.2.2.2⟩
theorem LW_drop {F : Nat} {v : LV} (h : LW F v) {p : Nat} (hp : p < Ln v) : LW F (dropV v p) := by
  obtain ⟨w0, w1, w2, w3, w4, w5, w6, w7⟩ := h
  refine ⟨w0, ?_, fun q hq => ?_, fun q r hq hr e => ?_, difN_lt w4, w5, w6, w7⟩
  · show Ln v - 1 ≤ 7
    omega
  · have hq1 : q < Ln v - 1 := hq
    show (if p ≤ q then Lo v (q + 1) else Lo v q) < F
    split
    · exact w2 _ (by omega)
    · exact w2 _ (by omega)
  · have hq1 : q < Ln v - 1 := hq
    have hr1 : r < Ln v - 1 := hr
    have e1 : (if p ≤ q then Lo v (q + 1) else Lo v q) = (if p ≤ r then Lo v (r + 1) else Lo v r) := e
    split at e1 <;> split at e1 <;> (have := w3 _ _ (by omega) (by omega) e1; omega)
theorem Ll_drop {v : LV} {p : Nat} (hp : p < Ln v) : Ll (dropV v p) = (Ll v).eraseIdx p := by
  apply List.ext_getElem?
  intro q
  rw [List.getElem?_eraseIdx, Ll_get, Ll_get, Ll_get]
  show (if q < Ln v - 1 then some (if p ≤ q then Lo v (q + 1) else Lo v q) else none) = _
  repeat' split
  all_goals first | rfl | (exfalso; omega)
/-- how much a flag fades in a year, and whether it stays -/
def mor (u : PV) (v : LV) (k : Nat) : Int := if outP u v k && decide (Pk u k ≠ 3) then 2 else 1
def inF (o : Nat → Nat) (p k : Nat) : Bool := (List.range p).any (fun q => decide (o q = k))
theorem inF_succ (o : Nat → Nat) (p k : Nat) : inF o (p + 1) k = (inF o p k || decide (o p = k)) := by simp [inF, List.range_succ]
theorem inF_iff {o : Nat → Nat} {p k : Nat} : inF o p k = true ↔ ∃ q, q < p ∧ o q = k := by simp [inF]
def fdP (u : PV) (v : LV) (p k : Nat) : Int := if inF (Lo v) p k then min 99 (Lf v k + mor u v k) else Lf v k
theorem fdP_b {F : Nat} {u : PV} {v : LV} (h : LW F v) (p : Nat) : ∀ k : Nat, k < 7 → 0 ≤ fdP u v p k ∧ fdP u v p k ≤ 99 := by
  intro k hk
  have := h.2.2.2.2.2.1 k hk
  unfold fdP mor
  repeat' split
  all_goals omega
def keepB (u : PV) (G : Nat → Int) (x : Nat) : Bool := !(decide (Pk u x = 2) && decide (40 ≤ G x))
def yearV (u : PV) (v : LV) : LV := (((Ll v).filter (keepB u (fdP u v (Ln v)))).length, fun q => ((Ll v).filter (keepB u (fdP u v (Ln v)))).getD q 0, fdP u v (Ln v), Lw v, 0, Li v, Ly v + 1)
theorem l_year1 {X : CX} {d : Nat} {K : Mem → Prop} {F : Nat} {u : PV} {v : LV} (hU : PW u) (hF : F = Pf u) (hW : LW F v) : ∀ (k p : Nat) (g : Mem) (x y : Option VV), p + k = Ln v → LC g 17 18 19 20 (vf v (fdP u v p)) → PC_ g 10 11 12 13 14 15 16 u → (∀ g' x y, LC g' 17 18 19 20 (vf v (fdP u v (Ln v))) → Fr [19] g g' → AJ X (d + 2) mX2_passYear 0 0 (QV Z0 K) 0 0 69 [some (vr 17), some (vr 10), some (vi (Ln v : Int)), x, y] [] Z0 g') → AJ X (d + 2) mX2_passYear 0 0 (QV Z0 K) 0 0 2 [some (vr 17), some (vr 10), some (vi (p : Int)), x, y] [] Z0 g := by
  intro k
  induction k with
  | zero =>
    intro p g x y hp hC hQ h
    have e : (Ln v : Int) = (p : Int) := by omega
    obtain ⟨hc, ho, hf, hw, ht, hi, hy⟩ := id hC
    have hc : g 17 3 = Ln v := hc
    have w1 := hW.2.1
    refine r_iload_n (pc' := 3) dX2_passYear_2 rfl rfl ?_
    refine r_aload_n (pc' := 4) dX2_passYear_3 rfl rfl ?_
    refine r_getf (pc' := 7) (kI := 3) dX2_passYear_4 rfl fX2_21 isL17.1 rfl rfl hc ?_
    refine r_icmp_ge (tgt := 69) (pc' := 10) dX2_passYear_7 rfl rfl (by omega) (by omega) (fun c7 => ?_) (fun c7 => ?_)
    · have := h g x y (by rw [show Ln v = p by omega] at *; exact hC) (Fr.rf _ _)
      rw [e] at this
      exact this
    · exact absurd c7 (by omega)
  | succ k ih =>
    intro p g x y hp hC hQ h
    obtain ⟨hc, ho, hf, hw, ht, hi, hy⟩ := id hC
    have hc : g 17 3 = Ln v := hc
    have ho : ∀ q : Nat, q < Ln v → g 18 q = Lo v q := ho
    have hf : ∀ k : Nat, k < 7 → g 19 k = fdP u v p k := hf
    obtain ⟨w0, w1, w2, w3, w4, w5, w6, w7⟩ := id hW
    have w2p := w2 p (by omega)
    have hni : inF (Lo v) p (Lo v p) = false := by
      cases hb : inF (Lo v) p (Lo v p)
      · rfl
      · obtain ⟨q, hq, e⟩ := inF_iff.mp hb
        have := w3 q p (by omega) (by omega) e
        omega
    have efd : fdP u v p (Lo v p) = Lf v (Lo v p) := by unfold fdP; rw [hni]; rfl
    have b5 := w5 (Lo v p) (by omega)
    obtain ⟨p6, p7, p8, p9, p10, pk, pg, px, py⟩ := id hQ
    have hk := pk (Lo v p) (by omega)
    have uk := hU.2.2.2.2.2.1 (Lo v p) (by omega)
    refine r_iload_n (pc' := 3) dX2_passYear_2 rfl rfl ?_
    refine r_aload_n (pc' := 4) dX2_passYear_3 rfl rfl ?_
    refine r_getf (pc' := 7) (kI := 3) dX2_passYear_4 rfl fX2_21 isL17.1 rfl rfl hc ?_
    refine r_icmp_ge (tgt := 69) (pc' := 10) dX2_passYear_7 rfl rfl (by omega) (by omega) (fun c7 => ?_) (fun c7 => ?_)
    · exact absurd c7 (by omega)
    · refine r_aload_n (pc' := 11) dX2_passYear_10 rfl rfl ?_
      refine r_getr (pc' := 14) dX2_passYear_11 rfl fX2_9 isL17.1 rfl ?_
      refine r_iload_n (pc' := 15) dX2_passYear_14 rfl rfl ?_
      refine r_iaload (pc' := 16) dX2_passYear_15 rfl isL17.2.1 (by decide) (by omega) (by omega) (ho p (by omega)) ?_
      refine r_istore_n (pc' := 17) dX2_passYear_16 rfl rfl ?_
      refine r_aload_n (pc' := 18) dX2_passYear_17 rfl rfl ?_
      refine r_aload_n (pc' := 19) dX2_passYear_18 rfl rfl ?_
      refine r_iload_n (pc' := 20) dX2_passYear_19 rfl rfl ?_
      refine r_vi2 (pc' := 23) dX2_passYear_20 rfl qX2_isOut lX2_58 isL17.1 rfl rfl rfl rfl (Nat.zero_le _) (Nat.zero_le _) (a_isOut (y := Lo v p) isL17 hC (LW_vf hW (fdP_b hW p)) isP10 hQ hU hF (by omega) ?_)
      refine r_if_eq (tgt := 40) (pc' := 26) dX2_passYear_23 rfl rfl (b01_R _) (fun c23 => ?_) (fun c23 => ?_)
      · refine r_iconst (pc' := 41) dX2_passYear_40 rfl ?_
        refine r_istore (pc' := 43) dX2_passYear_41 rfl rfl ?_
        refine r_aload_n (pc' := 44) dX2_passYear_43 rfl rfl ?_
        refine r_getr (pc' := 47) dX2_passYear_44 rfl fX2_15 isL17.1 rfl ?_
        refine r_iload_n (pc' := 48) dX2_passYear_47 rfl rfl ?_
        refine r_bipush (pc' := 50) dX2_passYear_48 rfl (by decide) ?_
        refine r_aload_n (pc' := 51) dX2_passYear_50 rfl rfl ?_
        refine r_getr (pc' := 54) dX2_passYear_51 rfl fX2_15 isL17.1 rfl ?_
        refine r_iload_n (pc' := 55) dX2_passYear_54 rfl rfl ?_
        refine r_iaload (pc' := 56) dX2_passYear_55 rfl isL17.2.2.1 (by decide) (by omega) (by omega) ((hf (Lo v p) (by omega)).trans efd) ?_
        refine r_iload (pc' := 58) dX2_passYear_56 rfl rfl ?_
        refine r_iadd (pc' := 59) dX2_passYear_58 rfl ?_
        refine r_si2 (pc' := 62) dX2_passYear_59 rfl qJ9_min lX2_72 rfl rfl rfl (Nat.zero_le _) (Nat.zero_le _) (a_min _ _ (by decide) (by omega) ?_)
        refine r_iastore (pc' := 63) dX2_passYear_62 rfl isL17.2.2.1 (by decide) (by omega) (by omega) rfl ?_
        refine r_iinc (pc' := 66) dX2_passYear_63 rfl rfl rfl ?_
        refine r_goto (tgt := 2) dX2_passYear_66 rfl ?_
        refine ih (p + 1) _ _ _ (by omega) ?_ (hQ.fr [19] (fun j hj => mu_ne (by simpa using hj)) (by decide)) (fun g' x y h1 h2 => h g' x y h1 (Fr.tr (fun j hj => mu_ne (by simpa using hj)) h2))
        refine ⟨by rw [mu_ne (by decide)]; exact hc, fun q hq => by rw [mu_ne (by decide)]; exact ho q hq, fun q hq => ?_, fun q hq => by rw [mu_ne (by decide)]; exact hw q hq, by rw [mu_ne (by decide)]; exact ht, by rw [mu_ne (by decide)]; exact hi, by rw [mu_ne (by decide)]; exact hy⟩
        show mu g 19 (Lo v p) _ 19 q = fdP u v (p + 1) q
        by_cases hq2 : q = Lo v p
        · subst hq2
          rw [mu_at]
          unfold fdP mor
          rw [inF_succ, hni, decide_eq_true (rfl : Lo v p = Lo v p), if_pos (by rfl)]
          first | (rw [if_neg (by rw [show outP u v (Lo v p) = false from b01_eq c23, Bool.false_and]; decide)]) | (rw [if_neg (by rw [decide_eq_false (by omega : ¬ Pk u (Lo v p) ≠ 3), Bool.and_false]; decide)]) | (rw [if_pos (by rw [show outP u v (Lo v p) = true from b01_ne c23, decide_eq_true (by omega : Pk u (Lo v p) ≠ 3)]; rfl)])
        · rw [mu_at' (by omega), hf q hq]
          unfold fdP
          rw [inF_succ, decide_eq_false (by omega : ¬ Lo v p = q), Bool.or_false]
      · refine r_aload_n (pc' := 27) dX2_passYear_26 rfl rfl ?_
        refine r_getr (pc' := 30) dX2_passYear_27 rfl fX2_62 isP10.1 rfl ?_
        refine r_iload_n (pc' := 31) dX2_passYear_30 rfl rfl ?_
        refine r_iaload (pc' := 32) dX2_passYear_31 rfl isP10.2.1 (by decide) (by omega) (by omega) hk ?_
        refine r_iconst (pc' := 33) dX2_passYear_32 rfl ?_
        refine r_icmp_eq (tgt := 40) (pc' := 36) dX2_passYear_33 rfl rfl (by omega) (by omega) (fun c33 => ?_) (fun c33 => ?_)
        · refine r_iconst (pc' := 41) dX2_passYear_40 rfl ?_
          refine r_istore (pc' := 43) dX2_passYear_41 rfl rfl ?_
          refine r_aload_n (pc' := 44) dX2_passYear_43 rfl rfl ?_
          refine r_getr (pc' := 47) dX2_passYear_44 rfl fX2_15 isL17.1 rfl ?_
          refine r_iload_n (pc' := 48) dX2_passYear_47 rfl rfl ?_
          refine r_bipush (pc' := 50) dX2_passYear_48 rfl (by decide) ?_
          refine r_aload_n (pc' := 51) dX2_passYear_50 rfl rfl ?_
          refine r_getr (pc' := 54) dX2_passYear_51 rfl fX2_15 isL17.1 rfl ?_
          refine r_iload_n (pc' := 55) dX2_passYear_54 rfl rfl ?_
          refine r_iaload (pc' := 56) dX2_passYear_55 rfl isL17.2.2.1 (by decide) (by omega) (by omega) ((hf (Lo v p) (by omega)).trans efd) ?_
          refine r_iload (pc' := 58) dX2_passYear_56 rfl rfl ?_
          refine r_iadd (pc' := 59) dX2_passYear_58 rfl ?_
          refine r_si2 (pc' := 62) dX2_passYear_59 rfl qJ9_min lX2_72 rfl rfl rfl (Nat.zero_le _) (Nat.zero_le _) (a_min _ _ (by decide) (by omega) ?_)
          refine r_iastore (pc' := 63) dX2_passYear_62 rfl isL17.2.2.1 (by decide) (by omega) (by omega) rfl ?_
          refine r_iinc (pc' := 66) dX2_passYear_63 rfl rfl rfl ?_
          refine r_goto (tgt := 2) dX2_passYear_66 rfl ?_
          refine ih (p + 1) _ _ _ (by omega) ?_ (hQ.fr [19] (fun j hj => mu_ne (by simpa using hj)) (by decide)) (fun g' x y h1 h2 => h g' x y h1 (Fr.tr (fun j hj => mu_ne (by simpa using hj)) h2))
          refine ⟨by rw [mu_ne (by decide)]; exact hc, fun q hq => by rw [mu_ne (by decide)]; exact ho q hq, fun q hq => ?_, fun q hq => by rw [mu_ne (by decide)]; exact hw q hq, by rw [mu_ne (by decide)]; exact ht, by rw [mu_ne (by decide)]; exact hi, by rw [mu_ne (by decide)]; exact hy⟩
          show mu g 19 (Lo v p) _ 19 q = fdP u v (p + 1) q
          by_cases hq2 : q = Lo v p
          · subst hq2
            rw [mu_at]
            unfold fdP mor
            rw [inF_succ, hni, decide_eq_true (rfl : Lo v p = Lo v p), if_pos (by rfl)]
            first | (rw [if_neg (by rw [show outP u v (Lo v p) = false from b01_eq c23, Bool.false_and]; decide)]) | (rw [if_neg (by rw [decide_eq_false (by omega : ¬ Pk u (Lo v p) ≠ 3), Bool.and_false]; decide)]) | (rw [if_pos (by rw [show outP u v (Lo v p) = true from b01_ne c23, decide_eq_true (by omega : Pk u (Lo v p) ≠ 3)]; rfl)])
          · rw [mu_at' (by omega), hf q hq]
            unfold fdP
            rw [inF_succ, decide_eq_false (by omega : ¬ Lo v p = q), Bool.or_false]
        · refine r_iconst (pc' := 37) dX2_passYear_36 rfl ?_
          refine r_goto (tgt := 41) dX2_passYear_37 rfl ?_
          refine r_istore (pc' := 43) dX2_passYear_41 rfl rfl ?_
          refine r_aload_n (pc' := 44) dX2_passYear_43 rfl rfl ?_
          refine r_getr (pc' := 47) dX2_passYear_44 rfl fX2_15 isL17.1 rfl ?_
          refine r_iload_n (pc' := 48) dX2_passYear_47 rfl rfl ?_
          refine r_bipush (pc' := 50) dX2_passYear_48 rfl (by decide) ?_
          refine r_aload_n (pc' := 51) dX2_passYear_50 rfl rfl ?_
          refine r_getr (pc' := 54) dX2_passYear_51 rfl fX2_15 isL17.1 rfl ?_
          refine r_iload_n (pc' := 55) dX2_passYear_54 rfl rfl ?_
          refine r_iaload (pc' := 56) dX2_passYear_55 rfl isL17.2.2.1 (by decide) (by omega) (by omega) ((hf (Lo v p) (by omega)).trans efd) ?_
          refine r_iload (pc' := 58) dX2_passYear_56 rfl rfl ?_
          refine r_iadd (pc' := 59) dX2_passYear_58 rfl ?_
          refine r_si2 (pc' := 62) dX2_passYear_59 rfl qJ9_min lX2_72 rfl rfl rfl (Nat.zero_le _) (Nat.zero_le _) (a_min _ _ (by decide) (by omega) ?_)
          refine r_iastore (pc' := 63) dX2_passYear_62 rfl isL17.2.2.1 (by decide) (by omega) (by omega) rfl ?_
          refine r_iinc (pc' := 66) dX2_passYear_63 rfl rfl rfl ?_
          refine r_goto (tgt := 2) dX2_passYear_66 rfl ?_
          refine ih (p + 1) _ _ _ (by omega) ?_ (hQ.fr [19] (fun j hj => mu_ne (by simpa using hj)) (by decide)) (fun g' x y h1 h2 => h g' x y h1 (Fr.tr (fun j hj => mu_ne (by simpa using hj)) h2))
          refine ⟨by rw [mu_ne (by decide)]; exact hc, fun q hq => by rw [mu_ne (by decide)]; exact ho q hq, fun q hq => ?_, fun q hq => by rw [mu_ne (by decide)]; exact hw q hq, by rw [mu_ne (by decide)]; exact ht, by rw [mu_ne (by decide)]; exact hi, by rw [mu_ne (by decide)]; exact hy⟩
          show mu g 19 (Lo v p) _ 19 q = fdP u v (p + 1) q
          by_cases hq2 : q = Lo v p
          · subst hq2
            rw [mu_at]
            unfold fdP mor
            rw [inF_succ, hni, decide_eq_true (rfl : Lo v p = Lo v p), if_pos (by rfl)]
            first | (rw [if_neg (by rw [show outP u v (Lo v p) = false from b01_eq c23, Bool.false_and]; decide)]) | (rw [if_neg (by rw [decide_eq_false (by omega : ¬ Pk u (Lo v p) ≠ 3), Bool.and_false]; decide)]) | (rw [if_pos (by rw [show outP u v (Lo v p) = true from b01_ne c23, decide_eq_true (by omega : Pk u (Lo v p) ≠ 3)]; rfl)])
          · rw [mu_at' (by omega), hf q hq]
            unfold fdP
            rw [inF_succ, decide_eq_false (by omega : ¬ Lo v p = q), Bool.or_false]
theorem l_year2 {X : CX} {d : Nat} {K : Mem → Prop} {F : Nat} {u : PV} {v : LV} (hU : PW u) (hF : F = Pf u) (hW : LW F v) : ∀ (k : Nat) (g : Mem) (x y : Option VV) (vv : LV) (l1 l2 : List Nat), l1.length = k → Ll vv = l1 ++ l2 → LW F vv → Lf vv = fdP u v (Ln v) → LC g 17 18 19 20 vv → PC_ g 10 11 12 13 14 15 16 u → (∀ g' x y vv', Ll vv' = l1.filter (keepB u (fdP u v (Ln v))) ++ l2 → Lf vv' = Lf vv → Lw vv' = Lw vv → Li vv' = Li vv → Ly vv' = Ly vv → LC g' 17 18 19 20 vv' → Fr [17, 18] g g' → AJ X (d + 2) mX2_passYear 0 0 (QV Z0 K) 0 0 122 [some (vr 17), some (vr 10), some (vi (-1)), x, y] [] Z0 g') → AJ X (d + 2) mX2_passYear 0 0 (QV Z0 K) 0 0 76 [some (vr 17), some (vr 10), some (vi ((k : Int) - 1)), x, y] [] Z0 g := by
  intro k
  induction k with
  | zero =>
    intro g x y vv l1 l2 hl he hW2 hG hC hQ h
    have e0 : l1 = [] := List.length_eq_zero_iff.mp hl
    subst e0
    have h9 := h g x y vv he rfl rfl rfl rfl hC (Fr.rf _ _)
    refine r_iload_n (pc' := 77) dX2_passYear_76 rfl rfl ?_
    refine r_if_lt (tgt := 122) (pc' := 80) dX2_passYear_77 rfl rfl (by omega) (fun c77 => ?_) (fun c77 => ?_)
    · exact h9
    · exact absurd c77 (by omega)
  | succ k ih =>
    intro g x y vv l1 l2 hl he hW2 hG hC hQ h
    obtain ⟨hc, ho, hf, hw, ht, hi, hy⟩ := id hC
    obtain ⟨w0, w1, w2, w3, w4, w5, w6, w7⟩ := id hW2
    have hne : l1 ≠ [] := by intro q; rw [q] at hl; cases hl
    obtain ⟨l3, z, rfl⟩ : ∃ l3 z, l1 = l3 ++ [z] := ⟨l1.dropLast, l1.getLast hne, (List.dropLast_concat_getLast hne).symm⟩
    have hl3 : l3.length = k := by rw [List.length_append] at hl; simpa using hl
    have hlen : k + 1 + l2.length = Ln vv := by
      have := congrArg List.length he
      rw [Ll_len, List.length_append, hl] at this
      omega
    have hz : Lo vv k = z := by
      have h1 := Ll_get vv k
      rw [he, if_pos (by omega), List.append_assoc, List.getElem?_append_right (by omega), hl3, Nat.sub_self] at h1
      simpa using h1.symm
    have ho' : g 18 k = z := by rw [ho k (by omega), hz]
    have hzF : z < F := by rw [← hz]; exact w2 k (by omega)
    obtain ⟨p6, p7, p8, p9, p10, pk, pg, px, py⟩ := id hQ
    have hk := pk z (by omega)
    have uk := hU.2.2.2.2.2.1 z (by omega)
    have hfz : g 19 z = fdP u v (Ln v) z := by rw [hf z (by omega), hG]
    have bz := fdP_b (u := u) hW (Ln v) z (by omega)
    rw [show (((k + 1 : Nat)) : Int) - 1 = (k : Int) by omega]
    refine r_iload_n (pc' := 77) dX2_passYear_76 rfl rfl ?_
    refine r_if_lt (tgt := 122) (pc' := 80) dX2_passYear_77 rfl rfl (by omega) (fun c77 => ?_) (fun c77 => ?_)
    · exact absurd c77 (by omega)
    · refine r_aload_n (pc' := 81) dX2_passYear_80 rfl rfl ?_
      refine r_getr (pc' := 84) dX2_passYear_81 rfl fX2_62 isP10.1 rfl ?_
      refine r_aload_n (pc' := 85) dX2_passYear_84 rfl rfl ?_
      refine r_getr (pc' := 88) dX2_passYear_85 rfl fX2_9 isL17.1 rfl ?_
      refine r_iload_n (pc' := 89) dX2_passYear_88 rfl rfl ?_
      refine r_iaload (pc' := 90) dX2_passYear_89 rfl isL17.2.1 (by decide) (by omega) (by omega) ho' ?_
      refine r_iaload (pc' := 91) dX2_passYear_90 rfl isP10.2.1 (by decide) (by omega) (by omega) hk ?_
      refine r_iconst (pc' := 92) dX2_passYear_91 rfl ?_
      refine r_icmp_ne (tgt := 116) (pc' := 95) dX2_passYear_92 rfl rfl (by omega) (by omega) (fun c92 => ?_) (fun c92 => ?_)
      · refine r_iinc (pc' := 119) dX2_passYear_116 rfl rfl rfl ?_
        refine r_goto (tgt := 76) dX2_passYear_119 rfl ?_
        have ep : (k : Int) + -1 = (k : Int) - 1 := by omega
        rw [ep]
        refine ih g _ _ vv l3 (z :: l2) hl3 (by rw [he, List.append_assoc]; rfl) hW2 hG hC hQ (fun g' x y vv' a1 a2 a3 a4 a5 a6 a7 => h g' x y vv' ?_ a2 a3 a4 a5 a6 a7)
        rw [a1, List.filter_append, List.append_assoc]
        have ek : keepB u (fdP u v (Ln v)) z = true := by unfold keepB; first | rw [decide_eq_false (by omega : ¬ Pk u z = 2), Bool.false_and, Bool.not_false] | rw [decide_eq_false (by omega : ¬ 40 ≤ fdP u v (Ln v) z), Bool.and_false, Bool.not_false]
        rw [List.filter_cons, if_pos ek]
        rfl
      · refine r_aload_n (pc' := 96) dX2_passYear_95 rfl rfl ?_
        refine r_getr (pc' := 99) dX2_passYear_96 rfl fX2_15 isL17.1 rfl ?_
        refine r_aload_n (pc' := 100) dX2_passYear_99 rfl rfl ?_
        refine r_getr (pc' := 103) dX2_passYear_100 rfl fX2_9 isL17.1 rfl ?_
        refine r_iload_n (pc' := 104) dX2_passYear_103 rfl rfl ?_
        refine r_iaload (pc' := 105) dX2_passYear_104 rfl isL17.2.1 (by decide) (by omega) (by omega) ho' ?_
        refine r_iaload (pc' := 106) dX2_passYear_105 rfl isL17.2.2.1 (by decide) (by omega) (by omega) hfz ?_
        refine r_bipush (pc' := 108) dX2_passYear_106 rfl (by decide) ?_
        refine r_icmp_lt (tgt := 116) (pc' := 111) dX2_passYear_108 rfl rfl (by omega) (by omega) (fun c108 => ?_) (fun c108 => ?_)
        · refine r_iinc (pc' := 119) dX2_passYear_116 rfl rfl rfl ?_
          refine r_goto (tgt := 76) dX2_passYear_119 rfl ?_
          have ep : (k : Int) + -1 = (k : Int) - 1 := by omega
          rw [ep]
          refine ih g _ _ vv l3 (z :: l2) hl3 (by rw [he, List.append_assoc]; rfl) hW2 hG hC hQ (fun g' x y vv' a1 a2 a3 a4 a5 a6 a7 => h g' x y vv' ?_ a2 a3 a4 a5 a6 a7)
          rw [a1, List.filter_append, List.append_assoc]
          have ek : keepB u (fdP u v (Ln v)) z = true := by unfold keepB; first | rw [decide_eq_false (by omega : ¬ Pk u z = 2), Bool.false_and, Bool.not_false] | rw [decide_eq_false (by omega : ¬ 40 ≤ fdP u v (Ln v) z), Bool.and_false, Bool.not_false]
          rw [List.filter_cons, if_pos ek]
          rfl
        · refine r_aload_n (pc' := 112) dX2_passYear_111 rfl rfl ?_
          refine r_iload_n (pc' := 113) dX2_passYear_112 rfl rfl ?_
          refine r_vv1 (pc' := 116) dX2_passYear_113 rfl qX2_takeOff lX2_78 isL17.1 rfl rfl rfl rfl (Nat.zero_le _) (Nat.zero_le _) (a_takeOff (y := k) isL17 hC hW2 isD17 (by omega) (fun g1 hC1 hF1 => ?_))
          have ep : (k : Int) + -1 = (k : Int) - 1 := by omega
          have ek : keepB u (fdP u v (Ln v)) z = false := by unfold keepB; rw [decide_eq_true (by omega : Pk u z = 2), decide_eq_true (by omega : 40 ≤ fdP u v (Ln v) z)]; rfl
          refine r_iinc (pc' := 119) dX2_passYear_116 rfl rfl rfl ?_
          refine r_goto (tgt := 76) dX2_passYear_119 rfl ?_
          rw [ep]
          refine ih g1 _ _ (dropV vv k) l3 l2 hl3 (by rw [Ll_drop (by omega), he, List.append_assoc, List.eraseIdx_append_of_length_le (by omega), hl3, Nat.sub_self]; rfl) (LW_drop hW2 (by omega)) hG hC1 (hQ.fr [17, 18] hF1 (by decide)) (fun g' x y vv' a1 a2 a3 a4 a5 a6 a7 => h g' x y vv' ?_ a2 a3 a4 a5 a6 (Fr.tr hF1 a7))
          rw [a1, List.filter_append, List.filter_cons, if_neg (by rw [ek]; decide), List.filter_nil, List.append_nil]
theorem a_passYear {X : CX} {d : Nat} {g : Mem} {K : Mem → Prop} {F : Nat} {u : PV} {v : LV} (hU : PW u) (hF : F = Pf u) (hW : LW F v) (hC : LC g 17 18 19 20 v) (hQ : PC_ g 10 11 12 13 14 15 16 u) (h : ∀ g', LC g' 17 18 19 20 (yearV u v) → Fr [17, 18, 19] g g' → K g') : EV X (d + 2) mX2_passYear [vr 17, vr 10] Z0 g K := by
  show AJ X (d + 2) mX2_passYear 0 0 (QV Z0 K) 0 0 0 [some (vr 17), some (vr 10), none, none, none] [] Z0 g
  refine r_iconst (pc' := 1) dX2_passYear_0 rfl ?_
  refine r_istore_n (pc' := 2) dX2_passYear_1 rfl rfl ?_
  refine l_year1 hU hF hW (Ln v) 0 g none none (by omega) ?_ hQ (fun g1 x y h1 f1 => ?_)
  · refine ⟨hC.1, hC.2.1, fun k hk => ?_, hC.2.2.2⟩
    rw [hC.2.2.1 k hk]
    show Lf v k = fdP u v 0 k
    unfold fdP inF
    rfl
  refine r_aload_n (pc' := 70) dX2_passYear_69 rfl rfl ?_
  refine r_getf (pc' := 73) (kI := 3) dX2_passYear_70 rfl fX2_21 isL17.1 rfl rfl h1.1 ?_
  refine r_iconst (pc' := 74) dX2_passYear_73 rfl ?_
  refine r_isub (pc' := 75) dX2_passYear_74 rfl ?_
  refine r_istore_n (pc' := 76) dX2_passYear_75 rfl rfl ?_
  refine l_year2 hU hF hW (Ln v) g1 _ _ (vf v (fdP u v (Ln v))) (Ll v) [] (Ll_len v) (List.append_nil _).symm (LW_vf hW (fdP_b hW (Ln v))) rfl h1 (hQ.fr [19] f1 (by decide)) (fun g2 x y vv a1 a2 a3 a4 a5 a6 a7 => ?_)
  rw [List.append_nil] at a1
  have hlen := congrArg List.length a1
  rw [Ll_len] at hlen
  obtain ⟨c1, c2, c3, c4, c5, c6, c7⟩ := id a6
  refine r_aload_n (pc' := 123) dX2_passYear_122 rfl rfl ?_
  refine r_iconst (pc' := 124) dX2_passYear_123 rfl ?_
  refine r_putf (pc' := 127) (kI := 4) dX2_passYear_124 rfl fX2_25 isL17.1 rfl (Or.inl rfl) rfl rfl ?_
  refine r_aload_n (pc' := 128) dX2_passYear_127 rfl rfl ?_
  refine r_dup (pc' := 129) dX2_passYear_128 rfl rfl ?_
  refine r_getf (pc' := 132) (kI := 6) (x := (Ly v : Int)) dX2_passYear_129 rfl fX2_31 isL17.1 rfl rfl (by rw [mu_at' (by decide), c7, a5]; rfl) ?_
  refine r_iconst (pc' := 133) dX2_passYear_132 rfl ?_
  refine r_iadd (pc' := 134) dX2_passYear_133 rfl ?_
  refine r_putf (pc' := 137) (kI := 6) dX2_passYear_134 rfl fX2_31 isL17.1 rfl (Or.inl rfl) rfl rfl ?_
  refine r_retn dX2_passYear_137 rfl ?_
  refine h _ ?_ (Fr.tr (Fr.sub f1 (by decide)) (Fr.tr (Fr.sub a7 (by decide)) (fun j hj => by rw [mu_ne (by intro q; subst q; simp at hj), mu_ne (by intro q; subst q; simp at hj)])))
  refine ⟨?_, fun q hq => ?_, fun q hq => ?_, fun q hq => ?_, ?_, ?_, ?_⟩
  · rw [mu_at' (by decide), mu_at' (by decide), c1, hlen]
    rfl
  · have hq1 : q < Ln vv := by rw [hlen]; exact hq
    rw [mu_ne (by decide), mu_ne (by decide), c2 q hq1]
    have := Ll_get vv q
    rw [a1, if_pos hq1] at this
    show (Lo vv q : Int) = ((List.getD _ q 0 : Nat) : Int)
    rw [List.getD_eq_getElem?_getD, this]
    rfl
  · rw [mu_ne (by decide), mu_ne (by decide), c3 q hq, a2]
    rfl
  · rw [mu_ne (by decide), mu_ne (by decide), c4 q hq, a3]
    rfl
  · rw [mu_at' (by decide), mu_at]
    rfl
  · rw [mu_at' (by decide), mu_at' (by decide), c6, a4]
    rfl
  · rw [mu_at]
    rfl
