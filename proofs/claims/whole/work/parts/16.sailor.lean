/-- the plan and the line of the class, as they are -/
def CB (g : Mem) (u : PV) (v : LV) : Prop := PC_ g 10 11 12 13 14 15 16 u ∧ PW u ∧ LC g 17 18 19 20 v ∧ LW (Pf u) v
theorem CB.fr {g g' : Mem} {u : PV} {v : LV} (h : CB g u v) (S : List Nat) (hf : Fr S g g') (hn : ∀ x ∈ [10, 11, 12, 13, 14, 15, 16, 17, 18, 19, 20], x ∉ S) : CB g' u v :=
  ⟨h.1.fr S hf (fun x hx => hn x (by simp at hx ⊢; omega)), h.2.1, h.2.2.1.fr (hf 17 (hn 17 (by decide))) (hf 18 (hn 18 (by decide))) (hf 19 (hn 19 (by decide))) (hf 20 (hn 20 (by decide))), h.2.2.2⟩
/-- a word begins at a place -/
def begB (u : PV) (v : LV) (x p : Nat) : Bool := decide (p + Pl u x ≤ Ln v) && allF (fun k => decide (Pk u (Lo v (p + k)) = Px u x k)) (Pl u x) 0
theorem l_begins {X : CX} {d : Nat} {g : Mem} {K : Int → Mem → Prop} {u : PV} {v : LV} (hB : CB g u v) {x p : Nat} (hx : x < Pw u) (hp : p + Pl u x ≤ Ln v) : ∀ (k k0 : Nat), k0 + k = Pl u x → K (b01 (allF (fun k => decide (Pk u (Lo v (p + k)) = Px u x k)) k k0)) g → AJ X (d + 1) mX7_begins 0 0 (QI Z0 K) 0 0 20 [some (vr 10), some (vr 17), some (vi (x : Int)), some (vi (p : Int)), some (vi (k0 : Int))] [] Z0 g := by
  obtain ⟨hQ, hU, hC, hW⟩ := id hB
  obtain ⟨hc, ho, hf, hw, ht, hi, hy⟩ := id hC
  obtain ⟨w0, w1, w2, w3, w4, w5, w6, w7⟩ := id hW
  obtain ⟨p6, p7, p8, p9, p10, pk, pg, px, py⟩ := id hQ
  obtain ⟨u0, u1, u2, u3, u4, u5, u6, u7⟩ := id hU
  intro k
  induction k with
  | zero =>
    intro k0 hk h
    have q1 := (px x hx).1
    have q2 := u6 x hx
    refine r_iload (pc' := 22) dX7_begins_20 rfl rfl ?_
    refine r_aload_n (pc' := 23) dX7_begins_22 rfl rfl ?_
    refine r_getr (pc' := 26) dX7_begins_23 rfl fX7_29 isP10.1 rfl ?_
    refine r_iload_n (pc' := 27) dX7_begins_26 rfl rfl ?_
    refine r_iaload (pc' := 28) dX7_begins_27 rfl isP10.2.2.2.2.1 (by decide) (by omega) (by omega) q1 ?_
    refine r_icmp_ge (tgt := 63) (pc' := 31) dX7_begins_28 rfl rfl (by omega) (by omega) (fun c28 => ?_) (fun c28 => ?_)
    · refine r_iconst (pc' := 64) dX7_begins_63 rfl ?_
      refine r_reti dX7_begins_64 rfl (Or.inr ⟨rfl, by first | exact Or.inl rfl | exact Or.inr rfl | omega⟩) ?_
      exact h
    · exact absurd c28 (by omega)
  | succ k ih =>
    intro k0 hk h
    have q1 := (px x hx).1
    have q2 := u6 x hx
    have q3 := w2 (p + k0) (by omega)
    have q4 := ho (p + k0) (by omega)
    have q5 := pk (Lo v (p + k0)) q3
    have q6 := u5 (Lo v (p + k0)) q3
    have q7 := q2.2.2 k0 (by omega)
    rw [allF] at h
    refine r_iload (pc' := 22) dX7_begins_20 rfl rfl ?_
    refine r_aload_n (pc' := 23) dX7_begins_22 rfl rfl ?_
    refine r_getr (pc' := 26) dX7_begins_23 rfl fX7_29 isP10.1 rfl ?_
    refine r_iload_n (pc' := 27) dX7_begins_26 rfl rfl ?_
    refine r_iaload (pc' := 28) dX7_begins_27 rfl isP10.2.2.2.2.1 (by decide) (by omega) (by omega) q1 ?_
    refine r_icmp_ge (tgt := 63) (pc' := 31) dX7_begins_28 rfl rfl (by omega) (by omega) (fun c28 => ?_) (fun c28 => ?_)
    · exact absurd c28 (by omega)
    · refine r_aload_n (pc' := 32) dX7_begins_31 rfl rfl ?_
      refine r_getr (pc' := 35) dX7_begins_32 rfl fX7_41 isP10.1 rfl ?_
      refine r_aload_n (pc' := 36) dX7_begins_35 rfl rfl ?_
      refine r_getr (pc' := 39) dX7_begins_36 rfl fX7_44 isL17.1 rfl ?_
      refine r_iload_n (pc' := 40) dX7_begins_39 rfl rfl ?_
      refine r_iload (pc' := 42) dX7_begins_40 rfl rfl ?_
      refine r_iadd (pc' := 43) dX7_begins_42 rfl ?_
      refine r_iaload (pc' := 44) (x := (Lo v (p + k0) : Int)) dX7_begins_43 rfl isL17.2.1 (by decide) (by omega) (by omega) q4 ?_
      refine r_iaload (pc' := 45) dX7_begins_44 rfl isP10.2.1 (by decide) (by omega) (by omega) q5 ?_
      refine r_aload_n (pc' := 46) dX7_begins_45 rfl rfl ?_
      refine r_iload_n (pc' := 47) dX7_begins_46 rfl rfl ?_
      refine r_iload (pc' := 49) dX7_begins_47 rfl rfl ?_
      refine r_vi2 (pc' := 52) dX7_begins_49 rfl qX5_wordKind lX7_47 isP10.1 rfl rfl rfl rfl (Nat.zero_le _) (Nat.zero_le _) (a_wordKind isP10 hQ hU hx (by omega) ?_)
      refine r_icmp_eq (tgt := 57) (pc' := 55) dX7_begins_52 rfl rfl (by omega) (by omega) (fun c52 => ?_) (fun c52 => ?_)
      · refine r_iinc (pc' := 60) dX7_begins_57 rfl rfl rfl ?_
        refine r_goto (tgt := 20) dX7_begins_60 rfl ?_
        exact ih (k0 + 1) (by omega) (by rw [decide_eq_true (by omega), Bool.true_and] at h; exact h)
      · refine r_iconst (pc' := 56) dX7_begins_55 rfl ?_
        refine r_reti dX7_begins_56 rfl (Or.inr ⟨rfl, by first | exact Or.inl rfl | exact Or.inr rfl | omega⟩) ?_
        rw [decide_eq_false (by omega), Bool.false_and] at h
        exact h
theorem a_begins {X : CX} {d : Nat} {g : Mem} {K : Int → Mem → Prop} {u : PV} {v : LV} (hB : CB g u v) {x p : Nat} (hx : x < Pw u) (hp7 : p ≤ 7) (h : K (b01 (begB u v x p)) g) : EI X (d + 1) mX7_begins [vr 10, vr 17, vi (x : Int), vi (p : Int)] Z0 g K := by
  show AJ X (d + 1) mX7_begins 0 0 (QI Z0 K) 0 0 0 [some (vr 10), some (vr 17), some (vi (x : Int)), some (vi (p : Int)), none] [] Z0 g
  obtain ⟨hQ, hU, hC, hW⟩ := id hB
  obtain ⟨hc, ho, hf, hw, ht, hi, hy⟩ := id hC
  obtain ⟨w0, w1, w2, w3, w4, w5, w6, w7⟩ := id hW
  obtain ⟨p6, p7, p8, p9, p10, pk, pg, px, py⟩ := id hQ
  obtain ⟨u0, u1, u2, u3, u4, u5, u6, u7⟩ := id hU
  have q1 := (px x hx).1
  have q2 := u6 x hx
  unfold begB at h
  refine r_iload_n (pc' := 1) dX7_begins_0 rfl rfl ?_
  refine r_aload_n (pc' := 2) dX7_begins_1 rfl rfl ?_
  refine r_getr (pc' := 5) dX7_begins_2 rfl fX7_29 isP10.1 rfl ?_
  refine r_iload_n (pc' := 6) dX7_begins_5 rfl rfl ?_
  refine r_iaload (pc' := 7) dX7_begins_6 rfl isP10.2.2.2.2.1 (by decide) (by omega) (by omega) q1 ?_
  refine r_iadd (pc' := 8) dX7_begins_7 rfl ?_
  refine r_aload_n (pc' := 9) dX7_begins_8 rfl rfl ?_
  refine r_getf (pc' := 12) (kI := 3) dX7_begins_9 rfl fX7_19 isL17.1 rfl rfl hc ?_
  refine r_icmp_le (tgt := 17) (pc' := 15) dX7_begins_12 rfl rfl (by omega) (by omega) (fun c12 => ?_) (fun c12 => ?_)
  · refine r_iconst (pc' := 18) dX7_begins_17 rfl ?_
    refine r_istore (pc' := 20) dX7_begins_18 rfl rfl ?_
    rw [decide_eq_true (by omega), Bool.true_and] at h
    exact l_begins hB hx (by omega) (Pl u x) 0 (by omega) h
  · refine r_iconst (pc' := 16) dX7_begins_15 rfl ?_
    refine r_reti dX7_begins_16 rfl (Or.inr ⟨rfl, by first | exact Or.inl rfl | exact Or.inr rfl | omega⟩) ?_
    rw [decide_eq_false (by omega), Bool.false_and] at h
    exact h
def spI (u : PV) (v : LV) (p : Nat) : Nat → Nat → Nat → Nat
  | 0, _, acc => acc
  | k + 1, x, acc => spI u v p k (x + 1) (if begB u v x p then acc ||| 2 ^ p else acc)
def spO (u : PV) (v : LV) : Nat → Nat → Nat → Nat
  | 0, _, acc => acc
  | k + 1, p, acc => spO u v k (p + 1) (spI u v p (Pw u) 0 acc)
theorem spI_lt {u : PV} {v : LV} {p : Nat} (hp : p < 7) : ∀ (k x acc : Nat), acc < 128 → spI u v p k x acc < 128
  | 0, _, _, h => h
  | k + 1, x, acc, h => by
    unfold spI
    refine spI_lt hp k (x + 1) _ ?_
    split
    · exact or128 h (pow7 hp)
    · exact h
theorem l_speltI {X : CX} {d : Nat} {g : Mem} {K : Int → Mem → Prop} {u : PV} {v : LV} (hB : CB g u v) {p : Nat} (hp : p < Ln v) : ∀ (k x acc : Nat), x + k = Pw u → acc < 128 → AJ X (d + 2) mX7_spelt 0 0 (QI Z0 K) 0 0 51 [some (vr 156), some (vr 10), some (vr 17), some (vi ((spI u v p k x acc : Nat) : Int)), some (vi (p : Int)), some (vi (Pw u : Int))] [] Z0 g → AJ X (d + 2) mX7_spelt 0 0 (QI Z0 K) 0 0 17 [some (vr 156), some (vr 10), some (vr 17), some (vi (acc : Int)), some (vi (p : Int)), some (vi (x : Int))] [] Z0 g := by
  obtain ⟨hQ, hU, hC, hW⟩ := id hB
  obtain ⟨hc, ho, hf, hw, ht, hi, hy⟩ := id hC
  obtain ⟨w0, w1, w2, w3, w4, w5, w6, w7⟩ := id hW
  obtain ⟨p6, p7, p8, p9, p10, pk, pg, px, py⟩ := id hQ
  obtain ⟨u0, u1, u2, u3, u4, u5, u6, u7⟩ := id hU
  intro k
  induction k with
  | zero =>
    intro x acc hx ha h
    have e : (Pw u : Int) = (x : Int) := by omega
    refine r_iload (pc' := 19) dX7_spelt_17 rfl rfl ?_
    refine r_aload_n (pc' := 20) dX7_spelt_19 rfl rfl ?_
    refine r_getf (pc' := 23) (kI := 9) dX7_spelt_20 rfl fX7_34 isP10.1 rfl rfl p9 ?_
    refine r_icmp_ge (tgt := 51) (pc' := 26) dX7_spelt_23 rfl rfl (by omega) (by omega) (fun c23 => ?_) (fun c23 => ?_)
    · rw [e] at h
      exact h
    · exact absurd c23 (by omega)
  | succ k ih =>
    intro x acc hx ha h
    have e : b_or (acc : Int) (b_shl 1 (p : Int)) = ((acc ||| 2 ^ p : Nat) : Int) := by rw [shl1 (by omega), or_n ha (pow7 (by omega))]
    unfold spI at h
    refine r_iload (pc' := 19) dX7_spelt_17 rfl rfl ?_
    refine r_aload_n (pc' := 20) dX7_spelt_19 rfl rfl ?_
    refine r_getf (pc' := 23) (kI := 9) dX7_spelt_20 rfl fX7_34 isP10.1 rfl rfl p9 ?_
    refine r_icmp_ge (tgt := 51) (pc' := 26) dX7_spelt_23 rfl rfl (by omega) (by omega) (fun c23 => ?_) (fun c23 => ?_)
    · exact absurd c23 (by omega)
    · refine r_aload_n (pc' := 27) dX7_spelt_26 rfl rfl ?_
      refine r_aload_n (pc' := 28) dX7_spelt_27 rfl rfl ?_
      refine r_iload (pc' := 30) dX7_spelt_28 rfl rfl ?_
      refine r_iload (pc' := 32) dX7_spelt_30 rfl rfl ?_
      refine r_si4 (pc' := 35) dX7_spelt_32 rfl qX7_begins lX7_37 rfl rfl rfl (Nat.zero_le _) (Nat.zero_le _) (a_begins hB (by omega) (by omega) ?_)
      refine r_if_eq (tgt := 45) (pc' := 38) dX7_spelt_35 rfl rfl (b01_R _) (fun c35 => ?_) (fun c35 => ?_)
      · refine r_iinc (pc' := 48) dX7_spelt_45 rfl rfl rfl ?_
        refine r_goto (tgt := 17) dX7_spelt_48 rfl ?_
        first | (rw [if_pos (b01_ne c35)] at h; exact ih (x + 1) _ (by omega) (or128 ha (pow7 (by omega))) h) | (rw [if_neg (by rw [b01_eq c35]; decide)] at h; exact ih (x + 1) _ (by omega) ha h)
      · refine r_iload_n (pc' := 39) dX7_spelt_38 rfl rfl ?_
        refine r_iconst (pc' := 40) dX7_spelt_39 rfl ?_
        refine r_iload (pc' := 42) dX7_spelt_40 rfl rfl ?_
        refine r_ishl (pc' := 43) dX7_spelt_42 rfl ?_
        refine r_ior (pc' := 44) dX7_spelt_43 rfl ?_
        rw [e]
        refine r_istore_n (pc' := 45) dX7_spelt_44 rfl rfl ?_
        refine r_iinc (pc' := 48) dX7_spelt_45 rfl rfl rfl ?_
        refine r_goto (tgt := 17) dX7_spelt_48 rfl ?_
        first | (rw [if_pos (b01_ne c35)] at h; exact ih (x + 1) _ (by omega) (or128 ha (pow7 (by omega))) h) | (rw [if_neg (by rw [b01_eq c35]; decide)] at h; exact ih (x + 1) _ (by omega) ha h)
theorem l_speltO {X : CX} {d : Nat} {g : Mem} {K : Int → Mem → Prop} {u : PV} {v : LV} (hB : CB g u v)  : ∀ (k p acc : Nat) (y : Option VV), p + k = Ln v → acc < 128 → K ((spO u v k p acc : Nat) : Int) g → AJ X (d + 2) mX7_spelt 0 0 (QI Z0 K) 0 0 5 [some (vr 156), some (vr 10), some (vr 17), some (vi (acc : Int)), some (vi (p : Int)), y] [] Z0 g := by
  obtain ⟨hQ, hU, hC, hW⟩ := id hB
  obtain ⟨hc, ho, hf, hw, ht, hi, hy⟩ := id hC
  obtain ⟨w0, w1, w2, w3, w4, w5, w6, w7⟩ := id hW
  obtain ⟨p6, p7, p8, p9, p10, pk, pg, px, py⟩ := id hQ
  obtain ⟨u0, u1, u2, u3, u4, u5, u6, u7⟩ := id hU
  intro k
  induction k with
  | zero =>
    intro p acc y hp ha h
    refine r_iload (pc' := 7) dX7_spelt_5 rfl rfl ?_
    refine r_aload_n (pc' := 8) dX7_spelt_7 rfl rfl ?_
    refine r_getf (pc' := 11) (kI := 3) dX7_spelt_8 rfl fX7_19 isL17.1 rfl rfl hc ?_
    refine r_icmp_ge (tgt := 57) (pc' := 14) dX7_spelt_11 rfl rfl (by omega) (by omega) (fun c11 => ?_) (fun c11 => ?_)
    · refine r_iload_n (pc' := 58) dX7_spelt_57 rfl rfl ?_
      refine r_reti dX7_spelt_58 rfl (Or.inl rfl) ?_
      exact h
    · exact absurd c11 (by omega)
  | succ k ih =>
    intro p acc y hp ha h
    refine r_iload (pc' := 7) dX7_spelt_5 rfl rfl ?_
    refine r_aload_n (pc' := 8) dX7_spelt_7 rfl rfl ?_
    refine r_getf (pc' := 11) (kI := 3) dX7_spelt_8 rfl fX7_19 isL17.1 rfl rfl hc ?_
    refine r_icmp_ge (tgt := 57) (pc' := 14) dX7_spelt_11 rfl rfl (by omega) (by omega) (fun c11 => ?_) (fun c11 => ?_)
    · exact absurd c11 (by omega)
    · refine r_iconst (pc' := 15) dX7_spelt_14 rfl ?_
      refine r_istore (pc' := 17) dX7_spelt_15 rfl rfl ?_
      refine l_speltI hB (p := p) (by omega) (Pw u) 0 acc (by omega) ha ?_
      refine r_iinc (pc' := 54) dX7_spelt_51 rfl rfl rfl ?_
      refine r_goto (tgt := 5) dX7_spelt_54 rfl ?_
      exact ih (p + 1) _ _ (by omega) (spI_lt (by omega) _ _ _ ha) h
def speltN (u : PV) (v : LV) : Nat := spO u v (Ln v) 0 0
theorem a_spelt {X : CX} {d : Nat} {g : Mem} {K : Int → Mem → Prop} {u : PV} {v : LV} (hB : CB g u v) (h : K (speltN u v) g) : EI X (d + 2) mX7_spelt [vr 156, vr 10, vr 17] Z0 g K := by
  show AJ X (d + 2) mX7_spelt 0 0 (QI Z0 K) 0 0 0 [some (vr 156), some (vr 10), some (vr 17), none, none, none] [] Z0 g
  refine r_iconst (pc' := 1) dX7_spelt_0 rfl ?_
  refine r_istore_n (pc' := 2) dX7_spelt_1 rfl rfl ?_
  refine r_iconst (pc' := 3) dX7_spelt_2 rfl ?_
  refine r_istore (pc' := 5) dX7_spelt_3 rfl rfl ?_
  exact l_speltO hB (Ln v) 0 0 none (by omega) (by decide) h
def sumF (c : Nat → Bool) (t : Nat → Nat) : Nat → Nat → Nat → Nat
  | 0, _, acc => acc
  | k + 1, x, acc => sumF c t k (x + 1) (if c x then acc + t x else acc)
/-- how many readings from a place on: the table, k places from the end on -/
def wayT (u : PV) (v : LV) : Nat → Nat → Nat
  | 0 => fun q => if q = Ln v then 1 else 0
  | k + 1 => fun q => if q = Ln v - (k + 1) then sumF (fun x => begB u v x q) (fun x => wayT u v k (q + Pl u x)) (Pw u) 0 0 else wayT u v k q
theorem sumF_le {c : Nat → Bool} {t : Nat → Nat} {b : Nat} : ∀ (k x acc : Nat), (∀ y, x ≤ y → y < x + k → c y = true → t y ≤ b) → sumF c t k x acc ≤ acc + k * b
  | 0, _, acc, _ => by unfold sumF; omega
  | k + 1, x, acc, h => by
    unfold sumF
    have h1 := sumF_le k (x + 1) (if c x then acc + t x else acc) (fun y h1 h2 => h y (by omega) (by omega))
    have h2 : (if c x then acc + t x else acc) ≤ acc + b := by
      split
      · rename_i hc
        have := h x (Nat.le_refl _) (by omega) hc
        omega
      · omega
    rw [Nat.succ_mul]
    omega
theorem wayT_le {u : PV} (hU : PW u) (v : LV) : ∀ (k q : Nat), wayT u v k q ≤ 6 ^ k
  | 0, q => by unfold wayT; split <;> omega
  | k + 1, q => by
    unfold wayT
    have h6 := hU.2.2.2.1
    split
    · have h1 := sumF_le (c := fun x => begB u v x q) (t := fun x => wayT u v k (q + Pl u x)) (b := 6 ^ k) (Pw u) 0 0 (fun y _ _ _ => wayT_le hU v k _)
      have h2 : Pw u * 6 ^ k ≤ 6 * 6 ^ k := Nat.mul_le_mul_right _ h6
      rw [Nat.pow_succ]
      omega
    · have h1 := wayT_le hU v k q
      have h2 : 6 ^ k ≤ 6 ^ (k + 1) := Nat.pow_le_pow_right (by decide) (by omega)
      omega
theorem begB_le {u : PV} {v : LV} {x p : Nat} (h : begB u v x p = true) : p + Pl u x ≤ Ln v := by
  unfold begB at h
  rw [Bool.and_eq_true] at h
  exact of_decide_eq_true h.1
theorem l_waysI {X : CX} {d : Nat} {K : Mem → Prop} {u : PV} {v : LV} {p : Nat} {t : Nat → Nat} (hp : p < Ln v) : ∀ (k x acc : Nat) (g : Mem), CB g u v → x + k = Pw u → g 157 p = acc → (∀ q : Nat, p < q → q ≤ Ln v → g 157 q = t q) → (∀ g' : Mem, g' 157 p = ((sumF (fun x => begB u v x p) (fun x => t (p + Pl u x)) k x acc : Nat) : Int) → (∀ q : Nat, p < q → q ≤ Ln v → g' 157 q = t q) → Fr [157] g g' → AJ X (d + 2) mX7_countWays 0 0 (QV Z0 K) 0 0 80 [some (vr 156), some (vr 10), some (vr 17), some (vi (p : Int)), some (vi (Pw u : Int))] [] Z0 g') → AJ X (d + 2) mX7_countWays 0 0 (QV Z0 K) 0 0 31 [some (vr 156), some (vr 10), some (vr 17), some (vi (p : Int)), some (vi (x : Int))] [] Z0 g := by
  intro k
  induction k with
  | zero =>
    intro x acc g hB hx ha hq h
    obtain ⟨hQ, hU, hC, hW⟩ := id hB
    obtain ⟨hc, ho, hf, hw, ht, hi, hy⟩ := id hC
    obtain ⟨w0, w1, w2, w3, w4, w5, w6, w7⟩ := id hW
    obtain ⟨p6, p7, p8, p9, p10, pk, pg, px, py⟩ := id hQ
    obtain ⟨u0, u1, u2, u3, u4, u5, u6, u7⟩ := id hU
    have e : (Pw u : Int) = (x : Int) := by omega
    have h9 := h g ha hq (Fr.rf _ _)
    refine r_iload (pc' := 33) dX7_countWays_31 rfl rfl ?_
    refine r_aload_n (pc' := 34) dX7_countWays_33 rfl rfl ?_
    refine r_getf (pc' := 37) (kI := 9) dX7_countWays_34 rfl fX7_34 isP10.1 rfl rfl p9 ?_
    refine r_icmp_ge (tgt := 80) (pc' := 40) dX7_countWays_37 rfl rfl (by omega) (by omega) (fun c37 => ?_) (fun c37 => ?_)
    · rw [e] at h9
      exact h9
    · exact absurd c37 (by omega)
  | succ k ih =>
    intro x acc g hB hx ha hq h
    obtain ⟨hQ, hU, hC, hW⟩ := id hB
    obtain ⟨hc, ho, hf, hw, ht, hi, hy⟩ := id hC
    obtain ⟨w0, w1, w2, w3, w4, w5, w6, w7⟩ := id hW
    obtain ⟨p6, p7, p8, p9, p10, pk, pg, px, py⟩ := id hQ
    obtain ⟨u0, u1, u2, u3, u4, u5, u6, u7⟩ := id hU
    have q1 := (px x (by omega)).1
    have q2 := u6 x (by omega)
    unfold sumF at h
    refine r_iload (pc' := 33) dX7_countWays_31 rfl rfl ?_
    refine r_aload_n (pc' := 34) dX7_countWays_33 rfl rfl ?_
    refine r_getf (pc' := 37) (kI := 9) dX7_countWays_34 rfl fX7_34 isP10.1 rfl rfl p9 ?_
    refine r_icmp_ge (tgt := 80) (pc' := 40) dX7_countWays_37 rfl rfl (by omega) (by omega) (fun c37 => ?_) (fun c37 => ?_)
    · exact absurd c37 (by omega)
    · refine r_aload_n (pc' := 41) dX7_countWays_40 rfl rfl ?_
      refine r_aload_n (pc' := 42) dX7_countWays_41 rfl rfl ?_
      refine r_iload (pc' := 44) dX7_countWays_42 rfl rfl ?_
      refine r_iload_n (pc' := 45) dX7_countWays_44 rfl rfl ?_
      refine r_si4 (pc' := 48) dX7_countWays_45 rfl qX7_begins lX7_37 rfl rfl rfl (Nat.zero_le _) (Nat.zero_le _) (a_begins hB (by omega) (by omega) ?_)
      refine r_if_eq (tgt := 74) (pc' := 51) dX7_countWays_48 rfl rfl (b01_R _) (fun c48 => ?_) (fun c48 => ?_)
      · refine r_iinc (pc' := 77) dX7_countWays_74 rfl rfl rfl ?_
        refine r_goto (tgt := 31) dX7_countWays_77 rfl ?_
        first
          | (rw [if_neg (by rw [b01_eq c48]; decide)] at h
             exact ih (x + 1) acc g hB (by omega) ha hq h)
          | (rw [if_pos (b01_ne c48)] at h
             exact ih (x + 1) _ _ (hB.fr [157] (fun j hj => mu_ne (by simpa using hj)) (by decide)) (by omega) (by rw [mu_at]; rfl) (fun q h1 h2 => by rw [mu_at' (by omega)]; exact hq q h1 h2) (fun g' a1 a2 a3 => h g' a1 a2 (Fr.tr (fun j hj => mu_ne (by simpa using hj)) a3)))
      · have hbe := begB_le (b01_ne c48)
        refine r_aload_n (pc' := 52) dX7_countWays_51 rfl rfl ?_
        refine r_getr (pc' := 55) dX7_countWays_52 rfl fX7_9 z156 rfl ?_
        refine r_iload_n (pc' := 56) dX7_countWays_55 rfl rfl ?_
        refine r_dup2 (pc' := 57) dX7_countWays_56 rfl rfl rfl ?_
        refine r_iaload (pc' := 58) dX7_countWays_57 rfl z157 (by decide) (by omega) (by omega) ha ?_
        refine r_aload_n (pc' := 59) dX7_countWays_58 rfl rfl ?_
        refine r_getr (pc' := 62) dX7_countWays_59 rfl fX7_9 z156 rfl ?_
        refine r_iload_n (pc' := 63) dX7_countWays_62 rfl rfl ?_
        refine r_aload_n (pc' := 64) dX7_countWays_63 rfl rfl ?_
        refine r_getr (pc' := 67) dX7_countWays_64 rfl fX7_29 isP10.1 rfl ?_
        refine r_iload (pc' := 69) dX7_countWays_67 rfl rfl ?_
        refine r_iaload (pc' := 70) dX7_countWays_69 rfl isP10.2.2.2.2.1 (by decide) (by omega) (by omega) q1 ?_
        refine r_iadd (pc' := 71) dX7_countWays_70 rfl ?_
        refine r_iaload (pc' := 72) (x := (t (p + Pl u x) : Int)) dX7_countWays_71 rfl z157 (by decide) (by omega) (by omega) (hq (p + Pl u x) (by omega) (by omega)) ?_
        refine r_iadd (pc' := 73) dX7_countWays_72 rfl ?_
        refine r_iastore (pc' := 74) dX7_countWays_73 rfl z157 (by decide) (by omega) (by omega) rfl ?_
        refine r_iinc (pc' := 77) dX7_countWays_74 rfl rfl rfl ?_
        refine r_goto (tgt := 31) dX7_countWays_77 rfl ?_
        first
          | (rw [if_neg (by rw [b01_eq c48]; decide)] at h
             exact ih (x + 1) acc g hB (by omega) ha hq h)
          | (rw [if_pos (b01_ne c48)] at h
             exact ih (x + 1) _ _ (hB.fr [157] (fun j hj => mu_ne (by simpa using hj)) (by decide)) (by omega) (by rw [mu_at]; rfl) (fun q h1 h2 => by rw [mu_at' (by omega)]; exact hq q h1 h2) (fun g' a1 a2 a3 => h g' a1 a2 (Fr.tr (fun j hj => mu_ne (by simpa using hj)) a3)))
theorem l_waysO {X : CX} {d : Nat} {K : Mem → Prop} {u : PV} {v : LV} : ∀ (k : Nat) (g : Mem) (y : Option VV), CB g u v → k ≤ Ln v → (∀ q : Nat, k ≤ q → q ≤ Ln v → g 157 q = wayT u v (Ln v - k) q) → (∀ g' : Mem, (∀ q : Nat, q ≤ Ln v → g' 157 q = wayT u v (Ln v) q) → Fr [157] g g' → K g') → AJ X (d + 2) mX7_countWays 0 0 (QV Z0 K) 0 0 17 [some (vr 156), some (vr 10), some (vr 17), some (vi ((k : Int) - 1)), y] [] Z0 g := by
  intro k
  induction k with
  | zero =>
    intro g y hB hk hq h
    refine r_iload_n (pc' := 18) dX7_countWays_17 rfl rfl ?_
    refine r_if_lt (tgt := 86) (pc' := 21) dX7_countWays_18 rfl rfl (by omega) (fun c18 => ?_) (fun c18 => ?_)
    · refine r_retn dX7_countWays_86 rfl ?_
      exact h g (fun q h1 => hq q (by omega) h1) (Fr.rf _ _)
    · exact absurd c18 (by omega)
  | succ k ih =>
    intro g y hB hk hq h
    rw [show (((k + 1 : Nat)) : Int) - 1 = (k : Int) by omega]
    have w1 := hB.2.2.2.2.1
    refine r_iload_n (pc' := 18) dX7_countWays_17 rfl rfl ?_
    refine r_if_lt (tgt := 86) (pc' := 21) dX7_countWays_18 rfl rfl (by omega) (fun c18 => ?_) (fun c18 => ?_)
    · exact absurd c18 (by omega)
    · refine r_aload_n (pc' := 22) dX7_countWays_21 rfl rfl ?_
      refine r_getr (pc' := 25) dX7_countWays_22 rfl fX7_9 z156 rfl ?_
      refine r_iload_n (pc' := 26) dX7_countWays_25 rfl rfl ?_
      refine r_iconst (pc' := 27) dX7_countWays_26 rfl ?_
      refine r_iastore (pc' := 28) dX7_countWays_27 rfl z157 (by decide) (by omega) (by omega) rfl ?_
      refine r_iconst (pc' := 29) dX7_countWays_28 rfl ?_
      refine r_istore (pc' := 31) dX7_countWays_29 rfl rfl ?_
      refine l_waysI (p := k) (t := wayT u v (Ln v - (k + 1))) (by omega) (Pw u) 0 0 _ (hB.fr [157] (fun j hj => mu_ne (by simpa using hj)) (by decide)) (by omega) (by rw [mu_at]; rfl) (fun q h1 h2 => by rw [mu_at' (by omega)]; exact hq q (by omega) h2) (fun g1 a1 a2 a3 => ?_)
      have hB1 := hB.fr [157] (Fr.tr (fun j hj => mu_ne (by simpa using hj)) a3) (by decide)
      refine r_iinc (pc' := 83) dX7_countWays_80 rfl rfl rfl ?_
      refine r_goto (tgt := 17) dX7_countWays_83 rfl ?_
      rw [show (k : Int) + -1 = (k : Int) - 1 by omega]
      refine ih g1 _ hB1 (by omega) (fun q h1 h2 => ?_) (fun g' b1 b2 => h g' b1 (Fr.tr (Fr.tr (fun j hj => mu_ne (by simpa using hj)) a3) b2))
      rw [show Ln v - k = (Ln v - (k + 1)) + 1 by omega]
      unfold wayT
      by_cases hq2 : q = k
      · subst hq2
        rw [if_pos (by omega), a1]
      · rw [if_neg (by omega)]
        exact a2 q (by omega) h2
theorem a_ways {X : CX} {d : Nat} {g : Mem} {K : Mem → Prop} {u : PV} {v : LV} (hB : CB g u v) (h : ∀ g' : Mem, (∀ q : Nat, q ≤ Ln v → g' 157 q = wayT u v (Ln v) q) → Fr [157] g g' → K g') : EV X (d + 2) mX7_countWays [vr 156, vr 10, vr 17] Z0 g K := by
  show AJ X (d + 2) mX7_countWays 0 0 (QV Z0 K) 0 0 0 [some (vr 156), some (vr 10), some (vr 17), none, none] [] Z0 g
  obtain ⟨hQ, hU, hC, hW⟩ := id hB
  obtain ⟨hc, ho, hf, hw, ht, hi, hy⟩ := id hC
  obtain ⟨w0, w1, w2, w3, w4, w5, w6, w7⟩ := id hW
  obtain ⟨p6, p7, p8, p9, p10, pk, pg, px, py⟩ := id hQ
  obtain ⟨u0, u1, u2, u3, u4, u5, u6, u7⟩ := id hU
  refine r_aload_n (pc' := 1) dX7_countWays_0 rfl rfl ?_
  refine r_getr (pc' := 4) dX7_countWays_1 rfl fX7_9 z156 rfl ?_
  refine r_aload_n (pc' := 5) dX7_countWays_4 rfl rfl ?_
  refine r_getf (pc' := 8) (kI := 3) dX7_countWays_5 rfl fX7_19 isL17.1 rfl rfl hc ?_
  refine r_iconst (pc' := 9) dX7_countWays_8 rfl ?_
  refine r_iastore (pc' := 10) dX7_countWays_9 rfl z157 (by decide) (by omega) (by omega) rfl ?_
  refine r_aload_n (pc' := 11) dX7_countWays_10 rfl rfl ?_
  refine r_getf (pc' := 14) (kI := 3) (x := (Ln v : Int)) dX7_countWays_11 rfl fX7_19 isL17.1 rfl rfl (by rw [mu_ne (by decide)]; exact hc) ?_
  refine r_iconst (pc' := 15) dX7_countWays_14 rfl ?_
  refine r_isub (pc' := 16) dX7_countWays_15 rfl ?_
  refine r_istore_n (pc' := 17) dX7_countWays_16 rfl rfl ?_
  refine l_waysO (Ln v) _ none (hB.fr [157] (fun j hj => mu_ne (by simpa using hj)) (by decide)) (by omega) (fun q h1 h2 => ?_) (fun g' b1 b2 => h g' b1 (Fr.tr (fun j hj => mu_ne (by simpa using hj)) b2))
  have : q = Ln v := by omega
  subst this
  rw [mu_at, Nat.sub_self]
  unfold wayT
  rw [if_pos rfl]
  rfl
def readN (u : PV) (v : LV) : Nat := wayT u v (Ln v) 0
theorem a_readings {X : CX} {d : Nat} {g : Mem} {K : Int → Mem → Prop} {u : PV} {v : LV} (hB : CB g u v) (h : ∀ g' : Mem, Fr [157] g g' → K (readN u v) g') : EI X (d + 3) mX7_readings [vr 156, vr 10, vr 17] Z0 g K := by
  show AJ X (d + 3) mX7_readings 0 0 (QI Z0 K) 0 0 0 [some (vr 156), some (vr 10), some (vr 17)] [] Z0 g
  refine r_aload_n (pc' := 1) dX7_readings_0 rfl rfl ?_
  refine r_aload_n (pc' := 2) dX7_readings_1 rfl rfl ?_
  refine r_aload_n (pc' := 3) dX7_readings_2 rfl rfl ?_
  refine r_vv2 (pc' := 6) dX7_readings_3 rfl qX7_countWays lX7_15 z156 rfl rfl rfl rfl (Nat.zero_le _) (Nat.zero_le _) (a_ways hB (fun g1 h1 f1 => ?_))
  refine r_aload_n (pc' := 7) dX7_readings_6 rfl rfl ?_
  refine r_getr (pc' := 10) dX7_readings_7 rfl fX7_9 z156 rfl ?_
  refine r_iconst (pc' := 11) dX7_readings_10 rfl ?_
  refine r_iaload (pc' := 12) dX7_readings_11 rfl z157 (by decide) (by omega) (by omega) (h1 0 (by omega)) ?_
  refine r_reti dX7_readings_12 rfl (Or.inl rfl) ?_
  exact h g1 f1
