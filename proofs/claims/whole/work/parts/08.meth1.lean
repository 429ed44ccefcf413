theorem bitI_R (s b : Int) : R32 (b_and (b_shr s b) 1) := i32_R _
/-- LV: how many flags are on, which at a place, faded, sewn, wet ones, wind, years -/
abbrev LV : Type := Nat × (Nat → Nat) × (Nat → Int) × (Nat → Int) × Nat × Nat × Nat
def Ln (v : LV) : Nat := v.1
def Lo (v : LV) : Nat → Nat := v.2.1
def Lf (v : LV) : Nat → Int := v.2.2.1
def Lw (v : LV) : Nat → Int := v.2.2.2.1
def Lt (v : LV) : Nat := v.2.2.2.2.1
def Li (v : LV) : Nat := v.2.2.2.2.2.1
def Ly (v : LV) : Nat := v.2.2.2.2.2.2
/-- a Line object holds v -/
def LC (g : Mem) (i a f w : Nat) (v : LV) : Prop := g i 3 = Ln v ∧ (∀ p : Nat, p < Ln v → g a p = Lo v p) ∧ (∀ k : Nat, k < 7 → g f k = Lf v k) ∧ (∀ k : Nat, k < 7 → g w k = Lw v k) ∧ g i 4 = Lt v ∧ g i 5 = Li v ∧ g i 6 = Ly v
/-- 25 places of a row from b on hold v -/
def LM (g : Mem) (c : Nat) (b : Int) (v : LV) : Prop := g c b = Ly v ∧ g c (b + 1) = Li v ∧ g c (b + 2) = Ln v ∧ g c (b + 3) = Lt v ∧ (∀ p : Nat, p < Ln v → g c (b + (4 + p)) = Lo v p) ∧ (∀ k : Nat, k < 7 → g c (b + (11 + k)) = Lf v k) ∧ (∀ k : Nat, k < 7 → g c (b + (18 + k)) = Lw v k)
/-- what a line of F flags can be -/
def LW (F : Nat) (v : LV) : Prop := F ≤ 7 ∧ Ln v ≤ 7 ∧ (∀ p : Nat, p < Ln v → Lo v p < F) ∧ (∀ p q : Nat, p < Ln v → q < Ln v → Lo v p = Lo v q → p = q) ∧ Lt v < 128 ∧ (∀ k : Nat, k < 7 → 0 ≤ Lf v k ∧ Lf v k ≤ 99) ∧ Li v ≤ 9 ∧ Ly v ≤ 9020
/-- PV: present, wind told, flags, kinds, weights, words, their lengths, their kinds, hooks, their places, reaches -/
abbrev PV : Type := Nat × Nat × Nat × (Nat → Nat) × (Nat → Nat) × Nat × (Nat → Nat) × (Nat → Nat → Nat) × Nat × (Nat → Nat) × (Nat → Nat)
def Pp (v : PV) : Nat := v.1
def Pi (v : PV) : Nat := v.2.1
def Pf (v : PV) : Nat := v.2.2.1
def Pk (v : PV) : Nat → Nat := v.2.2.2.1
def Ph (v : PV) : Nat → Nat := v.2.2.2.2.1
def Pw (v : PV) : Nat := v.2.2.2.2.2.1
def Pl (v : PV) : Nat → Nat := v.2.2.2.2.2.2.1
def Px (v : PV) : Nat → Nat → Nat := v.2.2.2.2.2.2.2.1
def Pq (v : PV) : Nat := v.2.2.2.2.2.2.2.2.1
def Pa (v : PV) : Nat → Nat := v.2.2.2.2.2.2.2.2.2.1
def Pr (v : PV) : Nat → Nat := v.2.2.2.2.2.2.2.2.2.2
def PC_ (g : Mem) (i a b c e f h : Nat) (v : PV) : Prop := g i 6 = Pp v ∧ g i 7 = Pi v ∧ g i 8 = Pf v ∧ g i 9 = Pw v ∧ g i 10 = Pq v ∧ (∀ k : Nat, k < Pf v → g a k = Pk v k) ∧ (∀ k : Nat, k < Pf v → g b k = Ph v k) ∧ (∀ x : Nat, x < Pw v → g e x = Pl v x ∧ ∀ k : Nat, k < Pl v x → g c (4 * x + k) = Px v x k) ∧ (∀ k : Nat, k < Pq v → g f k = Pa v k ∧ g h k = Pr v k)
def PM (g : Mem) (c : Nat) (v : PV) : Prop := g c 0 = Pp v ∧ g c 4 = Pi v ∧ g c 1 = Pf v ∧ g c 2 = Pw v ∧ g c 3 = Pq v ∧ (∀ k : Nat, k < Pf v → g c (5 + k) = Pk v k) ∧ (∀ k : Nat, k < Pf v → g c (12 + k) = Ph v k) ∧ (∀ x : Nat, x < Pw v → ∀ k : Nat, k < 4 → g c (19 + 4 * x + k) = if k < Pl v x then (Px v x k : Int) else 9) ∧ (∀ k : Nat, k < Pq v → g c (43 + 2 * k) = Pa v k ∧ g c (44 + 2 * k) = Pr v k)
def PW (v : PV) : Prop := Pp v ≤ 1 ∧ Pi v ≤ 9 ∧ Pf v ≤ 7 ∧ Pw v ≤ 6 ∧ Pq v ≤ 5 ∧ (∀ k : Nat, k < Pf v → Pk v k ≤ 5 ∧ 1 ≤ Ph v k ∧ Ph v k ≤ 9) ∧ (∀ x : Nat, x < Pw v → 1 ≤ Pl v x ∧ Pl v x ≤ 4 ∧ ∀ k : Nat, k < Pl v x → Px v x k ≤ 5) ∧ (∀ k : Nat, k < Pq v → Pa v k ≤ 6 ∧ Pr v k ≤ 6)
theorem or128 {a b : Nat} (ha : a < 128) (hb : b < 128) : a ||| b < 128 := Nat.or_lt_two_pow (n := 7) ha hb
theorem pow7 {k : Nat} (h : k < 7) : 2 ^ k < 128 := (Nat.pow_lt_pow_right (by decide : 1 < 2) h : 2 ^ k < 2 ^ 7)
theorem shl1 {k : Nat} (h : k < 7) : b_shl 1 (k : Int) = ((2 ^ k : Nat) : Int) := by
  have h1 := pow7 h
  have := b_shl_n (a := 1) (k := k) (by omega) (by omega)
  rw [Nat.one_mul] at this
  exact this
theorem or_n {a b : Nat} (ha : a < 128) (hb : b < 128) : b_or (a : Int) (b : Int) = ((a ||| b : Nat) : Int) := b_or_n (by omega) (by omega)
/-- the union of v p for p from p on, k of them, where c -/
def orF (c : Nat → Bool) (v : Nat → Nat) : Nat → Nat → Nat → Nat
  | 0, _, acc => acc
  | k + 1, p, acc => orF c v k (p + 1) (if c p then acc ||| v p else acc)
theorem orF_congr {c c' : Nat → Bool} {v v' : Nat → Nat} : ∀ (k p acc : Nat), (∀ q, p ≤ q → q < p + k → c q = c' q ∧ (c q = true → v q = v' q)) → orF c v k p acc = orF c' v' k p acc
  | 0, _, _, _ => rfl
  | k + 1, p, acc, h => by
    have h0 := h p (Nat.le_refl _) (by omega)
    unfold orF
    rw [← h0.1]
    cases hc : c p with
    | true => rw [h0.2 hc]; exact orF_congr k (p + 1) _ (fun q h1 h2 => h q (by omega) (by omega))
    | false => exact orF_congr k (p + 1) _ (fun q h1 h2 => h q (by omega) (by omega))
theorem orF_lt {c : Nat → Bool} {v : Nat → Nat} : ∀ (k p acc : Nat), acc < 128 → (∀ q, p ≤ q → q < p + k → v q < 128) → orF c v k p acc < 128
  | 0, _, _, ha, _ => ha
  | k + 1, p, acc, ha, h => by
    unfold orF
    refine orF_lt k (p + 1) _ ?_ (fun q h1 h2 => h q (by omega) (by omega))
    split
    · exact or128 ha (h p (Nat.le_refl _) (by omega))
    · exact ha
/-- a number for a truth -/
def b01 (b : Bool) : Int := if b then 1 else 0
theorem b01_R (b : Bool) : R32 (b01 b) := by cases b <;> decide
theorem b01_01 (b : Bool) : b01 b = 0 ∨ b01 b = 1 := by cases b <;> simp [b01]
theorem bit_t {s k : Nat} (hs : s < 128) (hk : k < 32) : bitI s k = b01 (s.testBit k) := by
  rw [bitI_n (by omega) hk]
  unfold b01
  rfl
theorem b01_eq {b : Bool} (h : b01 b = 0) : b = false := by cases b <;> simp [b01] at h ⊢
theorem b01_ne {b : Bool} (h : b01 b ≠ 0) : b = true := by cases b <;> simp [b01] at h ⊢
/-- the first place of f, from p on, among k -/
def plc (o : Nat → Nat) (f : Int) : Nat → Nat → Int
  | 0, _ => -1
  | k + 1, p => if (o p : Int) = f then p else plc o f k (p + 1)
theorem a_hasBit {X : CX} {d : Nat} {g : Mem} {K : Int → Mem → Prop} (s b : Int) (h : K (bitI s b) g) : EI X (d) mX10_hasBit [vi s, vi b] Z0 g K := by
  show AJ X (d) mX10_hasBit 0 0 (QI Z0 K) 0 0 0 [some (vi s), some (vi b)] [] Z0 g
  refine r_iload_n (pc' := 1) dX10_hasBit_0 rfl rfl ?_
  refine r_iload_n (pc' := 2) dX10_hasBit_1 rfl rfl ?_
  refine r_ishr (pc' := 3) dX10_hasBit_2 rfl ?_
  refine r_iconst (pc' := 4) dX10_hasBit_3 rfl ?_
  refine r_iand (pc' := 5) dX10_hasBit_4 rfl ?_
  refine r_if_eq (tgt := 12) (pc' := 8) dX10_hasBit_5 rfl rfl (bitI_R _ _) (fun c5 => ?_) (fun c5 => ?_)
  · refine r_iconst (pc' := 13) dX10_hasBit_12 rfl ?_
    refine r_reti dX10_hasBit_13 rfl (Or.inr ⟨rfl, by first | exact Or.inl rfl | exact Or.inr rfl | omega⟩) ?_
    rcases bitI_01 s b with e | e
    · first | (rw [e] at h; exact h) | exact absurd e c5
    · first | (rw [e] at h; exact h) | exact absurd (e.symm.trans c5) (by decide)
  · refine r_iconst (pc' := 9) dX10_hasBit_8 rfl ?_
    refine r_goto (tgt := 13) dX10_hasBit_9 rfl ?_
    refine r_reti dX10_hasBit_13 rfl (Or.inr ⟨rfl, by first | exact Or.inl rfl | exact Or.inr rfl | omega⟩) ?_
    rcases bitI_01 s b with e | e
    · first | (rw [e] at h; exact h) | exact absurd e c5
    · first | (rw [e] at h; exact h) | exact absurd (e.symm.trans c5) (by decide)
theorem a_hasBitN {X : CX} {d : Nat} {g : Mem} {K : Int → Mem → Prop} {s b : Nat} (hs : s < 128) (hb : b < 32) (h : K (b01 (s.testBit b)) g) : EI X d mX10_hasBit [vi s, vi b] Z0 g K := a_hasBit _ _ (by rw [bit_t hs hb]; exact h)
theorem a_flagAt {X : CX} {d : Nat} {g : Mem} {K : Int → Mem → Prop} {i a f w F : Nat} {v : LV} (hL : isL i a f w) (hC : LC g i a f w v) (hW : LW F v) (p : Int) (hp : R32 p) (h : K (if 0 ≤ p ∧ p < Ln v then (Lo v p.toNat : Int) else -1) g) : EI X (d) mX2_flagAt [vr i, vi p] Z0 g K := by
  show AJ X (d) mX2_flagAt 0 0 (QI Z0 K) 0 0 0 [some (vr i), some (vi p)] [] Z0 g
  obtain ⟨hc, ho, hf, hw, ht, hi, hy⟩ := id hC
  obtain ⟨w0, w1, w2, w3, w4, w5, w6, w7⟩ := id hW
  refine r_iload_n (pc' := 1) dX2_flagAt_0 rfl rfl ?_
  refine r_if_lt (tgt := 21) (pc' := 4) dX2_flagAt_1 rfl rfl (by omega) (fun c1 => ?_) (fun c1 => ?_)
  · refine r_iconst (pc' := 22) dX2_flagAt_21 rfl ?_
    refine r_reti dX2_flagAt_22 rfl (Or.inl rfl) ?_
    first | (rw [if_pos ⟨by omega, by omega⟩] at h; have e := ho p.toNat (by omega); rw [show ((p.toNat : Nat) : Int) = p by omega] at e; rw [e]; exact h) | (rw [if_neg (by omega)] at h; exact h)
  · refine r_iload_n (pc' := 5) dX2_flagAt_4 rfl rfl ?_
    refine r_aload_n (pc' := 6) dX2_flagAt_5 rfl rfl ?_
    refine r_getf (pc' := 9) (kI := 3) dX2_flagAt_6 rfl fX2_21 hL.1 rfl rfl hc ?_
    refine r_icmp_ge (tgt := 21) (pc' := 12) dX2_flagAt_9 rfl rfl (by omega) (by omega) (fun c9 => ?_) (fun c9 => ?_)
    · refine r_iconst (pc' := 22) dX2_flagAt_21 rfl ?_
      refine r_reti dX2_flagAt_22 rfl (Or.inl rfl) ?_
      first | (rw [if_pos ⟨by omega, by omega⟩] at h; have e := ho p.toNat (by omega); rw [show ((p.toNat : Nat) : Int) = p by omega] at e; rw [e]; exact h) | (rw [if_neg (by omega)] at h; exact h)
    · refine r_aload_n (pc' := 13) dX2_flagAt_12 rfl rfl ?_
      refine r_getr (pc' := 16) dX2_flagAt_13 rfl fX2_9 hL.1 rfl ?_
      refine r_iload_n (pc' := 17) dX2_flagAt_16 rfl rfl ?_
      refine r_iaload (pc' := 18) dX2_flagAt_17 rfl hL.2.1 (by decide) (by omega) (by omega) rfl ?_
      refine r_goto (tgt := 22) dX2_flagAt_18 rfl ?_
      refine r_reti dX2_flagAt_22 rfl (Or.inl rfl) ?_
      first | (rw [if_pos ⟨by omega, by omega⟩] at h; have e := ho p.toNat (by omega); rw [show ((p.toNat : Nat) : Int) = p by omega] at e; rw [e]; exact h) | (rw [if_neg (by omega)] at h; exact h)
theorem l_placeOf {X : CX} {d : Nat} {g : Mem} {K : Int → Mem → Prop} {i a f w F : Nat} {v : LV} (hL : isL i a f w) (hC : LC g i a f w v) (hW : LW F v) (x : Int) (hx : R32 x) : ∀ (k p : Nat), p + k = Ln v → K (plc (Lo v) x k p) g → AJ X (d) mX2_placeOf 0 0 (QI Z0 K) 0 0 2 [some (vr i), some (vi x), some (vi (p : Int))] [] Z0 g := by
  obtain ⟨hc, ho, hf, hw, ht, hi, hy⟩ := id hC
  obtain ⟨w0, w1, w2, w3, w4, w5, w6, w7⟩ := id hW
  intro k
  induction k with
  | zero =>
    intro p hp h
    refine r_iload_n (pc' := 3) dX2_placeOf_2 rfl rfl ?_
    refine r_aload_n (pc' := 4) dX2_placeOf_3 rfl rfl ?_
    refine r_getf (pc' := 7) (kI := 3) dX2_placeOf_4 rfl fX2_21 hL.1 rfl rfl hc ?_
    refine r_icmp_ge (tgt := 28) (pc' := 10) dX2_placeOf_7 rfl rfl (by omega) (by omega) (fun c7 => ?_) (fun c7 => ?_)
    · refine r_iconst (pc' := 29) dX2_placeOf_28 rfl ?_
      refine r_reti dX2_placeOf_29 rfl (Or.inl rfl) ?_
      exact h
    · exact absurd c7 (by omega)
  | succ k ih =>
    intro p hp h
    have w2p := w2 p (by omega)
    refine r_iload_n (pc' := 3) dX2_placeOf_2 rfl rfl ?_
    refine r_aload_n (pc' := 4) dX2_placeOf_3 rfl rfl ?_
    refine r_getf (pc' := 7) (kI := 3) dX2_placeOf_4 rfl fX2_21 hL.1 rfl rfl hc ?_
    refine r_icmp_ge (tgt := 28) (pc' := 10) dX2_placeOf_7 rfl rfl (by omega) (by omega) (fun c7 => ?_) (fun c7 => ?_)
    · exact absurd c7 (by omega)
    · refine r_aload_n (pc' := 11) dX2_placeOf_10 rfl rfl ?_
      refine r_getr (pc' := 14) dX2_placeOf_11 rfl fX2_9 hL.1 rfl ?_
      refine r_iload_n (pc' := 15) dX2_placeOf_14 rfl rfl ?_
      refine r_iaload (pc' := 16) dX2_placeOf_15 rfl hL.2.1 (by decide) (by omega) (by omega) (ho p (by omega)) ?_
      refine r_iload_n (pc' := 17) dX2_placeOf_16 rfl rfl ?_
      refine r_icmp_ne (tgt := 22) (pc' := 20) dX2_placeOf_17 rfl rfl (by omega) (by omega) (fun c17 => ?_) (fun c17 => ?_)
      · refine r_iinc (pc' := 25) dX2_placeOf_22 rfl rfl rfl ?_
        refine r_goto (tgt := 2) dX2_placeOf_25 rfl ?_
        exact ih (p + 1) (by omega) (by rw [plc, if_neg c17] at h; exact h)
      · refine r_iload_n (pc' := 21) dX2_placeOf_20 rfl rfl ?_
        refine r_reti dX2_placeOf_21 rfl (Or.inl rfl) ?_
        rw [plc, if_pos c17] at h
        exact h
theorem a_placeOf {X : CX} {d : Nat} {g : Mem} {K : Int → Mem → Prop} {i a f w F : Nat} {v : LV} (hL : isL i a f w) (hC : LC g i a f w v) (hW : LW F v) (x : Int) (hx : R32 x) (h : K (plc (Lo v) x (Ln v) 0) g) : EI X (d) mX2_placeOf [vr i, vi x] Z0 g K := by
  show AJ X (d) mX2_placeOf 0 0 (QI Z0 K) 0 0 0 [some (vr i), some (vi x), none] [] Z0 g
  refine r_iconst (pc' := 1) dX2_placeOf_0 rfl ?_
  refine r_istore_n (pc' := 2) dX2_placeOf_1 rfl rfl ?_
  exact l_placeOf hL hC hW x hx (Ln v) 0 (by omega) h
theorem l_onSet {X : CX} {d : Nat} {g : Mem} {K : Int → Mem → Prop} {i a f w F : Nat} {v : LV} (hL : isL i a f w) (hC : LC g i a f w v) (hW : LW F v)  : ∀ (k p acc : Nat), p + k = Ln v → acc < 128 → K ((orF (fun _ => true) (fun p => 2 ^ Lo v p) k p acc : Nat) : Int) g → AJ X (d) mX2_onSet 0 0 (QI Z0 K) 0 0 4 [some (vr i), some (vi (acc : Int)), some (vi (p : Int))] [] Z0 g := by
  obtain ⟨hc, ho, hf, hw, ht, hi, hy⟩ := id hC
  obtain ⟨w0, w1, w2, w3, w4, w5, w6, w7⟩ := id hW
  intro k
  induction k with
  | zero =>
    intro p acc hp ha h
    refine r_iload_n (pc' := 5) dX2_onSet_4 rfl rfl ?_
    refine r_aload_n (pc' := 6) dX2_onSet_5 rfl rfl ?_
    refine r_getf (pc' := 9) (kI := 3) dX2_onSet_6 rfl fX2_21 hL.1 rfl rfl hc ?_
    refine r_icmp_ge (tgt := 29) (pc' := 12) dX2_onSet_9 rfl rfl (by omega) (by omega) (fun c9 => ?_) (fun c9 => ?_)
    · refine r_iload_n (pc' := 30) dX2_onSet_29 rfl rfl ?_
      refine r_reti dX2_onSet_30 rfl (Or.inl rfl) ?_
      exact h
    · exact absurd c9 (by omega)
  | succ k ih =>
    intro p acc hp ha h
    have w2p := w2 p (by omega)
    have e : b_or (acc : Int) (b_shl 1 (Lo v p : Int)) = ((acc ||| 2 ^ Lo v p : Nat) : Int) := by rw [shl1 (by omega), or_n ha (pow7 (by omega))]
    refine r_iload_n (pc' := 5) dX2_onSet_4 rfl rfl ?_
    refine r_aload_n (pc' := 6) dX2_onSet_5 rfl rfl ?_
    refine r_getf (pc' := 9) (kI := 3) dX2_onSet_6 rfl fX2_21 hL.1 rfl rfl hc ?_
    refine r_icmp_ge (tgt := 29) (pc' := 12) dX2_onSet_9 rfl rfl (by omega) (by omega) (fun c9 => ?_) (fun c9 => ?_)
    · exact absurd c9 (by omega)
    · refine r_iload_n (pc' := 13) dX2_onSet_12 rfl rfl ?_
      refine r_iconst (pc' := 14) dX2_onSet_13 rfl ?_
      refine r_aload_n (pc' := 15) dX2_onSet_14 rfl rfl ?_
      refine r_getr (pc' := 18) dX2_onSet_15 rfl fX2_9 hL.1 rfl ?_
      refine r_iload_n (pc' := 19) dX2_onSet_18 rfl rfl ?_
      refine r_iaload (pc' := 20) dX2_onSet_19 rfl hL.2.1 (by decide) (by omega) (by omega) (ho p (by omega)) ?_
      refine r_ishl (pc' := 21) dX2_onSet_20 rfl ?_
      refine r_ior (pc' := 22) dX2_onSet_21 rfl ?_
      rw [e]
      refine r_istore_n (pc' := 23) dX2_onSet_22 rfl rfl ?_
      refine r_iinc (pc' := 26) dX2_onSet_23 rfl rfl rfl ?_
      refine r_goto (tgt := 4) dX2_onSet_26 rfl ?_
      exact ih (p + 1) _ (by omega) (or128 ha (pow7 (by omega))) h
def onN (v : LV) : Nat := orF (fun _ => true) (fun p => 2 ^ Lo v p) (Ln v) 0 0
theorem a_onSet {X : CX} {d : Nat} {g : Mem} {K : Int → Mem → Prop} {i a f w F : Nat} {v : LV} (hL : isL i a f w) (hC : LC g i a f w v) (hW : LW F v) (h : K (onN v) g) : EI X (d) mX2_onSet [vr i] Z0 g K := by
  show AJ X (d) mX2_onSet 0 0 (QI Z0 K) 0 0 0 [some (vr i), none, none] [] Z0 g
  refine r_iconst (pc' := 1) dX2_onSet_0 rfl ?_
  refine r_istore_n (pc' := 2) dX2_onSet_1 rfl rfl ?_
  refine r_iconst (pc' := 3) dX2_onSet_2 rfl ?_
  refine r_istore_n (pc' := 4) dX2_onSet_3 rfl rfl ?_
  exact l_onSet hL hC hW (Ln v) 0 0 (by omega) (by decide) h
theorem l_flagsAt {X : CX} {d : Nat} {g : Mem} {K : Int → Mem → Prop} {i a f w F : Nat} {v : LV} (hL : isL i a f w) (hC : LC g i a f w v) (hW : LW F v) {s : Nat} (hs : s < 128) : ∀ (k p acc : Nat), p + k = Ln v → acc < 128 → K ((orF (fun p => s.testBit p) (fun p => 2 ^ Lo v p) k p acc : Nat) : Int) g → AJ X (d + 1) mX2_flagsAt 0 0 (QI Z0 K) 0 0 4 [some (vr i), some (vi (s : Int)), some (vi (acc : Int)), some (vi (p : Int))] [] Z0 g := by
  obtain ⟨hc, ho, hf, hw, ht, hi, hy⟩ := id hC
  obtain ⟨w0, w1, w2, w3, w4, w5, w6, w7⟩ := id hW
  intro k
  induction k with
  | zero =>
    intro p acc hp ha h
    refine r_iload_n (pc' := 5) dX2_flagsAt_4 rfl rfl ?_
    refine r_aload_n (pc' := 6) dX2_flagsAt_5 rfl rfl ?_
    refine r_getf (pc' := 9) (kI := 3) dX2_flagsAt_6 rfl fX2_21 hL.1 rfl rfl hc ?_
    refine r_icmp_ge (tgt := 37) (pc' := 12) dX2_flagsAt_9 rfl rfl (by omega) (by omega) (fun c9 => ?_) (fun c9 => ?_)
    · refine r_iload_n (pc' := 38) dX2_flagsAt_37 rfl rfl ?_
      refine r_reti dX2_flagsAt_38 rfl (Or.inl rfl) ?_
      exact h
    · exact absurd c9 (by omega)
  | succ k ih =>
    intro p acc hp ha h
    have w2p := w2 p (by omega)
    have e : b_or (acc : Int) (b_shl 1 (Lo v p : Int)) = ((acc ||| 2 ^ (Lo v p) : Nat) : Int) := by rw [shl1 (by omega), or_n ha (pow7 (by omega))]
    unfold orF at h
    refine r_iload_n (pc' := 5) dX2_flagsAt_4 rfl rfl ?_
    refine r_aload_n (pc' := 6) dX2_flagsAt_5 rfl rfl ?_
    refine r_getf (pc' := 9) (kI := 3) dX2_flagsAt_6 rfl fX2_21 hL.1 rfl rfl hc ?_
    refine r_icmp_ge (tgt := 37) (pc' := 12) dX2_flagsAt_9 rfl rfl (by omega) (by omega) (fun c9 => ?_) (fun c9 => ?_)
    · exact absurd c9 (by omega)
    · refine r_iload_n (pc' := 13) dX2_flagsAt_12 rfl rfl ?_
      refine r_iload_n (pc' := 14) dX2_flagsAt_13 rfl rfl ?_
      refine r_ni2 (pc' := 17) dX2_flagsAt_14 rfl qX10_hasBit nX2_54 rfl rfl rfl (Nat.zero_le _) (Nat.zero_le _) (a_hasBitN hs (by omega) ?_)
      refine r_if_eq (tgt := 31) (pc' := 20) dX2_flagsAt_17 rfl rfl (b01_R _) (fun c17 => ?_) (fun c17 => ?_)
      · refine r_iinc (pc' := 34) dX2_flagsAt_31 rfl rfl rfl ?_
        refine r_goto (tgt := 4) dX2_flagsAt_34 rfl ?_
        first | (rw [if_pos (b01_ne c17)] at h; exact ih (p + 1) _ (by omega) (or128 ha (pow7 (by omega))) h) | (rw [if_neg (by rw [b01_eq c17]; decide)] at h; exact ih (p + 1) _ (by omega) ha h)
      · refine r_iload_n (pc' := 21) dX2_flagsAt_20 rfl rfl ?_
        refine r_iconst (pc' := 22) dX2_flagsAt_21 rfl ?_
        refine r_aload_n (pc' := 23) dX2_flagsAt_22 rfl rfl ?_
        refine r_getr (pc' := 26) dX2_flagsAt_23 rfl fX2_9 hL.1 rfl ?_
        refine r_iload_n (pc' := 27) dX2_flagsAt_26 rfl rfl ?_
        refine r_iaload (pc' := 28) dX2_flagsAt_27 rfl hL.2.1 (by decide) (by omega) (by omega) (ho p (by omega)) ?_
        refine r_ishl (pc' := 29) dX2_flagsAt_28 rfl ?_
        refine r_ior (pc' := 30) dX2_flagsAt_29 rfl ?_
        rw [e]
        refine r_istore_n (pc' := 31) dX2_flagsAt_30 rfl rfl ?_
        refine r_iinc (pc' := 34) dX2_flagsAt_31 rfl rfl rfl ?_
        refine r_goto (tgt := 4) dX2_flagsAt_34 rfl ?_
        first | (rw [if_pos (b01_ne c17)] at h; exact ih (p + 1) _ (by omega) (or128 ha (pow7 (by omega))) h) | (rw [if_neg (by rw [b01_eq c17]; decide)] at h; exact ih (p + 1) _ (by omega) ha h)
theorem a_flagsAt {X : CX} {d : Nat} {g : Mem} {K : Int → Mem → Prop} {i a f w F : Nat} {v : LV} (hL : isL i a f w) (hC : LC g i a f w v) (hW : LW F v) {s : Nat} (hs : s < 128) (h : K ((orF (fun p => s.testBit p) (fun p => 2 ^ Lo v p) (Ln v) 0 0 : Nat) : Int) g) : EI X (d + 1) mX2_flagsAt [vr i, vi (s : Int)] Z0 g K := by
  show AJ X (d + 1) mX2_flagsAt 0 0 (QI Z0 K) 0 0 0 [some (vr i), some (vi (s : Int)), none, none] [] Z0 g
  refine r_iconst (pc' := 1) dX2_flagsAt_0 rfl ?_
  refine r_istore_n (pc' := 2) dX2_flagsAt_1 rfl rfl ?_
  refine r_iconst (pc' := 3) dX2_flagsAt_2 rfl ?_
  refine r_istore_n (pc' := 4) dX2_flagsAt_3 rfl rfl ?_
  exact l_flagsAt hL hC hW hs (Ln v) 0 0 (by omega) (by decide) h
theorem l_placesOf {X : CX} {d : Nat} {g : Mem} {K : Int → Mem → Prop} {i a f w F : Nat} {v : LV} (hL : isL i a f w) (hC : LC g i a f w v) (hW : LW F v) {s : Nat} (hs : s < 128) : ∀ (k p acc : Nat), p + k = Ln v → acc < 128 → K ((orF (fun p => s.testBit (Lo v p)) (fun p => 2 ^ p) k p acc : Nat) : Int) g → AJ X (d + 1) mX2_placesOf 0 0 (QI Z0 K) 0 0 4 [some (vr i), some (vi (s : Int)), some (vi (acc : Int)), some (vi (p : Int))] [] Z0 g := by
  obtain ⟨hc, ho, hf, hw, ht, hi, hy⟩ := id hC
  obtain ⟨w0, w1, w2, w3, w4, w5, w6, w7⟩ := id hW
  intro k
  induction k with
  | zero =>
    intro p acc hp ha h
    refine r_iload_n (pc' := 5) dX2_placesOf_4 rfl rfl ?_
    refine r_aload_n (pc' := 6) dX2_placesOf_5 rfl rfl ?_
    refine r_getf (pc' := 9) (kI := 3) dX2_placesOf_6 rfl fX2_21 hL.1 rfl rfl hc ?_
    refine r_icmp_ge (tgt := 37) (pc' := 12) dX2_placesOf_9 rfl rfl (by omega) (by omega) (fun c9 => ?_) (fun c9 => ?_)
    · refine r_iload_n (pc' := 38) dX2_placesOf_37 rfl rfl ?_
      refine r_reti dX2_placesOf_38 rfl (Or.inl rfl) ?_
      exact h
    · exact absurd c9 (by omega)
  | succ k ih =>
    intro p acc hp ha h
    have w2p := w2 p (by omega)
    have e : b_or (acc : Int) (b_shl 1 (p : Int)) = ((acc ||| 2 ^ (p) : Nat) : Int) := by rw [shl1 (by omega), or_n ha (pow7 (by omega))]
    unfold orF at h
    refine r_iload_n (pc' := 5) dX2_placesOf_4 rfl rfl ?_
    refine r_aload_n (pc' := 6) dX2_placesOf_5 rfl rfl ?_
    refine r_getf (pc' := 9) (kI := 3) dX2_placesOf_6 rfl fX2_21 hL.1 rfl rfl hc ?_
    refine r_icmp_ge (tgt := 37) (pc' := 12) dX2_placesOf_9 rfl rfl (by omega) (by omega) (fun c9 => ?_) (fun c9 => ?_)
    · exact absurd c9 (by omega)
    · refine r_iload_n (pc' := 13) dX2_placesOf_12 rfl rfl ?_
      refine r_aload_n (pc' := 14) dX2_placesOf_13 rfl rfl ?_
      refine r_getr (pc' := 17) dX2_placesOf_14 rfl fX2_9 hL.1 rfl ?_
      refine r_iload_n (pc' := 18) dX2_placesOf_17 rfl rfl ?_
      refine r_iaload (pc' := 19) dX2_placesOf_18 rfl hL.2.1 (by decide) (by omega) (by omega) (ho p (by omega)) ?_
      refine r_ni2 (pc' := 22) dX2_placesOf_19 rfl qX10_hasBit nX2_54 rfl rfl rfl (Nat.zero_le _) (Nat.zero_le _) (a_hasBitN hs (by omega) ?_)
      refine r_if_eq (tgt := 31) (pc' := 25) dX2_placesOf_22 rfl rfl (b01_R _) (fun c22 => ?_) (fun c22 => ?_)
      · refine r_iinc (pc' := 34) dX2_placesOf_31 rfl rfl rfl ?_
        refine r_goto (tgt := 4) dX2_placesOf_34 rfl ?_
        first | (rw [if_pos (b01_ne c22)] at h; exact ih (p + 1) _ (by omega) (or128 ha (pow7 (by omega))) h) | (rw [if_neg (by rw [b01_eq c22]; decide)] at h; exact ih (p + 1) _ (by omega) ha h)
      · refine r_iload_n (pc' := 26) dX2_placesOf_25 rfl rfl ?_
        refine r_iconst (pc' := 27) dX2_placesOf_26 rfl ?_
        refine r_iload_n (pc' := 28) dX2_placesOf_27 rfl rfl ?_
        refine r_ishl (pc' := 29) dX2_placesOf_28 rfl ?_
        refine r_ior (pc' := 30) dX2_placesOf_29 rfl ?_
        rw [e]
        refine r_istore_n (pc' := 31) dX2_placesOf_30 rfl rfl ?_
        refine r_iinc (pc' := 34) dX2_placesOf_31 rfl rfl rfl ?_
        refine r_goto (tgt := 4) dX2_placesOf_34 rfl ?_
        first | (rw [if_pos (b01_ne c22)] at h; exact ih (p + 1) _ (by omega) (or128 ha (pow7 (by omega))) h) | (rw [if_neg (by rw [b01_eq c22]; decide)] at h; exact ih (p + 1) _ (by omega) ha h)
theorem a_placesOf {X : CX} {d : Nat} {g : Mem} {K : Int → Mem → Prop} {i a f w F : Nat} {v : LV} (hL : isL i a f w) (hC : LC g i a f w v) (hW : LW F v) {s : Nat} (hs : s < 128) (h : K ((orF (fun p => s.testBit (Lo v p)) (fun p => 2 ^ p) (Ln v) 0 0 : Nat) : Int) g) : EI X (d + 1) mX2_placesOf [vr i, vi (s : Int)] Z0 g K := by
  show AJ X (d + 1) mX2_placesOf 0 0 (QI Z0 K) 0 0 0 [some (vr i), some (vi (s : Int)), none, none] [] Z0 g
  refine r_iconst (pc' := 1) dX2_placesOf_0 rfl ?_
  refine r_istore_n (pc' := 2) dX2_placesOf_1 rfl rfl ?_
  refine r_iconst (pc' := 3) dX2_placesOf_2 rfl ?_
  refine r_istore_n (pc' := 4) dX2_placesOf_3 rfl rfl ?_
  exact l_placesOf hL hC hW hs (Ln v) 0 0 (by omega) (by decide) h
