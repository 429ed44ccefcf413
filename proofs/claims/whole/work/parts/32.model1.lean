/-- the row s of the model holds v -/
def LSr (g : Mem) (v : LV) : Prop := g 170 0 = Ly v ∧ g 170 1 = Li v ∧ g 170 2 = Ln v ∧ g 170 3 = Lt v ∧ (∀ p : Nat, p < Ln v → g 170 (4 + p) = Lo v p) ∧ (∀ k : Nat, k < 7 → g 170 (11 + k) = Lf v k) ∧ (∀ k : Nat, k < 7 → g 170 (18 + k) = Lw v k)
def MB (g : Mem) (u : PV) (v : LV) : Prop := PM g 168 u ∧ PW u ∧ LSr g v ∧ LW (Pf u) v
def MIm (g : Mem) (im : Nat → Bool × Int × LV) : Prop := ∀ i : Nat, i < 2 → g 173 i = b01 (im i).1 ∧ ((im i).1 = true → LM g 172 (26 * i) (im i).2.2 ∧ g 172 (26 * i + 25) = (im i).2.1)
def MS (g : Mem) (tN : Nat) (tX : Nat → Int) (flt : Int) (u : PV) (v : LV) (kn : Nat) (kL : Nat → LV) (im : Nat → Bool × Int × LV) (sd : Int) (ln : Nat) (la : Nat → Nat) (lr : Nat → Bool) (bn : Nat) (bp : Nat → Nat) (bf : Nat → Int) : Prop :=
  (g 166 1 = tN ∧ ∀ k : Nat, k < tN → g 167 k = tX k) ∧ g 166 15 = flt ∧ PM g 168 u ∧ LSr g v ∧ (g 166 6 = kn ∧ ∀ j : Nat, j < kn → LM g 171 (25 * j) (kL j)) ∧ MIm g im ∧ g 166 9 = sd ∧
  (g 166 11 = ln ∧ ∀ i : Nat, i < ln → g 174 (3 * i) = ((la i / 10 : Nat) : Int) ∧ g 174 (3 * i + 1) = ((la i % 10 : Nat) : Int) ∧ g 174 (3 * i + 2) = b01 (lr i)) ∧ (g 166 13 = bn ∧ ∀ i : Nat, i < bn → g 175 (2 * i) = bp i ∧ g 175 (2 * i + 1) = bf i)
def WS (tN : Nat) (tX : Nat → Int) (flt : Int) (u : PV) (v : LV) (kn : Nat) (kL : Nat → LV) (im : Nat → Bool × Int × LV) (sd : Int) (ln : Nat) (la : Nat → Nat) (_lr : Nat → Bool) (bn : Nat) (bp : Nat → Nat) (bf : Nat → Int) : Prop :=
  (tN ≤ 240 ∧ ∀ k : Nat, k < tN → 0 ≤ tX k ∧ tX k ≤ 255) ∧ R32 flt ∧ PW u ∧ LW (Pf u) v ∧ (kn ≤ 30 ∧ ∀ j, j < kn → LW (Pf u) (kL j)) ∧ (∀ i : Nat, i < 2 → (im i).1 = true → 0 ≤ (im i).2.1 ∧ (im i).2.1 < 2147483648 ∧ LW (Pf u) (im i).2.2) ∧ (0 ≤ sd ∧ sd < 2147483648) ∧ (ln ≤ 6 ∧ ∀ i, i < ln → la i ≤ 19) ∧ (bn ≤ 20 ∧ ∀ i, i < bn → bp i ≤ 6 ∧ R32 (bf i))
def FrM (g g' : Mem) : Prop := (∀ j : Nat, j < 166 → g' j = g j) ∧ g' 178 = g 178 ∧ g' 166 20 = g 166 20
theorem FrM.rf (g : Mem) : FrM g g := ⟨fun _ _ => rfl, rfl, rfl⟩
theorem FrM.tr {g g' g'' : Mem} (h : FrM g g') (h' : FrM g' g'') : FrM g g'' := ⟨fun j hj => (h'.1 j hj).trans (h.1 j hj), h'.2.1.trans h.2.1, h'.2.2.trans h.2.2⟩
theorem FrM.row {g : Mem} {i : Nat} {k x : Int} (h1 : 166 < i) (h2 : i ≠ 178) : FrM g (mu g i k x) := ⟨fun j hj => mu_ne (by omega), mu_ne (Ne.symm h2), by rw [mu_ne (by omega)]⟩
theorem FrM.fld {g : Mem} {k x : Int} (h : k ≠ 20) : FrM g (mu g 166 k x) := ⟨fun j hj => mu_ne (by omega), mu_ne (by decide), mu_at' (Ne.symm h)⟩
theorem PM.fr {g g' : Mem} {c : Nat} {u : PV} (h : PM g c u) (e : g' c = g c) : PM g' c u := by unfold PM; rw [e]; exact h
theorem LSr.fr {g g' : Mem} {v : LV} (h : LSr g v) (e : g' 170 = g 170) : LSr g' v := by unfold LSr; rw [e]; exact h
theorem LM.fr {g g' : Mem} {c : Nat} {b : Int} {v : LV} (h : LM g c b v) (e : g' c = g c) : LM g' c b v := by unfold LM; rw [e]; exact h
theorem MIm.fr {g g' : Mem} {im : Nat → Bool × Int × LV} (h : MIm g im) (e : g' 172 = g 172) (e' : g' 173 = g 173) : MIm g' im := by
  intro i hi
  obtain ⟨h1, h2⟩ := h i hi
  rw [e', e]
  exact ⟨h1, fun hk => ⟨(h2 hk).1.fr e, (h2 hk).2⟩⟩
theorem CS.ws {g : Mem} {tN : Nat} {tX : Nat → Int} {flt : Int} {u : PV} {v : LV} {kn : Nat} {kL : Nat → LV} {im : Nat → Bool × Int × LV} {sd : Int} {ln : Nat} {la : Nat → Nat} {lr : Nat → Bool} {bn : Nat} {bp : Nat → Nat} {bf : Nat → Int} (h : CS g tN tX flt u v kn kL im sd ln la lr bn bp bf) : WS tN tX flt u v kn kL im sd ln la lr bn bp bf := by
  obtain ⟨⟨t1, t2, t3⟩, ⟨f1, f2⟩, hB, ⟨top, hP⟩, hI, ⟨sd1, sd2, sd3⟩, hK, hN⟩ := h
  exact ⟨⟨t2, fun k hk => (t3 k hk).2⟩, f2, hB.2.1, hB.2.2.2, ⟨hP.2.1, fun j hj => (hP.2.2.2.2 j hj).2⟩, fun i hi hk => ⟨((hI i hi).2 hk).2.1, ((hI i hi).2 hk).2.2.1, ((hI i hi).2 hk).2.2.2.2⟩, ⟨sd2, sd3⟩, ⟨hK.2.1, fun i hi => (hK.2.2 i hi).2.2⟩, ⟨hN.2.1, fun i hi => (hN.2.2 i hi).2.2⟩⟩
theorem CS.frM {g g' : Mem} {tN : Nat} {tX : Nat → Int} {flt : Int} {u : PV} {v : LV} {kn : Nat} {kL : Nat → LV} {im : Nat → Bool × Int × LV} {sd : Int} {ln : Nat} {la : Nat → Nat} {lr : Nat → Bool} {bn : Nat} {bp : Nat → Nat} {bf : Nat → Int} (hS : CS g tN tX flt u v kn kL im sd ln la lr bn bp bf) (hf : ∀ j : Nat, j < 166 → g' j = g j) : CS g' tN tX flt u v kn kL im sd ln la lr bn bp bf := by
  obtain ⟨⟨t1, t2, t3⟩, ⟨f1, f2⟩, hB, ⟨top, hP⟩, hI, ⟨sd1, sd2, sd3⟩, hK, hN⟩ := hS
  exact ⟨TX.fr ⟨t1, t2, t3⟩ (hf 1 (by omega)) (hf 2 (by omega)), ⟨by rw [hf 1 (by omega)]; exact f1, f2⟩, hB.fr2 (fun j a1 a2 => hf j (by omega)), ⟨top, hP.fr (fun j hj => by unfold pastB at hj; exact hf j (by omega))⟩, IMs.fr hI (fun j a1 a2 => hf j (by omega)), ⟨by rw [hf 0 (by omega)]; exact sd1, sd2, sd3⟩, hK.fr (hf 160 (by omega)) (hf 161 (by omega)) (hf 162 (by omega)), hN.fr (hf 163 (by omega)) (hf 164 (by omega)) (hf 165 (by omega))⟩
theorem MS.fr {g g' : Mem} {tN : Nat} {tX : Nat → Int} {flt : Int} {u : PV} {v : LV} {kn : Nat} {kL : Nat → LV} {im : Nat → Bool × Int × LV} {sd : Int} {ln : Nat} {la : Nat → Nat} {lr : Nat → Bool} {bn : Nat} {bp : Nat → Nat} {bf : Nat → Int} (h : MS g tN tX flt u v kn kL im sd ln la lr bn bp bf) (hf : ∀ j : Nat, 166 ≤ j → g' j = g j) : MS g' tN tX flt u v kn kL im sd ln la lr bn bp bf := by
  obtain ⟨⟨m1, m2⟩, m3, m4, m5, ⟨m6, m7⟩, m8, m9, ⟨m10, m11⟩, ⟨m12, m13⟩⟩ := h
  exact ⟨⟨by rw [hf 166 (by omega)]; exact m1, fun k hk => by rw [hf 167 (by omega)]; exact m2 k hk⟩, by rw [hf 166 (by omega)]; exact m3, m4.fr (hf 168 (by omega)), m5.fr (hf 170 (by omega)), ⟨by rw [hf 166 (by omega)]; exact m6, fun j hj => (m7 j hj).fr (hf 171 (by omega))⟩, m8.fr (hf 172 (by omega)) (hf 173 (by omega)), by rw [hf 166 (by omega)]; exact m9, ⟨by rw [hf 166 (by omega)]; exact m10, fun i hi => by rw [hf 174 (by omega)]; exact m11 i hi⟩, ⟨by rw [hf 166 (by omega)]; exact m12, fun i hi => by rw [hf 175 (by omega)]; exact m13 i hi⟩⟩
theorem m_in {X : CX} {d : Nat} {g : Mem} {K : Int → Mem → Prop} (x a b : Int) (hx : R32 x) (ha : R32 a) (hb : R32 b) (h : K (b01 (decide (a ≤ x ∧ x ≤ b))) g) : EI X (d) mX11_in [vi x, vi a, vi b] Z0 g K := by
  show AJ X (d) mX11_in 0 0 (QI Z0 K) 0 0 0 [some (vi x), some (vi a), some (vi b)] [] Z0 g
  refine r_iload_n (pc' := 1) dX11_in_0 rfl rfl ?_
  refine r_iload_n (pc' := 2) dX11_in_1 rfl rfl ?_
  refine r_icmp_lt (tgt := 14) (pc' := 5) dX11_in_2 rfl rfl (by omega) (by omega) (fun c2 => ?_) (fun c2 => ?_)
  · refine r_iconst (pc' := 15) dX11_in_14 rfl ?_
    refine r_reti dX11_in_15 rfl (Or.inr ⟨rfl, by first | exact Or.inl rfl | exact Or.inr rfl | omega⟩) ?_
    first | (rw [decide_eq_true (by omega)] at h; exact h) | (rw [decide_eq_false (by omega)] at h; exact h)
  · refine r_iload_n (pc' := 6) dX11_in_5 rfl rfl ?_
    refine r_iload_n (pc' := 7) dX11_in_6 rfl rfl ?_
    refine r_icmp_gt (tgt := 14) (pc' := 10) dX11_in_7 rfl rfl (by omega) (by omega) (fun c7 => ?_) (fun c7 => ?_)
    · refine r_iconst (pc' := 15) dX11_in_14 rfl ?_
      refine r_reti dX11_in_15 rfl (Or.inr ⟨rfl, by first | exact Or.inl rfl | exact Or.inr rfl | omega⟩) ?_
      first | (rw [decide_eq_true (by omega)] at h; exact h) | (rw [decide_eq_false (by omega)] at h; exact h)
    · refine r_iconst (pc' := 11) dX11_in_10 rfl ?_
      refine r_goto (tgt := 15) dX11_in_11 rfl ?_
      refine r_reti dX11_in_15 rfl (Or.inr ⟨rfl, by first | exact Or.inl rfl | exact Or.inr rfl | omega⟩) ?_
      first | (rw [decide_eq_true (by omega)] at h; exact h) | (rw [decide_eq_false (by omega)] at h; exact h)
theorem m_has {X : CX} {d : Nat} {g : Mem} {K : Int → Mem → Prop} {s k : Nat} (hs : s < 128) (hk : k < 32) (h : K (b01 (s.testBit k)) g) : EI X (d) mX11_has [vi (s : Int), vi (k : Int)] Z0 g K := by
  show AJ X (d) mX11_has 0 0 (QI Z0 K) 0 0 0 [some (vi (s : Int)), some (vi (k : Int))] [] Z0 g
  have e := bit_t hs hk
  unfold bitI at e
  refine r_iload_n (pc' := 1) dX11_has_0 rfl rfl ?_
  refine r_iload_n (pc' := 2) dX11_has_1 rfl rfl ?_
  refine r_ishr (pc' := 3) dX11_has_2 rfl ?_
  refine r_iconst (pc' := 4) dX11_has_3 rfl ?_
  refine r_iand (pc' := 5) dX11_has_4 rfl ?_
  rw [e]
  refine r_iconst (pc' := 6) dX11_has_5 rfl ?_
  refine r_icmp_ne (tgt := 13) (pc' := 9) dX11_has_6 rfl rfl (b01_R _) (by decide) (fun c6 => ?_) (fun c6 => ?_)
  · refine r_iconst (pc' := 14) dX11_has_13 rfl ?_
    refine r_reti dX11_has_14 rfl (Or.inr ⟨rfl, by first | exact Or.inl rfl | exact Or.inr rfl | omega⟩) ?_
    cases hb : s.testBit k <;> rw [hb] at c6 h <;> first | exact h | exact absurd c6 (by decide) | exact absurd rfl c6
  · refine r_iconst (pc' := 10) dX11_has_9 rfl ?_
    refine r_goto (tgt := 14) dX11_has_10 rfl ?_
    refine r_reti dX11_has_14 rfl (Or.inr ⟨rfl, by first | exact Or.inl rfl | exact Or.inr rfl | omega⟩) ?_
    cases hb : s.testBit k <;> rw [hb] at c6 h <;> first | exact h | exact absurd c6 (by decide) | exact absurd rfl c6
theorem lm_ones {X : CX} {d : Nat} {g : Mem} {K : Int → Mem → Prop}  {s : Nat} (hs : s < 128) : ∀ (k p acc : Nat), p + k = 7 → K ((cnF (fun k => s.testBit k) k p acc : Nat) : Int) g → AJ X (d) mX11_ones 0 0 (QI Z0 K) 0 0 4 [some (vi (s : Int)), some (vi (acc : Int)), some (vi (p : Int))] [] Z0 g := by
  intro k
  induction k with
  | zero =>
    intro p acc hp h
    refine r_iload_n (pc' := 5) dX11_ones_4 rfl rfl ?_
    refine r_bipush (pc' := 7) dX11_ones_5 rfl (by decide) ?_
    refine r_icmp_ge (tgt := 24) (pc' := 10) dX11_ones_7 rfl rfl (by omega) (by omega) (fun c7 => ?_) (fun c7 => ?_)
    · refine r_iload_n (pc' := 25) dX11_ones_24 rfl rfl ?_
      refine r_reti dX11_ones_25 rfl (Or.inl rfl) ?_
      exact h
    · exact absurd c7 (by omega)
  | succ k ih =>
    intro p acc hp h
    have e := bit_t hs (show p < 32 by omega)
    unfold bitI at e
    unfold cnF at h
    refine r_iload_n (pc' := 5) dX11_ones_4 rfl rfl ?_
    refine r_bipush (pc' := 7) dX11_ones_5 rfl (by decide) ?_
    refine r_icmp_ge (tgt := 24) (pc' := 10) dX11_ones_7 rfl rfl (by omega) (by omega) (fun c7 => ?_) (fun c7 => ?_)
    · exact absurd c7 (by omega)
    · refine r_iload_n (pc' := 11) dX11_ones_10 rfl rfl ?_
      refine r_iload_n (pc' := 12) dX11_ones_11 rfl rfl ?_
      refine r_iload_n (pc' := 13) dX11_ones_12 rfl rfl ?_
      refine r_ishr (pc' := 14) dX11_ones_13 rfl ?_
      refine r_iconst (pc' := 15) dX11_ones_14 rfl ?_
      refine r_iand (pc' := 16) dX11_ones_15 rfl ?_
      rw [e]
      refine r_iadd (pc' := 17) dX11_ones_16 rfl ?_
      refine r_istore_n (pc' := 18) dX11_ones_17 rfl rfl ?_
      refine r_iinc (pc' := 21) dX11_ones_18 rfl rfl rfl ?_
      refine r_goto (tgt := 4) dX11_ones_21 rfl ?_
      have e2 : (acc : Int) + b01 (s.testBit p) = ((if s.testBit p = true then acc + 1 else acc : Nat) : Int) := by
        cases s.testBit p
        · rw [if_neg (by decide)]; show (acc : Int) + 0 = acc; omega
        · rw [if_pos rfl]; show (acc : Int) + 1 = ((acc + 1 : Nat) : Int); omega
      rw [e2]
      exact ih (p + 1) _ (by omega) h
theorem m_ones {X : CX} {d : Nat} {g : Mem} {K : Int → Mem → Prop} {s : Nat} (hs : s < 128) (h : K (popN s) g) : EI X (d) mX11_ones [vi (s : Int)] Z0 g K := by
  show AJ X (d) mX11_ones 0 0 (QI Z0 K) 0 0 0 [some (vi (s : Int)), none, none] [] Z0 g
  refine r_iconst (pc' := 1) dX11_ones_0 rfl ?_
  refine r_istore_n (pc' := 2) dX11_ones_1 rfl rfl ?_
  refine r_iconst (pc' := 3) dX11_ones_2 rfl ?_
  refine r_istore_n (pc' := 4) dX11_ones_3 rfl rfl ?_
  exact lm_ones hs 7 0 0 rfl h
theorem m_isFlag {X : CX} {d : Nat} {g : Mem} {K : Int → Mem → Prop} {u : PV} {v : LV} (hB : MB g u v) (f : Int) (hf0 : R32 f) (h : K (b01 (decide (0 ≤ f ∧ f < Pf u))) g) : EI X (d + 1) mX11_isFlag [vr 166, vi f] Z0 g K := by
  show AJ X (d + 1) mX11_isFlag 0 0 (QI Z0 K) 0 0 0 [some (vr 166), some (vi f)] [] Z0 g
  obtain ⟨hQ, hU, hC, hW⟩ := id hB
  obtain ⟨hy, hi, hc, ht, ho, hf, hw_⟩ := id hC
  obtain ⟨w0, w1, w2, w3, w4, w5, w6, w7⟩ := id hW
  obtain ⟨p6, p7, p8, p9, p10, pk, pg, px, py⟩ := id hQ
  obtain ⟨u0, u1, u2, u3, u4, u5, u6, u7⟩ := id hU
  refine r_iload_n (pc' := 1) dX11_isFlag_0 rfl rfl ?_
  refine r_iconst (pc' := 2) dX11_isFlag_1 rfl ?_
  refine r_aload_n (pc' := 3) dX11_isFlag_2 rfl rfl ?_
  refine r_getr (pc' := 6) dX11_isFlag_3 rfl fX11_13 z166 rfl ?_
  refine r_iconst (pc' := 7) dX11_isFlag_6 rfl ?_
  refine r_iaload (pc' := 8) dX11_isFlag_7 rfl z168 (by decide) (by omega) (by omega) p8 ?_
  refine r_iconst (pc' := 9) dX11_isFlag_8 rfl ?_
  refine r_isub (pc' := 10) dX11_isFlag_9 rfl ?_
  refine r_si3 (pc' := 13) dX11_isFlag_10 rfl qX11_in lX11_67 rfl rfl rfl (Nat.zero_le _) (Nat.zero_le _) (m_in f 0 ((Pf u : Int) - 1) (by omega) (by omega) (by omega) ?_)
  refine r_reti dX11_isFlag_13 rfl (Or.inr ⟨rfl, b01_01 _⟩) ?_
  rw [show (decide (0 ≤ f ∧ f ≤ (Pf u : Int) - 1)) = decide (0 ≤ f ∧ f < (Pf u : Int)) from decide_eq_decide.mpr (by omega)]
  exact h
def plcL (o : Nat → Nat) (f : Int) : Nat → Nat → Int → Int
  | 0, _, x => x
  | k + 1, p, x => plcL o f k (p + 1) (if (o p : Int) = f then (p : Int) else x)
theorem plcL_eq {o : Nat → Nat} {f : Int} : ∀ (k p : Nat) (x : Int), (∀ a b, p ≤ a → a < p + k → p ≤ b → b < p + k → o a = o b → a = b) → plcL o f k p x = if plc o f k p = -1 then x else plc o f k p
  | 0, _, x, _ => rfl
  | k + 1, p, x, hn => by
    unfold plcL plc
    rw [plcL_eq k (p + 1) _ (fun a b h1 h2 h3 h4 e => hn a b (by omega) (by omega) (by omega) (by omega) e)]
    by_cases hf : (o p : Int) = f
    · have hnone : plc o f k (p + 1) = -1 := by
        rcases plc_b (o := o) (f := f) k (p + 1) with h | h
        · exact h
        · exfalso
          have := hn p (plc o f k (p + 1)).toNat (by omega) (by omega) (by omega) (by omega) (by omega)
          omega
      rw [if_pos hf, if_pos hnone, if_pos hf, if_neg (by omega)]
    · rw [if_neg hf, if_neg hf]
theorem plcL_0 {F : Nat} {v : LV} (h : LW F v) (f : Int) : plcL (Lo v) f (Ln v) 0 (-1) = plc (Lo v) f (Ln v) 0 := by
  rw [plcL_eq _ _ _ (fun a b _ h2 _ h4 e => h.2.2.2.1 a b (by omega) (by omega) e)]
  split
  · rename_i e; exact e.symm
  · rfl
theorem lm_plc {X : CX} {d : Nat} {g : Mem} {K : Int → Mem → Prop} {u : PV} {v : LV} (hB : MB g u v)  (f : Int) (hf0 : R32 f) : ∀ (k p : Nat) (x : Int), p + k = Ln v → K (plcL (Lo v) f k p x) g → AJ X (d) mX11_placeOf 0 0 (QI Z0 K) 0 0 4 [some (vr 166), some (vi f), some (vi x), some (vi (p : Int))] [] Z0 g := by
  obtain ⟨hQ, hU, hC, hW⟩ := id hB
  obtain ⟨hy, hi, hc, ht, ho, hf, hw_⟩ := id hC
  obtain ⟨w0, w1, w2, w3, w4, w5, w6, w7⟩ := id hW
  obtain ⟨p6, p7, p8, p9, p10, pk, pg, px, py⟩ := id hQ
  obtain ⟨u0, u1, u2, u3, u4, u5, u6, u7⟩ := id hU
  intro k
  induction k with
  | zero =>
    intro p x hp h
    refine r_iload_n (pc' := 5) dX11_placeOf_4 rfl rfl ?_
    refine r_aload_n (pc' := 6) dX11_placeOf_5 rfl rfl ?_
    refine r_getr (pc' := 9) dX11_placeOf_6 rfl fX11_19 z166 rfl ?_
    refine r_iconst (pc' := 10) dX11_placeOf_9 rfl ?_
    refine r_iaload (pc' := 11) dX11_placeOf_10 rfl z170 (by decide) (by omega) (by omega) hc ?_
    refine r_icmp_ge (tgt := 38) (pc' := 14) dX11_placeOf_11 rfl rfl (by omega) (by omega) (fun c11 => ?_) (fun c11 => ?_)
    · refine r_iload_n (pc' := 39) dX11_placeOf_38 rfl rfl ?_
      refine r_reti dX11_placeOf_39 rfl (Or.inl rfl) ?_
      exact h
    · exact absurd c11 (by omega)
  | succ k ih =>
    intro p x hp h
    have q1 := ho p (by omega)
    have q2 := w2 p (by omega)
    unfold plcL at h
    refine r_iload_n (pc' := 5) dX11_placeOf_4 rfl rfl ?_
    refine r_aload_n (pc' := 6) dX11_placeOf_5 rfl rfl ?_
    refine r_getr (pc' := 9) dX11_placeOf_6 rfl fX11_19 z166 rfl ?_
    refine r_iconst (pc' := 10) dX11_placeOf_9 rfl ?_
    refine r_iaload (pc' := 11) dX11_placeOf_10 rfl z170 (by decide) (by omega) (by omega) hc ?_
    refine r_icmp_ge (tgt := 38) (pc' := 14) dX11_placeOf_11 rfl rfl (by omega) (by omega) (fun c11 => ?_) (fun c11 => ?_)
    · exact absurd c11 (by omega)
    · refine r_aload_n (pc' := 15) dX11_placeOf_14 rfl rfl ?_
      refine r_getr (pc' := 18) dX11_placeOf_15 rfl fX11_19 z166 rfl ?_
      refine r_iconst (pc' := 19) dX11_placeOf_18 rfl ?_
      refine r_iload_n (pc' := 20) dX11_placeOf_19 rfl rfl ?_
      refine r_iadd (pc' := 21) dX11_placeOf_20 rfl ?_
      refine r_iaload (pc' := 22) dX11_placeOf_21 rfl z170 (by decide) (by omega) (by omega) q1 ?_
      refine r_iload_n (pc' := 23) dX11_placeOf_22 rfl rfl ?_
      refine r_icmp_ne (tgt := 30) (pc' := 26) dX11_placeOf_23 rfl rfl (by omega) (by omega) (fun c23 => ?_) (fun c23 => ?_)
      · refine r_iload_n (pc' := 31) dX11_placeOf_30 rfl rfl ?_
        refine r_istore_n (pc' := 32) dX11_placeOf_31 rfl rfl ?_
        refine r_iinc (pc' := 35) dX11_placeOf_32 rfl rfl rfl ?_
        refine r_goto (tgt := 4) dX11_placeOf_35 rfl ?_
        first | (rw [if_pos (by omega)] at h; exact ih (p + 1) _ (by omega) h) | (rw [if_neg (by omega)] at h; exact ih (p + 1) _ (by omega) h)
      · refine r_iload_n (pc' := 27) dX11_placeOf_26 rfl rfl ?_
        refine r_goto (tgt := 31) dX11_placeOf_27 rfl ?_
        refine r_istore_n (pc' := 32) dX11_placeOf_31 rfl rfl ?_
        refine r_iinc (pc' := 35) dX11_placeOf_32 rfl rfl rfl ?_
        refine r_goto (tgt := 4) dX11_placeOf_35 rfl ?_
        first | (rw [if_pos (by omega)] at h; exact ih (p + 1) _ (by omega) h) | (rw [if_neg (by omega)] at h; exact ih (p + 1) _ (by omega) h)
theorem m_placeOf {X : CX} {d : Nat} {g : Mem} {K : Int → Mem → Prop} {u : PV} {v : LV} (hB : MB g u v) (f : Int) (hf0 : R32 f) (h : K (plc (Lo v) f (Ln v) 0) g) : EI X (d) mX11_placeOf [vr 166, vi f] Z0 g K := by
  show AJ X (d) mX11_placeOf 0 0 (QI Z0 K) 0 0 0 [some (vr 166), some (vi f), none, none] [] Z0 g
  refine r_iconst (pc' := 1) dX11_placeOf_0 rfl ?_
  refine r_istore_n (pc' := 2) dX11_placeOf_1 rfl rfl ?_
  refine r_iconst (pc' := 3) dX11_placeOf_2 rfl ?_
  refine r_istore_n (pc' := 4) dX11_placeOf_3 rfl rfl ?_
  exact lm_plc hB f hf0 (Ln v) 0 (-1) (by omega) (by rw [plcL_0 hB.2.2.2]; exact h)
theorem lm_on {X : CX} {d : Nat} {g : Mem} {K : Int → Mem → Prop} {u : PV} {v : LV} (hB : MB g u v)  : ∀ (k p acc : Nat), p + k = Ln v → acc < 128 → K ((orF (fun _ => true) (fun p => 2 ^ Lo v p) k p acc : Nat) : Int) g → AJ X (d) mX11_onIt 0 0 (QI Z0 K) 0 0 4 [some (vr 166), some (vi (acc : Int)), some (vi (p : Int))] [] Z0 g := by
  obtain ⟨hQ, hU, hC, hW⟩ := id hB
  obtain ⟨hy, hi, hc, ht, ho, hf, hw_⟩ := id hC
  obtain ⟨w0, w1, w2, w3, w4, w5, w6, w7⟩ := id hW
  obtain ⟨p6, p7, p8, p9, p10, pk, pg, px, py⟩ := id hQ
  obtain ⟨u0, u1, u2, u3, u4, u5, u6, u7⟩ := id hU
  intro k
  induction k with
  | zero =>
    intro p acc hp ha h
    refine r_iload_n (pc' := 5) dX11_onIt_4 rfl rfl ?_
    refine r_aload_n (pc' := 6) dX11_onIt_5 rfl rfl ?_
    refine r_getr (pc' := 9) dX11_onIt_6 rfl fX11_19 z166 rfl ?_
    refine r_iconst (pc' := 10) dX11_onIt_9 rfl ?_
    refine r_iaload (pc' := 11) dX11_onIt_10 rfl z170 (by decide) (by omega) (by omega) hc ?_
    refine r_icmp_ge (tgt := 33) (pc' := 14) dX11_onIt_11 rfl rfl (by omega) (by omega) (fun c11 => ?_) (fun c11 => ?_)
    · refine r_iload_n (pc' := 34) dX11_onIt_33 rfl rfl ?_
      refine r_reti dX11_onIt_34 rfl (Or.inl rfl) ?_
      exact h
    · exact absurd c11 (by omega)
  | succ k ih =>
    intro p acc hp ha h
    have q1 := ho p (by omega)
    have q2 := w2 p (by omega)
    have e1 := shl1 (k := Lo v p) (by omega)
    have e2 := or_n ha (pow7 (show Lo v p < 7 by omega))
    have e4 := or128 ha (pow7 (show Lo v p < 7 by omega))
    refine r_iload_n (pc' := 5) dX11_onIt_4 rfl rfl ?_
    refine r_aload_n (pc' := 6) dX11_onIt_5 rfl rfl ?_
    refine r_getr (pc' := 9) dX11_onIt_6 rfl fX11_19 z166 rfl ?_
    refine r_iconst (pc' := 10) dX11_onIt_9 rfl ?_
    refine r_iaload (pc' := 11) dX11_onIt_10 rfl z170 (by decide) (by omega) (by omega) hc ?_
    refine r_icmp_ge (tgt := 33) (pc' := 14) dX11_onIt_11 rfl rfl (by omega) (by omega) (fun c11 => ?_) (fun c11 => ?_)
    · exact absurd c11 (by omega)
    · refine r_iload_n (pc' := 15) dX11_onIt_14 rfl rfl ?_
      refine r_iconst (pc' := 16) dX11_onIt_15 rfl ?_
      refine r_aload_n (pc' := 17) dX11_onIt_16 rfl rfl ?_
      refine r_getr (pc' := 20) dX11_onIt_17 rfl fX11_19 z166 rfl ?_
      refine r_iconst (pc' := 21) dX11_onIt_20 rfl ?_
      refine r_iload_n (pc' := 22) dX11_onIt_21 rfl rfl ?_
      refine r_iadd (pc' := 23) dX11_onIt_22 rfl ?_
      refine r_iaload (pc' := 24) dX11_onIt_23 rfl z170 (by decide) (by omega) (by omega) q1 ?_
      refine r_ishl (pc' := 25) dX11_onIt_24 rfl ?_
      rw [e1]
      refine r_ior (pc' := 26) dX11_onIt_25 rfl ?_
      rw [e2]
      refine r_istore_n (pc' := 27) dX11_onIt_26 rfl rfl ?_
      refine r_iinc (pc' := 30) dX11_onIt_27 rfl rfl rfl ?_
      refine r_goto (tgt := 4) dX11_onIt_30 rfl ?_
      exact ih (p + 1) _ (by omega) e4 h
theorem m_onIt {X : CX} {d : Nat} {g : Mem} {K : Int → Mem → Prop} {u : PV} {v : LV} (hB : MB g u v) (h : K (onN v) g) : EI X (d) mX11_onIt [vr 166] Z0 g K := by
  show AJ X (d) mX11_onIt 0 0 (QI Z0 K) 0 0 0 [some (vr 166), none, none] [] Z0 g
  refine r_iconst (pc' := 1) dX11_onIt_0 rfl ?_
  refine r_istore_n (pc' := 2) dX11_onIt_1 rfl rfl ?_
  refine r_iconst (pc' := 3) dX11_onIt_2 rfl ?_
  refine r_istore_n (pc' := 4) dX11_onIt_3 rfl rfl ?_
  exact lm_on hB (Ln v) 0 0 (by omega) (by decide) h
theorem M_fault {X : CX} {d : Nat} {g : Mem} {K : Int → Mem → Prop} {tN : Nat} {tX : Nat → Int} {flt : Int} {u : PV} {v : LV} {kn : Nat} {kL : Nat → LV} {im : Nat → Bool × Int × LV} {sd : Int} {ln : Nat} {la : Nat → Nat} {lr : Nat → Bool} {bn : Nat} {bp : Nat → Nat} {bf : Nat → Int} (hM : MS g tN tX flt u v kn kL im sd ln la lr bn bp bf) (hS : WS tN tX flt u v kn kL im sd ln la lr bn bp bf) (h : ∀ g' : Mem, MS g' tN tX flt u v kn kL im sd ln la lr bn bp bf → FrM g g' → K (flt) g') : EI X (d) mX11_fault [vr 166] Z0 g K := by
  show AJ X (d) mX11_fault 0 0 (QI Z0 K) 0 0 0 [some (vr 166)] [] Z0 g
  obtain ⟨⟨m1, m2⟩, m3, m4, m5, ⟨m6, m7⟩, m8, m9, ⟨m10, m11⟩, ⟨m12, m13⟩⟩ := id hM
  obtain ⟨⟨s1, s2⟩, s3, s4, s5, ⟨s6, s7⟩, s8, ⟨s9, s10⟩, ⟨s11, s12⟩, ⟨s13, s14⟩⟩ := id hS
  have hB : MB g u v := ⟨m4, s4, m5, s5⟩
  obtain ⟨hQ, hU, hC, hW⟩ := id hB
  obtain ⟨hy, hi, hc, ht, ho, hf, hw_⟩ := id hC
  obtain ⟨w0, w1, w2, w3, w4, w5, w6, w7⟩ := id hW
  obtain ⟨p6, p7, p8, p9, p10, pk, pg, px, py⟩ := id hQ
  obtain ⟨u0, u1, u2, u3, u4, u5, u6, u7⟩ := id hU
  refine r_aload_n (pc' := 1) dX11_fault_0 rfl rfl ?_
  refine r_getf (pc' := 4) (kI := 15) dX11_fault_1 rfl fX11_38 z166 rfl rfl m3 ?_
  refine r_reti dX11_fault_4 rfl (Or.inl rfl) ?_
  exact h g hM (FrM.rf g)
theorem M_at {X : CX} {d : Nat} {g : Mem} {K : Int → Mem → Prop} {tN : Nat} {tX : Nat → Int} {flt : Int} {u : PV} {v : LV} {kn : Nat} {kL : Nat → LV} {im : Nat → Bool × Int × LV} {sd : Int} {ln : Nat} {la : Nat → Nat} {lr : Nat → Bool} {bn : Nat} {bp : Nat → Nat} {bf : Nat → Int} (hM : MS g tN tX flt u v kn kL im sd ln la lr bn bp bf) (hS : WS tN tX flt u v kn kL im sd ln la lr bn bp bf) (p : Int) (hp : R32 p) (h : ∀ g' : Mem, MS g' tN tX flt u v kn kL im sd ln la lr bn bp bf → FrM g g' → K (E_at v p) g') : EI X (d + 1) mX11_at [vr 166, vi p] Z0 g K := by
  show AJ X (d + 1) mX11_at 0 0 (QI Z0 K) 0 0 0 [some (vr 166), some (vi p)] [] Z0 g
  obtain ⟨⟨m1, m2⟩, m3, m4, m5, ⟨m6, m7⟩, m8, m9, ⟨m10, m11⟩, ⟨m12, m13⟩⟩ := id hM
  obtain ⟨⟨s1, s2⟩, s3, s4, s5, ⟨s6, s7⟩, s8, ⟨s9, s10⟩, ⟨s11, s12⟩, ⟨s13, s14⟩⟩ := id hS
  have hB : MB g u v := ⟨m4, s4, m5, s5⟩
  obtain ⟨hQ, hU, hC, hW⟩ := id hB
  obtain ⟨hy, hi, hc, ht, ho, hf, hw_⟩ := id hC
  obtain ⟨w0, w1, w2, w3, w4, w5, w6, w7⟩ := id hW
  obtain ⟨p6, p7, p8, p9, p10, pk, pg, px, py⟩ := id hQ
  obtain ⟨u0, u1, u2, u3, u4, u5, u6, u7⟩ := id hU
  have h9 := h g hM (FrM.rf g)
  unfold E_at at h9
  refine r_iload_n (pc' := 1) dX11_at_0 rfl rfl ?_
  refine r_iconst (pc' := 2) dX11_at_1 rfl ?_
  refine r_bipush (pc' := 4) dX11_at_2 rfl (by decide) ?_
  refine r_si3 (pc' := 7) dX11_at_4 rfl qX11_in lX11_67 rfl rfl rfl (Nat.zero_le _) (Nat.zero_le _) (m_in p 0 6 (by omega) (by omega) (by omega) ?_)
  refine r_if_ne (tgt := 15) (pc' := 10) dX11_at_7 rfl rfl (b01_R _) (fun c7 => ?_) (fun c7 => ?_)
  · have hd := of_decide_eq_true (b01_ne c7)
    rw [if_pos hd] at h9
    unfold atN at h9
    refine r_iload_n (pc' := 16) dX11_at_15 rfl rfl ?_
    refine r_aload_n (pc' := 17) dX11_at_16 rfl rfl ?_
    refine r_getr (pc' := 20) dX11_at_17 rfl fX11_19 z166 rfl ?_
    refine r_iconst (pc' := 21) dX11_at_20 rfl ?_
    refine r_iaload (pc' := 22) dX11_at_21 rfl z170 (by decide) (by omega) (by omega) hc ?_
    refine r_icmp_ge (tgt := 36) (pc' := 25) dX11_at_22 rfl rfl (by omega) (by omega) (fun c22 => ?_) (fun c22 => ?_)
    · refine r_iconst (pc' := 37) dX11_at_36 rfl ?_
      refine r_reti dX11_at_37 rfl (Or.inl rfl) ?_
      first | exact h9 | (rw [if_pos (by omega)] at h9; exact h9) | (rw [if_neg (by omega)] at h9; exact h9)
    · refine r_aload_n (pc' := 26) dX11_at_25 rfl rfl ?_
      refine r_getr (pc' := 29) dX11_at_26 rfl fX11_19 z166 rfl ?_
      refine r_iconst (pc' := 30) dX11_at_29 rfl ?_
      refine r_iload_n (pc' := 31) dX11_at_30 rfl rfl ?_
      refine r_iadd (pc' := 32) dX11_at_31 rfl ?_
      refine r_iaload (pc' := 33) (x := (Lo v p.toNat : Int)) dX11_at_32 rfl z170 (by decide) (by omega) (by omega) (by have := ho p.toNat (by omega); rw [show ((p.toNat : Nat) : Int) = p by omega] at this; exact this) ?_
      refine r_goto (tgt := 37) dX11_at_33 rfl ?_
      refine r_reti dX11_at_37 rfl (Or.inl rfl) ?_
      first | exact h9 | (rw [if_pos (by omega)] at h9; exact h9) | (rw [if_neg (by omega)] at h9; exact h9)
  · have hd := of_decide_eq_false (b01_eq c7)
    rw [if_neg hd] at h9
    refine r_ldc (z := -1000000002) (pc' := 12) dX11_at_10 rfl kX11_71 ?_
    refine r_goto (tgt := 37) dX11_at_12 rfl ?_
    refine r_reti dX11_at_37 rfl (Or.inl rfl) ?_
    first | exact h9 | (rw [if_pos (by omega)] at h9; exact h9) | (rw [if_neg (by omega)] at h9; exact h9)
theorem M_tear {X : CX} {d : Nat} {g : Mem} {K : Int → Mem → Prop} {tN : Nat} {tX : Nat → Int} {flt : Int} {u : PV} {v : LV} {kn : Nat} {kL : Nat → LV} {im : Nat → Bool × Int × LV} {sd : Int} {ln : Nat} {la : Nat → Nat} {lr : Nat → Bool} {bn : Nat} {bp : Nat → Nat} {bf : Nat → Int} (hM : MS g tN tX flt u v kn kL im sd ln la lr bn bp bf) (hS : WS tN tX flt u v kn kL im sd ln la lr bn bp bf) (h : ∀ g' : Mem, MS g' tN tX flt u v kn kL im sd 0 la lr 0 bp bf → FrM g g' → K ((ln : Int) + bn) g') : EI X (d) mX11_tear [vr 166] Z0 g K := by
  show AJ X (d) mX11_tear 0 0 (QI Z0 K) 0 0 0 [some (vr 166), none] [] Z0 g
  obtain ⟨⟨m1, m2⟩, m3, m4, m5, ⟨m6, m7⟩, m8, m9, ⟨m10, m11⟩, ⟨m12, m13⟩⟩ := id hM
  obtain ⟨⟨s1, s2⟩, s3, s4, s5, ⟨s6, s7⟩, s8, ⟨s9, s10⟩, ⟨s11, s12⟩, ⟨s13, s14⟩⟩ := id hS
  have hB : MB g u v := ⟨m4, s4, m5, s5⟩
  obtain ⟨hQ, hU, hC, hW⟩ := id hB
  obtain ⟨hy, hi, hc, ht, ho, hf, hw_⟩ := id hC
  obtain ⟨w0, w1, w2, w3, w4, w5, w6, w7⟩ := id hW
  obtain ⟨p6, p7, p8, p9, p10, pk, pg, px, py⟩ := id hQ
  obtain ⟨u0, u1, u2, u3, u4, u5, u6, u7⟩ := id hU
  refine r_aload_n (pc' := 1) dX11_tear_0 rfl rfl ?_
  refine r_getf (pc' := 4) (kI := 11) dX11_tear_1 rfl fX11_112 z166 rfl rfl m10 ?_
  refine r_aload_n (pc' := 5) dX11_tear_4 rfl rfl ?_
  refine r_getf (pc' := 8) (kI := 13) dX11_tear_5 rfl fX11_115 z166 rfl rfl m12 ?_
  refine r_iadd (pc' := 9) dX11_tear_8 rfl ?_
  refine r_istore_n (pc' := 10) dX11_tear_9 rfl rfl ?_
  refine r_aload_n (pc' := 11) dX11_tear_10 rfl rfl ?_
  refine r_iconst (pc' := 12) dX11_tear_11 rfl ?_
  refine r_putf (pc' := 15) (kI := 11) dX11_tear_12 rfl fX11_112 z166 rfl (Or.inl rfl) rfl rfl ?_
  refine r_aload_n (pc' := 16) dX11_tear_15 rfl rfl ?_
  refine r_iconst (pc' := 17) dX11_tear_16 rfl ?_
  refine r_putf (pc' := 20) (kI := 13) dX11_tear_17 rfl fX11_115 z166 rfl (Or.inl rfl) rfl rfl ?_
  refine r_iload_n (pc' := 21) dX11_tear_20 rfl rfl ?_
  refine r_reti dX11_tear_21 rfl (Or.inl rfl) ?_
  have q : ∀ j, j ≠ 166 → mu (mu g 166 11 0) 166 13 0 j = g j := fun j a => by rw [mu_ne a, mu_ne a]
  have r : ∀ k, k ≠ 11 → k ≠ 13 → mu (mu g 166 11 0) 166 13 0 166 k = g 166 k := fun k a b => by rw [mu_at' b, mu_at' a]
  exact h _ ⟨⟨(r 1 (by decide) (by decide)).trans m1, fun k hk => (congrFun (q 167 (by decide)) _).trans (m2 k hk)⟩, (r 15 (by decide) (by decide)).trans m3, m4.fr (q 168 (by decide)), m5.fr (q 170 (by decide)), ⟨(r 6 (by decide) (by decide)).trans m6, fun j hj => (m7 j hj).fr (q 171 (by decide))⟩, MIm.fr m8 (q 172 (by decide)) (q 173 (by decide)), (r 9 (by decide) (by decide)).trans m9, ⟨by rw [mu_at' (by decide), mu_at]; rfl, fun i hi => absurd hi (Nat.not_lt_zero i)⟩, ⟨by rw [mu_at]; rfl, fun i hi => absurd hi (Nat.not_lt_zero i)⟩⟩ ((FrM.fld (by decide)).tr (FrM.fld (by decide)))
theorem M_seed {X : CX} {d : Nat} {g : Mem} {K : Int → Mem → Prop} {tN : Nat} {tX : Nat → Int} {flt : Int} {u : PV} {v : LV} {kn : Nat} {kL : Nat → LV} {im : Nat → Bool × Int × LV} {sd : Int} {ln : Nat} {la : Nat → Nat} {lr : Nat → Bool} {bn : Nat} {bp : Nat → Nat} {bf : Nat → Int} (hM : MS g tN tX flt u v kn kL im sd ln la lr bn bp bf) (hS : WS tN tX flt u v kn kL im sd ln la lr bn bp bf) (x : Int) (hx : R32 x) (h : ∀ g' : Mem, MS g' tN tX flt u v kn kL im (if 0 ≤ x then x else sd) ln la lr bn bp bf → FrM g g' → K (if 0 ≤ x then sd else -1000000002) g') : EI X (d) mX11_seed [vr 166, vi x] Z0 g K := by
  show AJ X (d) mX11_seed 0 0 (QI Z0 K) 0 0 0 [some (vr 166), some (vi x), none] [] Z0 g
  obtain ⟨⟨m1, m2⟩, m3, m4, m5, ⟨m6, m7⟩, m8, m9, ⟨m10, m11⟩, ⟨m12, m13⟩⟩ := id hM
  obtain ⟨⟨s1, s2⟩, s3, s4, s5, ⟨s6, s7⟩, s8, ⟨s9, s10⟩, ⟨s11, s12⟩, ⟨s13, s14⟩⟩ := id hS
  have hB : MB g u v := ⟨m4, s4, m5, s5⟩
  obtain ⟨hQ, hU, hC, hW⟩ := id hB
  obtain ⟨hy, hi, hc, ht, ho, hf, hw_⟩ := id hC
  obtain ⟨w0, w1, w2, w3, w4, w5, w6, w7⟩ := id hW
  obtain ⟨p6, p7, p8, p9, p10, pk, pg, px, py⟩ := id hQ
  obtain ⟨u0, u1, u2, u3, u4, u5, u6, u7⟩ := id hU
  refine r_iload_n (pc' := 1) dX11_seed_0 rfl rfl ?_
  refine r_if_ge (tgt := 7) (pc' := 4) dX11_seed_1 rfl rfl (by omega) (fun c1 => ?_) (fun c1 => ?_)
  · refine r_aload_n (pc' := 8) dX11_seed_7 rfl rfl ?_
    refine r_getf (pc' := 11) (kI := 9) dX11_seed_8 rfl fX11_180 z166 rfl rfl m9 ?_
    refine r_istore_n (pc' := 12) dX11_seed_11 rfl rfl ?_
    refine r_aload_n (pc' := 13) dX11_seed_12 rfl rfl ?_
    refine r_iload_n (pc' := 14) dX11_seed_13 rfl rfl ?_
    refine r_putf (pc' := 17) (kI := 9) dX11_seed_14 rfl fX11_180 z166 rfl (Or.inl rfl) rfl rfl ?_
    refine r_iload_n (pc' := 18) dX11_seed_17 rfl rfl ?_
    refine r_reti dX11_seed_18 rfl (Or.inl rfl) ?_
    have hok : 0 ≤ x := by omega
    have h9 := h _ (by simp only [if_pos hok]; exact ⟨⟨(mu_at' (by decide)).trans m1, fun k hk => (congrFun (mu_ne (by decide)) _).trans (m2 k hk)⟩, (mu_at' (by decide)).trans m3, m4.fr (mu_ne (by decide)), m5.fr (mu_ne (by decide)), ⟨(mu_at' (by decide)).trans m6, fun j hj => (m7 j hj).fr (mu_ne (by decide))⟩, MIm.fr m8 (mu_ne (by decide)) (mu_ne (by decide)), mu_at, ⟨(mu_at' (by decide)).trans m10, fun i hi => by rw [mu_ne (by decide)]; exact m11 i hi⟩, ⟨(mu_at' (by decide)).trans m12, fun i hi => by rw [mu_ne (by decide)]; exact m13 i hi⟩⟩) (FrM.fld (by decide))
    rw [if_pos hok] at h9
    exact h9
  · refine r_ldc (z := -1000000002) (pc' := 6) dX11_seed_4 rfl kX11_71 ?_
    refine r_reti dX11_seed_6 rfl (Or.inl rfl) ?_
    have hno : ¬ 0 ≤ x := by omega
    have h9 := h g (by simp only [if_neg hno]; exact hM) (FrM.rf g)
    rw [if_neg hno] at h9
    exact h9
theorem M_feed {X : CX} {d : Nat} {g : Mem} {K : Int → Mem → Prop} {tN : Nat} {tX : Nat → Int} {flt : Int} {u : PV} {v : LV} {kn : Nat} {kL : Nat → LV} {im : Nat → Bool × Int × LV} {sd : Int} {ln : Nat} {la : Nat → Nat} {lr : Nat → Bool} {bn : Nat} {bp : Nat → Nat} {bf : Nat → Int} (hM : MS g tN tX flt u v kn kL im sd ln la lr bn bp bf) (hS : WS tN tX flt u v kn kL im sd ln la lr bn bp bf) (x : Int) (hx : R32 x) (h : ∀ g' : Mem, MS g' (if (0 ≤ x ∧ x ≤ 255) ∧ tN < 240 then tN + 1 else tN) (if (0 ≤ x ∧ x ≤ 255) ∧ tN < 240 then (fun i => if i = tN then x else tX i) else tX) flt u v kn kL im sd ln la lr bn bp bf → FrM g g' → K (E_feed tN x) g') : EI X (d + 1) mX11_feed [vr 166, vi x] Z0 g K := by
  show AJ X (d + 1) mX11_feed 0 0 (QI Z0 K) 0 0 0 [some (vr 166), some (vi x)] [] Z0 g
  obtain ⟨⟨m1, m2⟩, m3, m4, m5, ⟨m6, m7⟩, m8, m9, ⟨m10, m11⟩, ⟨m12, m13⟩⟩ := id hM
  obtain ⟨⟨s1, s2⟩, s3, s4, s5, ⟨s6, s7⟩, s8, ⟨s9, s10⟩, ⟨s11, s12⟩, ⟨s13, s14⟩⟩ := id hS
  have hB : MB g u v := ⟨m4, s4, m5, s5⟩
  obtain ⟨hQ, hU, hC, hW⟩ := id hB
  obtain ⟨hy, hi, hc, ht, ho, hf, hw_⟩ := id hC
  obtain ⟨w0, w1, w2, w3, w4, w5, w6, w7⟩ := id hW
  obtain ⟨p6, p7, p8, p9, p10, pk, pg, px, py⟩ := id hQ
  obtain ⟨u0, u1, u2, u3, u4, u5, u6, u7⟩ := id hU
  refine r_iload_n (pc' := 1) dX11_feed_0 rfl rfl ?_
  refine r_iconst (pc' := 2) dX11_feed_1 rfl ?_
  refine r_sipush (pc' := 5) dX11_feed_2 rfl (by decide) ?_
  refine r_si3 (pc' := 8) dX11_feed_5 rfl qX11_in lX11_67 rfl rfl rfl (Nat.zero_le _) (Nat.zero_le _) (m_in x 0 255 (by omega) (by omega) (by omega) ?_)
  refine r_if_ne (tgt := 14) (pc' := 11) dX11_feed_8 rfl rfl (b01_R _) (fun c8 => ?_) (fun c8 => ?_)
  · have hd := of_decide_eq_true (b01_ne c8)
    refine r_aload_n (pc' := 15) dX11_feed_14 rfl rfl ?_
    refine r_getf (pc' := 18) (kI := 1) dX11_feed_15 rfl fX11_72 z166 rfl rfl m1 ?_
    refine r_sipush (pc' := 21) dX11_feed_18 rfl (by decide) ?_
    refine r_icmp_ne (tgt := 27) (pc' := 24) dX11_feed_21 rfl rfl (by omega) (by omega) (fun c21 => ?_) (fun c21 => ?_)
    · refine r_aload_n (pc' := 28) dX11_feed_27 rfl rfl ?_
      refine r_getr (pc' := 31) dX11_feed_28 rfl fX11_7 z166 rfl ?_
      refine r_aload_n (pc' := 32) dX11_feed_31 rfl rfl ?_
      refine r_getf (pc' := 35) (kI := 1) dX11_feed_32 rfl fX11_72 z166 rfl rfl m1 ?_
      refine r_iload_n (pc' := 36) dX11_feed_35 rfl rfl ?_
      refine r_iastore (pc' := 37) dX11_feed_36 rfl z167 (by decide) (by omega) (by omega) rfl ?_
      refine r_aload_n (pc' := 38) dX11_feed_37 rfl rfl ?_
      refine r_dup (pc' := 39) dX11_feed_38 rfl rfl ?_
      refine r_getf (pc' := 42) (kI := 1) (x := (tN : Int)) dX11_feed_39 rfl fX11_72 z166 rfl rfl (by rw [mu_ne (by decide)]; exact m1) ?_
      refine r_iconst (pc' := 43) dX11_feed_42 rfl ?_
      refine r_iadd (pc' := 44) dX11_feed_43 rfl ?_
      refine r_putf (pc' := 47) (kI := 1) dX11_feed_44 rfl fX11_72 z166 rfl (Or.inl rfl) rfl rfl ?_
      refine r_aload_n (pc' := 48) dX11_feed_47 rfl rfl ?_
      refine r_getf (pc' := 51) (kI := 1) (x := (tN : Int) + 1) dX11_feed_48 rfl fX11_72 z166 rfl rfl mu_at ?_
      refine r_reti dX11_feed_51 rfl (Or.inl rfl) ?_
      have hok : (0 ≤ x ∧ x ≤ 255) ∧ tN < 240 := by omega
      have q : ∀ j, j ≠ 166 → j ≠ 167 → mu (mu g 167 (tN : Int) x) 166 1 ((tN : Int) + 1) j = g j := fun j a b => by rw [mu_ne a, mu_ne b]
      have r : ∀ k, k ≠ 1 → mu (mu g 167 (tN : Int) x) 166 1 ((tN : Int) + 1) 166 k = g 166 k := fun k a => by rw [mu_at' a, mu_ne (by decide)]
      have h9 := h _ (by simp only [if_pos hok]; exact ⟨⟨by rw [mu_at]; omega, fun k hk => by rw [mu_ne (by decide)]; by_cases hk2 : k = tN; (· subst hk2; dsimp only; rw [mu_at, if_pos rfl]); (· dsimp only; rw [mu_at' (by omega), if_neg hk2]; exact m2 k (by omega))⟩, (r 15 (by decide)).trans m3, m4.fr (q 168 (by decide) (by decide)), m5.fr (q 170 (by decide) (by decide)), ⟨(r 6 (by decide)).trans m6, fun j hj => (m7 j hj).fr (q 171 (by decide) (by decide))⟩, MIm.fr m8 (q 172 (by decide) (by decide)) (q 173 (by decide) (by decide)), (r 9 (by decide)).trans m9, ⟨(r 11 (by decide)).trans m10, fun i hi => by rw [q 174 (by decide) (by decide)]; exact m11 i hi⟩, ⟨(r 13 (by decide)).trans m12, fun i hi => by rw [q 175 (by decide) (by decide)]; exact m13 i hi⟩⟩) ((FrM.row (by decide) (by decide)).tr (FrM.fld (by decide)))
      unfold E_feed at h9
      rw [if_pos hd, if_pos (by omega)] at h9
      exact h9
    · refine r_ldc (z := -1000000004) (pc' := 26) dX11_feed_24 rfl kX11_75 ?_
      refine r_reti dX11_feed_26 rfl (Or.inl rfl) ?_
      have hno : ¬ ((0 ≤ x ∧ x ≤ 255) ∧ tN < 240) := by omega
      have h9 := h g (by simp only [if_neg hno]; exact hM) (FrM.rf g)
      unfold E_feed at h9
      rw [if_pos hd, if_neg (by omega)] at h9
      exact h9
  · have hd := of_decide_eq_false (b01_eq c8)
    refine r_ldc (z := -1000000002) (pc' := 13) dX11_feed_11 rfl kX11_71 ?_
    refine r_reti dX11_feed_13 rfl (Or.inl rfl) ?_
    have hno : ¬ ((0 ≤ x ∧ x ≤ 255) ∧ tN < 240) := by omega
    have h9 := h g (by simp only [if_neg hno]; exact hM) (FrM.rf g)
    unfold E_feed at h9
    rw [if_neg hd] at h9
    exact h9
