theorem sub_all : ∀ s, s < 128 → ∀ t, t < 128 → difN s t = 0 → s ≤ t ∧ (s = t ∨ popN s < popN t) := by decide +kernel
theorem fwF_add {r : Nat → Bool} : ∀ (a b s : Nat) (x : Int), fwF r (a + b) s x = fwF r b (s + a) (fwF r a s x)
  | 0, b, s, x => by
    rw [Nat.zero_add, Nat.add_zero]
    rfl
  | a + 1, b, s, x => by
    rw [show a + 1 + b = (a + b) + 1 by omega]
    show fwF r (a + b) (s + 1) (if (x = -1 ∨ popN s < popN x.toNat) ∧ r s = true then (s : Int) else x) = fwF r b (s + (a + 1)) (fwF r a (s + 1) (if (x = -1 ∨ popN s < popN x.toNat) ∧ r s = true then (s : Int) else x))
    rw [fwF_add a b (s + 1), show s + 1 + a = s + (a + 1) by omega]
theorem fwF_no {r : Nat → Bool} : ∀ (k s : Nat) (x : Int), (∀ q, s ≤ q → q < s + k → r q = false) → fwF r k s x = x
  | 0, _, _, _ => rfl
  | k + 1, s, x, h => by
    show fwF r k (s + 1) (if (x = -1 ∨ popN s < popN x.toNat) ∧ r s = true then (s : Int) else x) = x
    rw [if_neg (fun q => by rw [h s (by omega) (by omega)] at q; exact absurd q.2 (by decide))]
    exact fwF_no k (s + 1) x (fun q a b => h q (by omega) (by omega))
theorem fwF_congr {r r' : Nat → Bool} : ∀ (k s : Nat) (x : Int), (∀ q, s ≤ q → q < s + k → r q = r' q) → fwF r k s x = fwF r' k s x
  | 0, _, _, _ => rfl
  | k + 1, s, x, h => by
    show fwF r k (s + 1) (if (x = -1 ∨ popN s < popN x.toNat) ∧ r s = true then (s : Int) else x) = fwF r' k (s + 1) (if (x = -1 ∨ popN s < popN x.toNat) ∧ r' s = true then (s : Int) else x)
    rw [h s (by omega) (by omega)]
    exact fwF_congr k (s + 1) _ (fun q a b => h q (by omega) (by omega))
def LoR (on : Nat) (x : Int) (y : Nat) : Prop := (x = -1 ∧ y = on) ∨ (x = (y : Int) ∧ popN y < popN on)
theorem lo_fw {c r : Nat → Bool} {on : Nat} (hp : ∀ q, q < on → c q = true → popN q < popN on) : ∀ (k s : Nat) (x : Int) (y : Nat), s + k = on → LoR on x y → LoR on (fwF (fun s => c s && r s) k s x) (loF c r k s y)
  | 0, _, _, _, _, h => h
  | k + 1, s, x, y, hs, h => by
    show LoR on (fwF (fun s => c s && r s) k (s + 1) (if (x = -1 ∨ popN s < popN x.toNat) ∧ (c s && r s) = true then (s : Int) else x)) (loF c r k (s + 1) (if ((c s && decide (popN s < popN y)) && r s) = true then s else y))
    refine lo_fw hp k (s + 1) _ _ (by omega) ?_
    cases hc : c s with
    | false => rw [if_neg (fun q => by rw [Bool.false_and] at q; exact absurd q.2 (by decide)), if_neg (by rw [Bool.false_and, Bool.false_and]; decide)]; exact h
    | true =>
      have hlt := hp s (by omega) hc
      cases hr : r s with
      | false => rw [if_neg (fun q => absurd q.2 (by decide)), if_neg (by simp)]; exact h
      | true =>
        rcases h with ⟨h1, h2⟩ | ⟨h1, h2⟩
        · rw [if_pos ⟨Or.inl h1, rfl⟩, if_pos (by rw [h2, decide_eq_true hlt]; rfl)]
          exact Or.inr ⟨rfl, hlt⟩
        · subst h1
          by_cases hl : popN s < popN y
          · rw [if_pos ⟨Or.inr hl, rfl⟩, if_pos (by rw [decide_eq_true hl]; rfl)]
            exact Or.inr ⟨rfl, hlt⟩
          · rw [if_neg (fun q => by rcases q.1 with q | q; omega; exact hl q), if_neg (by rw [decide_eq_false hl]; decide)]
            exact Or.inr ⟨rfl, h2⟩
theorem rwF_all {o : Nat → Nat} {s : Nat} : ∀ (k p : Nat) (l : Int), (∀ q, p ≤ q → q < p + k → s.testBit (o q) = true) → rwF o s k p l = true
  | 0, _, _, _ => rfl
  | k + 1, p, l, h => by
    unfold rwF
    rw [if_pos (h p (by omega) (by omega))]
    exact rwF_all k (p + 1) l (fun q a b => h q (by omega) (by omega))
theorem orF_ltp {c : Nat → Bool} {v : Nat → Nat} {n : Nat} : ∀ (k p acc : Nat), acc < 2 ^ n → (∀ q, p ≤ q → q < p + k → v q < 2 ^ n) → orF c v k p acc < 2 ^ n
  | 0, _, _, h, _ => h
  | k + 1, p, acc, h, hv => by
    unfold orF
    refine orF_ltp k (p + 1) _ ?_ (fun q a b => hv q (by omega) (by omega))
    split
    · exact Nat.or_lt_two_pow h (hv p (by omega) (by omega))
    · exact h
theorem onN_ltp {F : Nat} {v : LV} (h : LW F v) : onN v < 2 ^ F := orF_ltp _ _ _ (Nat.pow_pos (by decide)) (fun q _ hq => Nat.pow_lt_pow_right (by decide) (h.2.2.1 q (by omega)))
theorem on_at {v : LV} {p : Nat} (hp : p < Ln v) : (onN v).testBit (Lo v p) = true := by
  rw [onN_bit]
  exact decide_eq_true (fun q => plc_no (Ln v) 0 q p (by omega) (by omega) rfl)
def vaB (v : LV) (s : Nat) : Bool := subB s (onN v) && rwF (Lo v) s (Ln v) 0 (-1)
theorem loose_eq {F : Nat} {v : LV} (h : LW F v) : fwF (vaB v) (2 ^ F) 0 (-1) = ((looseN v : Nat) : Int) := by
  have hon := onN_lt h
  have hon2 := onN_ltp h
  have h7 : 2 ^ F ≤ 2 ^ 7 := Nat.pow_le_pow_right (by decide) h.1
  have hva : vaB v (onN v) = true := by
    unfold vaB subB
    rw [decide_eq_true (difN_z.mpr (fun i q => q)), rwF_all (Ln v) 0 (-1) (fun q _ b => on_at (by omega))]
    rfl
  have hl := lo_fw (c := fun s => subB s (onN v)) (r := fun s => rwF (Lo v) s (Ln v) 0 (-1)) (on := onN v) (fun q hq hc => by
    rcases (sub_all q (by omega) (onN v) hon (of_decide_eq_true hc)).2 with e | e
    · omega
    · exact e) (onN v) 0 (-1) (onN v) (by omega) (Or.inl ⟨rfl, rfl⟩)
  rw [show 2 ^ F = onN v + (1 + (2 ^ F - 1 - onN v)) by omega, fwF_add, fwF_add]
  rw [fwF_no (2 ^ F - 1 - onN v) _ _ (fun q a b => by
    unfold vaB subB
    rw [decide_eq_false (fun z => by have := (sub_all q (by omega) (onN v) hon z).1; omega), Bool.false_and])]
  show (if (fwF (vaB v) (onN v) 0 (-1) = -1 ∨ popN (0 + onN v) < popN (fwF (vaB v) (onN v) 0 (-1)).toNat) ∧ vaB v (0 + onN v) = true then ((0 + onN v : Nat) : Int) else fwF (vaB v) (onN v) 0 (-1)) = _
  rw [Nat.zero_add]
  have e : looseN v = loF (fun s => subB s (onN v)) (fun s => rwF (Lo v) s (Ln v) 0 (-1)) (onN v) 0 (onN v) := rfl
  rw [← e] at hl
  rcases hl with ⟨h1, h2⟩ | ⟨h1, h2⟩
  · have h1 : fwF (vaB v) (onN v) 0 (-1) = -1 := h1
    rw [if_pos ⟨Or.inl h1, hva⟩, h2]
  · have h1 : fwF (vaB v) (onN v) 0 (-1) = (looseN v : Int) := h1
    rw [h1, if_neg (fun q => by rcases q.1 with q | q; omega; rw [show ((looseN v : Int)).toNat = looseN v from rfl] at q; omega)]
theorem shl8 {k : Nat} (h : k ≤ 7) : b_shl 1 (k : Int) = ((2 ^ k : Nat) : Int) := by
  have h1 : 2 ^ k ≤ 2 ^ 7 := Nat.pow_le_pow_right (by decide) h
  have := b_shl_n (a := 1) (k := k) (by omega) (by omega)
  rw [Nat.one_mul] at this
  exact this
theorem m_onesI {X : CX} {d : Nat} {g : Mem} {K : Int → Mem → Prop} {x : Int} (h0 : 0 ≤ x) (hx : x < 128) (h : K (popN x.toNat) g) : EI X d mX11_ones [vi x] Z0 g K := by
  have e := m_ones (X := X) (d := d) (g := g) (K := K) (s := x.toNat) (by omega) h
  rw [show ((x.toNat : Nat) : Int) = x by omega] at e
  exact e
theorem rwF_s {o : Nat → Nat} {s k p : Nat} {l : Int} : rwF o s (k + 1) p l = if s.testBit (o p) then rwF o s k (p + 1) l else if (o p : Int) < l then false else rwF o s k (p + 1) (o p) := rfl
theorem lm_looI {X : CX} {d : Nat} {g : Mem} {K : Int → Mem → Prop} {u : PV} {v : LV} (hB : MB g u v)  {s : Nat} (hs : s < 128) {wh fo : Int} : ∀ (k p : Nat) (l : Int) (b : Bool) (y : Option VV), p + k = Ln v → R32 l → (∀ q, p ≤ q → q < Ln v → (Lo v q : Int) ≠ l) → (∀ (l1 : Int) (y1 : Option VV), AJ X (d + 1) mX11_loose 0 0 (QI Z0 K) 0 0 126 [some (vr 166), some (vi wh), some (vi fo), some (vi (s : Int)), some (vi l1), some (vi (b01 (b && rwF (Lo v) s k p l))), some (vi (Ln v : Int)), y1] [] Z0 g) → AJ X (d + 1) mX11_loose 0 0 (QI Z0 K) 0 0 52 [some (vr 166), some (vi wh), some (vi fo), some (vi (s : Int)), some (vi l), some (vi (b01 b)), some (vi (p : Int)), y] [] Z0 g := by
  obtain ⟨hQ, hU, hC, hW⟩ := id hB
  obtain ⟨hy, hi, hc, ht, ho, hf, hw_⟩ := id hC
  obtain ⟨w0, w1, w2, w3, w4, w5, w6, w7⟩ := id hW
  obtain ⟨p6, p7, p8, p9, p10, pk, pg, px, py⟩ := id hQ
  obtain ⟨u0, u1, u2, u3, u4, u5, u6, u7⟩ := id hU
  intro k
  induction k with
  | zero =>
    intro p l b y hp hl hq h
    have e : (Ln v : Int) = (p : Int) := by omega
    have h : ∀ (l1 : Int) (y1 : Option VV), AJ X (d + 1) mX11_loose 0 0 (QI Z0 K) 0 0 126 [some (vr 166), some (vi wh), some (vi fo), some (vi (s : Int)), some (vi l1), some (vi (b01 (b && true))), some (vi (Ln v : Int)), y1] [] Z0 g := h
    rw [Bool.and_true, e] at h
    refine r_iload (pc' := 54) dX11_loose_52 rfl rfl ?_
    refine r_aload_n (pc' := 55) dX11_loose_54 rfl rfl ?_
    refine r_getr (pc' := 58) dX11_loose_55 rfl fX11_19 z166 rfl ?_
    refine r_iconst (pc' := 59) dX11_loose_58 rfl ?_
    refine r_iaload (pc' := 60) dX11_loose_59 rfl z170 (by decide) (by omega) (by omega) hc ?_
    refine r_icmp_ge (tgt := 126) (pc' := 63) dX11_loose_60 rfl rfl (by omega) (by omega) (fun c60 => ?_) (fun c60 => ?_)
    · exact h _ _
    · exact absurd c60 (by omega)
  | succ k ih =>
    intro p l b y hp hl hq h
    have q1 := ho p (by omega)
    have q2 := w2 p (by omega)
    have hq1 := hq p (by omega) (by omega)
    have hn1 : ∀ q, p + 1 ≤ q → q < Ln v → (Lo v q : Int) ≠ l := fun q a b => hq q (by omega) b
    have hn2 : ∀ q, p + 1 ≤ q → q < Ln v → (Lo v q : Int) ≠ (Lo v p : Int) := fun q a b e => by have := w3 q p b (by omega) (by omega); omega
    rw [rwF_s] at h
    refine r_iload (pc' := 54) dX11_loose_52 rfl rfl ?_
    refine r_aload_n (pc' := 55) dX11_loose_54 rfl rfl ?_
    refine r_getr (pc' := 58) dX11_loose_55 rfl fX11_19 z166 rfl ?_
    refine r_iconst (pc' := 59) dX11_loose_58 rfl ?_
    refine r_iaload (pc' := 60) dX11_loose_59 rfl z170 (by decide) (by omega) (by omega) hc ?_
    refine r_icmp_ge (tgt := 126) (pc' := 63) dX11_loose_60 rfl rfl (by omega) (by omega) (fun c60 => ?_) (fun c60 => ?_)
    · exact absurd c60 (by omega)
    · refine r_aload_n (pc' := 64) dX11_loose_63 rfl rfl ?_
      refine r_getr (pc' := 67) dX11_loose_64 rfl fX11_19 z166 rfl ?_
      refine r_iconst (pc' := 68) dX11_loose_67 rfl ?_
      refine r_iload (pc' := 70) dX11_loose_68 rfl rfl ?_
      refine r_iadd (pc' := 71) dX11_loose_70 rfl ?_
      refine r_iaload (pc' := 72) (x := (Lo v p : Int)) dX11_loose_71 rfl z170 (by decide) (by omega) (by omega) q1 ?_
      refine r_istore (pc' := 74) dX11_loose_72 rfl rfl ?_
      refine r_iload (pc' := 76) dX11_loose_74 rfl rfl ?_
      refine r_if_eq (tgt := 99) (pc' := 79) dX11_loose_76 rfl rfl (b01_R _) (fun c76 => ?_) (fun c76 => ?_)
      · refine r_iconst (pc' := 100) dX11_loose_99 rfl ?_
        refine r_istore (pc' := 102) dX11_loose_100 rfl rfl ?_
        refine r_iload_n (pc' := 103) dX11_loose_102 rfl rfl ?_
        refine r_iload (pc' := 105) dX11_loose_103 rfl rfl ?_
        refine r_si2 (pc' := 108) dX11_loose_105 rfl qX11_has lX11_118 rfl rfl rfl (Nat.zero_le _) (Nat.zero_le _) (m_has hs (by omega) ?_)
        refine r_if_eq (tgt := 116) (pc' := 111) dX11_loose_108 rfl rfl (b01_R _) (fun c108 => ?_) (fun c108 => ?_)
        · refine r_iload (pc' := 118) dX11_loose_116 rfl rfl ?_
          refine r_istore (pc' := 120) dX11_loose_118 rfl rfl ?_
          refine r_iinc (pc' := 123) dX11_loose_120 rfl rfl rfl ?_
          refine r_goto (tgt := 52) dX11_loose_123 rfl ?_
          first
            | (exfalso; omega)
            | (rw [b01_eq c76, Bool.false_and] at h
               refine ih (p + 1) _ false _ (by omega) (by omega) (by first | exact hn1 | exact hn2) ?_
               rw [Bool.false_and]
               exact h)
            | (rw [b01_ne c76, Bool.true_and, if_pos (b01_ne c85)] at h
               refine ih (p + 1) _ true _ (by omega) (by omega) hn1 ?_
               rw [Bool.true_and]
               exact h)
            | (rw [b01_ne c76, Bool.true_and, if_neg (by rw [b01_eq c85]; decide), if_pos (by omega)] at h
               refine ih (p + 1) _ false _ (by omega) (by omega) (by first | exact hn1 | exact hn2) ?_
               rw [Bool.false_and]
               exact h)
            | (rw [b01_ne c76, Bool.true_and, if_neg (by rw [b01_eq c85]; decide), if_neg (by omega)] at h
               refine ih (p + 1) _ true _ (by omega) (by omega) hn2 ?_
               rw [Bool.true_and]
               exact h)
        · refine r_iload (pc' := 113) dX11_loose_111 rfl rfl ?_
          refine r_goto (tgt := 118) dX11_loose_113 rfl ?_
          refine r_istore (pc' := 120) dX11_loose_118 rfl rfl ?_
          refine r_iinc (pc' := 123) dX11_loose_120 rfl rfl rfl ?_
          refine r_goto (tgt := 52) dX11_loose_123 rfl ?_
          first
            | (exfalso; omega)
            | (rw [b01_eq c76, Bool.false_and] at h
               refine ih (p + 1) _ false _ (by omega) (by omega) (by first | exact hn1 | exact hn2) ?_
               rw [Bool.false_and]
               exact h)
            | (rw [b01_ne c76, Bool.true_and, if_pos (b01_ne c85)] at h
               refine ih (p + 1) _ true _ (by omega) (by omega) hn1 ?_
               rw [Bool.true_and]
               exact h)
            | (rw [b01_ne c76, Bool.true_and, if_neg (by rw [b01_eq c85]; decide), if_pos (by omega)] at h
               refine ih (p + 1) _ false _ (by omega) (by omega) (by first | exact hn1 | exact hn2) ?_
               rw [Bool.false_and]
               exact h)
            | (rw [b01_ne c76, Bool.true_and, if_neg (by rw [b01_eq c85]; decide), if_neg (by omega)] at h
               refine ih (p + 1) _ true _ (by omega) (by omega) hn2 ?_
               rw [Bool.true_and]
               exact h)
      · refine r_iload_n (pc' := 80) dX11_loose_79 rfl rfl ?_
        refine r_iload (pc' := 82) dX11_loose_80 rfl rfl ?_
        refine r_si2 (pc' := 85) dX11_loose_82 rfl qX11_has lX11_118 rfl rfl rfl (Nat.zero_le _) (Nat.zero_le _) (m_has hs (by omega) ?_)
        refine r_if_ne (tgt := 95) (pc' := 88) dX11_loose_85 rfl rfl (b01_R _) (fun c85 => ?_) (fun c85 => ?_)
        · refine r_iconst (pc' := 96) dX11_loose_95 rfl ?_
          refine r_goto (tgt := 100) dX11_loose_96 rfl ?_
          refine r_istore (pc' := 102) dX11_loose_100 rfl rfl ?_
          refine r_iload_n (pc' := 103) dX11_loose_102 rfl rfl ?_
          refine r_iload (pc' := 105) dX11_loose_103 rfl rfl ?_
          refine r_si2 (pc' := 108) dX11_loose_105 rfl qX11_has lX11_118 rfl rfl rfl (Nat.zero_le _) (Nat.zero_le _) (m_has hs (by omega) ?_)
          refine r_if_eq (tgt := 116) (pc' := 111) dX11_loose_108 rfl rfl (b01_R _) (fun c108 => ?_) (fun c108 => ?_)
          · refine r_iload (pc' := 118) dX11_loose_116 rfl rfl ?_
            refine r_istore (pc' := 120) dX11_loose_118 rfl rfl ?_
            refine r_iinc (pc' := 123) dX11_loose_120 rfl rfl rfl ?_
            refine r_goto (tgt := 52) dX11_loose_123 rfl ?_
            first
              | (exfalso; omega)
              | (rw [b01_eq c76, Bool.false_and] at h
                 refine ih (p + 1) _ false _ (by omega) (by omega) (by first | exact hn1 | exact hn2) ?_
                 rw [Bool.false_and]
                 exact h)
              | (rw [b01_ne c76, Bool.true_and, if_pos (b01_ne c85)] at h
                 refine ih (p + 1) _ true _ (by omega) (by omega) hn1 ?_
                 rw [Bool.true_and]
                 exact h)
              | (rw [b01_ne c76, Bool.true_and, if_neg (by rw [b01_eq c85]; decide), if_pos (by omega)] at h
                 refine ih (p + 1) _ false _ (by omega) (by omega) (by first | exact hn1 | exact hn2) ?_
                 rw [Bool.false_and]
                 exact h)
              | (rw [b01_ne c76, Bool.true_and, if_neg (by rw [b01_eq c85]; decide), if_neg (by omega)] at h
                 refine ih (p + 1) _ true _ (by omega) (by omega) hn2 ?_
                 rw [Bool.true_and]
                 exact h)
          · refine r_iload (pc' := 113) dX11_loose_111 rfl rfl ?_
            refine r_goto (tgt := 118) dX11_loose_113 rfl ?_
            refine r_istore (pc' := 120) dX11_loose_118 rfl rfl ?_
            refine r_iinc (pc' := 123) dX11_loose_120 rfl rfl rfl ?_
            refine r_goto (tgt := 52) dX11_loose_123 rfl ?_
            first
              | (exfalso; omega)
              | (rw [b01_eq c76, Bool.false_and] at h
                 refine ih (p + 1) _ false _ (by omega) (by omega) (by first | exact hn1 | exact hn2) ?_
                 rw [Bool.false_and]
                 exact h)
              | (rw [b01_ne c76, Bool.true_and, if_pos (b01_ne c85)] at h
                 refine ih (p + 1) _ true _ (by omega) (by omega) hn1 ?_
                 rw [Bool.true_and]
                 exact h)
              | (rw [b01_ne c76, Bool.true_and, if_neg (by rw [b01_eq c85]; decide), if_pos (by omega)] at h
                 refine ih (p + 1) _ false _ (by omega) (by omega) (by first | exact hn1 | exact hn2) ?_
                 rw [Bool.false_and]
                 exact h)
              | (rw [b01_ne c76, Bool.true_and, if_neg (by rw [b01_eq c85]; decide), if_neg (by omega)] at h
                 refine ih (p + 1) _ true _ (by omega) (by omega) hn2 ?_
                 rw [Bool.true_and]
                 exact h)
        · refine r_iload (pc' := 90) dX11_loose_88 rfl rfl ?_
          refine r_iload (pc' := 92) dX11_loose_90 rfl rfl ?_
          refine r_icmp_le (tgt := 99) (pc' := 95) dX11_loose_92 rfl rfl (by omega) (by omega) (fun c92 => ?_) (fun c92 => ?_)
          · refine r_iconst (pc' := 100) dX11_loose_99 rfl ?_
            refine r_istore (pc' := 102) dX11_loose_100 rfl rfl ?_
            refine r_iload_n (pc' := 103) dX11_loose_102 rfl rfl ?_
            refine r_iload (pc' := 105) dX11_loose_103 rfl rfl ?_
            refine r_si2 (pc' := 108) dX11_loose_105 rfl qX11_has lX11_118 rfl rfl rfl (Nat.zero_le _) (Nat.zero_le _) (m_has hs (by omega) ?_)
            refine r_if_eq (tgt := 116) (pc' := 111) dX11_loose_108 rfl rfl (b01_R _) (fun c108 => ?_) (fun c108 => ?_)
            · refine r_iload (pc' := 118) dX11_loose_116 rfl rfl ?_
              refine r_istore (pc' := 120) dX11_loose_118 rfl rfl ?_
              refine r_iinc (pc' := 123) dX11_loose_120 rfl rfl rfl ?_
              refine r_goto (tgt := 52) dX11_loose_123 rfl ?_
              first
                | (exfalso; omega)
                | (rw [b01_eq c76, Bool.false_and] at h
                   refine ih (p + 1) _ false _ (by omega) (by omega) (by first | exact hn1 | exact hn2) ?_
                   rw [Bool.false_and]
                   exact h)
                | (rw [b01_ne c76, Bool.true_and, if_pos (b01_ne c85)] at h
                   refine ih (p + 1) _ true _ (by omega) (by omega) hn1 ?_
                   rw [Bool.true_and]
                   exact h)
                | (rw [b01_ne c76, Bool.true_and, if_neg (by rw [b01_eq c85]; decide), if_pos (by omega)] at h
                   refine ih (p + 1) _ false _ (by omega) (by omega) (by first | exact hn1 | exact hn2) ?_
                   rw [Bool.false_and]
                   exact h)
                | (rw [b01_ne c76, Bool.true_and, if_neg (by rw [b01_eq c85]; decide), if_neg (by omega)] at h
                   refine ih (p + 1) _ true _ (by omega) (by omega) hn2 ?_
                   rw [Bool.true_and]
                   exact h)
            · refine r_iload (pc' := 113) dX11_loose_111 rfl rfl ?_
              refine r_goto (tgt := 118) dX11_loose_113 rfl ?_
              refine r_istore (pc' := 120) dX11_loose_118 rfl rfl ?_
              refine r_iinc (pc' := 123) dX11_loose_120 rfl rfl rfl ?_
              refine r_goto (tgt := 52) dX11_loose_123 rfl ?_
              first
                | (exfalso; omega)
                | (rw [b01_eq c76, Bool.false_and] at h
                   refine ih (p + 1) _ false _ (by omega) (by omega) (by first | exact hn1 | exact hn2) ?_
                   rw [Bool.false_and]
                   exact h)
                | (rw [b01_ne c76, Bool.true_and, if_pos (b01_ne c85)] at h
                   refine ih (p + 1) _ true _ (by omega) (by omega) hn1 ?_
                   rw [Bool.true_and]
                   exact h)
                | (rw [b01_ne c76, Bool.true_and, if_neg (by rw [b01_eq c85]; decide), if_pos (by omega)] at h
                   refine ih (p + 1) _ false _ (by omega) (by omega) (by first | exact hn1 | exact hn2) ?_
                   rw [Bool.false_and]
                   exact h)
                | (rw [b01_ne c76, Bool.true_and, if_neg (by rw [b01_eq c85]; decide), if_neg (by omega)] at h
                   refine ih (p + 1) _ true _ (by omega) (by omega) hn2 ?_
                   rw [Bool.true_and]
                   exact h)
          · refine r_iconst (pc' := 96) dX11_loose_95 rfl ?_
            refine r_goto (tgt := 100) dX11_loose_96 rfl ?_
            refine r_istore (pc' := 102) dX11_loose_100 rfl rfl ?_
            refine r_iload_n (pc' := 103) dX11_loose_102 rfl rfl ?_
            refine r_iload (pc' := 105) dX11_loose_103 rfl rfl ?_
            refine r_si2 (pc' := 108) dX11_loose_105 rfl qX11_has lX11_118 rfl rfl rfl (Nat.zero_le _) (Nat.zero_le _) (m_has hs (by omega) ?_)
            refine r_if_eq (tgt := 116) (pc' := 111) dX11_loose_108 rfl rfl (b01_R _) (fun c108 => ?_) (fun c108 => ?_)
            · refine r_iload (pc' := 118) dX11_loose_116 rfl rfl ?_
              refine r_istore (pc' := 120) dX11_loose_118 rfl rfl ?_
              refine r_iinc (pc' := 123) dX11_loose_120 rfl rfl rfl ?_
              refine r_goto (tgt := 52) dX11_loose_123 rfl ?_
              first
                | (exfalso; omega)
                | (rw [b01_eq c76, Bool.false_and] at h
                   refine ih (p + 1) _ false _ (by omega) (by omega) (by first | exact hn1 | exact hn2) ?_
                   rw [Bool.false_and]
                   exact h)
                | (rw [b01_ne c76, Bool.true_and, if_pos (b01_ne c85)] at h
                   refine ih (p + 1) _ true _ (by omega) (by omega) hn1 ?_
                   rw [Bool.true_and]
                   exact h)
                | (rw [b01_ne c76, Bool.true_and, if_neg (by rw [b01_eq c85]; decide), if_pos (by omega)] at h
                   refine ih (p + 1) _ false _ (by omega) (by omega) (by first | exact hn1 | exact hn2) ?_
                   rw [Bool.false_and]
                   exact h)
                | (rw [b01_ne c76, Bool.true_and, if_neg (by rw [b01_eq c85]; decide), if_neg (by omega)] at h
                   refine ih (p + 1) _ true _ (by omega) (by omega) hn2 ?_
                   rw [Bool.true_and]
                   exact h)
            · refine r_iload (pc' := 113) dX11_loose_111 rfl rfl ?_
              refine r_goto (tgt := 118) dX11_loose_113 rfl ?_
              refine r_istore (pc' := 120) dX11_loose_118 rfl rfl ?_
              refine r_iinc (pc' := 123) dX11_loose_120 rfl rfl rfl ?_
              refine r_goto (tgt := 52) dX11_loose_123 rfl ?_
              first
                | (exfalso; omega)
                | (rw [b01_eq c76, Bool.false_and] at h
                   refine ih (p + 1) _ false _ (by omega) (by omega) (by first | exact hn1 | exact hn2) ?_
                   rw [Bool.false_and]
                   exact h)
                | (rw [b01_ne c76, Bool.true_and, if_pos (b01_ne c85)] at h
                   refine ih (p + 1) _ true _ (by omega) (by omega) hn1 ?_
                   rw [Bool.true_and]
                   exact h)
                | (rw [b01_ne c76, Bool.true_and, if_neg (by rw [b01_eq c85]; decide), if_pos (by omega)] at h
                   refine ih (p + 1) _ false _ (by omega) (by omega) (by first | exact hn1 | exact hn2) ?_
                   rw [Bool.false_and]
                   exact h)
                | (rw [b01_ne c76, Bool.true_and, if_neg (by rw [b01_eq c85]; decide), if_neg (by omega)] at h
                   refine ih (p + 1) _ true _ (by omega) (by omega) hn2 ?_
                   rw [Bool.true_and]
                   exact h)
theorem lm_loo {X : CX} {d : Nat} {g : Mem} {K : Int → Mem → Prop} {u : PV} {v : LV} (hB : MB g u v)  {wh : Int} (hwh : R32 wh) : ∀ (k s : Nat) (fo : Int) (x y z t : Option VV), s + k = 2 ^ Pf u → -1 ≤ fo → fo < 128 → 0 ≤ fwF (vaB v) k s fo → fwF (vaB v) k s fo < 128 → K (if wh = 0 then ((popN (fwF (vaB v) k s fo).toNat : Nat) : Int) else fwF (vaB v) k s fo) g → AJ X (d + 1) mX11_loose 0 0 (QI Z0 K) 0 0 16 [some (vr 166), some (vi wh), some (vi fo), some (vi (s : Int)), x, y, z, t] [] Z0 g := by
  obtain ⟨hQ, hU, hC, hW⟩ := id hB
  obtain ⟨hy, hi, hc, ht, ho, hf, hw_⟩ := id hC
  obtain ⟨w0, w1, w2, w3, w4, w5, w6, w7⟩ := id hW
  obtain ⟨p6, p7, p8, p9, p10, pk, pg, px, py⟩ := id hQ
  obtain ⟨u0, u1, u2, u3, u4, u5, u6, u7⟩ := id hU
  intro k
  induction k with
  | zero =>
    intro s fo x y z t hs hf0 hf1 hz hz1 h
    have hz : 0 ≤ fo := hz
    have e := shl8 u2
    refine r_iload_n (pc' := 17) dX11_loose_16 rfl rfl ?_
    refine r_iconst (pc' := 18) dX11_loose_17 rfl ?_
    refine r_aload_n (pc' := 19) dX11_loose_18 rfl rfl ?_
    refine r_getr (pc' := 22) dX11_loose_19 rfl fX11_13 z166 rfl ?_
    refine r_iconst (pc' := 23) dX11_loose_22 rfl ?_
    refine r_iaload (pc' := 24) dX11_loose_23 rfl z168 (by decide) (by omega) (by omega) p8 ?_
    refine r_ishl (pc' := 25) dX11_loose_24 rfl ?_
    rw [e]
    refine r_icmp_ge (tgt := 158) (pc' := 28) dX11_loose_25 rfl rfl (by have := Nat.pow_le_pow_right (n := 2) (by decide) u2; omega) (by have := Nat.pow_le_pow_right (n := 2) (by decide) u2; omega) (fun c25 => ?_) (fun c25 => ?_)
    · refine r_iload_n (pc' := 159) dX11_loose_158 rfl rfl ?_
      refine r_if_ne (tgt := 169) (pc' := 162) dX11_loose_159 rfl rfl (by omega) (fun c159 => ?_) (fun c159 => ?_)
      · refine r_iload_n (pc' := 170) dX11_loose_169 rfl rfl ?_
        refine r_reti dX11_loose_170 rfl (Or.inl rfl) ?_
        first
          | (rw [if_pos (by omega)] at h; exact h)
          | (rw [if_neg (by omega)] at h; exact h)
      · refine r_iload_n (pc' := 163) dX11_loose_162 rfl rfl ?_
        refine r_si1 (pc' := 166) dX11_loose_163 rfl qX11_ones lX11_174 rfl rfl rfl (Nat.zero_le _) (Nat.zero_le _) (m_onesI hz hf1 ?_)
        refine r_goto (tgt := 170) dX11_loose_166 rfl ?_
        refine r_reti dX11_loose_170 rfl (Or.inl rfl) ?_
        first
          | (rw [if_pos (by omega)] at h; exact h)
          | (rw [if_neg (by omega)] at h; exact h)
    · exact absurd c25 (by omega)
  | succ k ih =>
    intro s fo x y z t hs hf0 hf1 hz hz1 h
    have e := shl8 u2
    have e7 := Nat.pow_le_pow_right (n := 2) (by decide) u2
    have hs1 : s < 128 := by omega
    have est : fwF (vaB v) (k + 1) s fo = fwF (vaB v) k (s + 1) (if (fo = -1 ∨ popN s < popN fo.toNat) ∧ vaB v s = true then (s : Int) else fo) := rfl
    rw [est] at hz hz1 h
    have hst : ∀ b : Bool, b = subB s (onN v) → ∀ (l1 : Int) (y1 : Option VV), AJ X (d + 1) mX11_loose 0 0 (QI Z0 K) 0 0 126 [some (vr 166), some (vi wh), some (vi fo), some (vi (s : Int)), some (vi l1), some (vi (b01 (b && rwF (Lo v) s (Ln v) 0 (-1)))), some (vi (Ln v : Int)), y1] [] Z0 g := by
      intro b hb l1 y1
      have eb : (b && rwF (Lo v) s (Ln v) 0 (-1)) = vaB v s := by rw [hb]; rfl
      rw [eb]
      refine r_iload (pc' := 128) dX11_loose_126 rfl rfl ?_
      refine r_if_eq (tgt := 150) (pc' := 131) dX11_loose_128 rfl rfl (b01_R _) (fun c128 => ?_) (fun c128 => ?_)
      · refine r_iload_n (pc' := 151) dX11_loose_150 rfl rfl ?_
        refine r_istore_n (pc' := 152) dX11_loose_151 rfl rfl ?_
        refine r_iinc (pc' := 155) dX11_loose_152 rfl rfl rfl ?_
        refine r_goto (tgt := 16) dX11_loose_155 rfl ?_
        first
          | (rw [show (if (fo = -1 ∨ popN s < popN fo.toNat) ∧ vaB v s = true then (s : Int) else fo) = fo from if_neg (fun q => by rw [b01_eq c128] at q; exact absurd q.2 (by decide))] at hz hz1 h
             exact ih (s + 1) _ _ _ _ _ (by omega) (by omega) (by omega) hz hz1 h)
          | (rw [show (if (fo = -1 ∨ popN s < popN fo.toNat) ∧ vaB v s = true then (s : Int) else fo) = (s : Int) from if_pos ⟨Or.inl (by omega), b01_ne c128⟩] at hz hz1 h
             exact ih (s + 1) _ _ _ _ _ (by omega) (by omega) (by omega) hz hz1 h)
          | (rw [show (if (fo = -1 ∨ popN s < popN fo.toNat) ∧ vaB v s = true then (s : Int) else fo) = (s : Int) from if_pos ⟨Or.inr (by omega), b01_ne c128⟩] at hz hz1 h
             exact ih (s + 1) _ _ _ _ _ (by omega) (by omega) (by omega) hz hz1 h)
          | (rw [show (if (fo = -1 ∨ popN s < popN fo.toNat) ∧ vaB v s = true then (s : Int) else fo) = fo from if_neg (fun q => by rcases q.1 with q | q <;> omega)] at hz hz1 h
             exact ih (s + 1) _ _ _ _ _ (by omega) (by omega) (by omega) hz hz1 h)
      · refine r_iload_n (pc' := 132) dX11_loose_131 rfl rfl ?_
        refine r_if_lt (tgt := 146) (pc' := 135) dX11_loose_132 rfl rfl (by omega) (fun c132 => ?_) (fun c132 => ?_)
        · refine r_iload_n (pc' := 147) dX11_loose_146 rfl rfl ?_
          refine r_goto (tgt := 151) dX11_loose_147 rfl ?_
          refine r_istore_n (pc' := 152) dX11_loose_151 rfl rfl ?_
          refine r_iinc (pc' := 155) dX11_loose_152 rfl rfl rfl ?_
          refine r_goto (tgt := 16) dX11_loose_155 rfl ?_
          first
            | (rw [show (if (fo = -1 ∨ popN s < popN fo.toNat) ∧ vaB v s = true then (s : Int) else fo) = fo from if_neg (fun q => by rw [b01_eq c128] at q; exact absurd q.2 (by decide))] at hz hz1 h
               exact ih (s + 1) _ _ _ _ _ (by omega) (by omega) (by omega) hz hz1 h)
            | (rw [show (if (fo = -1 ∨ popN s < popN fo.toNat) ∧ vaB v s = true then (s : Int) else fo) = (s : Int) from if_pos ⟨Or.inl (by omega), b01_ne c128⟩] at hz hz1 h
               exact ih (s + 1) _ _ _ _ _ (by omega) (by omega) (by omega) hz hz1 h)
            | (rw [show (if (fo = -1 ∨ popN s < popN fo.toNat) ∧ vaB v s = true then (s : Int) else fo) = (s : Int) from if_pos ⟨Or.inr (by omega), b01_ne c128⟩] at hz hz1 h
               exact ih (s + 1) _ _ _ _ _ (by omega) (by omega) (by omega) hz hz1 h)
            | (rw [show (if (fo = -1 ∨ popN s < popN fo.toNat) ∧ vaB v s = true then (s : Int) else fo) = fo from if_neg (fun q => by rcases q.1 with q | q <;> omega)] at hz hz1 h
               exact ih (s + 1) _ _ _ _ _ (by omega) (by omega) (by omega) hz hz1 h)
        · refine r_iload_n (pc' := 136) dX11_loose_135 rfl rfl ?_
          refine r_si1 (pc' := 139) dX11_loose_136 rfl qX11_ones lX11_174 rfl rfl rfl (Nat.zero_le _) (Nat.zero_le _) (m_ones hs1 ?_)
          refine r_iload_n (pc' := 140) dX11_loose_139 rfl rfl ?_
          refine r_si1 (pc' := 143) dX11_loose_140 rfl qX11_ones lX11_174 rfl rfl rfl (Nat.zero_le _) (Nat.zero_le _) (m_onesI (by omega) hf1 ?_)
          refine r_icmp_ge (tgt := 150) (pc' := 146) dX11_loose_143 rfl rfl (by have := popN_le s; omega) (by have := popN_le fo.toNat; omega) (fun c143 => ?_) (fun c143 => ?_)
          · refine r_iload_n (pc' := 151) dX11_loose_150 rfl rfl ?_
            refine r_istore_n (pc' := 152) dX11_loose_151 rfl rfl ?_
            refine r_iinc (pc' := 155) dX11_loose_152 rfl rfl rfl ?_
            refine r_goto (tgt := 16) dX11_loose_155 rfl ?_
            first
              | (rw [show (if (fo = -1 ∨ popN s < popN fo.toNat) ∧ vaB v s = true then (s : Int) else fo) = fo from if_neg (fun q => by rw [b01_eq c128] at q; exact absurd q.2 (by decide))] at hz hz1 h
                 exact ih (s + 1) _ _ _ _ _ (by omega) (by omega) (by omega) hz hz1 h)
              | (rw [show (if (fo = -1 ∨ popN s < popN fo.toNat) ∧ vaB v s = true then (s : Int) else fo) = (s : Int) from if_pos ⟨Or.inl (by omega), b01_ne c128⟩] at hz hz1 h
                 exact ih (s + 1) _ _ _ _ _ (by omega) (by omega) (by omega) hz hz1 h)
              | (rw [show (if (fo = -1 ∨ popN s < popN fo.toNat) ∧ vaB v s = true then (s : Int) else fo) = (s : Int) from if_pos ⟨Or.inr (by omega), b01_ne c128⟩] at hz hz1 h
                 exact ih (s + 1) _ _ _ _ _ (by omega) (by omega) (by omega) hz hz1 h)
              | (rw [show (if (fo = -1 ∨ popN s < popN fo.toNat) ∧ vaB v s = true then (s : Int) else fo) = fo from if_neg (fun q => by rcases q.1 with q | q <;> omega)] at hz hz1 h
                 exact ih (s + 1) _ _ _ _ _ (by omega) (by omega) (by omega) hz hz1 h)
          · refine r_iload_n (pc' := 147) dX11_loose_146 rfl rfl ?_
            refine r_goto (tgt := 151) dX11_loose_147 rfl ?_
            refine r_istore_n (pc' := 152) dX11_loose_151 rfl rfl ?_
            refine r_iinc (pc' := 155) dX11_loose_152 rfl rfl rfl ?_
            refine r_goto (tgt := 16) dX11_loose_155 rfl ?_
            first
              | (rw [show (if (fo = -1 ∨ popN s < popN fo.toNat) ∧ vaB v s = true then (s : Int) else fo) = fo from if_neg (fun q => by rw [b01_eq c128] at q; exact absurd q.2 (by decide))] at hz hz1 h
                 exact ih (s + 1) _ _ _ _ _ (by omega) (by omega) (by omega) hz hz1 h)
              | (rw [show (if (fo = -1 ∨ popN s < popN fo.toNat) ∧ vaB v s = true then (s : Int) else fo) = (s : Int) from if_pos ⟨Or.inl (by omega), b01_ne c128⟩] at hz hz1 h
                 exact ih (s + 1) _ _ _ _ _ (by omega) (by omega) (by omega) hz hz1 h)
              | (rw [show (if (fo = -1 ∨ popN s < popN fo.toNat) ∧ vaB v s = true then (s : Int) else fo) = (s : Int) from if_pos ⟨Or.inr (by omega), b01_ne c128⟩] at hz hz1 h
                 exact ih (s + 1) _ _ _ _ _ (by omega) (by omega) (by omega) hz hz1 h)
              | (rw [show (if (fo = -1 ∨ popN s < popN fo.toNat) ∧ vaB v s = true then (s : Int) else fo) = fo from if_neg (fun q => by rcases q.1 with q | q <;> omega)] at hz hz1 h
                 exact ih (s + 1) _ _ _ _ _ (by omega) (by omega) (by omega) hz hz1 h)
    refine r_iload_n (pc' := 17) dX11_loose_16 rfl rfl ?_
    refine r_iconst (pc' := 18) dX11_loose_17 rfl ?_
    refine r_aload_n (pc' := 19) dX11_loose_18 rfl rfl ?_
    refine r_getr (pc' := 22) dX11_loose_19 rfl fX11_13 z166 rfl ?_
    refine r_iconst (pc' := 23) dX11_loose_22 rfl ?_
    refine r_iaload (pc' := 24) dX11_loose_23 rfl z168 (by decide) (by omega) (by omega) p8 ?_
    refine r_ishl (pc' := 25) dX11_loose_24 rfl ?_
    rw [e]
    refine r_icmp_ge (tgt := 158) (pc' := 28) dX11_loose_25 rfl rfl (by omega) (by omega) (fun c25 => ?_) (fun c25 => ?_)
    · exact absurd c25 (by omega)
    · refine r_iconst (pc' := 29) dX11_loose_28 rfl ?_
      refine r_istore (pc' := 31) dX11_loose_29 rfl rfl ?_
      refine r_iload_n (pc' := 32) dX11_loose_31 rfl rfl ?_
      refine r_aload_n (pc' := 33) dX11_loose_32 rfl rfl ?_
      refine r_vi0 (pc' := 36) dX11_loose_33 rfl qX11_onIt lX11_135 z166 rfl rfl rfl (Nat.zero_le _) (Nat.zero_le _) (m_onIt hB ?_)
      refine r_iconst (pc' := 37) dX11_loose_36 rfl ?_
      refine r_ixor (pc' := 38) dX11_loose_37 rfl ?_
      refine r_iand (pc' := 39) dX11_loose_38 rfl ?_
      rw [dif_n hs1]
      refine r_if_ne (tgt := 46) (pc' := 42) dX11_loose_39 rfl rfl (by have := difN_lt (t := onN v) hs1; omega) (fun c39 => ?_) (fun c39 => ?_)
      · refine r_iconst (pc' := 47) dX11_loose_46 rfl ?_
        refine r_istore (pc' := 49) dX11_loose_47 rfl rfl ?_
        refine r_iconst (pc' := 50) dX11_loose_49 rfl ?_
        refine r_istore (pc' := 52) dX11_loose_50 rfl rfl ?_
        first
          | exact lm_looI hB hs1 (Ln v) 0 (-1) true t (by omega) (by decide) (fun q _ _ => by omega) (hst true (decide_eq_true (by omega)).symm)
          | exact lm_looI hB hs1 (Ln v) 0 (-1) false t (by omega) (by decide) (fun q _ _ => by omega) (hst false (decide_eq_false (by omega)).symm)
      · refine r_iconst (pc' := 43) dX11_loose_42 rfl ?_
        refine r_goto (tgt := 47) dX11_loose_43 rfl ?_
        refine r_istore (pc' := 49) dX11_loose_47 rfl rfl ?_
        refine r_iconst (pc' := 50) dX11_loose_49 rfl ?_
        refine r_istore (pc' := 52) dX11_loose_50 rfl rfl ?_
        first
          | exact lm_looI hB hs1 (Ln v) 0 (-1) true t (by omega) (by decide) (fun q _ _ => by omega) (hst true (decide_eq_true (by omega)).symm)
          | exact lm_looI hB hs1 (Ln v) 0 (-1) false t (by omega) (by decide) (fun q _ _ => by omega) (hst false (decide_eq_false (by omega)).symm)
theorem M_loose {X : CX} {d : Nat} {g : Mem} {K : Int → Mem → Prop} {tN : Nat} {tX : Nat → Int} {flt : Int} {u : PV} {v : LV} {kn : Nat} {kL : Nat → LV} {im : Nat → Bool × Int × LV} {sd : Int} {ln : Nat} {la : Nat → Nat} {lr : Nat → Bool} {bn : Nat} {bp : Nat → Nat} {bf : Nat → Int} (hM : MS g tN tX flt u v kn kL im sd ln la lr bn bp bf) (hS : WS tN tX flt u v kn kL im sd ln la lr bn bp bf) (w : Int) (hw0 : R32 w) (h : ∀ g' : Mem, MS g' tN tX flt u v kn kL im sd ln la lr bn bp bf → FrM g g' → K (E_loose v w) g') : EI X (d + 2) mX11_loose [vr 166, vi w] Z0 g K := by
  show AJ X (d + 2) mX11_loose 0 0 (QI Z0 K) 0 0 0 [some (vr 166), some (vi w), none, none, none, none, none, none] [] Z0 g
  obtain ⟨⟨m1, m2⟩, m3, m4, m5, ⟨m6, m7⟩, m8, m9, ⟨m10, m11⟩, ⟨m12, m13⟩⟩ := id hM
  obtain ⟨⟨s1, s2⟩, s3, s4, s5, ⟨s6, s7⟩, s8, ⟨s9, s10⟩, ⟨s11, s12⟩, ⟨s13, s14⟩⟩ := id hS
  have hB : MB g u v := ⟨m4, s4, m5, s5⟩
  obtain ⟨hQ, hU, hC, hW⟩ := id hB
  obtain ⟨hy, hi, hc, ht, ho, hf, hw_⟩ := id hC
  obtain ⟨w0, w1, w2, w3, w4, w5, w6, w7⟩ := id hW
  obtain ⟨p6, p7, p8, p9, p10, pk, pg, px, py⟩ := id hQ
  obtain ⟨u0, u1, u2, u3, u4, u5, u6, u7⟩ := id hU
  have h9 := h g hM (FrM.rf g)
  unfold E_loose at h9
  have hl := loose_eq hW
  have hlt := looseN_lt hW
  refine r_iload_n (pc' := 1) dX11_loose_0 rfl rfl ?_
  refine r_iconst (pc' := 2) dX11_loose_1 rfl ?_
  refine r_iconst (pc' := 3) dX11_loose_2 rfl ?_
  refine r_si3 (pc' := 6) dX11_loose_3 rfl qX11_in lX11_67 rfl rfl rfl (Nat.zero_le _) (Nat.zero_le _) (m_in w 0 1 (by omega) (by omega) (by omega) ?_)
  refine r_if_ne (tgt := 12) (pc' := 9) dX11_loose_6 rfl rfl (b01_R _) (fun c6 => ?_) (fun c6 => ?_)
  · have hd := of_decide_eq_true (b01_ne c6)
    refine r_iconst (pc' := 13) dX11_loose_12 rfl ?_
    refine r_istore_n (pc' := 14) dX11_loose_13 rfl rfl ?_
    refine r_iconst (pc' := 15) dX11_loose_14 rfl ?_
    refine r_istore_n (pc' := 16) dX11_loose_15 rfl rfl ?_
    refine lm_loo hB hw0 (2 ^ Pf u) 0 (-1) none none none none (by omega) (by omega) (by omega) (by rw [hl]; omega) (by rw [hl]; omega) ?_
    rw [hl]
    by_cases q : w = 0
    · rw [if_pos q] at h9 ⊢
      exact h9
    · rw [if_neg q] at h9 ⊢
      rw [if_pos (by omega)] at h9
      exact h9
  · have hd := of_decide_eq_false (b01_eq c6)
    refine r_ldc (z := -1000000002) (pc' := 11) dX11_loose_9 rfl kX11_71 ?_
    refine r_reti dX11_loose_11 rfl (Or.inl rfl) ?_
    rw [if_neg (by omega), if_neg (by omega)] at h9
    exact h9
