theorem cnF_t {c : Nat → Bool} {k p acc : Nat} (h : c p = true) : cnF c (k + 1) p acc = cnF c k (p + 1) (acc + 1) := by
  show cnF c k (p + 1) (if c p = true then acc + 1 else acc) = _
  rw [if_pos h]
theorem cnF_f {c : Nat → Bool} {k p acc : Nat} (h : c p = false) : cnF c (k + 1) p acc = cnF c k (p + 1) acc := by
  show cnF c k (p + 1) (if c p = true then acc + 1 else acc) = _
  rw [if_neg (by rw [h]; decide)]
theorem faF_t {c : Nat → Bool} {k p : Nat} {b : Int} (h : c p = true) : faF c (k + 1) p b = faF c k (p + 1) p := by
  show faF c k (p + 1) (if c p = true then (p : Int) else b) = _
  rw [if_pos h]
theorem faF_f {c : Nat → Bool} {k p : Nat} {b : Int} (h : c p = false) : faF c (k + 1) p b = faF c k (p + 1) b := by
  show faF c k (p + 1) (if c p = true then (p : Int) else b) = _
  rw [if_neg (by rw [h]; decide)]
theorem faF_no {c : Nat → Bool} : ∀ (k p : Nat) (b : Int), (∀ q, p ≤ q → q < p + k → c q = false) → faF c k p b = b
  | 0, _, _, _ => rfl
  | k + 1, p, b, h => by
    rw [faF_f (h p (by omega) (by omega))]
    exact faF_no k (p + 1) b (fun q h1 h2 => h q (by omega) (by omega))
theorem cnF_one {c : Nat → Bool} : ∀ (k p acc : Nat), cnF c k p acc = acc + 1 → ∃ m, p ≤ m ∧ m < p + k ∧ c m = true ∧ (∀ q, p ≤ q → q < p + k → q ≠ m → c q = false) ∧ ∀ b, faF c k p b = (m : Int)
  | 0, _, acc, h => by
    have : acc = acc + 1 := h
    omega
  | k + 1, p, acc, h => by
    cases hc : c p with
    | true =>
      rw [cnF_t hc] at h
      have h0 := (cnF_eq (c := c) k (p + 1) (acc + 1)).mp h
      refine ⟨p, by omega, by omega, hc, fun q h1 h2 h3 => h0 q (by omega) (by omega), fun b => ?_⟩
      rw [faF_t hc]
      exact faF_no k (p + 1) _ h0
    | false =>
      rw [cnF_f hc] at h
      obtain ⟨m, h1, h2, h3, h4, h5⟩ := cnF_one k (p + 1) acc h
      refine ⟨m, by omega, by omega, h3, fun q a b e => ?_, fun b => by rw [faF_f hc]; exact h5 b⟩
      by_cases hq : q = p
      · rw [hq]; exact hc
      · exact h4 q (by omega) (by omega) e
theorem cnF_uniq {c : Nat → Bool} {s : Nat} (hs : c s = true) : ∀ (k p acc : Nat), p ≤ s → s < p + k → (∀ q, p ≤ q → q < p + k → q ≠ s → c q = false) → cnF c k p acc = acc + 1
  | 0, p, acc, h1, h2, _ => by omega
  | k + 1, p, acc, h1, h2, h => by
    by_cases hp : p = s
    · subst hp
      rw [cnF_t hs]
      exact (cnF_eq (c := c) k (p + 1) (acc + 1)).mpr (fun q a b => h q (by omega) (by omega) (by omega))
    · rw [cnF_f (h p (by omega) (by omega) hp)]
      exact cnF_uniq hs k (p + 1) acc (by omega) (by omega) (fun q a b e => h q (by omega) (by omega) e)
theorem rcF_at {c : Nat → Bool} {m : Nat} (hm : c m = true) : ∀ (k p : Nat), p ≤ m → m < p + k → (∀ q, p ≤ q → q < m → c q = false) → rcF c k p = (m : Int)
  | 0, p, h1, h2, _ => by omega
  | k + 1, p, h1, h2, h => by
    unfold rcF
    by_cases hp : p = m
    · rw [if_pos (by rw [hp]; exact hm), hp]
    · rw [if_neg (by rw [h p (by omega) (by omega)]; decide)]
      exact rcF_at hm k (p + 1) (by omega) (by omega) (fun q a b => h q (by omega) (by omega))
theorem rcF_no {c : Nat → Bool} : ∀ (k p : Nat), (∀ q, p ≤ q → q < p + k → c q = false) → rcF c k p = -1
  | 0, _, _ => rfl
  | k + 1, p, h => by
    unfold rcF
    rw [if_neg (by rw [h p (by omega) (by omega)]; decide)]
    exact rcF_no k (p + 1) (fun q a b => h q (by omega) (by omega))
theorem rfB_iff {o : Nat → Nat} {n s : Nat} : rfB o n s = true ↔ ∀ p, 1 ≤ p → p < n → o ((s + p - 1) % n) ≤ o ((s + p) % n) := by
  unfold rfB
  rw [allF_iff]
  constructor
  · intro h p h1 h2
    exact of_decide_eq_true (h p h1 (by omega))
  · intro h p h1 h2
    exact decide_eq_true (h p h1 (by omega))
theorem mod_w {x n : Nat} (h1 : n ≤ x) (h2 : x < n + n) : x % n = x - n := by
  rw [show x = (x - n) + n by omega, Nat.add_mod_right, Nat.mod_eq_of_lt (by omega)]
  omega
theorem rf_s {o : Nat → Nat} {n s : Nat} (h1 : 1 ≤ s) (h2 : s < n) : rfB o n s = true ↔ (∀ q, 1 ≤ q → q < n → q ≠ s → o (q - 1) ≤ o q) ∧ o (n - 1) ≤ o 0 := by
  rw [rfB_iff]
  constructor
  · intro h
    refine ⟨fun q a b e => ?_, ?_⟩
    · by_cases hq : s < q
      · have := h (q - s) (by omega) (by omega)
        rw [Nat.mod_eq_of_lt (by omega), Nat.mod_eq_of_lt (by omega), show s + (q - s) - 1 = q - 1 by omega, show s + (q - s) = q by omega] at this
        exact this
      · have := h (q + n - s) (by omega) (by omega)
        rw [mod_w (by omega) (by omega), mod_w (by omega) (by omega), show s + (q + n - s) - 1 - n = q - 1 by omega, show s + (q + n - s) - n = q by omega] at this
        exact this
    · have := h (n - s) (by omega) (by omega)
      rw [Nat.mod_eq_of_lt (by omega), mod_w (by omega) (by omega), show s + (n - s) - 1 = n - 1 by omega, show s + (n - s) - n = 0 by omega] at this
      exact this
  · rintro ⟨h, h0⟩ p a b
    rcases (by omega : s + p < n ∨ s + p = n ∨ n < s + p) with e | e | e
    · rw [Nat.mod_eq_of_lt (by omega), Nat.mod_eq_of_lt e]
      exact h (s + p) (by omega) e (by omega)
    · rw [Nat.mod_eq_of_lt (by omega), mod_w (by omega) (by omega), show s + p - 1 = n - 1 by omega, show s + p - n = 0 by omega]
      exact h0
    · rw [mod_w (by omega) (by omega), mod_w (by omega) (by omega), show s + p - 1 - n = s + p - n - 1 by omega]
      exact h (s + p - n) (by omega) (by omega) (by omega)
def caC (o : Nat → Nat) : Nat → Bool := fun p => decide (o p < o (p - 1))
def caE (o : Nat → Nat) (n falls : Nat) (found : Int) : Int := if falls = 0 then 0 else if falls = 1 ∧ o (n - 1) < o 0 then found else -1
theorem ca_eq {o : Nat → Nat} {n : Nat} (inj : ∀ p q, p < n → q < n → o p = o q → p = q) : caE o n (cnF (caC o) (n - 1) 1 0) (faF (caC o) (n - 1) 1 0) = cutN o n := by
  have e0 : cnF (caC o) (n - 1) 1 0 = 0 ↔ rfB o n 0 = true := by
    rw [cnF_eq, rfB0_iff]
    constructor
    · intro h p a b
      have := of_decide_eq_false (h p a (by omega))
      omega
    · intro h p a b
      have := h p a (by omega)
      exact decide_eq_false (by omega)
  unfold caE cutN
  by_cases h0 : rfB o n 0 = true
  · rw [if_pos (e0.mpr h0), if_pos h0]
  · rw [if_neg (fun q => h0 (e0.mp q)), if_neg h0]
    by_cases h1 : cnF (caC o) (n - 1) 1 0 = 1 ∧ o (n - 1) < o 0
    · rw [if_pos h1]
      obtain ⟨m, a, b, e, f, k⟩ := cnF_one (n - 1) 1 0 h1.1
      rw [k 0]
      symm
      refine rcF_at ?_ (n - 1) 1 a b ?_
      · rw [rf_s a (by omega)]
        refine ⟨fun q x y z => ?_, by omega⟩
        have := of_decide_eq_false (f q x (by omega) z)
        omega
      · intro q x y
        rw [← Bool.not_eq_true]
        intro hq
        have := ((rf_s x (by omega)).mp hq).1 m a (by omega) (by omega)
        have e' := of_decide_eq_true e
        omega
    · rw [if_neg h1]
      symm
      apply rcF_no
      intro s a b
      rw [← Bool.not_eq_true]
      intro hs
      obtain ⟨x, y⟩ := (rf_s a (by omega)).mp hs
      apply h1
      have hlt : o (n - 1) < o 0 := by
        have := inj (n - 1) 0 (by omega) (by omega)
        by_cases z : o (n - 1) = o 0
        · have := this z
          omega
        · omega
      refine ⟨?_, hlt⟩
      have hns : caC o s = true := by
        by_cases z : caC o s = true
        · exact z
        · exfalso
          apply h0
          apply e0.mp
          rw [cnF_eq]
          intro q c d
          by_cases w : q = s
          · rw [w]
            exact Bool.not_eq_true _ ▸ z
          · have := x q c (by omega) w
            exact decide_eq_false (by omega)
      exact cnF_uniq hns (n - 1) 1 0 a (by omega) (fun q c d w => decide_eq_false (by have := x q c (by omega) w; omega))
theorem lm_cutAt {X : CX} {d : Nat} {g : Mem} {K : Int → Mem → Prop} {u : PV} {v : LV} (hB : MB g u v)  : ∀ (k p fl : Nat) (fo : Int) (y : Option VV), Ln v - p = k → fl < p → p ≤ max 1 (Ln v) → K (caE (Lo v) (Ln v) (cnF (caC (Lo v)) k p fl) (faF (caC (Lo v)) k p fo)) g → AJ X (d) mX11_cutAt 0 0 (QI Z0 K) 0 0 14 [some (vr 166), some (vi (fl : Int)), some (vi fo), some (vi (Ln v : Int)), some (vi (p : Int)), y] [] Z0 g := by
  obtain ⟨hQ, hU, hC, hW⟩ := id hB
  obtain ⟨hy, hi, hc, ht, ho, hf, hw_⟩ := id hC
  obtain ⟨w0, w1, w2, w3, w4, w5, w6, w7⟩ := id hW
  obtain ⟨p6, p7, p8, p9, p10, pk, pg, px, py⟩ := id hQ
  obtain ⟨u0, u1, u2, u3, u4, u5, u6, u7⟩ := id hU
  intro k
  induction k with
  | zero =>
    intro p fl fo y hk hf1 hp h
    have h : K (caE (Lo v) (Ln v) fl fo) g := h
    refine r_iload (pc' := 16) dX11_cutAt_14 rfl rfl ?_
    refine r_iload_n (pc' := 17) dX11_cutAt_16 rfl rfl ?_
    refine r_icmp_ge (tgt := 81) (pc' := 20) dX11_cutAt_17 rfl rfl (by omega) (by omega) (fun c17 => ?_) (fun c17 => ?_)
    · refine r_iload_n (pc' := 82) dX11_cutAt_81 rfl rfl ?_
      refine r_if_ne (tgt := 89) (pc' := 85) dX11_cutAt_82 rfl rfl (by omega) (fun c82 => ?_) (fun c82 => ?_)
      · refine r_iload_n (pc' := 90) dX11_cutAt_89 rfl rfl ?_
        refine r_iconst (pc' := 91) dX11_cutAt_90 rfl ?_
        refine r_icmp_ne (tgt := 117) (pc' := 94) dX11_cutAt_91 rfl rfl (by omega) (by omega) (fun c91 => ?_) (fun c91 => ?_)
        · refine r_iconst (pc' := 118) dX11_cutAt_117 rfl ?_
          refine r_reti dX11_cutAt_118 rfl (Or.inl rfl) ?_
          unfold caE at h
          first
            | (rw [if_pos (by omega)] at h; exact h)
            | (rw [if_neg (by omega), if_pos (by omega)] at h; exact h)
            | (rw [if_neg (by omega), if_neg (by omega)] at h; exact h)
        · refine r_aload_n (pc' := 95) dX11_cutAt_94 rfl rfl ?_
          refine r_getr (pc' := 98) dX11_cutAt_95 rfl fX11_19 z166 rfl ?_
          refine r_iconst (pc' := 99) dX11_cutAt_98 rfl ?_
          refine r_iload_n (pc' := 100) dX11_cutAt_99 rfl rfl ?_
          refine r_iadd (pc' := 101) dX11_cutAt_100 rfl ?_
          refine r_iconst (pc' := 102) dX11_cutAt_101 rfl ?_
          refine r_isub (pc' := 103) dX11_cutAt_102 rfl ?_
          refine r_iaload (pc' := 104) (x := (Lo v (Ln v - 1) : Int)) dX11_cutAt_103 rfl z170 (by decide) (by omega) (by omega) (by have q := ho (Ln v - 1) (by omega); rw [show (4 : Int) + ((Ln v - 1 : Nat) : Int) = 4 + (Ln v : Int) - 1 by omega] at q; exact q) ?_
          refine r_aload_n (pc' := 105) dX11_cutAt_104 rfl rfl ?_
          refine r_getr (pc' := 108) dX11_cutAt_105 rfl fX11_19 z166 rfl ?_
          refine r_iconst (pc' := 109) dX11_cutAt_108 rfl ?_
          refine r_iaload (pc' := 110) (x := (Lo v 0 : Int)) dX11_cutAt_109 rfl z170 (by decide) (by omega) (by omega) (by have q := ho 0 (by omega); rw [show (4 : Int) + ((0 : Nat) : Int) = 4 from rfl] at q; exact q) ?_
          refine r_icmp_ge (tgt := 117) (pc' := 113) dX11_cutAt_110 rfl rfl (by have := w2 (Ln v - 1) (by omega); omega) (by have := w2 0 (by omega); omega) (fun c110 => ?_) (fun c110 => ?_)
          · refine r_iconst (pc' := 118) dX11_cutAt_117 rfl ?_
            refine r_reti dX11_cutAt_118 rfl (Or.inl rfl) ?_
            unfold caE at h
            first
              | (rw [if_pos (by omega)] at h; exact h)
              | (rw [if_neg (by omega), if_pos (by omega)] at h; exact h)
              | (rw [if_neg (by omega), if_neg (by omega)] at h; exact h)
          · refine r_iload_n (pc' := 114) dX11_cutAt_113 rfl rfl ?_
            refine r_goto (tgt := 118) dX11_cutAt_114 rfl ?_
            refine r_reti dX11_cutAt_118 rfl (Or.inl rfl) ?_
            unfold caE at h
            first
              | (rw [if_pos (by omega)] at h; exact h)
              | (rw [if_neg (by omega), if_pos (by omega)] at h; exact h)
              | (rw [if_neg (by omega), if_neg (by omega)] at h; exact h)
      · refine r_iconst (pc' := 86) dX11_cutAt_85 rfl ?_
        refine r_goto (tgt := 118) dX11_cutAt_86 rfl ?_
        refine r_reti dX11_cutAt_118 rfl (Or.inl rfl) ?_
        unfold caE at h
        first
          | (rw [if_pos (by omega)] at h; exact h)
          | (rw [if_neg (by omega), if_pos (by omega)] at h; exact h)
          | (rw [if_neg (by omega), if_neg (by omega)] at h; exact h)
    · exact absurd c17 (by omega)
  | succ k ih =>
    intro p fl fo y hk hf1 hp h
    have q0 := ho (p - 1) (by omega)
    rw [show (4 : Int) + ((p - 1 : Nat) : Int) = 4 + (p : Int) - 1 by omega] at q0
    have q1 := ho p (by omega)
    have q2 := w2 p (by omega)
    have q3 := w2 (p - 1) (by omega)
    refine r_iload (pc' := 16) dX11_cutAt_14 rfl rfl ?_
    refine r_iload_n (pc' := 17) dX11_cutAt_16 rfl rfl ?_
    refine r_icmp_ge (tgt := 81) (pc' := 20) dX11_cutAt_17 rfl rfl (by omega) (by omega) (fun c17 => ?_) (fun c17 => ?_)
    · exact absurd c17 (by omega)
    · refine r_aload_n (pc' := 21) dX11_cutAt_20 rfl rfl ?_
      refine r_getr (pc' := 24) dX11_cutAt_21 rfl fX11_19 z166 rfl ?_
      refine r_iconst (pc' := 25) dX11_cutAt_24 rfl ?_
      refine r_iload (pc' := 27) dX11_cutAt_25 rfl rfl ?_
      refine r_iadd (pc' := 28) dX11_cutAt_27 rfl ?_
      refine r_iconst (pc' := 29) dX11_cutAt_28 rfl ?_
      refine r_isub (pc' := 30) dX11_cutAt_29 rfl ?_
      refine r_iaload (pc' := 31) (x := (Lo v (p - 1) : Int)) dX11_cutAt_30 rfl z170 (by decide) (by omega) (by omega) q0 ?_
      refine r_aload_n (pc' := 32) dX11_cutAt_31 rfl rfl ?_
      refine r_getr (pc' := 35) dX11_cutAt_32 rfl fX11_19 z166 rfl ?_
      refine r_iconst (pc' := 36) dX11_cutAt_35 rfl ?_
      refine r_iload (pc' := 38) dX11_cutAt_36 rfl rfl ?_
      refine r_iadd (pc' := 39) dX11_cutAt_38 rfl ?_
      refine r_iaload (pc' := 40) (x := (Lo v p : Int)) dX11_cutAt_39 rfl z170 (by decide) (by omega) (by omega) q1 ?_
      refine r_icmp_le (tgt := 47) (pc' := 43) dX11_cutAt_40 rfl rfl (by omega) (by omega) (fun c40 => ?_) (fun c40 => ?_)
      · refine r_iconst (pc' := 48) dX11_cutAt_47 rfl ?_
        refine r_istore (pc' := 50) dX11_cutAt_48 rfl rfl ?_
        refine r_iload_n (pc' := 51) dX11_cutAt_50 rfl rfl ?_
        refine r_iload (pc' := 53) dX11_cutAt_51 rfl rfl ?_
        refine r_if_eq (tgt := 60) (pc' := 56) dX11_cutAt_53 rfl rfl (by decide) (fun c53 => ?_) (fun c53 => ?_)
        · refine r_iconst (pc' := 61) dX11_cutAt_60 rfl ?_
          refine r_iadd (pc' := 62) dX11_cutAt_61 rfl ?_
          refine r_istore_n (pc' := 63) dX11_cutAt_62 rfl rfl ?_
          refine r_iload (pc' := 65) dX11_cutAt_63 rfl rfl ?_
          refine r_if_eq (tgt := 73) (pc' := 68) dX11_cutAt_65 rfl rfl (by decide) (fun c65 => ?_) (fun c65 => ?_)
          · refine r_iload_n (pc' := 74) dX11_cutAt_73 rfl rfl ?_
            refine r_istore_n (pc' := 75) dX11_cutAt_74 rfl rfl ?_
            refine r_iinc (pc' := 78) dX11_cutAt_75 rfl rfl rfl ?_
            refine r_goto (tgt := 14) dX11_cutAt_78 rfl ?_
            first
              | (exfalso; omega)
              | (rw [cnF_t (c := caC (Lo v)) (p := p) (decide_eq_true (by omega)), faF_t (c := caC (Lo v)) (p := p) (decide_eq_true (by omega))] at h
                 exact ih (p + 1) (fl + 1) _ _ (by omega) (by omega) (by omega) h)
              | (rw [cnF_f (c := caC (Lo v)) (p := p) (decide_eq_false (by omega)), faF_f (c := caC (Lo v)) (p := p) (decide_eq_false (by omega))] at h
                 rw [show (fl : Int) + 0 = (fl : Int) by omega]
                 exact ih (p + 1) fl _ _ (by omega) (by omega) (by omega) h)
          · refine r_iload (pc' := 70) dX11_cutAt_68 rfl rfl ?_
            refine r_goto (tgt := 74) dX11_cutAt_70 rfl ?_
            refine r_istore_n (pc' := 75) dX11_cutAt_74 rfl rfl ?_
            refine r_iinc (pc' := 78) dX11_cutAt_75 rfl rfl rfl ?_
            refine r_goto (tgt := 14) dX11_cutAt_78 rfl ?_
            first
              | (exfalso; omega)
              | (rw [cnF_t (c := caC (Lo v)) (p := p) (decide_eq_true (by omega)), faF_t (c := caC (Lo v)) (p := p) (decide_eq_true (by omega))] at h
                 exact ih (p + 1) (fl + 1) _ _ (by omega) (by omega) (by omega) h)
              | (rw [cnF_f (c := caC (Lo v)) (p := p) (decide_eq_false (by omega)), faF_f (c := caC (Lo v)) (p := p) (decide_eq_false (by omega))] at h
                 rw [show (fl : Int) + 0 = (fl : Int) by omega]
                 exact ih (p + 1) fl _ _ (by omega) (by omega) (by omega) h)
        · refine r_iconst (pc' := 57) dX11_cutAt_56 rfl ?_
          refine r_goto (tgt := 61) dX11_cutAt_57 rfl ?_
          refine r_iadd (pc' := 62) dX11_cutAt_61 rfl ?_
          refine r_istore_n (pc' := 63) dX11_cutAt_62 rfl rfl ?_
          refine r_iload (pc' := 65) dX11_cutAt_63 rfl rfl ?_
          refine r_if_eq (tgt := 73) (pc' := 68) dX11_cutAt_65 rfl rfl (by decide) (fun c65 => ?_) (fun c65 => ?_)
          · refine r_iload_n (pc' := 74) dX11_cutAt_73 rfl rfl ?_
            refine r_istore_n (pc' := 75) dX11_cutAt_74 rfl rfl ?_
            refine r_iinc (pc' := 78) dX11_cutAt_75 rfl rfl rfl ?_
            refine r_goto (tgt := 14) dX11_cutAt_78 rfl ?_
            first
              | (exfalso; omega)
              | (rw [cnF_t (c := caC (Lo v)) (p := p) (decide_eq_true (by omega)), faF_t (c := caC (Lo v)) (p := p) (decide_eq_true (by omega))] at h
                 exact ih (p + 1) (fl + 1) _ _ (by omega) (by omega) (by omega) h)
              | (rw [cnF_f (c := caC (Lo v)) (p := p) (decide_eq_false (by omega)), faF_f (c := caC (Lo v)) (p := p) (decide_eq_false (by omega))] at h
                 rw [show (fl : Int) + 0 = (fl : Int) by omega]
                 exact ih (p + 1) fl _ _ (by omega) (by omega) (by omega) h)
          · refine r_iload (pc' := 70) dX11_cutAt_68 rfl rfl ?_
            refine r_goto (tgt := 74) dX11_cutAt_70 rfl ?_
            refine r_istore_n (pc' := 75) dX11_cutAt_74 rfl rfl ?_
            refine r_iinc (pc' := 78) dX11_cutAt_75 rfl rfl rfl ?_
            refine r_goto (tgt := 14) dX11_cutAt_78 rfl ?_
            first
              | (exfalso; omega)
              | (rw [cnF_t (c := caC (Lo v)) (p := p) (decide_eq_true (by omega)), faF_t (c := caC (Lo v)) (p := p) (decide_eq_true (by omega))] at h
                 exact ih (p + 1) (fl + 1) _ _ (by omega) (by omega) (by omega) h)
              | (rw [cnF_f (c := caC (Lo v)) (p := p) (decide_eq_false (by omega)), faF_f (c := caC (Lo v)) (p := p) (decide_eq_false (by omega))] at h
                 rw [show (fl : Int) + 0 = (fl : Int) by omega]
                 exact ih (p + 1) fl _ _ (by omega) (by omega) (by omega) h)
      · refine r_iconst (pc' := 44) dX11_cutAt_43 rfl ?_
        refine r_goto (tgt := 48) dX11_cutAt_44 rfl ?_
        refine r_istore (pc' := 50) dX11_cutAt_48 rfl rfl ?_
        refine r_iload_n (pc' := 51) dX11_cutAt_50 rfl rfl ?_
        refine r_iload (pc' := 53) dX11_cutAt_51 rfl rfl ?_
        refine r_if_eq (tgt := 60) (pc' := 56) dX11_cutAt_53 rfl rfl (by decide) (fun c53 => ?_) (fun c53 => ?_)
        · refine r_iconst (pc' := 61) dX11_cutAt_60 rfl ?_
          refine r_iadd (pc' := 62) dX11_cutAt_61 rfl ?_
          refine r_istore_n (pc' := 63) dX11_cutAt_62 rfl rfl ?_
          refine r_iload (pc' := 65) dX11_cutAt_63 rfl rfl ?_
          refine r_if_eq (tgt := 73) (pc' := 68) dX11_cutAt_65 rfl rfl (by decide) (fun c65 => ?_) (fun c65 => ?_)
          · refine r_iload_n (pc' := 74) dX11_cutAt_73 rfl rfl ?_
            refine r_istore_n (pc' := 75) dX11_cutAt_74 rfl rfl ?_
            refine r_iinc (pc' := 78) dX11_cutAt_75 rfl rfl rfl ?_
            refine r_goto (tgt := 14) dX11_cutAt_78 rfl ?_
            first
              | (exfalso; omega)
              | (rw [cnF_t (c := caC (Lo v)) (p := p) (decide_eq_true (by omega)), faF_t (c := caC (Lo v)) (p := p) (decide_eq_true (by omega))] at h
                 exact ih (p + 1) (fl + 1) _ _ (by omega) (by omega) (by omega) h)
              | (rw [cnF_f (c := caC (Lo v)) (p := p) (decide_eq_false (by omega)), faF_f (c := caC (Lo v)) (p := p) (decide_eq_false (by omega))] at h
                 rw [show (fl : Int) + 0 = (fl : Int) by omega]
                 exact ih (p + 1) fl _ _ (by omega) (by omega) (by omega) h)
          · refine r_iload (pc' := 70) dX11_cutAt_68 rfl rfl ?_
            refine r_goto (tgt := 74) dX11_cutAt_70 rfl ?_
            refine r_istore_n (pc' := 75) dX11_cutAt_74 rfl rfl ?_
            refine r_iinc (pc' := 78) dX11_cutAt_75 rfl rfl rfl ?_
            refine r_goto (tgt := 14) dX11_cutAt_78 rfl ?_
            first
              | (exfalso; omega)
              | (rw [cnF_t (c := caC (Lo v)) (p := p) (decide_eq_true (by omega)), faF_t (c := caC (Lo v)) (p := p) (decide_eq_true (by omega))] at h
                 exact ih (p + 1) (fl + 1) _ _ (by omega) (by omega) (by omega) h)
              | (rw [cnF_f (c := caC (Lo v)) (p := p) (decide_eq_false (by omega)), faF_f (c := caC (Lo v)) (p := p) (decide_eq_false (by omega))] at h
                 rw [show (fl : Int) + 0 = (fl : Int) by omega]
                 exact ih (p + 1) fl _ _ (by omega) (by omega) (by omega) h)
        · refine r_iconst (pc' := 57) dX11_cutAt_56 rfl ?_
          refine r_goto (tgt := 61) dX11_cutAt_57 rfl ?_
          refine r_iadd (pc' := 62) dX11_cutAt_61 rfl ?_
          refine r_istore_n (pc' := 63) dX11_cutAt_62 rfl rfl ?_
          refine r_iload (pc' := 65) dX11_cutAt_63 rfl rfl ?_
          refine r_if_eq (tgt := 73) (pc' := 68) dX11_cutAt_65 rfl rfl (by decide) (fun c65 => ?_) (fun c65 => ?_)
          · refine r_iload_n (pc' := 74) dX11_cutAt_73 rfl rfl ?_
            refine r_istore_n (pc' := 75) dX11_cutAt_74 rfl rfl ?_
            refine r_iinc (pc' := 78) dX11_cutAt_75 rfl rfl rfl ?_
            refine r_goto (tgt := 14) dX11_cutAt_78 rfl ?_
            first
              | (exfalso; omega)
              | (rw [cnF_t (c := caC (Lo v)) (p := p) (decide_eq_true (by omega)), faF_t (c := caC (Lo v)) (p := p) (decide_eq_true (by omega))] at h
                 exact ih (p + 1) (fl + 1) _ _ (by omega) (by omega) (by omega) h)
              | (rw [cnF_f (c := caC (Lo v)) (p := p) (decide_eq_false (by omega)), faF_f (c := caC (Lo v)) (p := p) (decide_eq_false (by omega))] at h
                 rw [show (fl : Int) + 0 = (fl : Int) by omega]
                 exact ih (p + 1) fl _ _ (by omega) (by omega) (by omega) h)
          · refine r_iload (pc' := 70) dX11_cutAt_68 rfl rfl ?_
            refine r_goto (tgt := 74) dX11_cutAt_70 rfl ?_
            refine r_istore_n (pc' := 75) dX11_cutAt_74 rfl rfl ?_
            refine r_iinc (pc' := 78) dX11_cutAt_75 rfl rfl rfl ?_
            refine r_goto (tgt := 14) dX11_cutAt_78 rfl ?_
            first
              | (exfalso; omega)
              | (rw [cnF_t (c := caC (Lo v)) (p := p) (decide_eq_true (by omega)), faF_t (c := caC (Lo v)) (p := p) (decide_eq_true (by omega))] at h
                 exact ih (p + 1) (fl + 1) _ _ (by omega) (by omega) (by omega) h)
              | (rw [cnF_f (c := caC (Lo v)) (p := p) (decide_eq_false (by omega)), faF_f (c := caC (Lo v)) (p := p) (decide_eq_false (by omega))] at h
                 rw [show (fl : Int) + 0 = (fl : Int) by omega]
                 exact ih (p + 1) fl _ _ (by omega) (by omega) (by omega) h)
theorem m_cutAt {X : CX} {d : Nat} {g : Mem} {K : Int → Mem → Prop} {u : PV} {v : LV} (hB : MB g u v) (h : K (cutN (Lo v) (Ln v)) g) : EI X (d) mX11_cutAt [vr 166] Z0 g K := by
  show AJ X (d) mX11_cutAt 0 0 (QI Z0 K) 0 0 0 [some (vr 166), none, none, none, none, none] [] Z0 g
  obtain ⟨hQ, hU, hC, hW⟩ := id hB
  obtain ⟨hy, hi, hc, ht, ho, hf, hw_⟩ := id hC
  obtain ⟨w0, w1, w2, w3, w4, w5, w6, w7⟩ := id hW
  obtain ⟨p6, p7, p8, p9, p10, pk, pg, px, py⟩ := id hQ
  obtain ⟨u0, u1, u2, u3, u4, u5, u6, u7⟩ := id hU
  rw [← ca_eq w3] at h
  refine r_iconst (pc' := 1) dX11_cutAt_0 rfl ?_
  refine r_istore_n (pc' := 2) dX11_cutAt_1 rfl rfl ?_
  refine r_iconst (pc' := 3) dX11_cutAt_2 rfl ?_
  refine r_istore_n (pc' := 4) dX11_cutAt_3 rfl rfl ?_
  refine r_aload_n (pc' := 5) dX11_cutAt_4 rfl rfl ?_
  refine r_getr (pc' := 8) dX11_cutAt_5 rfl fX11_19 z166 rfl ?_
  refine r_iconst (pc' := 9) dX11_cutAt_8 rfl ?_
  refine r_iaload (pc' := 10) dX11_cutAt_9 rfl z170 (by decide) (by omega) (by omega) hc ?_
  refine r_istore_n (pc' := 11) dX11_cutAt_10 rfl rfl ?_
  refine r_iconst (pc' := 12) dX11_cutAt_11 rfl ?_
  refine r_istore (pc' := 14) dX11_cutAt_12 rfl rfl ?_
  exact lm_cutAt hB (Ln v - 1) 1 0 0 none (by omega) (by omega) (by omega) h
