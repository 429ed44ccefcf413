theorem allF_iff {c : Nat → Bool} : ∀ (k p : Nat), allF c k p = true ↔ ∀ q, p ≤ q → q < p + k → c q = true
  | 0, p => by
    unfold allF
    exact ⟨fun _ q h1 h2 => absurd h2 (by omega), fun _ => rfl⟩
  | k + 1, p => by
    unfold allF
    rw [Bool.and_eq_true, allF_iff k (p + 1)]
    constructor
    · rintro ⟨h1, h2⟩ q h3 h4
      by_cases hq : q = p
      · subst hq; exact h1
      · exact h2 q (by omega) (by omega)
    · intro h
      exact ⟨h p (by omega) (by omega), fun q h1 h2 => h q (by omega) (by omega)⟩
theorem cnF_ge {c : Nat → Bool} : ∀ (k p acc : Nat), acc ≤ cnF c k p acc
  | 0, _, _ => Nat.le_refl _
  | k + 1, p, acc => by
    unfold cnF
    have h1 := cnF_ge (c := c) k (p + 1) (if c p then acc + 1 else acc)
    have h2 : acc ≤ (if c p then acc + 1 else acc) := by split <;> omega
    omega
theorem cnF_eq {c : Nat → Bool} : ∀ (k p acc : Nat), cnF c k p acc = acc ↔ ∀ q, p ≤ q → q < p + k → c q = false
  | 0, p, acc => by
    unfold cnF
    exact ⟨fun _ q h1 h2 => absurd h2 (by omega), fun _ => rfl⟩
  | k + 1, p, acc => by
    unfold cnF
    cases hc : c p with
    | true =>
      have h1 := cnF_ge (c := c) k (p + 1) (acc + 1)
      constructor
      · intro h
        rw [if_pos rfl] at h
        omega
      · intro h
        have := h p (by omega) (by omega)
        rw [hc] at this
        cases this
    | false =>
      rw [if_neg (by decide), cnF_eq k (p + 1) acc]
      constructor
      · intro h q h1 h2
        by_cases hq : q = p
        · subst hq; exact hc
        · exact h q (by omega) (by omega)
      · intro h q h1 h2
        exact h q (by omega) (by omega)
theorem crF_ge (o : Nat → Nat) (n : Nat) : ∀ (k p acc : Nat), acc ≤ crF o n k p acc
  | 0, _, _ => Nat.le_refl _
  | k + 1, p, acc => by
    unfold crF
    exact Nat.le_trans (cnF_ge _ _ _) (crF_ge o n k (p + 1) _)
theorem crF_eq (o : Nat → Nat) (n : Nat) : ∀ (k p acc : Nat), p + k = n → (crF o n k p acc = acc ↔ ∀ a b, p ≤ a → a < b → b < n → ¬ o b < o a)
  | 0, p, acc, hp => by
    unfold crF
    exact ⟨fun _ a b h1 h2 h3 => absurd h3 (by omega), fun _ => rfl⟩
  | k + 1, p, acc, hp => by
    unfold crF
    have g1 := cnF_ge (c := fun q => decide (o q < o p)) (n - (p + 1)) (p + 1) acc
    have g2 := crF_ge o n k (p + 1) (cnF (fun q => decide (o q < o p)) (n - (p + 1)) (p + 1) acc)
    constructor
    · intro h a b h1 h2 h3
      have e1 : cnF (fun q => decide (o q < o p)) (n - (p + 1)) (p + 1) acc = acc := by omega
      rw [e1] at h
      by_cases ha : a = p
      · subst ha
        have := (cnF_eq _ _ _).mp e1 b (by omega) (by omega)
        exact of_decide_eq_false this
      · exact (crF_eq o n k (p + 1) acc (by omega)).mp h a b (by omega) h2 h3
    · intro h
      have e1 : cnF (fun q => decide (o q < o p)) (n - (p + 1)) (p + 1) acc = acc := (cnF_eq _ _ _).mpr (fun q h1 h2 => decide_eq_false (h p q (by omega) (by omega) (by omega)))
      rw [e1]
      exact (crF_eq o n k (p + 1) acc (by omega)).mpr (fun a b h1 h2 h3 => h a b (by omega) h2 h3)
theorem adj_all {o : Nat → Nat} {n : Nat} (h : ∀ p, 1 ≤ p → p < n → o (p - 1) ≤ o p) : ∀ b a, a < b → b < n → o a ≤ o b
  | 0, a, h1, _ => absurd h1 (by omega)
  | b + 1, a, h1, h2 => by
    have h3 := h (b + 1) (by omega) h2
    rw [Nat.add_sub_cancel] at h3
    by_cases hab : a = b
    · subst hab; exact h3
    · exact Nat.le_trans (adj_all h b a (by omega) (by omega)) h3
theorem rfB0_iff {o : Nat → Nat} {n : Nat} : rfB o n 0 = true ↔ ∀ p, 1 ≤ p → p < n → o (p - 1) ≤ o p := by
  unfold rfB
  rw [allF_iff]
  constructor
  · intro h p h1 h2
    have := of_decide_eq_true (h p h1 (by omega))
    rw [Nat.zero_add, Nat.mod_eq_of_lt (by omega), Nat.mod_eq_of_lt h2] at this
    exact this
  · intro h p h1 h2
    refine decide_eq_true ?_
    rw [Nat.zero_add, Nat.mod_eq_of_lt (by omega), Nat.mod_eq_of_lt (by omega)]
    exact h p h1 (by omega)
theorem rf_cr0 {o : Nat → Nat} {n : Nat} : rfB o n 0 = decide (crF o n n 0 0 = 0) := by
  have key : rfB o n 0 = true ↔ crF o n n 0 0 = 0 := by
    rw [rfB0_iff, crF_eq o n n 0 0 (by omega)]
    constructor
    · intro h a b _ h2 h3 h4
      have := adj_all h b a h2 h3
      omega
    · intro h p h1 h2
      have := h (p - 1) p (by omega) (by omega) h2
      omega
  cases hb : rfB o n 0 with
  | true => exact (decide_eq_true (key.mp hb)).symm
  | false =>
    refine (decide_eq_false (fun q => ?_)).symm
    rw [key.mpr q] at hb
    cases hb
