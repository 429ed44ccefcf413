/-- how many behind p are lesser; the number of an order; its figures; the order of a number -/
def lsN (o : Nat → Nat) (n p : Nat) : Nat := cnF (fun q => decide (o q < o p)) (n - (p + 1)) (p + 1) 0
def nvF (o : Nat → Nat) (n : Nat) : Nat → Nat
  | 0 => 0
  | p + 1 => nvF o n p * (n - p) + lsN o n p
def numF (n : Nat) (o : Nat → Nat) : Nat := nvF o n n
def fcF : Nat → Nat
  | 0 => 1
  | n + 1 => (n + 1) * fcF n
def lfF (v : Nat) : Nat → Nat
  | 0 => v
  | j + 1 => lfF v j / (j + 1)
def dgF (n v p : Nat) : Nat := lfF v (n - 1 - p) % (n - p)
def nxF (met : Nat) : Nat → Nat → Nat
  | 0, f => f
  | k + 1, f => if met.testBit f then nxF met k (f + 1) else f
def selF (met : Nat) : Nat → Nat
  | 0 => nxF met 8 0
  | j + 1 => nxF met 8 (selF met j + 1)
def mtF (n v : Nat) : Nat → Nat
  | 0 => 0
  | p + 1 => mtF n v p ||| 2 ^ selF (mtF n v p) (dgF n v p)
def ordF (n v p : Nat) : Nat := selF (mtF n v p) (dgF n v p)
def stF (r : Nat → Nat) : Nat → Nat
  | 0 => 0
  | p + 1 => stF r p ||| 2 ^ r p
theorem K_1 : ∀ n, n < 8 → ∀ met, met < 2 ^ n → ∀ d, d < n - popN met → selF met d < n ∧ met.testBit (selF met d) = false ∧ cnF (fun i => !met.testBit i) (selF met d) 0 0 = d := by decide +kernel
theorem K_2 : ∀ met, met < 128 → ∀ f, f < 7 → met.testBit f = false → selF met (cnF (fun i => !met.testBit i) f 0 0) = f := by decide +kernel
theorem K_3 : ∀ met, met < 128 → ∀ x, x < 7 → met.testBit x = false → popN (met ||| 2 ^ x) = popN met + 1 := by decide +kernel
theorem K_4 : ∀ met, met < 128 → ∀ x, x < 7 → met.testBit x = false → ∀ m, m < 8 → cnF (fun i => (met ||| 2 ^ x).testBit i) m 0 0 = cnF (fun i => met.testBit i) m 0 0 + (if x < m then 1 else 0) := by decide +kernel
theorem K_5 : ∀ met, met < 128 → ∀ m, m < 8 → cnF (fun i => !met.testBit i) m 0 0 + cnF (fun i => met.testBit i) m 0 0 = m := by decide +kernel
theorem K_6 : ∀ n, n < 8 → 1 ≤ fcF n ∧ fcF n ≤ 5040 := by decide +kernel
theorem st_bit {r : Nat → Nat} {i : Nat} : ∀ (p : Nat), (stF r p).testBit i = true ↔ ∃ q, q < p ∧ r q = i
  | 0 => by
    show (0 : Nat).testBit i = true ↔ _
    rw [Nat.zero_testBit]
    exact ⟨fun h => absurd h (by decide), fun ⟨q, h, _⟩ => absurd h (by omega)⟩
  | p + 1 => by
    show (stF r p ||| 2 ^ r p).testBit i = true ↔ _
    rw [Nat.testBit_or, Bool.or_eq_true, st_bit p, Nat.testBit_two_pow]
    constructor
    · rintro (⟨q, a, b⟩ | h)
      · exact ⟨q, by omega, b⟩
      · exact ⟨p, by omega, of_decide_eq_true h⟩
    · rintro ⟨q, a, b⟩
      by_cases e : q = p
      · subst e
        exact Or.inr (decide_eq_true b)
      · exact Or.inl ⟨q, by omega, b⟩
theorem st_lt {r : Nat → Nat} {n : Nat} : ∀ (p : Nat), (∀ q, q < p → r q < n) → stF r p < 2 ^ n
  | 0, _ => Nat.pow_pos (by decide)
  | p + 1, h => Nat.or_lt_two_pow (st_lt p (fun q hq => h q (by omega))) (Nat.pow_lt_pow_right (by decide) (h p (by omega)))
theorem st_no {n : Nat} {r : Nat → Nat} (hr : Pm n r) {p : Nat} (hp : p < n) : (stF r p).testBit (r p) = false := by
  rw [← Bool.not_eq_true]
  intro h
  obtain ⟨q, a, b⟩ := (st_bit p).mp h
  have := hr.2 q p (by omega) hp b
  omega
theorem st_128 {n : Nat} (hn : n ≤ 7) {r : Nat → Nat} (hr : Pm n r) {p : Nat} (hp : p ≤ n) : stF r p < 128 := st_lt (n := 7) p (fun q hq => by have := hr.1 q (by omega); omega)
theorem cnF_acc {c : Nat → Bool} (k p acc : Nat) : cnF c k p acc = acc + cnF c k p 0 := by
  induction k generalizing p acc with
  | zero => rfl
  | succ k ih =>
    cases h : c p with
    | true => rw [cnF_t h, cnF_t h, ih, ih (p + 1) (0 + 1)]; omega
    | false => rw [cnF_f h, cnF_f h, ih]
theorem st_cnt {n : Nat} (hn : n ≤ 7) {r : Nat → Nat} (hr : Pm n r) {m : Nat} (hm : m < 8) : ∀ (p : Nat), p ≤ n → cnF (fun i => (stF r p).testBit i) m 0 0 = cnF (fun q => decide (r q < m)) p 0 0
  | 0, _ => by
    show cnF (fun i => (0 : Nat).testBit i) m 0 0 = 0
    exact (cnF_eq m 0 0).mpr (fun q _ _ => Nat.zero_testBit q)
  | p + 1, hp => by
    show cnF (fun i => (stF r p ||| 2 ^ r p).testBit i) m 0 0 = _
    have hlt := hr.1 p (by omega)
    rw [K_4 (stF r p) (st_128 hn hr (by omega)) (r p) (by omega) (st_no hr (by omega)) m hm, st_cnt hn hr hm p (by omega), cnF_add p 1 0 0]
    by_cases h : r p < m
    · rw [if_pos h, Nat.zero_add, cnF_t (c := fun q => decide (r q < m)) (p := p) (decide_eq_true h)]
      rfl
    · rw [if_neg h, Nat.zero_add, cnF_f (c := fun q => decide (r q < m)) (p := p) (decide_eq_false h)]
      rfl
theorem cnF_or {c a b : Nat → Bool} : ∀ (k p x y : Nat), (∀ q, p ≤ q → q < p + k → c q = (a q || b q) ∧ (a q && b q) = false) → cnF c k p (x + y) = cnF a k p x + cnF b k p y
  | 0, _, _, _, _ => rfl
  | k + 1, p, x, y, h => by
    obtain ⟨h1, h2⟩ := h p (by omega) (by omega)
    have ih := fun x y => cnF_or (c := c) (a := a) (b := b) k (p + 1) x y (fun q a b => h q (by omega) (by omega))
    cases ha : a p with
    | true =>
      cases hb : b p with
      | true => rw [ha, hb] at h2; exact absurd h2 (by decide)
      | false =>
        rw [ha, hb] at h1
        rw [cnF_t h1, cnF_t ha, cnF_f hb, ← ih, show x + y + 1 = x + 1 + y by omega]
    | false =>
      cases hb : b p with
      | true =>
        rw [ha, hb] at h1
        rw [cnF_t h1, cnF_f ha, cnF_t hb, ← ih, show x + y + 1 = x + (y + 1) by omega]
      | false =>
        rw [ha, hb] at h1
        rw [cnF_f h1, cnF_f ha, cnF_f hb, ← ih]
theorem rank {n : Nat} {r : Nat → Nat} (hr : Pm n r) : ∀ (m : Nat), m ≤ n → cnF (fun q => decide (r q < m)) n 0 0 = m
  | 0, _ => (cnF_eq n 0 0).mpr (fun q _ _ => decide_eq_false (by omega))
  | m + 1, hm => by
    have h1 := rank hr m (by omega)
    obtain ⟨j, hj, e⟩ := Pm_sur hr (m := m) (by omega)
    have h2 : cnF (fun q => decide (r q = m)) n 0 0 = 0 + 1 := cnF_uniq (s := j) (decide_eq_true e) n 0 0 (by omega) (by omega) (fun q _ b z => decide_eq_false (fun w => z (hr.2 q j (by omega) hj (by omega))))
    have h3 := cnF_or (c := fun q => decide (r q < m + 1)) (a := fun q => decide (r q < m)) (b := fun q => decide (r q = m)) n 0 0 0 (fun q _ _ => by
      refine ⟨?_, ?_⟩
      · rw [Bool.eq_iff_iff, Bool.or_eq_true, decide_eq_true_iff, decide_eq_true_iff, decide_eq_true_iff]
        omega
      · rw [Bool.and_eq_false_iff, decide_eq_false_iff_not, decide_eq_false_iff_not]
        omega)
    rw [h1, h2] at h3
    exact h3
theorem ls_eq {n : Nat} (hn : n ≤ 7) {r : Nat → Nat} (hr : Pm n r) {p : Nat} (hp : p < n) : cnF (fun i => !(stF r p).testBit i) (r p) 0 0 = lsN r n p := by
  have hlt := hr.1 p hp
  have h5 := K_5 (stF r p) (st_128 hn hr (by omega)) (r p) (by omega)
  have hc := st_cnt hn hr (m := r p) (by omega) p (by omega)
  have hk := rank hr (r p) (by omega)
  rw [show n = p + ((n - (p + 1)) + 1) by omega, cnF_add] at hk
  rw [Nat.zero_add, cnF_f (c := fun q => decide (r q < r p)) (p := p) (decide_eq_false (by omega)), cnF_acc] at hk
  unfold lsN
  omega
theorem ls_lt (o : Nat → Nat) {n p : Nat} (hp : p < n) : lsN o n p < n - p := by
  have := cnF_le (c := fun q => decide (o q < o p)) (n - (p + 1)) (p + 1) 0
  unfold lsN
  omega
theorem nv_b (o : Nat → Nat) (n : Nat) : ∀ p, p ≤ n → (nvF o n p + 1) * fcF (n - p) ≤ fcF n
  | 0, _ => by
    show (0 + 1) * fcF (n - 0) ≤ fcF n
    rw [Nat.zero_add, Nat.one_mul, Nat.sub_zero]
    exact Nat.le_refl _
  | p + 1, hp => by
    have h1 := nv_b o n p (by omega)
    have h2 := ls_lt o (n := n) (p := p) (by omega)
    obtain ⟨m, hm⟩ : ∃ m, n - p = m + 1 := ⟨n - p - 1, by omega⟩
    rw [show n - (p + 1) = m by omega]
    rw [hm] at h1 h2
    have h3 : nvF o n (p + 1) + 1 ≤ (nvF o n p + 1) * (m + 1) := by
      show nvF o n p * (n - p) + lsN o n p + 1 ≤ _
      rw [hm, Nat.succ_mul (nvF o n p)]
      omega
    have h4 : (nvF o n (p + 1) + 1) * fcF m ≤ (nvF o n p + 1) * (m + 1) * fcF m := Nat.mul_le_mul_right _ h3
    rw [Nat.mul_assoc] at h4
    exact Nat.le_trans h4 h1
theorem num_lt (n : Nat) (o : Nat → Nat) : numF n o < fcF n := by
  have := nv_b o n n (Nat.le_refl _)
  rw [Nat.sub_self, show fcF 0 = 1 from rfl, Nat.mul_one] at this
  exact this
theorem lf_nv (o : Nat → Nat) (n : Nat) : ∀ j, j ≤ n → lfF (numF n o) j = nvF o n (n - j)
  | 0, _ => rfl
  | j + 1, hj => by
    show lfF (numF n o) j / (j + 1) = _
    rw [lf_nv o n j (by omega)]
    obtain ⟨m, hm⟩ : ∃ m, n - j = m + 1 := ⟨n - j - 1, by omega⟩
    rw [hm, show n - (j + 1) = m by omega]
    show (nvF o n m * (n - m) + lsN o n m) / (j + 1) = nvF o n m
    have h2 := ls_lt o (n := n) (p := m) (by omega)
    rw [show n - m = j + 1 by omega] at h2 ⊢
    rw [Nat.mul_comm, Nat.mul_add_div (by omega), Nat.div_eq_of_lt h2, Nat.add_zero]
theorem dg_num (o : Nat → Nat) {n p : Nat} (hp : p < n) : dgF n (numF n o) p = lsN o n p := by
  unfold dgF
  rw [lf_nv o n (n - 1 - p) (by omega), show n - (n - 1 - p) = p + 1 by omega]
  show (nvF o n p * (n - p) + lsN o n p) % (n - p) = _
  rw [Nat.mul_comm, Nat.mul_add_mod]
  exact Nat.mod_eq_of_lt (ls_lt o hp)
theorem ord_num {n : Nat} (hn : n ≤ 7) {r : Nat → Nat} (hr : Pm n r) : ∀ p, p ≤ n → mtF n (numF n r) p = stF r p ∧ (p < n → ordF n (numF n r) p = r p) := by
  have key : ∀ p, p < n → mtF n (numF n r) p = stF r p → ordF n (numF n r) p = r p := by
    intro p hp e
    have hlt := hr.1 p hp
    unfold ordF
    rw [e, dg_num r hp, ← ls_eq hn hr hp]
    exact K_2 _ (st_128 hn hr (by omega)) _ (by omega) (st_no hr hp)
  intro p
  induction p with
  | zero => exact fun _ => ⟨rfl, fun h => key 0 h rfl⟩
  | succ p ih =>
    intro hp
    obtain ⟨a, b⟩ := ih (by omega)
    have e : mtF n (numF n r) (p + 1) = stF r (p + 1) := by
      show mtF n (numF n r) p ||| 2 ^ ordF n (numF n r) p = stF r p ||| 2 ^ r p
      rw [a, b (by omega)]
    exact ⟨e, fun h => key (p + 1) h e⟩
theorem mt_st (n v : Nat) : ∀ p, mtF n v p = stF (ordF n v) p
  | 0 => rfl
  | p + 1 => by
    show mtF n v p ||| 2 ^ ordF n v p = stF (ordF n v) p ||| 2 ^ ordF n v p
    rw [mt_st n v p]
theorem dg_lt {n v p : Nat} (hp : p < n) : dgF n v p < n - p := Nat.mod_lt _ (by omega)
theorem mt_b {n : Nat} (hn : n ≤ 7) (v : Nat) : ∀ p, p ≤ n → mtF n v p < 2 ^ n ∧ popN (mtF n v p) = p
  | 0, _ => ⟨Nat.pow_pos (by decide), by show popN 0 = 0; decide⟩
  | p + 1, hp => by
    obtain ⟨a, b⟩ := mt_b hn v p (by omega)
    have hd := dg_lt (n := n) (v := v) (p := p) (by omega)
    obtain ⟨c, e, _⟩ := K_1 n (by omega) (mtF n v p) a (dgF n v p) (by rw [b]; exact hd)
    have h7 : 2 ^ n ≤ 2 ^ 7 := Nat.pow_le_pow_right (by decide) hn
    refine ⟨Nat.or_lt_two_pow a (Nat.pow_lt_pow_right (by decide) c), ?_⟩
    show popN (mtF n v p ||| 2 ^ selF (mtF n v p) (dgF n v p)) = p + 1
    rw [K_3 _ (by omega) _ (by omega) e, b]
theorem ord_k {n : Nat} (hn : n ≤ 7) (v : Nat) {p : Nat} (hp : p < n) : ordF n v p < n ∧ (mtF n v p).testBit (ordF n v p) = false ∧ cnF (fun i => !(mtF n v p).testBit i) (ordF n v p) 0 0 = dgF n v p := by
  obtain ⟨a, b⟩ := mt_b hn v p (by omega)
  have hd := dg_lt (n := n) (v := v) (p := p) hp
  exact K_1 n (by omega) (mtF n v p) a (dgF n v p) (by rw [b]; exact hd)
theorem ord_Pm {n : Nat} (hn : n ≤ 7) (v : Nat) : Pm n (ordF n v) := by
  have ne : ∀ p q, p < q → q < n → ordF n v p ≠ ordF n v q := by
    intro p q h1 h2 e
    have h3 := (ord_k hn v h2).2.1
    rw [mt_st] at h3
    have := (st_bit (r := ordF n v) (i := ordF n v q) q).mpr ⟨p, h1, e⟩
    rw [h3] at this
    exact absurd this (by decide)
  refine ⟨fun p hp => (ord_k hn v hp).1, fun p q hp hq e => ?_⟩
  rcases Nat.lt_trichotomy p q with h | h | h
  · exact absurd e (ne p q h hq)
  · exact h
  · exact absurd e.symm (ne q p h hp)
theorem lf_f (v : Nat) : ∀ j, lfF v j * fcF j ≤ v
  | 0 => by
    show v * 1 ≤ v
    omega
  | j + 1 => by
    show lfF v j / (j + 1) * ((j + 1) * fcF j) ≤ v
    have h1 := lf_f v j
    have h2 : lfF v j / (j + 1) * (j + 1) ≤ lfF v j := Nat.div_mul_le_self _ _
    have h3 := Nat.mul_le_mul_right (fcF j) h2
    rw [Nat.mul_assoc] at h3
    exact Nat.le_trans h3 h1
theorem num_ord {n : Nat} (hn : n ≤ 7) {v : Nat} (hv : v < fcF n) : numF n (ordF n v) = v := by
  have hP := ord_Pm hn v
  have h0 : lfF v n = 0 := by
    have h1 := lf_f v n
    cases h : lfF v n with
    | zero => rfl
    | succ m =>
      rw [h, Nat.succ_mul] at h1
      omega
  have hs : ∀ p, p ≤ n → nvF (ordF n v) n p = lfF v (n - p) := by
    intro p
    induction p with
    | zero => intro _; rw [Nat.sub_zero, h0]; rfl
    | succ p ih =>
      intro hp
      show nvF (ordF n v) n p * (n - p) + lsN (ordF n v) n p = _
      rw [ih (by omega), ← ls_eq hn hP (by omega), ← mt_st, (ord_k hn v (by omega)).2.2]
      unfold dgF
      obtain ⟨m, hm⟩ : ∃ m, n - p = m + 1 := ⟨n - p - 1, by omega⟩
      rw [hm, show n - 1 - p = m by omega, show n - (p + 1) = m by omega]
      show lfF v m / (m + 1) * (m + 1) + lfF v m % (m + 1) = _
      rw [Nat.mul_comm]
      exact Nat.div_add_mod _ _
  have := hs n (Nat.le_refl _)
  rw [Nat.sub_self] at this
  exact this
theorem num_congr {n : Nat} {o o' : Nat → Nat} (h : ∀ p q, p < n → q < n → (o p < o q ↔ o' p < o' q)) : ∀ p, p ≤ n → nvF o n p = nvF o' n p
  | 0, _ => rfl
  | p + 1, hp => by
    show nvF o n p * (n - p) + lsN o n p = nvF o' n p * (n - p) + lsN o' n p
    rw [num_congr h p (by omega)]
    congr 1
    exact cnF_congr _ _ _ (fun q a b => decide_eq_decide.mpr (h q p (by omega) (by omega)))
-- ranks
theorem rk_lt {o : Nat → Nat} {n : Nat} (inj : ∀ p q, p < n → q < n → o p = o q → p = q) {p q : Nat} (hp : p < n) (hq : q < n) : rkN o n p < rkN o n q ↔ o p < o q := by
  have mono : ∀ p q, p < n → q < n → o p < o q → rkN o n p < rkN o n q := by
    intro p q hp hq h
    unfold rkN
    have h2 : cnF (fun x => decide (o x = o p)) n 0 0 = 0 + 1 := cnF_uniq (s := p) (decide_eq_true rfl) n 0 0 (by omega) (by omega) (fun x _ b z => decide_eq_false (fun w => z (inj x p (by omega) hp w)))
    have h3 := cnF_or (c := fun x => decide (o x < o p) || decide (o x = o p)) (a := fun x => decide (o x < o p)) (b := fun x => decide (o x = o p)) n 0 0 0 (fun x _ _ => ⟨rfl, by
      rw [Bool.and_eq_false_iff, decide_eq_false_iff_not, decide_eq_false_iff_not]
      omega⟩)
    have h4 := cnF_mono (c := fun x => decide (o x < o p) || decide (o x = o p)) (c' := fun x => decide (o x < o q)) n 0 0 0 (Nat.le_refl _) (fun x hx => by
      rw [Bool.or_eq_true, decide_eq_true_iff, decide_eq_true_iff] at hx
      exact decide_eq_true (by omega))
    rw [h2] at h3
    rw [Nat.zero_add] at h3
    omega
  constructor
  · intro h
    rcases Nat.lt_trichotomy (o p) (o q) with a | a | a
    · exact a
    · have := inj p q hp hq a
      subst this
      omega
    · have := mono q p hq hp a
      omega
  · exact mono p q hp hq
theorem rk_Pm {o : Nat → Nat} {n : Nat} (inj : ∀ p q, p < n → q < n → o p = o q → p = q) : Pm n (rkP o n) := by
  refine ⟨fun p hp => ?_, fun p q hp hq e => ?_⟩
  · unfold rkP
    rw [if_pos hp]
    unfold rkN
    rw [show n = p + ((n - (p + 1)) + 1) by omega, cnF_add, Nat.zero_add, cnF_f (c := fun q => decide (o q < o p)) (p := p) (decide_eq_false (by omega))]
    have h1 := cnF_le (c := fun q => decide (o q < o p)) (n - (p + 1)) (p + 1) (cnF (fun q => decide (o q < o p)) p 0 0)
    have h2 := cnF_le (c := fun q => decide (o q < o p)) p 0 0
    omega
  · unfold rkP at e
    rw [if_pos hp, if_pos hq] at e
    apply inj p q hp hq
    have a := rk_lt inj hp hq
    have b := rk_lt inj hq hp
    omega
theorem rk_num {o : Nat → Nat} {n : Nat} (inj : ∀ p q, p < n → q < n → o p = o q → p = q) {k : Nat} (hk : k ≤ n) : numF n (flipN o k) = numF n (flipN (rkP o n) k) := by
  refine num_congr (fun p q hp hq => ?_) n (Nat.le_refl _)
  have key : ∀ a b, a < n → b < n → (o a < o b ↔ rkP o n a < rkP o n b) := by
    intro a b ha hb
    unfold rkP
    rw [if_pos ha, if_pos hb]
    exact (rk_lt inj ha hb).symm
  unfold flipN
  by_cases a : p < k
  · by_cases b : q < k
    · rw [if_pos a, if_pos b, if_pos a, if_pos b]; exact key _ _ (by omega) (by omega)
    · rw [if_pos a, if_neg b, if_pos a, if_neg b]; exact key _ _ (by omega) (by omega)
  · by_cases b : q < k
    · rw [if_neg a, if_pos b, if_neg a, if_pos b]; exact key _ _ (by omega) (by omega)
    · rw [if_neg a, if_neg b, if_neg a, if_neg b]; exact key _ _ (by omega) (by omega)
