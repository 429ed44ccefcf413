theorem ofN (a : Nat) : Int32.ofInt (a : Int) = Int32.ofNat a := rfl
theorem n_and (a b : Nat) : Int32.ofNat a &&& Int32.ofNat b = Int32.ofNat (a &&& b) := by
  apply Int32.toBitVec_inj.mp
  simp
theorem n_or (a b : Nat) : Int32.ofNat a ||| Int32.ofNat b = Int32.ofNat (a ||| b) := by
  apply Int32.toBitVec_inj.mp
  simp
theorem n_toInt {a : Nat} (h : a < 2147483648) : (Int32.ofNat a).toInt = a := i32_toInt (x := (a : Int)) ⟨by omega, by omega⟩
theorem n_lt_and {a b : Nat} (ha : a < 2147483648) : a &&& b < 2147483648 := Nat.lt_of_le_of_lt Nat.and_le_left ha
theorem n_lt_or {a b : Nat} (ha : a < 2147483648) (hb : b < 2147483648) : a ||| b < 2147483648 := Nat.or_lt_two_pow (n := 31) ha hb
theorem b_and_n {a b : Nat} (ha : a < 2147483648) : b_and a b = ((a &&& b : Nat) : Int) := by
  show (Int32.ofNat a &&& Int32.ofNat b).toInt = _
  rw [n_and, n_toInt (n_lt_and ha)]
theorem b_or_n {a b : Nat} (ha : a < 2147483648) (hb : b < 2147483648) : b_or a b = ((a ||| b : Nat) : Int) := by
  show (Int32.ofNat a ||| Int32.ofNat b).toInt = _
  rw [n_or, n_toInt (n_lt_or ha hb)]
theorem sh_n : ∀ k, k < 32 → ((Int32.ofNat k &&& 31).toBitVec.smod 32).toNat = k := by decide +kernel
theorem b_shl_n {a k : Nat} (hk : k < 31) (h : a * 2 ^ k < 2147483648) : b_shl a k = ((a * 2 ^ k : Nat) : Int) := by
  show (Int32.ofNat a <<< (Int32.ofNat k &&& 31)).toInt = _
  have := pk_shlN (n := a) (Int32.ofNat k &&& 31) k (sh_n k (by omega)) (by omega)
  rw [show Int32.ofNat a = nI a from rfl, this]
  exact n_toInt h
theorem b_shr_n {a k : Nat} (ha : a < 2147483648) (hk : k < 32) : b_shr a k = ((a / 2 ^ k : Nat) : Int) := by
  show (Int32.ofNat a >>> (Int32.ofNat k &&& 31)).toInt = _
  have := pk_shrN (n := a) (by omega) (Int32.ofNat k &&& 31) k (sh_n k hk)
  rw [show Int32.ofNat a = nI a from rfl, this]
  exact n_toInt (Nat.lt_of_le_of_lt (Nat.div_le_self _ _) ha)
/-- the bit k of a set, 0 or 1, as both classes read it -/
def bitI (s k : Int) : Int := b_and (b_shr s k) 1
theorem bitI_01 (s k : Int) : bitI s k = 0 ∨ bitI s k = 1 := by
  unfold bitI b_and
  generalize Int32.ofInt (b_shr s k) = x
  have h : (x &&& Int32.ofInt 1) = 0 ∨ (x &&& Int32.ofInt 1) = 1 := by
    have e : (x &&& Int32.ofInt 1).toBitVec = x.toBitVec &&& 1#32 := rfl
    rcases (by omega : x.toBitVec.toNat % 2 = 0 ∨ x.toBitVec.toNat % 2 = 1) with h | h
    · left
      apply Int32.toBitVec_inj.mp
      rw [e]
      apply BitVec.eq_of_toNat_eq
      simp [Nat.and_one_is_mod, h]
    · right
      apply Int32.toBitVec_inj.mp
      rw [e]
      apply BitVec.eq_of_toNat_eq
      simp [Nat.and_one_is_mod, h]
  rcases h with h | h
  · left; rw [h]; rfl
  · right; rw [h]; rfl
theorem bitI_n {a k : Nat} (ha : a < 2147483648) (hk : k < 32) : bitI a k = if a.testBit k then 1 else 0 := by
  unfold bitI
  rw [b_shr_n ha hk]
  have h1 : a / 2 ^ k < 2147483648 := Nat.lt_of_le_of_lt (Nat.div_le_self _ _) ha
  have := b_and_n (b := 1) h1
  rw [show ((1 : Nat) : Int) = 1 from rfl] at this
  rw [this, Nat.and_one_is_mod]
  rw [Nat.testBit_eq_decide_div_mod_eq]
  by_cases h : a / 2 ^ k % 2 = 1
  · simp [h]
  · have : a / 2 ^ k % 2 = 0 := by omega
    simp [this]
