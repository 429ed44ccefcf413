/-- a flag's rank among those on the line -/
def rkN (o : Nat → Nat) (n p : Nat) : Nat := cnF (fun q => decide (o q < o p)) n 0 0
/-- the ranks with the post behind them -/
def rkP (o : Nat → Nat) (n p : Nat) : Nat := if p < n then rkN o n p else n
def gapN (a b : Nat) : Int := if a = b + 1 ∨ b = a + 1 then 0 else 1
def gapsF (r : Nat → Nat) : Nat → Nat → Int → Int
  | 0, _, acc => acc
  | k + 1, p, acc => gapsF r k (p + 1) (acc + gapN (r (p - 1)) (r p))
def flipN (r : Nat → Nat) (k : Nat) : Nat → Nat := fun p => if p < k then r (k - 1 - p) else r p
def gthen (r : Nat → Nat) (gaps : Int) (k : Nat) : Int := gaps - gapN (r (k - 1)) (r k) + gapN (r 0) (r k)
def fwin (sub : (Nat → Nat) → Int → Int) (r : Nat → Nat) (gaps left : Int) : Nat → Nat → Int
  | 0, _ => -1
  | j + 1, k => if gthen r gaps k = 0 then (k : Int) else if gthen r gaps k < left ∧ sub (flipN r k) (gthen r gaps k) ≠ -1 then (k : Int) else fwin sub r gaps left j (k + 1)
/-- the least turning by which, and at most l more, no gap remains -/
def fwR (n : Nat) : Nat → (Nat → Nat) → Int → Int
  | 0, _, _ => -1
  | l + 1, r, gaps => fwin (fwR n l) r gaps ((l + 1 : Nat) : Int) (n - 1) 2
def fsF (n : Nat) (r : Nat → Nat) (gaps : Int) : Nat → Nat → Int
  | 0, _ => -1
  | k + 1, t => if fwR n t r gaps = -1 then fsF n r gaps k (t + 1) else (t : Int)
theorem gapN_b (a b : Nat) : 0 ≤ gapN a b ∧ gapN a b ≤ 1 := by unfold gapN; split <;> omega
theorem gapsF_b (r : Nat → Nat) : ∀ (k p : Nat) (acc : Int), acc ≤ gapsF r k p acc ∧ gapsF r k p acc ≤ acc + k
  | 0, _, acc => by unfold gapsF; omega
  | k + 1, p, acc => by
    unfold gapsF
    have h1 := gapsF_b r k (p + 1) (acc + gapN (r (p - 1)) (r p))
    have h2 := gapN_b (r (p - 1)) (r p)
    omega
theorem rkN_le (o : Nat → Nat) (n p : Nat) : rkN o n p ≤ n := by
  have := cnF_le (c := fun q => decide (o q < o p)) n 0 0
  unfold rkN
  omega
theorem rkP_le (o : Nat → Nat) (n p : Nat) : rkP o n p ≤ n := by
  unfold rkP
  split
  · exact rkN_le o n p
  · omega
theorem fwin_b {sub : (Nat → Nat) → Int → Int} {r : Nat → Nat} {gaps left : Int} : ∀ (j k : Nat), fwin sub r gaps left j k = -1 ∨ ((k : Int) ≤ fwin sub r gaps left j k ∧ fwin sub r gaps left j k < k + j)
  | 0, _ => Or.inl rfl
  | j + 1, k => by
    unfold fwin
    split
    · right; omega
    · split
      · right; omega
      · rcases fwin_b (sub := sub) (r := r) (gaps := gaps) (left := left) j (k + 1) with h | h
        · exact Or.inl h
        · right; omega
theorem fwR_b (n : Nat) : ∀ (l : Nat) (r : Nat → Nat) (gaps : Int), -1 ≤ fwR n l r gaps ∧ fwR n l r gaps < n + 2
  | 0, _, _ => by unfold fwR; omega
  | l + 1, r, gaps => by
    unfold fwR
    rcases fwin_b (sub := fwR n l) (r := r) (gaps := gaps) (left := ((l + 1 : Nat) : Int)) (n - 1) 2 with h | h
    · omega
    · omega
theorem rv_rv {g : Mem} {a : Nat} {x y : Int} : rv (rv g a x y) a x y = g := by
  funext j q
  unfold rv
  by_cases hj : j = a
  · subst hj
    simp only [true_and]
    repeat' split
    all_goals first | rfl | (exfalso; omega) | (congr 1; omega)
  · simp only [hj, false_and, if_false]
theorem a_gapB {X : CX} {d : Nat} {g : Mem} {K : Int → Mem → Prop} {x y : Nat} (hx : x ≤ 100) (hy : y ≤ 100) (h : K (gapN x y) g) : EI X (d) mX9_gapBetween [vi (x : Int), vi (y : Int)] Z0 g K := by
  show AJ X (d) mX9_gapBetween 0 0 (QI Z0 K) 0 0 0 [some (vi (x : Int)), some (vi (y : Int))] [] Z0 g
  unfold gapN at h
  refine r_iload_n (pc' := 1) dX9_gapBetween_0 rfl rfl ?_
  refine r_iload_n (pc' := 2) dX9_gapBetween_1 rfl rfl ?_
  refine r_isub (pc' := 3) dX9_gapBetween_2 rfl ?_
  refine r_iconst (pc' := 4) dX9_gapBetween_3 rfl ?_
  refine r_icmp_eq (tgt := 14) (pc' := 7) dX9_gapBetween_4 rfl rfl (by omega) (by omega) (fun c4 => ?_) (fun c4 => ?_)
  · refine r_iconst (pc' := 15) dX9_gapBetween_14 rfl ?_
    refine r_goto (tgt := 19) dX9_gapBetween_15 rfl ?_
    refine r_reti dX9_gapBetween_19 rfl (Or.inl rfl) ?_
    first | (rw [if_pos (by omega)] at h; exact h) | (rw [if_neg (by omega)] at h; exact h)
  · refine r_iload_n (pc' := 8) dX9_gapBetween_7 rfl rfl ?_
    refine r_iload_n (pc' := 9) dX9_gapBetween_8 rfl rfl ?_
    refine r_isub (pc' := 10) dX9_gapBetween_9 rfl ?_
    refine r_iconst (pc' := 11) dX9_gapBetween_10 rfl ?_
    refine r_icmp_ne (tgt := 18) (pc' := 14) dX9_gapBetween_11 rfl rfl (by omega) (by omega) (fun c11 => ?_) (fun c11 => ?_)
    · refine r_iconst (pc' := 19) dX9_gapBetween_18 rfl ?_
      refine r_reti dX9_gapBetween_19 rfl (Or.inl rfl) ?_
      first | (rw [if_pos (by omega)] at h; exact h) | (rw [if_neg (by omega)] at h; exact h)
    · refine r_iconst (pc' := 15) dX9_gapBetween_14 rfl ?_
      refine r_goto (tgt := 19) dX9_gapBetween_15 rfl ?_
      refine r_reti dX9_gapBetween_19 rfl (Or.inl rfl) ?_
      first | (rw [if_pos (by omega)] at h; exact h) | (rw [if_neg (by omega)] at h; exact h)
theorem l_turnR {X : CX} {d : Nat} {K : Mem → Prop} (k0 : Int) : ∀ (k : Nat) (x y : Int) (g : Mem) (z : Option VV), 0 ≤ x → x ≤ 8 → -1 ≤ y → y < 8 → y - x < k → K (rv g 155 x y) → AJ X (d) mX9_turnRanks 0 0 (QV Z0 K) 0 0 6 [some (vr 155), some (vi k0), some (vi x), some (vi y), z] [] Z0 g := by
  intro k
  induction k with
  | zero =>
    intro x y g z h1 h2 h3 h4 h5 h
    refine r_iload_n (pc' := 7) dX9_turnRanks_6 rfl rfl ?_
    refine r_iload_n (pc' := 8) dX9_turnRanks_7 rfl rfl ?_
    refine r_icmp_ge (tgt := 36) (pc' := 11) dX9_turnRanks_8 rfl rfl (by omega) (by omega) (fun c8 => ?_) (fun c8 => ?_)
    · refine r_retn dX9_turnRanks_36 rfl ?_
      rw [rv_end (by omega)] at h
      exact h
    · exact absurd c8 (by omega)
  | succ k ih =>
    intro x y g z h1 h2 h3 h4 h5 h
    refine r_iload_n (pc' := 7) dX9_turnRanks_6 rfl rfl ?_
    refine r_iload_n (pc' := 8) dX9_turnRanks_7 rfl rfl ?_
    refine r_icmp_ge (tgt := 36) (pc' := 11) dX9_turnRanks_8 rfl rfl (by omega) (by omega) (fun c8 => ?_) (fun c8 => ?_)
    · refine r_retn dX9_turnRanks_36 rfl ?_
      rw [rv_end (by omega)] at h
      exact h
    · refine r_aload_n (pc' := 12) dX9_turnRanks_11 rfl rfl ?_
      refine r_iload_n (pc' := 13) dX9_turnRanks_12 rfl rfl ?_
      refine r_iaload (pc' := 14) dX9_turnRanks_13 rfl z155 (by decide) (by omega) (by omega) rfl ?_
      refine r_istore (pc' := 16) dX9_turnRanks_14 rfl rfl ?_
      refine r_aload_n (pc' := 17) dX9_turnRanks_16 rfl rfl ?_
      refine r_iload_n (pc' := 18) dX9_turnRanks_17 rfl rfl ?_
      refine r_aload_n (pc' := 19) dX9_turnRanks_18 rfl rfl ?_
      refine r_iload_n (pc' := 20) dX9_turnRanks_19 rfl rfl ?_
      refine r_iaload (pc' := 21) dX9_turnRanks_20 rfl z155 (by decide) (by omega) (by omega) rfl ?_
      refine r_iastore (pc' := 22) dX9_turnRanks_21 rfl z155 (by decide) (by omega) (by omega) rfl ?_
      refine r_aload_n (pc' := 23) dX9_turnRanks_22 rfl rfl ?_
      refine r_iload_n (pc' := 24) dX9_turnRanks_23 rfl rfl ?_
      refine r_iload (pc' := 26) dX9_turnRanks_24 rfl rfl ?_
      refine r_iastore (pc' := 27) dX9_turnRanks_26 rfl z155 (by decide) (by omega) (by omega) rfl ?_
      refine r_iinc (pc' := 30) dX9_turnRanks_27 rfl rfl rfl ?_
      refine r_iinc (pc' := 33) dX9_turnRanks_30 rfl rfl rfl ?_
      refine r_goto (tgt := 6) dX9_turnRanks_33 rfl ?_
      refine ih (x + 1) (y + -1) _ _ (by omega) (by omega) (by omega) (by omega) (by omega) ?_
      rw [show y + -1 = y - 1 by omega, rv_step (by omega)]
      exact h
theorem a_turnR {X : CX} {d : Nat} {g : Mem} {K : Mem → Prop} {k : Nat} (h1 : 1 ≤ k) (h2 : k ≤ 7) (h : K (rv g 155 0 ((k : Int) - 1))) : EV X (d) mX9_turnRanks [vr 155, vi (k : Int)] Z0 g K := by
  show AJ X (d) mX9_turnRanks 0 0 (QV Z0 K) 0 0 0 [some (vr 155), some (vi (k : Int)), none, none, none] [] Z0 g
  refine r_iconst (pc' := 1) dX9_turnRanks_0 rfl ?_
  refine r_istore_n (pc' := 2) dX9_turnRanks_1 rfl rfl ?_
  refine r_iload_n (pc' := 3) dX9_turnRanks_2 rfl rfl ?_
  refine r_iconst (pc' := 4) dX9_turnRanks_3 rfl ?_
  refine r_isub (pc' := 5) dX9_turnRanks_4 rfl ?_
  refine r_istore_n (pc' := 6) dX9_turnRanks_5 rfl rfl ?_
  exact l_turnR k 9 0 ((k : Int) - 1) g none (by omega) (by omega) (by omega) (by omega) (by omega) h
theorem a_fw {X : CX} {d n : Nat} (hn : n ≤ 7) : ∀ (l : Nat), l ≤ 14 → ∀ (r : Nat → Nat) (gaps : Int) (g : Mem) (K : Int → Mem → Prop), (∀ p : Nat, p ≤ n → g 155 p = r p) → (∀ p : Nat, p ≤ n → r p ≤ 7) → -1000 + (l : Int) ≤ gaps → gaps ≤ 1000 - l → K (fwR n l r gaps) g → EI X (d + l + 2) mX9_firstWithin [vr 155, vi (n : Int), vi gaps, vi (l : Int)] Z0 g K := by
  intro l
  induction l with
  | zero =>
    intro hl r gaps g K hr h7 hg1 hg2 h
    show AJ X (d + 0 + 2) mX9_firstWithin 0 0 (QI Z0 K) 0 0 0 [some (vr 155), some (vi (n : Int)), some (vi gaps), some (vi ((0 : Nat) : Int)), none, none, none] [] Z0 g
    refine r_iload_n (pc' := 1) dX9_firstWithin_0 rfl rfl ?_
    refine r_aload_n (pc' := 2) dX9_firstWithin_1 rfl rfl ?_
    refine r_alen (pc' := 3) dX9_firstWithin_2 rfl z155 (by decide) ?_
    refine r_icmp_ge (tgt := 16) (pc' := 6) dX9_firstWithin_3 rfl rfl (by omega) (by omega) (fun c3 => ?_) (fun c3 => ?_)
    · exact absurd c3 (by omega)
    · refine r_iload_n (pc' := 7) dX9_firstWithin_6 rfl rfl ?_
      refine r_if_le (tgt := 16) (pc' := 10) dX9_firstWithin_7 rfl rfl (by omega) (fun c7 => ?_) (fun c7 => ?_)
      · refine r_iconst (pc' := 17) dX9_firstWithin_16 rfl ?_
        refine r_reti dX9_firstWithin_17 rfl (Or.inl rfl) ?_
        exact h
      · exact absurd c7 (by omega)
  | succ l ihl =>
    intro hl r gaps g K hr h7 hg1 hg2 h
    show AJ X (d + l + 1 + 2) mX9_firstWithin 0 0 (QI Z0 K) 0 0 0 [some (vr 155), some (vi (n : Int)), some (vi gaps), some (vi ((l + 1 : Nat) : Int)), none, none, none] [] Z0 g
    have main : ∀ (j k : Nat) (y z : Option VV), n + 1 - k = j → 2 ≤ k ∧ k ≤ n + 2 → K (fwin (fwR n l) r gaps ((l + 1 : Nat) : Int) j k) g → AJ X (d + l + 1 + 2) mX9_firstWithin 0 0 (QI Z0 K) 0 0 21 [some (vr 155), some (vi (n : Int)), some (vi gaps), some (vi ((l + 1 : Nat) : Int)), some (vi (k : Int)), y, z] [] Z0 g := by
      intro j
      induction j with
      | zero =>
        intro k y z hk ⟨hk2, hk3⟩ h
        refine r_iload (pc' := 23) dX9_firstWithin_21 rfl rfl ?_
        refine r_iload_n (pc' := 24) dX9_firstWithin_23 rfl rfl ?_
        refine r_icmp_gt (tgt := 108) (pc' := 27) dX9_firstWithin_24 rfl rfl (by omega) (by omega) (fun c24 => ?_) (fun c24 => ?_)
        · refine r_iconst (pc' := 109) dX9_firstWithin_108 rfl ?_
          refine r_reti dX9_firstWithin_109 rfl (Or.inl rfl) ?_
          exact h
        · exact absurd c24 (by omega)
      | succ j ih =>
        intro k y z hk ⟨hk2, hk3⟩ h
        have r1 := hr (k - 1) (by omega)
        rw [show ((k - 1 : Nat) : Int) = (k : Int) - 1 by omega] at r1
        have r2 := hr k (by omega)
        have r0 := hr 0 (by omega)
        have s1 := h7 (k - 1) (by omega)
        have s2 := h7 k (by omega)
        have s0 := h7 0 (by omega)
        have b1 := gapN_b (r (k - 1)) (r k)
        have b2 := gapN_b (r 0) (r k)
        have hsub := fwR_b n l (flipN r k) (gthen r gaps k)
        have egt : gaps - gapN (r (k - 1)) (r k) + gapN (r 0) (r k) = gthen r gaps k := rfl
        have bgt : gaps - 1 ≤ gthen r gaps k ∧ gthen r gaps k ≤ gaps + 1 := by unfold gthen; omega
        have hfl : ∀ p : Nat, p ≤ n → rv g 155 0 ((k : Int) - 1) 155 p = flipN r k p := by
          intro p hp
          unfold rv flipN
          by_cases hpk : p < k
          · rw [if_pos ⟨rfl, by omega, by omega⟩, if_pos hpk, show 0 + ((k : Int) - 1) - (p : Int) = ((k - 1 - p : Nat) : Int) by omega]
            exact hr _ (by omega)
          · rw [if_neg (by omega), if_neg hpk]
            exact hr p hp
        have hf7 : ∀ p : Nat, p ≤ n → flipN r k p ≤ 7 := by
          intro p hp
          unfold flipN
          split
          · exact h7 _ (by omega)
          · exact h7 _ hp
        unfold fwin at h
        refine r_iload (pc' := 23) dX9_firstWithin_21 rfl rfl ?_
        refine r_iload_n (pc' := 24) dX9_firstWithin_23 rfl rfl ?_
        refine r_icmp_gt (tgt := 108) (pc' := 27) dX9_firstWithin_24 rfl rfl (by omega) (by omega) (fun c24 => ?_) (fun c24 => ?_)
        · exact absurd c24 (by omega)
        · refine r_iload_n (pc' := 28) dX9_firstWithin_27 rfl rfl ?_
          refine r_aload_n (pc' := 29) dX9_firstWithin_28 rfl rfl ?_
          refine r_iload (pc' := 31) dX9_firstWithin_29 rfl rfl ?_
          refine r_iconst (pc' := 32) dX9_firstWithin_31 rfl ?_
          refine r_isub (pc' := 33) dX9_firstWithin_32 rfl ?_
          refine r_iaload (pc' := 34) dX9_firstWithin_33 rfl z155 (by decide) (by omega) (by omega) r1 ?_
          refine r_aload_n (pc' := 35) dX9_firstWithin_34 rfl rfl ?_
          refine r_iload (pc' := 37) dX9_firstWithin_35 rfl rfl ?_
          refine r_iaload (pc' := 38) dX9_firstWithin_37 rfl z155 (by decide) (by omega) (by omega) r2 ?_
          refine r_si2 (pc' := 41) dX9_firstWithin_38 rfl qX9_gapBetween lX9_43 rfl rfl rfl (Nat.zero_le _) (Nat.zero_le _) (a_gapB (by omega) (by omega) ?_)
          refine r_isub (pc' := 42) dX9_firstWithin_41 rfl ?_
          refine r_aload_n (pc' := 43) dX9_firstWithin_42 rfl rfl ?_
          refine r_iconst (pc' := 44) dX9_firstWithin_43 rfl ?_
          refine r_iaload (pc' := 45) dX9_firstWithin_44 rfl z155 (by decide) (by omega) (by omega) r0 ?_
          refine r_aload_n (pc' := 46) dX9_firstWithin_45 rfl rfl ?_
          refine r_iload (pc' := 48) dX9_firstWithin_46 rfl rfl ?_
          refine r_iaload (pc' := 49) dX9_firstWithin_48 rfl z155 (by decide) (by omega) (by omega) r2 ?_
          refine r_si2 (pc' := 52) dX9_firstWithin_49 rfl qX9_gapBetween lX9_43 rfl rfl rfl (Nat.zero_le _) (Nat.zero_le _) (a_gapB (by omega) (by omega) ?_)
          refine r_iadd (pc' := 53) dX9_firstWithin_52 rfl ?_
          rw [egt]
          refine r_istore (pc' := 55) dX9_firstWithin_53 rfl rfl ?_
          refine r_iload (pc' := 57) dX9_firstWithin_55 rfl rfl ?_
          refine r_if_ne (tgt := 63) (pc' := 60) dX9_firstWithin_57 rfl rfl (by omega) (fun c57 => ?_) (fun c57 => ?_)
          · refine r_iload (pc' := 65) dX9_firstWithin_63 rfl rfl ?_
            refine r_iload_n (pc' := 66) dX9_firstWithin_65 rfl rfl ?_
            refine r_icmp_ge (tgt := 102) (pc' := 69) dX9_firstWithin_66 rfl rfl (by omega) (by omega) (fun c66 => ?_) (fun c66 => ?_)
            · refine r_iinc (pc' := 105) dX9_firstWithin_102 rfl rfl rfl ?_
              refine r_goto (tgt := 21) dX9_firstWithin_105 rfl ?_
              first | (rw [if_neg c57, if_neg (by rintro ⟨q, -⟩; omega)] at h; exact ih (k + 1) _ _ (by omega) ⟨by omega, by omega⟩ h) | (rw [if_neg c57, if_neg (by rintro ⟨-, q⟩; exact q c96)] at h; exact ih (k + 1) _ _ (by omega) ⟨by omega, by omega⟩ h)
            · refine r_aload_n (pc' := 70) dX9_firstWithin_69 rfl rfl ?_
              refine r_iload (pc' := 72) dX9_firstWithin_70 rfl rfl ?_
              refine r_sv2 (pc' := 75) dX9_firstWithin_72 rfl qX9_turnRanks lX9_47 rfl rfl rfl (Nat.zero_le _) (Nat.zero_le _) (a_turnR (by omega) (by omega) ?_)
              refine r_aload_n (pc' := 76) dX9_firstWithin_75 rfl rfl ?_
              refine r_iload_n (pc' := 77) dX9_firstWithin_76 rfl rfl ?_
              refine r_iload (pc' := 79) dX9_firstWithin_77 rfl rfl ?_
              refine r_iload_n (pc' := 80) dX9_firstWithin_79 rfl rfl ?_
              refine r_iconst (pc' := 81) dX9_firstWithin_80 rfl ?_
              refine r_isub (pc' := 82) dX9_firstWithin_81 rfl ?_
              rw [show ((l + 1 : Nat) : Int) - 1 = (l : Int) by omega]
              refine r_si4 (pc' := 85) dX9_firstWithin_82 rfl qX9_firstWithin lX9_27 rfl rfl rfl (Nat.zero_le _) (Nat.zero_le _) (ihl (by omega) (flipN r k) (gthen r gaps k) _ _ hfl hf7 (by omega) (by omega) ?_)
              refine r_istore (pc' := 87) dX9_firstWithin_85 rfl rfl ?_
              refine r_aload_n (pc' := 88) dX9_firstWithin_87 rfl rfl ?_
              refine r_iload (pc' := 90) dX9_firstWithin_88 rfl rfl ?_
              refine r_sv2 (pc' := 93) dX9_firstWithin_90 rfl qX9_turnRanks lX9_47 rfl rfl rfl (Nat.zero_le _) (Nat.zero_le _) (a_turnR (by omega) (by omega) ?_)
              rw [rv_rv]
              refine r_iload (pc' := 95) dX9_firstWithin_93 rfl rfl ?_
              refine r_iconst (pc' := 96) dX9_firstWithin_95 rfl ?_
              refine r_icmp_eq (tgt := 102) (pc' := 99) dX9_firstWithin_96 rfl rfl (by omega) (by omega) (fun c96 => ?_) (fun c96 => ?_)
              · refine r_iinc (pc' := 105) dX9_firstWithin_102 rfl rfl rfl ?_
                refine r_goto (tgt := 21) dX9_firstWithin_105 rfl ?_
                first | (rw [if_neg c57, if_neg (by rintro ⟨q, -⟩; omega)] at h; exact ih (k + 1) _ _ (by omega) ⟨by omega, by omega⟩ h) | (rw [if_neg c57, if_neg (by rintro ⟨-, q⟩; exact q c96)] at h; exact ih (k + 1) _ _ (by omega) ⟨by omega, by omega⟩ h)
              · refine r_iload (pc' := 101) dX9_firstWithin_99 rfl rfl ?_
                refine r_reti dX9_firstWithin_101 rfl (Or.inl rfl) ?_
                rw [if_neg c57, if_pos ⟨by omega, c96⟩] at h
                exact h
          · refine r_iload (pc' := 62) dX9_firstWithin_60 rfl rfl ?_
            refine r_reti dX9_firstWithin_62 rfl (Or.inl rfl) ?_
            rw [if_pos c57] at h
            exact h
    refine r_iload_n (pc' := 1) dX9_firstWithin_0 rfl rfl ?_
    refine r_aload_n (pc' := 2) dX9_firstWithin_1 rfl rfl ?_
    refine r_alen (pc' := 3) dX9_firstWithin_2 rfl z155 (by decide) ?_
    refine r_icmp_ge (tgt := 16) (pc' := 6) dX9_firstWithin_3 rfl rfl (by omega) (by omega) (fun c3 => ?_) (fun c3 => ?_)
    · exact absurd c3 (by omega)
    · refine r_iload_n (pc' := 7) dX9_firstWithin_6 rfl rfl ?_
      refine r_if_le (tgt := 16) (pc' := 10) dX9_firstWithin_7 rfl rfl (by omega) (fun c7 => ?_) (fun c7 => ?_)
      · exact absurd c7 (by omega)
      · refine r_iload_n (pc' := 11) dX9_firstWithin_10 rfl rfl ?_
        refine r_bipush (pc' := 13) dX9_firstWithin_11 rfl (by decide) ?_
        refine r_icmp_le (tgt := 18) (pc' := 16) dX9_firstWithin_13 rfl rfl (by omega) (by omega) (fun c13 => ?_) (fun c13 => ?_)
        · refine r_iconst (pc' := 19) dX9_firstWithin_18 rfl ?_
          refine r_istore (pc' := 21) dX9_firstWithin_19 rfl rfl ?_
          unfold fwR at h; exact main (n - 1) 2 none none (by omega) ⟨by omega, by omega⟩ h
        · exact absurd c13 (by omega)
theorem l_rankI {X : CX} {d : Nat} {g : Mem} {K : Mem → Prop} {u : PV} {v : LV} (hB : CB g u v) (h154 : g 154 1 = (Ln v : Int)) {p : Nat} (hp : p < Ln v) : ∀ (k q acc : Nat), q + k = Ln v → acc + k ≤ 100 → AJ X (d) mX9_takeRanks 0 0 (QV Z0 K) 0 0 57 [some (vr 154), some (vr 17), some (vi (p : Int)), some (vi ((cnF (fun q => decide (Lo v q < Lo v p)) k q acc : Nat) : Int)), some (vi (Ln v : Int))] [] Z0 g → AJ X (d) mX9_takeRanks 0 0 (QV Z0 K) 0 0 23 [some (vr 154), some (vr 17), some (vi (p : Int)), some (vi (acc : Int)), some (vi (q : Int))] [] Z0 g := by
  obtain ⟨hQ, hU, hC, hW⟩ := id hB
  obtain ⟨hc, ho, hf, hw, ht, hi, hy⟩ := id hC
  obtain ⟨w0, w1, w2, w3, w4, w5, w6, w7⟩ := id hW
  obtain ⟨p6, p7, p8, p9, p10, pk, pg, px, py⟩ := id hQ
  obtain ⟨u0, u1, u2, u3, u4, u5, u6, u7⟩ := id hU
  intro k
  induction k with
  | zero =>
    intro q acc hq ha h
    have e : (Ln v : Int) = (q : Int) := by omega
    refine r_iload (pc' := 25) dX9_takeRanks_23 rfl rfl ?_
    refine r_aload_n (pc' := 26) dX9_takeRanks_25 rfl rfl ?_
    refine r_getf (pc' := 29) (kI := 1) dX9_takeRanks_26 rfl fX9_15 z154 rfl rfl h154 ?_
    refine r_icmp_ge (tgt := 57) (pc' := 32) dX9_takeRanks_29 rfl rfl (by omega) (by omega) (fun c29 => ?_) (fun c29 => ?_)
    · rw [e] at h
      exact h
    · exact absurd c29 (by omega)
  | succ k ih =>
    intro q acc hq ha h
    have q1 := w2 q (by omega)
    have q2 := w2 p (by omega)
    unfold cnF at h
    refine r_iload (pc' := 25) dX9_takeRanks_23 rfl rfl ?_
    refine r_aload_n (pc' := 26) dX9_takeRanks_25 rfl rfl ?_
    refine r_getf (pc' := 29) (kI := 1) dX9_takeRanks_26 rfl fX9_15 z154 rfl rfl h154 ?_
    refine r_icmp_ge (tgt := 57) (pc' := 32) dX9_takeRanks_29 rfl rfl (by omega) (by omega) (fun c29 => ?_) (fun c29 => ?_)
    · exact absurd c29 (by omega)
    · refine r_aload_n (pc' := 33) dX9_takeRanks_32 rfl rfl ?_
      refine r_getr (pc' := 36) dX9_takeRanks_33 rfl fX9_40 isL17.1 rfl ?_
      refine r_iload (pc' := 38) dX9_takeRanks_36 rfl rfl ?_
      refine r_iaload (pc' := 39) dX9_takeRanks_38 rfl isL17.2.1 (by decide) (by omega) (by omega) (ho q (by omega)) ?_
      refine r_aload_n (pc' := 40) dX9_takeRanks_39 rfl rfl ?_
      refine r_getr (pc' := 43) dX9_takeRanks_40 rfl fX9_40 isL17.1 rfl ?_
      refine r_iload_n (pc' := 44) dX9_takeRanks_43 rfl rfl ?_
      refine r_iaload (pc' := 45) dX9_takeRanks_44 rfl isL17.2.1 (by decide) (by omega) (by omega) (ho p (by omega)) ?_
      refine r_icmp_ge (tgt := 51) (pc' := 48) dX9_takeRanks_45 rfl rfl (by omega) (by omega) (fun c45 => ?_) (fun c45 => ?_)
      · refine r_iinc (pc' := 54) dX9_takeRanks_51 rfl rfl rfl ?_
        refine r_goto (tgt := 23) dX9_takeRanks_54 rfl ?_
        first | (rw [if_pos (decide_eq_true (by omega : Lo v q < Lo v p))] at h; exact ih (q + 1) (acc + 1) (by omega) (by omega) h) | (rw [if_neg (by rw [decide_eq_false (by omega : ¬ Lo v q < Lo v p)]; decide)] at h; exact ih (q + 1) acc (by omega) (by omega) h)
      · refine r_iinc (pc' := 51) dX9_takeRanks_48 rfl rfl rfl ?_
        refine r_iinc (pc' := 54) dX9_takeRanks_51 rfl rfl rfl ?_
        refine r_goto (tgt := 23) dX9_takeRanks_54 rfl ?_
        first | (rw [if_pos (decide_eq_true (by omega : Lo v q < Lo v p))] at h; exact ih (q + 1) (acc + 1) (by omega) (by omega) h) | (rw [if_neg (by rw [decide_eq_false (by omega : ¬ Lo v q < Lo v p)]; decide)] at h; exact ih (q + 1) acc (by omega) (by omega) h)
theorem l_rankO {X : CX} {d : Nat} {K : Mem → Prop} {u : PV} {v : LV} : ∀ (k p : Nat) (g : Mem) (x y : Option VV), CB g u v → g 154 1 = (Ln v : Int) → p + k = Ln v → (∀ q : Nat, q < p → g 155 q = (rkN (Lo v) (Ln v) q : Int)) → (∀ g' : Mem, g' 154 1 = (Ln v : Int) → (∀ q : Nat, q ≤ Ln v → g' 155 q = (rkP (Lo v) (Ln v) q : Int)) → Fr [154, 155] g g' → K g') → AJ X (d) mX9_takeRanks 0 0 (QV Z0 K) 0 0 10 [some (vr 154), some (vr 17), some (vi (p : Int)), x, y] [] Z0 g := by
  intro k
  induction k with
  | zero =>
    intro p g x y hB h154 hk hq h
    have w1 := hB.2.2.2.2.1
    refine r_iload_n (pc' := 11) dX9_takeRanks_10 rfl rfl ?_
    refine r_aload_n (pc' := 12) dX9_takeRanks_11 rfl rfl ?_
    refine r_getf (pc' := 15) (kI := 1) dX9_takeRanks_12 rfl fX9_15 z154 rfl rfl h154 ?_
    refine r_icmp_ge (tgt := 70) (pc' := 18) dX9_takeRanks_15 rfl rfl (by omega) (by omega) (fun c15 => ?_) (fun c15 => ?_)
    · refine r_aload_n (pc' := 71) dX9_takeRanks_70 rfl rfl ?_
      refine r_getr (pc' := 74) dX9_takeRanks_71 rfl fX9_9 z154 rfl ?_
      refine r_aload_n (pc' := 75) dX9_takeRanks_74 rfl rfl ?_
      refine r_getf (pc' := 78) (kI := 1) dX9_takeRanks_75 rfl fX9_15 z154 rfl rfl h154 ?_
      refine r_aload_n (pc' := 79) dX9_takeRanks_78 rfl rfl ?_
      refine r_getf (pc' := 82) (kI := 1) dX9_takeRanks_79 rfl fX9_15 z154 rfl rfl h154 ?_
      refine r_iastore (pc' := 83) dX9_takeRanks_82 rfl z155 (by decide) (by omega) (by omega) rfl ?_
      refine r_retn dX9_takeRanks_83 rfl ?_
      refine h _ (by rw [mu_ne (by decide)]; exact h154) (fun q hq2 => ?_) (fun j hj => mu_ne (by intro e; subst e; simp at hj))
      unfold rkP
      by_cases hqn : q < Ln v
      · rw [if_pos hqn, mu_at' (by omega)]
        exact hq q (by omega)
      · rw [if_neg hqn, show (q : Int) = (Ln v : Int) by omega, mu_at]
    · exact absurd c15 (by omega)
  | succ k ih =>
    intro p g x y hB h154 hk hq h
    have w1 := hB.2.2.2.2.1
    refine r_iload_n (pc' := 11) dX9_takeRanks_10 rfl rfl ?_
    refine r_aload_n (pc' := 12) dX9_takeRanks_11 rfl rfl ?_
    refine r_getf (pc' := 15) (kI := 1) dX9_takeRanks_12 rfl fX9_15 z154 rfl rfl h154 ?_
    refine r_icmp_ge (tgt := 70) (pc' := 18) dX9_takeRanks_15 rfl rfl (by omega) (by omega) (fun c15 => ?_) (fun c15 => ?_)
    · exact absurd c15 (by omega)
    · refine r_iconst (pc' := 19) dX9_takeRanks_18 rfl ?_
      refine r_istore_n (pc' := 20) dX9_takeRanks_19 rfl rfl ?_
      refine r_iconst (pc' := 21) dX9_takeRanks_20 rfl ?_
      refine r_istore (pc' := 23) dX9_takeRanks_21 rfl rfl ?_
      refine l_rankI hB h154 (p := p) (by omega) (Ln v) 0 0 (by omega) (by omega) ?_
      refine r_aload_n (pc' := 58) dX9_takeRanks_57 rfl rfl ?_
      refine r_getr (pc' := 61) dX9_takeRanks_58 rfl fX9_9 z154 rfl ?_
      refine r_iload_n (pc' := 62) dX9_takeRanks_61 rfl rfl ?_
      refine r_iload_n (pc' := 63) dX9_takeRanks_62 rfl rfl ?_
      refine r_iastore (pc' := 64) dX9_takeRanks_63 rfl z155 (by decide) (by omega) (by omega) rfl ?_
      refine r_iinc (pc' := 67) dX9_takeRanks_64 rfl rfl rfl ?_
      refine r_goto (tgt := 10) dX9_takeRanks_67 rfl ?_
      refine ih (p + 1) _ _ _ (hB.fr [155] (fun j hj => mu_ne (by simpa using hj)) (by decide)) (by rw [mu_ne (by decide)]; exact h154) (by omega) (fun q hq2 => ?_) (fun g' a1 a2 a3 => h g' a1 a2 (Fr.tr (fun j hj => mu_ne (by intro e; subst e; simp at hj)) a3))
      by_cases hqp : q = p
      · subst hqp
        rw [mu_at]
        rfl
      · rw [mu_at' (by omega)]
        exact hq q (by omega)
theorem a_ranks {X : CX} {d : Nat} {g : Mem} {K : Mem → Prop} {u : PV} {v : LV} (hB : CB g u v) (h : ∀ g' : Mem, g' 154 1 = (Ln v : Int) → (∀ q : Nat, q ≤ Ln v → g' 155 q = (rkP (Lo v) (Ln v) q : Int)) → Fr [154, 155] g g' → K g') : EV X (d) mX9_takeRanks [vr 154, vr 17] Z0 g K := by
  show AJ X (d) mX9_takeRanks 0 0 (QV Z0 K) 0 0 0 [some (vr 154), some (vr 17), none, none, none] [] Z0 g
  obtain ⟨hQ, hU, hC, hW⟩ := id hB
  obtain ⟨hc, ho, hf, hw, ht, hi, hy⟩ := id hC
  obtain ⟨w0, w1, w2, w3, w4, w5, w6, w7⟩ := id hW
  obtain ⟨p6, p7, p8, p9, p10, pk, pg, px, py⟩ := id hQ
  obtain ⟨u0, u1, u2, u3, u4, u5, u6, u7⟩ := id hU
  refine r_aload_n (pc' := 1) dX9_takeRanks_0 rfl rfl ?_
  refine r_aload_n (pc' := 2) dX9_takeRanks_1 rfl rfl ?_
  refine r_getf (pc' := 5) (kI := 3) dX9_takeRanks_2 rfl fX9_35 isL17.1 rfl rfl hc ?_
  refine r_putf (pc' := 8) (kI := 1) dX9_takeRanks_5 rfl fX9_15 z154 rfl (Or.inl rfl) rfl rfl ?_
  refine r_iconst (pc' := 9) dX9_takeRanks_8 rfl ?_
  refine r_istore_n (pc' := 10) dX9_takeRanks_9 rfl rfl ?_
  exact l_rankO (Ln v) 0 _ none none (hB.fr [154] (fun j hj => mu_ne (by simpa using hj)) (by decide)) (by rw [mu_at]) (by omega) (fun q hq => absurd hq (by omega)) (fun g' a1 a2 a3 => h g' a1 a2 (Fr.tr (fun j hj => mu_ne (by intro e; subst e; simp at hj)) a3))
theorem l_gaps {X : CX} {d : Nat} {g : Mem} {K : Int → Mem → Prop}  {n : Nat} (hn : n ≤ 7) (h154 : g 154 1 = (n : Int)) {r : Nat → Nat} (hr : ∀ q : Nat, q ≤ n → g 155 q = (r q : Int)) (h7 : ∀ q : Nat, q ≤ n → r q ≤ 7)  : ∀ (k p : Nat) (acc : Int), p + k = n + 1 → 1 ≤ p → K (gapsF r k p acc) g → AJ X (d + 1) mX9_countGaps 0 0 (QI Z0 K) 0 0 4 [some (vr 154), some (vi acc), some (vi (p : Int))] [] Z0 g := by
  intro k
  induction k with
  | zero =>
    intro p acc hp h1 h
    refine r_iload_n (pc' := 5) dX9_countGaps_4 rfl rfl ?_
    refine r_aload_n (pc' := 6) dX9_countGaps_5 rfl rfl ?_
    refine r_getf (pc' := 9) (kI := 1) dX9_countGaps_6 rfl fX9_15 z154 rfl rfl h154 ?_
    refine r_icmp_gt (tgt := 38) (pc' := 12) dX9_countGaps_9 rfl rfl (by omega) (by omega) (fun c9 => ?_) (fun c9 => ?_)
    · refine r_iload_n (pc' := 39) dX9_countGaps_38 rfl rfl ?_
      refine r_reti dX9_countGaps_39 rfl (Or.inl rfl) ?_
      exact h
    · exact absurd c9 (by omega)
  | succ k ih =>
    intro p acc hp h1 h
    have r1 := hr (p - 1) (by omega)
    rw [show ((p - 1 : Nat) : Int) = (p : Int) - 1 by omega] at r1
    have r2 := hr p (by omega)
    have s1 := h7 (p - 1) (by omega)
    have s2 := h7 p (by omega)
    unfold gapsF at h
    refine r_iload_n (pc' := 5) dX9_countGaps_4 rfl rfl ?_
    refine r_aload_n (pc' := 6) dX9_countGaps_5 rfl rfl ?_
    refine r_getf (pc' := 9) (kI := 1) dX9_countGaps_6 rfl fX9_15 z154 rfl rfl h154 ?_
    refine r_icmp_gt (tgt := 38) (pc' := 12) dX9_countGaps_9 rfl rfl (by omega) (by omega) (fun c9 => ?_) (fun c9 => ?_)
    · exact absurd c9 (by omega)
    · refine r_iload_n (pc' := 13) dX9_countGaps_12 rfl rfl ?_
      refine r_aload_n (pc' := 14) dX9_countGaps_13 rfl rfl ?_
      refine r_getr (pc' := 17) dX9_countGaps_14 rfl fX9_9 z154 rfl ?_
      refine r_iload_n (pc' := 18) dX9_countGaps_17 rfl rfl ?_
      refine r_iconst (pc' := 19) dX9_countGaps_18 rfl ?_
      refine r_isub (pc' := 20) dX9_countGaps_19 rfl ?_
      refine r_iaload (pc' := 21) dX9_countGaps_20 rfl z155 (by decide) (by omega) (by omega) r1 ?_
      refine r_aload_n (pc' := 22) dX9_countGaps_21 rfl rfl ?_
      refine r_getr (pc' := 25) dX9_countGaps_22 rfl fX9_9 z154 rfl ?_
      refine r_iload_n (pc' := 26) dX9_countGaps_25 rfl rfl ?_
      refine r_iaload (pc' := 27) dX9_countGaps_26 rfl z155 (by decide) (by omega) (by omega) r2 ?_
      refine r_si2 (pc' := 30) dX9_countGaps_27 rfl qX9_gapBetween lX9_43 rfl rfl rfl (Nat.zero_le _) (Nat.zero_le _) (a_gapB (by omega) (by omega) ?_)
      refine r_iadd (pc' := 31) dX9_countGaps_30 rfl ?_
      refine r_istore_n (pc' := 32) dX9_countGaps_31 rfl rfl ?_
      refine r_iinc (pc' := 35) dX9_countGaps_32 rfl rfl rfl ?_
      refine r_goto (tgt := 4) dX9_countGaps_35 rfl ?_
      exact ih (p + 1) _ (by omega) (by omega) h
theorem a_gaps {X : CX} {d : Nat} {g : Mem} {K : Int → Mem → Prop}  {n : Nat} (hn : n ≤ 7) (h154 : g 154 1 = (n : Int)) {r : Nat → Nat} (hr : ∀ q : Nat, q ≤ n → g 155 q = (r q : Int)) (h7 : ∀ q : Nat, q ≤ n → r q ≤ 7) (h : K (gapsF r n 1 0) g) : EI X (d + 1) mX9_countGaps [vr 154] Z0 g K := by
  show AJ X (d + 1) mX9_countGaps 0 0 (QI Z0 K) 0 0 0 [some (vr 154), none, none] [] Z0 g
  refine r_iconst (pc' := 1) dX9_countGaps_0 rfl ?_
  refine r_istore_n (pc' := 2) dX9_countGaps_1 rfl rfl ?_
  refine r_iconst (pc' := 3) dX9_countGaps_2 rfl ?_
  refine r_istore_n (pc' := 4) dX9_countGaps_3 rfl rfl ?_
  exact l_gaps hn h154 hr h7 n 1 0 (by omega) (by omega) h
/-- the fewest turnings of the class, and the first of them, from the ranks -/
def fewN (n : Nat) (r : Nat → Nat) : Int := if gapsF r n 1 0 = 0 then 0 else fsF n r (gapsF r n 1 0) (15 - (gapsF r n 1 0).toNat) (gapsF r n 1 0).toNat
def ftN (n : Nat) (r : Nat → Nat) : Int := if 0 < fewN n r then fwR n (fewN n r).toNat r (gapsF r n 1 0) else -1
theorem fsF_b {n : Nat} {r : Nat → Nat} {gaps : Int} : ∀ (k t : Nat), -1 ≤ fsF n r gaps k t ∧ fsF n r gaps k t < (t : Int) + k + 1 ∧ (fsF n r gaps k t < (t : Int) + k)
  | 0, t => by unfold fsF; omega
  | k + 1, t => by
    unfold fsF
    split
    · have := fsF_b (n := n) (r := r) (gaps := gaps) k (t + 1)
      omega
    · omega
theorem AJ.deep {X : CX} {d d' : Nat} {M : MI} {mc ms : Nat} {Q : Option VV → List Sh → Mem → Prop} {k n pc : Nat} {ls : List (Option VV)} {st : List VV} {Z : List Sh} {g : Mem} (h : AJ X d M mc ms Q k n pc ls st Z g) (hd : d ≤ d') : AJ X d' M mc ms Q k n pc ls st Z g := by
  intro p l e R s m args below meth c Qw A ρ0 n0 S H locs ρ arr D
  obtain ⟨h1, h2, h3, h4, h5, h6, h7, h8, h9, h10, ⟨a1, a2, a3, a4⟩, h12, h13, h14⟩ := S
  exact h p l e R s m args below meth c Qw A ρ0 n0 ⟨h1, h2, h3, h4, h5, h6, h7, h8, h9, h10, ⟨by omega, by omega, a3, a4⟩, h12, h13, h14⟩ H locs ρ arr D
theorem a_fw_any {X : CX} {d n : Nat} (hn : n ≤ 7) {t : Nat} (ht : t ≤ 14) (r : Nat → Nat) (gaps : Int) (g : Mem) (K : Int → Mem → Prop) (hr : ∀ p : Nat, p ≤ n → g 155 p = (r p : Int)) (h7 : ∀ p : Nat, p ≤ n → r p ≤ 7) (hg1 : -900 ≤ gaps) (hg2 : gaps ≤ 900) (h : K (fwR n t r gaps) g) : EI X (d + 19) mX9_firstWithin [vr 155, vi (n : Int), vi gaps, vi (t : Int)] Z0 g K :=
  AJ.deep (a_fw (d := 0) hn t ht r gaps g K hr h7 (by omega) (by omega) h) (by omega)
theorem a_fw_anyI {X : CX} {d n : Nat} (hn : n ≤ 7) {t : Int} (ht0 : 0 ≤ t) (ht : t ≤ 14) (r : Nat → Nat) (gaps : Int) (g : Mem) (K : Int → Mem → Prop) (hr : ∀ p : Nat, p ≤ n → g 155 p = (r p : Int)) (h7 : ∀ p : Nat, p ≤ n → r p ≤ 7) (hg1 : -900 ≤ gaps) (hg2 : gaps ≤ 900) (h : K (fwR n t.toNat r gaps) g) : EI X (d + 19) mX9_firstWithin [vr 155, vi (n : Int), vi gaps, vi t] Z0 g K := by
  have e := a_fw_any (X := X) (d := d) hn (t := t.toNat) (by omega) r gaps g K hr h7 hg1 hg2 h
  rw [show ((t.toNat : Nat) : Int) = t by omega] at e
  exact e
theorem l_few {X : CX} {d : Nat} {g : Mem} {K : Int → Mem → Prop}  {n : Nat} (hn : n ≤ 7) (h154 : g 154 1 = (n : Int)) {r : Nat → Nat} (hr : ∀ q : Nat, q ≤ n → g 155 q = (r q : Int)) (h7 : ∀ q : Nat, q ≤ n → r q ≤ 7) {j0 : Nat} : ∀ (k t : Nat), t + k = 15 → K (fsF n r (gapsF r n 1 0) k t) g → AJ X (d + 20) mX9_fewest 0 0 (QI Z0 K) 0 0 18 [some (vr 154), some (vr 17), some (vi (gapsF r n 1 0)), some (vi (t : Int))] [] Z0 g := by
  intro k
  induction k with
  | zero =>
    intro t ht h
    refine r_iload_n (pc' := 19) dX9_fewest_18 rfl rfl ?_
    refine r_bipush (pc' := 21) dX9_fewest_19 rfl (by decide) ?_
    refine r_icmp_gt (tgt := 49) (pc' := 24) dX9_fewest_21 rfl rfl (by omega) (by omega) (fun c21 => ?_) (fun c21 => ?_)
    · refine r_iconst (pc' := 50) dX9_fewest_49 rfl ?_
      refine r_reti dX9_fewest_50 rfl (Or.inl rfl) ?_
      exact h
    · exact absurd c21 (by omega)
  | succ k ih =>
    intro t ht h
    have gb := gapsF_b r n 1 0
    have fb := fwR_b n t r (gapsF r n 1 0)
    unfold fsF at h
    refine r_iload_n (pc' := 19) dX9_fewest_18 rfl rfl ?_
    refine r_bipush (pc' := 21) dX9_fewest_19 rfl (by decide) ?_
    refine r_icmp_gt (tgt := 49) (pc' := 24) dX9_fewest_21 rfl rfl (by omega) (by omega) (fun c21 => ?_) (fun c21 => ?_)
    · exact absurd c21 (by omega)
    · refine r_aload_n (pc' := 25) dX9_fewest_24 rfl rfl ?_
      refine r_getr (pc' := 28) dX9_fewest_25 rfl fX9_9 z154 rfl ?_
      refine r_aload_n (pc' := 29) dX9_fewest_28 rfl rfl ?_
      refine r_getf (pc' := 32) (kI := 1) dX9_fewest_29 rfl fX9_15 z154 rfl rfl h154 ?_
      refine r_iload_n (pc' := 33) dX9_fewest_32 rfl rfl ?_
      refine r_iload_n (pc' := 34) dX9_fewest_33 rfl rfl ?_
      refine r_si4 (pc' := 37) dX9_fewest_34 rfl qX9_firstWithin lX9_27 rfl rfl rfl (Nat.zero_le _) (Nat.zero_le _) (a_fw_any hn (t := t) (by omega) r (gapsF r n 1 0) _ _ hr h7 (by omega) (by omega) ?_)
      refine r_iconst (pc' := 38) dX9_fewest_37 rfl ?_
      refine r_icmp_eq (tgt := 43) (pc' := 41) dX9_fewest_38 rfl rfl (by omega) (by omega) (fun c38 => ?_) (fun c38 => ?_)
      · refine r_iinc (pc' := 46) dX9_fewest_43 rfl rfl rfl ?_
        refine r_goto (tgt := 18) dX9_fewest_46 rfl ?_
        rw [if_pos c38] at h
        exact ih (t + 1) (by omega) h
      · refine r_iload_n (pc' := 42) dX9_fewest_41 rfl rfl ?_
        refine r_reti dX9_fewest_42 rfl (Or.inl rfl) ?_
        rw [if_neg c38] at h
        exact h
theorem a_few {X : CX} {d : Nat} {g : Mem} {K : Int → Mem → Prop} {u : PV} {v : LV} (hB : CB g u v) (h : ∀ g' : Mem, g' 154 1 = (Ln v : Int) → (∀ q : Nat, q ≤ Ln v → g' 155 q = (rkP (Lo v) (Ln v) q : Int)) → Fr [154, 155] g g' → K (fewN (Ln v) (rkP (Lo v) (Ln v))) g') : EI X (d + 20) mX9_fewest [vr 154, vr 17] Z0 g K := by
  show AJ X (d + 20) mX9_fewest 0 0 (QI Z0 K) 0 0 0 [some (vr 154), some (vr 17), none, none] [] Z0 g
  obtain ⟨hQ, hU, hC, hW⟩ := id hB
  obtain ⟨hc, ho, hf, hw, ht, hi, hy⟩ := id hC
  obtain ⟨w0, w1, w2, w3, w4, w5, w6, w7⟩ := id hW
  obtain ⟨p6, p7, p8, p9, p10, pk, pg, px, py⟩ := id hQ
  obtain ⟨u0, u1, u2, u3, u4, u5, u6, u7⟩ := id hU
  have h7 : ∀ q : Nat, q ≤ Ln v → rkP (Lo v) (Ln v) q ≤ 7 := fun q _ => Nat.le_trans (rkP_le _ _ _) w1
  have gb := gapsF_b (rkP (Lo v) (Ln v)) (Ln v) 1 0
  refine r_aload_n (pc' := 1) dX9_fewest_0 rfl rfl ?_
  refine r_aload_n (pc' := 2) dX9_fewest_1 rfl rfl ?_
  refine r_vv1 (pc' := 5) dX9_fewest_2 rfl qX9_takeRanks lX9_19 z154 rfl rfl rfl rfl (Nat.zero_le _) (Nat.zero_le _) (a_ranks hB (fun g1 h1 h2 f1 => ?_))
  have h9 := h g1 h1 h2 f1
  unfold fewN at h9
  refine r_aload_n (pc' := 6) dX9_fewest_5 rfl rfl ?_
  refine r_vi0 (pc' := 9) dX9_fewest_6 rfl qX9_countGaps lX9_23 z154 rfl rfl rfl (Nat.zero_le _) (Nat.zero_le _) (a_gaps w1 h1 h2 h7 ?_)
  refine r_istore_n (pc' := 10) dX9_fewest_9 rfl rfl ?_
  refine r_iload_n (pc' := 11) dX9_fewest_10 rfl rfl ?_
  refine r_if_ne (tgt := 16) (pc' := 14) dX9_fewest_11 rfl rfl (by omega) (fun c11 => ?_) (fun c11 => ?_)
  · refine r_iload_n (pc' := 17) dX9_fewest_16 rfl rfl ?_
    refine r_istore_n (pc' := 18) dX9_fewest_17 rfl rfl ?_
    rw [if_neg c11] at h9
    have hh := l_few (X := X) (d := d) (K := K) w1 h1 h2 h7 (j0 := 0) (15 - (gapsF (rkP (Lo v) (Ln v)) (Ln v) 1 0).toNat) (gapsF (rkP (Lo v) (Ln v)) (Ln v) 1 0).toNat (by omega) h9
    rw [show (((gapsF (rkP (Lo v) (Ln v)) (Ln v) 1 0).toNat : Nat) : Int) = gapsF (rkP (Lo v) (Ln v)) (Ln v) 1 0 by omega] at hh
    exact hh
  · refine r_iconst (pc' := 15) dX9_fewest_14 rfl ?_
    refine r_reti dX9_fewest_15 rfl (Or.inl rfl) ?_
    rw [if_pos c11] at h9
    exact h9
theorem a_ft {X : CX} {d : Nat} {g : Mem} {K : Int → Mem → Prop} {u : PV} {v : LV} (hB : CB g u v) (h : ∀ g' : Mem, Fr [154, 155] g g' → K (ftN (Ln v) (rkP (Lo v) (Ln v))) g') : EI X (d + 21) mX9_firstTurn [vr 154, vr 17] Z0 g K := by
  show AJ X (d + 21) mX9_firstTurn 0 0 (QI Z0 K) 0 0 0 [some (vr 154), some (vr 17), none] [] Z0 g
  obtain ⟨hQ, hU, hC, hW⟩ := id hB
  obtain ⟨hc, ho, hf, hw, ht, hi, hy⟩ := id hC
  obtain ⟨w0, w1, w2, w3, w4, w5, w6, w7⟩ := id hW
  obtain ⟨p6, p7, p8, p9, p10, pk, pg, px, py⟩ := id hQ
  obtain ⟨u0, u1, u2, u3, u4, u5, u6, u7⟩ := id hU
  have h7 : ∀ q : Nat, q ≤ Ln v → rkP (Lo v) (Ln v) q ≤ 7 := fun q _ => Nat.le_trans (rkP_le _ _ _) w1
  have gb := gapsF_b (rkP (Lo v) (Ln v)) (Ln v) 1 0
  have fb : -1 ≤ fewN (Ln v) (rkP (Lo v) (Ln v)) ∧ fewN (Ln v) (rkP (Lo v) (Ln v)) < 15 := by
    unfold fewN
    split
    · omega
    · have := fsF_b (n := Ln v) (r := rkP (Lo v) (Ln v)) (gaps := gapsF (rkP (Lo v) (Ln v)) (Ln v) 1 0) (15 - (gapsF (rkP (Lo v) (Ln v)) (Ln v) 1 0).toNat) (gapsF (rkP (Lo v) (Ln v)) (Ln v) 1 0).toNat
      omega
  refine r_aload_n (pc' := 1) dX9_firstTurn_0 rfl rfl ?_
  refine r_aload_n (pc' := 2) dX9_firstTurn_1 rfl rfl ?_
  refine r_vi1 (pc' := 5) dX9_firstTurn_2 rfl qX9_fewest lX9_31 z154 rfl rfl rfl rfl (Nat.zero_le _) (Nat.zero_le _) (a_few hB (fun g1 h1 h2 f1 => ?_))
  have h9 := h g1 f1
  unfold ftN at h9
  refine r_istore_n (pc' := 6) dX9_firstTurn_5 rfl rfl ?_
  refine r_iload_n (pc' := 7) dX9_firstTurn_6 rfl rfl ?_
  refine r_if_le (tgt := 29) (pc' := 10) dX9_firstTurn_7 rfl rfl (by omega) (fun c7 => ?_) (fun c7 => ?_)
  · refine r_iconst (pc' := 30) dX9_firstTurn_29 rfl ?_
    refine r_reti dX9_firstTurn_30 rfl (Or.inl rfl) ?_
    first | (rw [if_neg (by omega)] at h9; exact h9) | (rw [if_pos (by omega)] at h9; exact h9)
  · refine r_aload_n (pc' := 11) dX9_firstTurn_10 rfl rfl ?_
    refine r_getr (pc' := 14) dX9_firstTurn_11 rfl fX9_9 z154 rfl ?_
    refine r_aload_n (pc' := 15) dX9_firstTurn_14 rfl rfl ?_
    refine r_getf (pc' := 18) (kI := 1) dX9_firstTurn_15 rfl fX9_15 z154 rfl rfl h1 ?_
    refine r_aload_n (pc' := 19) dX9_firstTurn_18 rfl rfl ?_
    refine r_vi0 (pc' := 22) dX9_firstTurn_19 rfl qX9_countGaps lX9_23 z154 rfl rfl rfl (Nat.zero_le _) (Nat.zero_le _) (a_gaps w1 h1 h2 h7 ?_)
    refine r_iload_n (pc' := 23) dX9_firstTurn_22 rfl rfl ?_
    refine r_si4 (pc' := 26) dX9_firstTurn_23 rfl qX9_firstWithin lX9_27 rfl rfl rfl (Nat.zero_le _) (Nat.zero_le _) (a_fw_anyI (d := d + 1) w1 (by omega) (by omega) (rkP (Lo v) (Ln v)) (gapsF (rkP (Lo v) (Ln v)) (Ln v) 1 0) _ _ h2 h7 (by omega) (by omega) ?_)
    refine r_goto (tgt := 30) dX9_firstTurn_26 rfl ?_
    refine r_reti dX9_firstTurn_30 rfl (Or.inl rfl) ?_
    first | (rw [if_neg (by omega)] at h9; exact h9) | (rw [if_pos (by omega)] at h9; exact h9)
