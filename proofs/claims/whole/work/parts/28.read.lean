/-- the reader: text of N letters T, at p, fault f -/
def Rdr (g : Mem) (N : Nat) (T : Nat → Int) (p : Nat) (f : Nat × Int) : Prop := g 1 1 = N ∧ N ≤ 240 ∧ (∀ k : Nat, k < N → g 2 k = T k ∧ 0 ≤ T k ∧ T k ≤ 255) ∧ g 1 4 = p ∧ p ≤ N ∧ g 1 2 = f.1 ∧ f.1 ≤ 3 ∧ g 1 3 = f.2 ∧ R32 f.2
def hereT (N : Nat) (T : Nat → Int) (p : Nat) : Int := if p < N then T p else -1
def skF (T : Nat → Int) : Nat → Nat → Nat
  | 0, p => p
  | k + 1, p => if T p = 32 then skF T k (p + 1) else p
def skT (N : Nat) (T : Nat → Int) (p : Nat) : Nat := skF T (N - p) p
def figB (x : Int) : Bool := decide (48 ≤ x ∧ x ≤ 57)
def nlF (T : Nat → Int) : Nat → Nat → Nat → Int → Nat × Int
  | 0, p, _, x => (p, x)
  | k + 1, p, c, x => if figB (T p) = true then nlF T k (p + 1) (c + 1) (if c < 3 then x * 10 + T p - 48 else x) else (p, x)
def blm (f : Nat × Int) (k q : Nat) : Nat × Int := if f.1 = 0 then (k, (q : Int)) else f
/-- a number: its value, where it ends, the fault -/
def nuR (T : Nat → Int) (lo hi : Int) (f : Nat × Int) (p1 : Nat) (ex : Nat × Int) : Int × Nat × (Nat × Int) := if 3 < ex.1 - p1 ∨ ex.2 < lo ∨ hi < ex.2 then (lo, ex.1, blm f 2 p1) else (ex.2, ex.1, f)
def nuS (N : Nat) (T : Nat → Int) (lo hi : Int) (f : Nat × Int) (p1 : Nat) : Int × Nat × (Nat × Int) := if figB (hereT N T p1) = true then nuR T lo hi f p1 (nlF T (N - p1) p1 0 0) else (lo, p1, blm f 1 p1)
def numR (N : Nat) (T : Nat → Int) (lo hi : Int) (p : Nat) (f : Nat × Int) : Int × Nat × (Nat × Int) := nuS N T lo hi f (skT N T p)
def mrkR (N : Nat) (T : Nat → Int) (m : Int) (p : Nat) (f : Nat × Int) : Nat × (Nat × Int) := if hereT N T (skT N T p) = m then (skT N T p + 1, f) else (skT N T p, blm f 1 (skT N T p))
theorem skF_le (T : Nat → Int) : ∀ k p, p ≤ skF T k p ∧ skF T k p ≤ p + k
  | 0, p => ⟨Nat.le_refl _, Nat.le_refl _⟩
  | k + 1, p => by
    unfold skF
    split
    · have := skF_le T k (p + 1); omega
    · omega
theorem skT_le {N : Nat} {T : Nat → Int} {p : Nat} (h : p ≤ N) : p ≤ skT N T p ∧ skT N T p ≤ N := by
  have := skF_le T (N - p) p
  unfold skT
  omega
theorem nlF_le (T : Nat → Int) : ∀ k p c x, p ≤ (nlF T k p c x).1 ∧ (nlF T k p c x).1 ≤ p + k
  | 0, p, c, x => ⟨Nat.le_refl _, Nat.le_refl _⟩
  | k + 1, p, c, x => by
    unfold nlF
    split
    · have := nlF_le T k (p + 1) (c + 1) (if c < 3 then x * 10 + T p - 48 else x); omega
    · exact ⟨Nat.le_refl _, by show p ≤ p + (k + 1); omega⟩
theorem hereT_R {g : Mem} {N : Nat} {T : Nat → Int} {p : Nat} {f : Nat × Int} (h : Rdr g N T p f) (q : Nat) : R32 (hereT N T q) ∧ -1 ≤ hereT N T q ∧ hereT N T q ≤ 255 := by
  unfold hereT
  split
  · have := h.2.2.1 q (by assumption)
    omega
  · decide
theorem Rdr.pos {g : Mem} {N : Nat} {T : Nat → Int} {p : Nat} {f : Nat × Int} (h : Rdr g N T p f) {q : Nat} {x : Int} (hx : x = q) (hq : q ≤ N) : Rdr (mu g 1 4 x) N T q f := by
  obtain ⟨h1, h2, h3, h4, h5, h6, h7, h8, h9⟩ := h
  exact ⟨by rw [mu_at' (by decide)]; exact h1, h2, fun k hk => by rw [mu_ne (by decide)]; exact h3 k hk, by rw [mu_at]; exact hx, hq, by rw [mu_at' (by decide)]; exact h6, h7, by rw [mu_at' (by decide)]; exact h8, h9⟩
theorem Fr1 (g : Mem) (k x : Int) : Fr [1] g (mu g 1 k x) := fun j hj => mu_ne (by simpa using hj)
theorem blm_b {f : Nat × Int} (hf : f.1 ≤ 3) (hR : R32 f.2) {k q : Nat} (hk : k ≤ 3) (hq : q ≤ 240) : (blm f k q).1 ≤ 3 ∧ R32 (blm f k q).2 := by
  unfold blm
  split
  · exact ⟨hk, by constructor <;> omega⟩
  · exact ⟨hf, hR⟩
theorem a_skip' {X : CX} {d : Nat} {K : Mem → Prop} {N : Nat} {T : Nat → Int} {f : Nat × Int} : ∀ (k p : Nat) (g : Mem), N - p = k → Rdr g N T p f → (∀ g' : Mem, Rdr g' N T (skF T k p) (f) → Fr [1] g g' → K g') → AJ X (d) mX6_skipBlanks 0 0 (QV Z0 K) 0 0 0 [some (vr 1)] [] Z0 g := by
  intro k
  induction k with
  | zero =>
    intro p g hk hR h
    obtain ⟨r1, r2, r3, r4, r5, r6, r7, r8, r9⟩ := id hR
    refine r_aload_n (pc' := 1) dX6_skipBlanks_0 rfl rfl ?_
    refine r_getf (pc' := 4) (kI := 4) dX6_skipBlanks_1 rfl fX6_25 z1 rfl rfl r4 ?_
    refine r_aload_n (pc' := 5) dX6_skipBlanks_4 rfl rfl ?_
    refine r_getf (pc' := 8) (kI := 1) dX6_skipBlanks_5 rfl fX6_15 z1 rfl rfl r1 ?_
    refine r_icmp_ge (tgt := 38) (pc' := 11) dX6_skipBlanks_8 rfl rfl (by omega) (by omega) (fun c8 => ?_) (fun c8 => ?_)
    · refine r_retn dX6_skipBlanks_38 rfl ?_
      exact h g hR (Fr.rf _ _)
    · exact absurd c8 (by omega)
  | succ k ih =>
    intro p g hk hR h
    obtain ⟨r1, r2, r3, r4, r5, r6, r7, r8, r9⟩ := id hR
    obtain ⟨q1, q2, q3⟩ := r3 p (by omega)
    unfold skF at h
    refine r_aload_n (pc' := 1) dX6_skipBlanks_0 rfl rfl ?_
    refine r_getf (pc' := 4) (kI := 4) dX6_skipBlanks_1 rfl fX6_25 z1 rfl rfl r4 ?_
    refine r_aload_n (pc' := 5) dX6_skipBlanks_4 rfl rfl ?_
    refine r_getf (pc' := 8) (kI := 1) dX6_skipBlanks_5 rfl fX6_15 z1 rfl rfl r1 ?_
    refine r_icmp_ge (tgt := 38) (pc' := 11) dX6_skipBlanks_8 rfl rfl (by omega) (by omega) (fun c8 => ?_) (fun c8 => ?_)
    · exact absurd c8 (by omega)
    · refine r_aload_n (pc' := 12) dX6_skipBlanks_11 rfl rfl ?_
      refine r_getr (pc' := 15) dX6_skipBlanks_12 rfl fX6_9 z1 rfl ?_
      refine r_aload_n (pc' := 16) dX6_skipBlanks_15 rfl rfl ?_
      refine r_getf (pc' := 19) (kI := 4) dX6_skipBlanks_16 rfl fX6_25 z1 rfl rfl r4 ?_
      refine r_iaload (pc' := 20) dX6_skipBlanks_19 rfl z2 (by decide) (by omega) (by omega) q1 ?_
      refine r_bipush (pc' := 22) dX6_skipBlanks_20 rfl (by decide) ?_
      refine r_icmp_ne (tgt := 38) (pc' := 25) dX6_skipBlanks_22 rfl rfl (by omega) (by omega) (fun c22 => ?_) (fun c22 => ?_)
      · refine r_retn dX6_skipBlanks_38 rfl ?_
        rw [if_neg c22] at h
        exact h g hR (Fr.rf _ _)
      · refine r_aload_n (pc' := 26) dX6_skipBlanks_25 rfl rfl ?_
        refine r_dup (pc' := 27) dX6_skipBlanks_26 rfl rfl ?_
        refine r_getf (pc' := 30) (kI := 4) dX6_skipBlanks_27 rfl fX6_25 z1 rfl rfl r4 ?_
        refine r_iconst (pc' := 31) dX6_skipBlanks_30 rfl ?_
        refine r_iadd (pc' := 32) dX6_skipBlanks_31 rfl ?_
        refine r_putf (pc' := 35) (kI := 4) dX6_skipBlanks_32 rfl fX6_25 z1 rfl (Or.inl rfl) rfl rfl ?_
        refine r_goto (tgt := 0) dX6_skipBlanks_35 rfl ?_
        rw [if_pos c22] at h
        exact ih (p + 1) _ (by omega) (hR.pos (by omega) (by omega)) (fun g' a b => h g' a ((Fr1 _ _ _).tr b))
theorem a_skip {X : CX} {d : Nat} {g : Mem} {K : Mem → Prop} {N : Nat} {T : Nat → Int} {p : Nat} {f : Nat × Int} (hR : Rdr g N T p f) (h : ∀ g' : Mem, Rdr g' N T (skT N T p) (f) → Fr [1] g g' → K g') : EV X d mX6_skipBlanks [vr 1] Z0 g K := a_skip' (N - p) p g rfl hR h
theorem a_here {X : CX} {d : Nat} {g : Mem} {K : Int → Mem → Prop} {N : Nat} {T : Nat → Int} {p : Nat} {f : Nat × Int} (hR : Rdr g N T p f) (h : K (hereT N T p) g) : EI X (d) mX6_letterHere [vr 1] Z0 g K := by
  show AJ X (d) mX6_letterHere 0 0 (QI Z0 K) 0 0 0 [some (vr 1)] [] Z0 g
  obtain ⟨r1, r2, r3, r4, r5, r6, r7, r8, r9⟩ := id hR
  unfold hereT at h
  refine r_aload_n (pc' := 1) dX6_letterHere_0 rfl rfl ?_
  refine r_getf (pc' := 4) (kI := 4) dX6_letterHere_1 rfl fX6_25 z1 rfl rfl r4 ?_
  refine r_aload_n (pc' := 5) dX6_letterHere_4 rfl rfl ?_
  refine r_getf (pc' := 8) (kI := 1) dX6_letterHere_5 rfl fX6_15 z1 rfl rfl r1 ?_
  refine r_icmp_ge (tgt := 23) (pc' := 11) dX6_letterHere_8 rfl rfl (by omega) (by omega) (fun c8 => ?_) (fun c8 => ?_)
  · refine r_iconst (pc' := 24) dX6_letterHere_23 rfl ?_
    refine r_reti dX6_letterHere_24 rfl (Or.inl rfl) ?_
    first | (rw [if_pos (by omega)] at h; exact h) | (rw [if_neg (by omega)] at h; exact h)
  · refine r_aload_n (pc' := 12) dX6_letterHere_11 rfl rfl ?_
    refine r_getr (pc' := 15) dX6_letterHere_12 rfl fX6_9 z1 rfl ?_
    refine r_aload_n (pc' := 16) dX6_letterHere_15 rfl rfl ?_
    refine r_getf (pc' := 19) (kI := 4) dX6_letterHere_16 rfl fX6_25 z1 rfl rfl r4 ?_
    refine r_iaload (pc' := 20) dX6_letterHere_19 rfl z2 (by decide) (by omega) (by omega) (r3 p (by omega)).1 ?_
    refine r_goto (tgt := 24) dX6_letterHere_20 rfl ?_
    refine r_reti dX6_letterHere_24 rfl (Or.inl rfl) ?_
    first | (rw [if_pos (by omega)] at h; exact h) | (rw [if_neg (by omega)] at h; exact h)
theorem a_fig {X : CX} {d : Nat} {g : Mem} {K : Int → Mem → Prop} (x : Int) (hx : R32 x) (h : K (b01 (figB x)) g) : EI X (d) mX6_isFigure [vi x] Z0 g K := by
  show AJ X (d) mX6_isFigure 0 0 (QI Z0 K) 0 0 0 [some (vi x)] [] Z0 g
  unfold figB at h
  refine r_iload_n (pc' := 1) dX6_isFigure_0 rfl rfl ?_
  refine r_bipush (pc' := 3) dX6_isFigure_1 rfl (by decide) ?_
  refine r_icmp_lt (tgt := 16) (pc' := 6) dX6_isFigure_3 rfl rfl (by omega) (by omega) (fun c3 => ?_) (fun c3 => ?_)
  · refine r_iconst (pc' := 17) dX6_isFigure_16 rfl ?_
    refine r_reti dX6_isFigure_17 rfl (Or.inr ⟨rfl, by first | exact Or.inl rfl | exact Or.inr rfl | omega⟩) ?_
    first | (rw [decide_eq_true (by omega)] at h; exact h) | (rw [decide_eq_false (by omega)] at h; exact h)
  · refine r_iload_n (pc' := 7) dX6_isFigure_6 rfl rfl ?_
    refine r_bipush (pc' := 9) dX6_isFigure_7 rfl (by decide) ?_
    refine r_icmp_gt (tgt := 16) (pc' := 12) dX6_isFigure_9 rfl rfl (by omega) (by omega) (fun c9 => ?_) (fun c9 => ?_)
    · refine r_iconst (pc' := 17) dX6_isFigure_16 rfl ?_
      refine r_reti dX6_isFigure_17 rfl (Or.inr ⟨rfl, by first | exact Or.inl rfl | exact Or.inr rfl | omega⟩) ?_
      first | (rw [decide_eq_true (by omega)] at h; exact h) | (rw [decide_eq_false (by omega)] at h; exact h)
    · refine r_iconst (pc' := 13) dX6_isFigure_12 rfl ?_
      refine r_goto (tgt := 17) dX6_isFigure_13 rfl ?_
      refine r_reti dX6_isFigure_17 rfl (Or.inr ⟨rfl, by first | exact Or.inl rfl | exact Or.inr rfl | omega⟩) ?_
      first | (rw [decide_eq_true (by omega)] at h; exact h) | (rw [decide_eq_false (by omega)] at h; exact h)
theorem a_blame {X : CX} {d : Nat} {g : Mem} {K : Mem → Prop} {N : Nat} {T : Nat → Int} {p : Nat} {f : Nat × Int} (hR : Rdr g N T p f) {k q : Nat} (hk : k ≤ 3) (hq : q ≤ 240) (h : ∀ g' : Mem, Rdr g' N T (p) (blm f k q) → Fr [1] g g' → K g') : EV X (d) mX6_blame [vr 1, vi (k : Int), vi (q : Int)] Z0 g K := by
  show AJ X (d) mX6_blame 0 0 (QV Z0 K) 0 0 0 [some (vr 1), some (vi (k : Int)), some (vi (q : Int))] [] Z0 g
  obtain ⟨r1, r2, r3, r4, r5, r6, r7, r8, r9⟩ := id hR
  refine r_aload_n (pc' := 1) dX6_blame_0 rfl rfl ?_
  refine r_getf (pc' := 4) (kI := 2) dX6_blame_1 rfl fX6_19 z1 rfl rfl r6 ?_
  refine r_if_ne (tgt := 17) (pc' := 7) dX6_blame_4 rfl rfl (by omega) (fun c4 => ?_) (fun c4 => ?_)
  · refine r_retn dX6_blame_17 rfl ?_
    first
      | (have e : blm f k q = f := by unfold blm; rw [if_neg (by omega)]
         rw [e] at h
         exact h g hR (Fr.rf _ _))
      | (have e : blm f k q = (k, (q : Int)) := by unfold blm; rw [if_pos (by omega)]
         rw [e] at h
         exact h _ ⟨by rw [mu_at' (by decide), mu_at' (by decide)]; exact r1, r2, fun k hk => by rw [mu_ne (by decide), mu_ne (by decide)]; exact r3 k hk, by rw [mu_at' (by decide), mu_at' (by decide)]; exact r4, r5, by rw [mu_at' (by decide), mu_at], hk, by rw [mu_at], by constructor <;> omega⟩ ((Fr1 _ _ _).tr (Fr1 _ _ _)))
  · refine r_aload_n (pc' := 8) dX6_blame_7 rfl rfl ?_
    refine r_iload_n (pc' := 9) dX6_blame_8 rfl rfl ?_
    refine r_putf (pc' := 12) (kI := 2) dX6_blame_9 rfl fX6_19 z1 rfl (Or.inl rfl) rfl rfl ?_
    refine r_aload_n (pc' := 13) dX6_blame_12 rfl rfl ?_
    refine r_iload_n (pc' := 14) dX6_blame_13 rfl rfl ?_
    refine r_putf (pc' := 17) (kI := 3) dX6_blame_14 rfl fX6_22 z1 rfl (Or.inl rfl) rfl rfl ?_
    refine r_retn dX6_blame_17 rfl ?_
    first
      | (have e : blm f k q = f := by unfold blm; rw [if_neg (by omega)]
         rw [e] at h
         exact h g hR (Fr.rf _ _))
      | (have e : blm f k q = (k, (q : Int)) := by unfold blm; rw [if_pos (by omega)]
         rw [e] at h
         exact h _ ⟨by rw [mu_at' (by decide), mu_at' (by decide)]; exact r1, r2, fun k hk => by rw [mu_ne (by decide), mu_ne (by decide)]; exact r3 k hk, by rw [mu_at' (by decide), mu_at' (by decide)]; exact r4, r5, by rw [mu_at' (by decide), mu_at], hk, by rw [mu_at], by constructor <;> omega⟩ ((Fr1 _ _ _).tr (Fr1 _ _ _)))
theorem l_num {X : CX} {d : Nat} {K : Int → Mem → Prop} {N : Nat} {T : Nat → Int} {f : Nat × Int} {lo hi : Int} (hl : R32 lo) (hh : R32 hi) {p1 : Nat} : ∀ (k p c : Nat) (x : Int) (g : Mem), N - p = k → p = p1 + c → 0 ≤ x → (c = 0 → x ≤ 0) → (c = 1 → x ≤ 9) → (c = 2 → x ≤ 99) → x ≤ 999 → Rdr g N T p f → (∀ g' : Mem, Rdr g' N T (nuR T lo hi f p1 (nlF T k p c x)).2.1 (nuR T lo hi f p1 (nlF T k p c x)).2.2 → Fr [1] g g' → K (nuR T lo hi f p1 (nlF T k p c x)).1 g') → AJ X (d + 1) mX6_readNumber 0 0 (QI Z0 K) 0 0 33 [some (vr 1), some (vi lo), some (vi hi), some (vi (p1 : Int)), some (vi x)] [] Z0 g := by
  have fin : ∀ (p c : Nat) (x : Int) (g : Mem), p = p1 + c → 0 ≤ x → x ≤ 999 → Rdr g N T p f → (∀ g' : Mem, Rdr g' N T (nuR T lo hi f p1 (p, x)).2.1 (nuR T lo hi f p1 (p, x)).2.2 → Fr [1] g g' → K (nuR T lo hi f p1 (p, x)).1 g') → AJ X (d + 1) mX6_readNumber 0 0 (QI Z0 K) 0 0 102 [some (vr 1), some (vi lo), some (vi hi), some (vi (p1 : Int)), some (vi x)] [] Z0 g := by
    intro p c x g hp h0 h9 hR h
    obtain ⟨r1, r2, r3, r4, r5, r6, r7, r8, r9⟩ := id hR
    refine r_aload_n (pc' := 103) dX6_readNumber_102 rfl rfl ?_
    refine r_getf (pc' := 106) (kI := 4) dX6_readNumber_103 rfl fX6_25 z1 rfl rfl r4 ?_
    refine r_iload_n (pc' := 107) dX6_readNumber_106 rfl rfl ?_
    refine r_isub (pc' := 108) dX6_readNumber_107 rfl ?_
    refine r_iconst (pc' := 109) dX6_readNumber_108 rfl ?_
    refine r_icmp_gt (tgt := 124) (pc' := 112) dX6_readNumber_109 rfl rfl (by omega) (by omega) (fun c109 => ?_) (fun c109 => ?_)
    · refine r_aload_n (pc' := 125) dX6_readNumber_124 rfl rfl ?_
      refine r_iconst (pc' := 126) dX6_readNumber_125 rfl ?_
      refine r_iload_n (pc' := 127) dX6_readNumber_126 rfl rfl ?_
      refine r_vv2 (pc' := 130) dX6_readNumber_127 rfl qX6_blame lX6_48 z1 rfl rfl rfl rfl (Nat.zero_le _) (Nat.zero_le _) (a_blame hR (k := 2) (q := p1) (by decide) (by omega) (fun g1 hR1 fr1 => ?_))
      have e : nuR T lo hi f p1 (p, x) = (lo, p, blm f 2 p1) := by unfold nuR; rw [if_pos (by show 3 < p - p1 ∨ x < lo ∨ hi < x; omega)]
      rw [e] at h
      refine r_iload_n (pc' := 131) dX6_readNumber_130 rfl rfl ?_
      refine r_reti dX6_readNumber_131 rfl (Or.inl rfl) ?_
      exact h g1 hR1 fr1
    · refine r_iload (pc' := 114) dX6_readNumber_112 rfl rfl ?_
      refine r_iload_n (pc' := 115) dX6_readNumber_114 rfl rfl ?_
      refine r_icmp_lt (tgt := 124) (pc' := 118) dX6_readNumber_115 rfl rfl (by omega) (by omega) (fun c115 => ?_) (fun c115 => ?_)
      · refine r_aload_n (pc' := 125) dX6_readNumber_124 rfl rfl ?_
        refine r_iconst (pc' := 126) dX6_readNumber_125 rfl ?_
        refine r_iload_n (pc' := 127) dX6_readNumber_126 rfl rfl ?_
        refine r_vv2 (pc' := 130) dX6_readNumber_127 rfl qX6_blame lX6_48 z1 rfl rfl rfl rfl (Nat.zero_le _) (Nat.zero_le _) (a_blame hR (k := 2) (q := p1) (by decide) (by omega) (fun g1 hR1 fr1 => ?_))
        have e : nuR T lo hi f p1 (p, x) = (lo, p, blm f 2 p1) := by unfold nuR; rw [if_pos (by show 3 < p - p1 ∨ x < lo ∨ hi < x; omega)]
        rw [e] at h
        refine r_iload_n (pc' := 131) dX6_readNumber_130 rfl rfl ?_
        refine r_reti dX6_readNumber_131 rfl (Or.inl rfl) ?_
        exact h g1 hR1 fr1
      · refine r_iload (pc' := 120) dX6_readNumber_118 rfl rfl ?_
        refine r_iload_n (pc' := 121) dX6_readNumber_120 rfl rfl ?_
        refine r_icmp_le (tgt := 132) (pc' := 124) dX6_readNumber_121 rfl rfl (by omega) (by omega) (fun c121 => ?_) (fun c121 => ?_)
        · refine r_iload (pc' := 134) dX6_readNumber_132 rfl rfl ?_
          refine r_reti dX6_readNumber_134 rfl (Or.inl rfl) ?_
          have e : nuR T lo hi f p1 (p, x) = (x, p, f) := by unfold nuR; rw [if_neg (by show ¬ (3 < p - p1 ∨ x < lo ∨ hi < x); omega)]
          rw [e] at h
          exact h g hR (Fr.rf _ _)
        · refine r_aload_n (pc' := 125) dX6_readNumber_124 rfl rfl ?_
          refine r_iconst (pc' := 126) dX6_readNumber_125 rfl ?_
          refine r_iload_n (pc' := 127) dX6_readNumber_126 rfl rfl ?_
          refine r_vv2 (pc' := 130) dX6_readNumber_127 rfl qX6_blame lX6_48 z1 rfl rfl rfl rfl (Nat.zero_le _) (Nat.zero_le _) (a_blame hR (k := 2) (q := p1) (by decide) (by omega) (fun g1 hR1 fr1 => ?_))
          have e : nuR T lo hi f p1 (p, x) = (lo, p, blm f 2 p1) := by unfold nuR; rw [if_pos (by show 3 < p - p1 ∨ x < lo ∨ hi < x; omega)]
          rw [e] at h
          refine r_iload_n (pc' := 131) dX6_readNumber_130 rfl rfl ?_
          refine r_reti dX6_readNumber_131 rfl (Or.inl rfl) ?_
          exact h g1 hR1 fr1
  intro k
  induction k with
  | zero =>
    intro p c x g hk hp h0 x0 x1 x2 h9 hR h
    obtain ⟨r1, r2, r3, r4, r5, r6, r7, r8, r9⟩ := id hR
    refine r_aload_n (pc' := 34) dX6_readNumber_33 rfl rfl ?_
    refine r_getf (pc' := 37) (kI := 4) dX6_readNumber_34 rfl fX6_25 z1 rfl rfl r4 ?_
    refine r_aload_n (pc' := 38) dX6_readNumber_37 rfl rfl ?_
    refine r_getf (pc' := 41) (kI := 1) dX6_readNumber_38 rfl fX6_15 z1 rfl rfl r1 ?_
    refine r_icmp_ge (tgt := 102) (pc' := 44) dX6_readNumber_41 rfl rfl (by omega) (by omega) (fun c41 => ?_) (fun c41 => ?_)
    · exact fin p c x g hp h0 h9 hR h
    · exact absurd c41 (by omega)
  | succ k ih =>
    intro p c x g hk hp h0 x0 x1 x2 h9 hR h
    obtain ⟨r1, r2, r3, r4, r5, r6, r7, r8, r9⟩ := id hR
    obtain ⟨q1, q2, q3⟩ := r3 p (by omega)
    unfold nlF at h
    refine r_aload_n (pc' := 34) dX6_readNumber_33 rfl rfl ?_
    refine r_getf (pc' := 37) (kI := 4) dX6_readNumber_34 rfl fX6_25 z1 rfl rfl r4 ?_
    refine r_aload_n (pc' := 38) dX6_readNumber_37 rfl rfl ?_
    refine r_getf (pc' := 41) (kI := 1) dX6_readNumber_38 rfl fX6_15 z1 rfl rfl r1 ?_
    refine r_icmp_ge (tgt := 102) (pc' := 44) dX6_readNumber_41 rfl rfl (by omega) (by omega) (fun c41 => ?_) (fun c41 => ?_)
    · exact absurd c41 (by omega)
    · refine r_aload_n (pc' := 45) dX6_readNumber_44 rfl rfl ?_
      refine r_getr (pc' := 48) dX6_readNumber_45 rfl fX6_9 z1 rfl ?_
      refine r_aload_n (pc' := 49) dX6_readNumber_48 rfl rfl ?_
      refine r_getf (pc' := 52) (kI := 4) dX6_readNumber_49 rfl fX6_25 z1 rfl rfl r4 ?_
      refine r_iaload (pc' := 53) dX6_readNumber_52 rfl z2 (by decide) (by omega) (by omega) q1 ?_
      refine r_si1 (pc' := 56) dX6_readNumber_53 rfl qX6_isFigure lX6_101 rfl rfl rfl (Nat.zero_le _) (Nat.zero_le _) (a_fig (T p) (by omega) ?_)
      refine r_if_eq (tgt := 102) (pc' := 59) dX6_readNumber_56 rfl rfl (b01_R _) (fun c56 => ?_) (fun c56 => ?_)
      · rw [if_neg (by rw [b01_eq c56]; decide)] at h
        exact fin p c x g hp h0 h9 hR h
      · refine r_aload_n (pc' := 60) dX6_readNumber_59 rfl rfl ?_
        refine r_getf (pc' := 63) (kI := 4) dX6_readNumber_60 rfl fX6_25 z1 rfl rfl r4 ?_
        refine r_iload_n (pc' := 64) dX6_readNumber_63 rfl rfl ?_
        refine r_isub (pc' := 65) dX6_readNumber_64 rfl ?_
        refine r_iconst (pc' := 66) dX6_readNumber_65 rfl ?_
        refine r_icmp_ge (tgt := 89) (pc' := 69) dX6_readNumber_66 rfl rfl (by omega) (by omega) (fun c66 => ?_) (fun c66 => ?_)
        · refine r_aload_n (pc' := 90) dX6_readNumber_89 rfl rfl ?_
          refine r_dup (pc' := 91) dX6_readNumber_90 rfl rfl ?_
          refine r_getf (pc' := 94) (kI := 4) dX6_readNumber_91 rfl fX6_25 z1 rfl rfl r4 ?_
          refine r_iconst (pc' := 95) dX6_readNumber_94 rfl ?_
          refine r_iadd (pc' := 96) dX6_readNumber_95 rfl ?_
          refine r_putf (pc' := 99) (kI := 4) dX6_readNumber_96 rfl fX6_25 z1 rfl (Or.inl rfl) rfl rfl ?_
          refine r_goto (tgt := 33) dX6_readNumber_99 rfl ?_
          have hfg : 48 ≤ T p ∧ T p ≤ 57 := of_decide_eq_true (b01_ne c56)
          rw [if_pos (b01_ne c56)] at h
          first
            | (rw [if_pos (by omega)] at h; exact ih (p + 1) (c + 1) _ _ (by omega) (by omega) (by omega) (by omega) (by omega) (by omega) (by omega) (hR.pos (by omega) (by omega)) (fun g' a b => h g' a ((Fr1 _ _ _).tr b)))
            | (rw [if_neg (by omega)] at h; exact ih (p + 1) (c + 1) _ _ (by omega) (by omega) (by omega) (by omega) (by omega) (by omega) (by omega) (hR.pos (by omega) (by omega)) (fun g' a b => h g' a ((Fr1 _ _ _).tr b)))
        · refine r_iload (pc' := 71) dX6_readNumber_69 rfl rfl ?_
          refine r_bipush (pc' := 73) dX6_readNumber_71 rfl (by decide) ?_
          refine r_imul (pc' := 74) dX6_readNumber_73 rfl ?_
          refine r_aload_n (pc' := 75) dX6_readNumber_74 rfl rfl ?_
          refine r_getr (pc' := 78) dX6_readNumber_75 rfl fX6_9 z1 rfl ?_
          refine r_aload_n (pc' := 79) dX6_readNumber_78 rfl rfl ?_
          refine r_getf (pc' := 82) (kI := 4) dX6_readNumber_79 rfl fX6_25 z1 rfl rfl r4 ?_
          refine r_iaload (pc' := 83) dX6_readNumber_82 rfl z2 (by decide) (by omega) (by omega) q1 ?_
          refine r_iadd (pc' := 84) dX6_readNumber_83 rfl ?_
          refine r_bipush (pc' := 86) dX6_readNumber_84 rfl (by decide) ?_
          refine r_isub (pc' := 87) dX6_readNumber_86 rfl ?_
          refine r_istore (pc' := 89) dX6_readNumber_87 rfl rfl ?_
          refine r_aload_n (pc' := 90) dX6_readNumber_89 rfl rfl ?_
          refine r_dup (pc' := 91) dX6_readNumber_90 rfl rfl ?_
          refine r_getf (pc' := 94) (kI := 4) dX6_readNumber_91 rfl fX6_25 z1 rfl rfl r4 ?_
          refine r_iconst (pc' := 95) dX6_readNumber_94 rfl ?_
          refine r_iadd (pc' := 96) dX6_readNumber_95 rfl ?_
          refine r_putf (pc' := 99) (kI := 4) dX6_readNumber_96 rfl fX6_25 z1 rfl (Or.inl rfl) rfl rfl ?_
          refine r_goto (tgt := 33) dX6_readNumber_99 rfl ?_
          have hfg : 48 ≤ T p ∧ T p ≤ 57 := of_decide_eq_true (b01_ne c56)
          rw [if_pos (b01_ne c56)] at h
          first
            | (rw [if_pos (by omega)] at h; exact ih (p + 1) (c + 1) _ _ (by omega) (by omega) (by omega) (by omega) (by omega) (by omega) (by omega) (hR.pos (by omega) (by omega)) (fun g' a b => h g' a ((Fr1 _ _ _).tr b)))
            | (rw [if_neg (by omega)] at h; exact ih (p + 1) (c + 1) _ _ (by omega) (by omega) (by omega) (by omega) (by omega) (by omega) (by omega) (hR.pos (by omega) (by omega)) (fun g' a b => h g' a ((Fr1 _ _ _).tr b)))
theorem a_number {X : CX} {d : Nat} {g : Mem} {K : Int → Mem → Prop} {N : Nat} {T : Nat → Int} {p : Nat} {f : Nat × Int} (hR : Rdr g N T p f) {lo hi : Int} (hl : R32 lo) (hh : R32 hi) (h : ∀ g' : Mem, Rdr g' N T ((numR N T lo hi p f).2.1) ((numR N T lo hi p f).2.2) → Fr [1] g g' → K (numR N T lo hi p f).1 g') : EI X (d + 1) mX6_readNumber [vr 1, vi lo, vi hi] Z0 g K := by
  show AJ X (d + 1) mX6_readNumber 0 0 (QI Z0 K) 0 0 0 [some (vr 1), some (vi lo), some (vi hi), none, none] [] Z0 g
  unfold numR nuS at h
  have hr9 := hR.2.1
  refine r_aload_n (pc' := 1) dX6_readNumber_0 rfl rfl ?_
  refine r_vv0 (pc' := 4) dX6_readNumber_1 rfl qX6_skipBlanks lX6_33 z1 rfl rfl rfl (Nat.zero_le _) (Nat.zero_le _) (a_skip hR (fun g1 hR1 fr1 => ?_))
  have hq := hR1.2.2.2.2.1
  refine r_aload_n (pc' := 5) dX6_readNumber_4 rfl rfl ?_
  refine r_vi0 (pc' := 8) dX6_readNumber_5 rfl qX6_letterHere lX6_40 z1 rfl rfl rfl (Nat.zero_le _) (Nat.zero_le _) (a_here hR1 ?_)
  refine r_si1 (pc' := 11) dX6_readNumber_8 rfl qX6_isFigure lX6_101 rfl rfl rfl (Nat.zero_le _) (Nat.zero_le _) (a_fig _ (hereT_R hR1 _).1 ?_)
  refine r_if_ne (tgt := 25) (pc' := 14) dX6_readNumber_11 rfl rfl (b01_R _) (fun c11 => ?_) (fun c11 => ?_)
  · rw [if_pos (b01_ne c11)] at h
    refine r_aload_n (pc' := 26) dX6_readNumber_25 rfl rfl ?_
    refine r_getf (pc' := 29) (kI := 4) dX6_readNumber_26 rfl fX6_25 z1 rfl rfl hR1.2.2.2.1 ?_
    refine r_istore_n (pc' := 30) dX6_readNumber_29 rfl rfl ?_
    refine r_iconst (pc' := 31) dX6_readNumber_30 rfl ?_
    refine r_istore (pc' := 33) dX6_readNumber_31 rfl rfl ?_
    exact l_num hl hh (N - skT N T p) (skT N T p) 0 0 g1 rfl rfl (by decide) (by omega) (by omega) (by omega) (by decide) hR1 (fun g' a b => h g' a (fr1.tr b))
  · rw [if_neg (by rw [b01_eq c11]; decide)] at h
    refine r_aload_n (pc' := 15) dX6_readNumber_14 rfl rfl ?_
    refine r_iconst (pc' := 16) dX6_readNumber_15 rfl ?_
    refine r_aload_n (pc' := 17) dX6_readNumber_16 rfl rfl ?_
    refine r_getf (pc' := 20) (kI := 4) dX6_readNumber_17 rfl fX6_25 z1 rfl rfl hR1.2.2.2.1 ?_
    refine r_vv2 (pc' := 23) dX6_readNumber_20 rfl qX6_blame lX6_48 z1 rfl rfl rfl rfl (Nat.zero_le _) (Nat.zero_le _) (a_blame hR1 (k := 1) (q := skT N T p) (by decide) (by omega) (fun g2 hR2 fr2 => ?_))
    refine r_iload_n (pc' := 24) dX6_readNumber_23 rfl rfl ?_
    refine r_reti dX6_readNumber_24 rfl (Or.inl rfl) ?_
    exact h g2 hR2 (fr1.tr fr2)
theorem a_mark {X : CX} {d : Nat} {g : Mem} {K : Mem → Prop} {N : Nat} {T : Nat → Int} {p : Nat} {f : Nat × Int} (hR : Rdr g N T p f) (h : ∀ g' : Mem, Rdr g' N T ((mrkR N T 59 p f).1) ((mrkR N T 59 p f).2) → Fr [1] g g' → K g') : EV X (d + 1) mX6_readMark [vr 1, vi 59] Z0 g K := by
  show AJ X (d + 1) mX6_readMark 0 0 (QV Z0 K) 0 0 0 [some (vr 1), some (vi 59)] [] Z0 g
  unfold mrkR at h
  have hr9 := hR.2.1
  refine r_aload_n (pc' := 1) dX6_readMark_0 rfl rfl ?_
  refine r_vv0 (pc' := 4) dX6_readMark_1 rfl qX6_skipBlanks lX6_33 z1 rfl rfl rfl (Nat.zero_le _) (Nat.zero_le _) (a_skip hR (fun g1 hR1 fr1 => ?_))
  have hq := hR1.2.2.2.2.1
  refine r_aload_n (pc' := 5) dX6_readMark_4 rfl rfl ?_
  refine r_vi0 (pc' := 8) dX6_readMark_5 rfl qX6_letterHere lX6_40 z1 rfl rfl rfl (Nat.zero_le _) (Nat.zero_le _) (a_here hR1 ?_)
  refine r_iload_n (pc' := 9) dX6_readMark_8 rfl rfl ?_
  refine r_icmp_ne (tgt := 25) (pc' := 12) dX6_readMark_9 rfl rfl (hereT_R hR1 _).1 (by decide) (fun c9 => ?_) (fun c9 => ?_)
  · rw [if_neg c9] at h
    refine r_aload_n (pc' := 26) dX6_readMark_25 rfl rfl ?_
    refine r_iconst (pc' := 27) dX6_readMark_26 rfl ?_
    refine r_aload_n (pc' := 28) dX6_readMark_27 rfl rfl ?_
    refine r_getf (pc' := 31) (kI := 4) dX6_readMark_28 rfl fX6_25 z1 rfl rfl hR1.2.2.2.1 ?_
    refine r_vv2 (pc' := 34) dX6_readMark_31 rfl qX6_blame lX6_48 z1 rfl rfl rfl rfl (Nat.zero_le _) (Nat.zero_le _) (a_blame hR1 (k := 1) (q := skT N T p) (by decide) (by omega) (fun g2 hR2 fr2 => ?_))
    refine r_retn dX6_readMark_34 rfl ?_
    first
      | exact h g2 hR2 (fr1.tr fr2)
      | (have hlt : skT N T p < N := by
           unfold hereT at c9
           by_cases hc : skT N T p < N
           · exact hc
           · rw [if_neg hc] at c9; exact absurd c9 (by decide)
         exact h _ (hR1.pos (by omega) (by omega)) (fr1.tr (Fr1 _ _ _)))
  · rw [if_pos c9] at h
    refine r_aload_n (pc' := 13) dX6_readMark_12 rfl rfl ?_
    refine r_dup (pc' := 14) dX6_readMark_13 rfl rfl ?_
    refine r_getf (pc' := 17) (kI := 4) dX6_readMark_14 rfl fX6_25 z1 rfl rfl hR1.2.2.2.1 ?_
    refine r_iconst (pc' := 18) dX6_readMark_17 rfl ?_
    refine r_iadd (pc' := 19) dX6_readMark_18 rfl ?_
    refine r_putf (pc' := 22) (kI := 4) dX6_readMark_19 rfl fX6_25 z1 rfl (Or.inl rfl) rfl rfl ?_
    refine r_goto (tgt := 34) dX6_readMark_22 rfl ?_
    refine r_retn dX6_readMark_34 rfl ?_
    first
      | exact h g2 hR2 (fr1.tr fr2)
      | (have hlt : skT N T p < N := by
           unfold hereT at c9
           by_cases hc : skT N T p < N
           · exact hc
           · rw [if_neg hc] at c9; exact absurd c9 (by decide)
         exact h _ (hR1.pos (by omega) (by omega)) (fr1.tr (Fr1 _ _ _)))
