theorem lm_fc {X : CX} {d : Nat} {g : Mem} {K : Mem → Prop} {n : Nat} (hn : n ≤ 7) (h : ∀ y : Option VV, AJ X (d + 2) mX11_measures 0 0 (QV Z0 K) 0 0 28 [some (vr 166), some (vi (n : Int)), some (vi ((fcF n : Nat) : Int)), y, none, none, none, none] [] Z0 g) : ∀ (j k : Nat), 2 ≤ k → k + j = max 2 (n + 1) → AJ X (d + 2) mX11_measures 0 0 (QV Z0 K) 0 0 13 [some (vr 166), some (vi (n : Int)), some (vi ((fcF (k - 1) : Nat) : Int)), some (vi (k : Int)), none, none, none, none] [] Z0 g := by
  intro j
  induction j with
  | zero =>
    intro k h2 hj
    have e : fcF (k - 1) = fcF n := by
      by_cases q : n = 0
      · subst q
        rw [show k - 1 = 1 by omega]
        rfl
      · rw [show k - 1 = n by omega]
    rw [e]
    refine r_iload_n (pc' := 14) dX11_measures_13 rfl rfl ?_
    refine r_iload_n (pc' := 15) dX11_measures_14 rfl rfl ?_
    refine r_icmp_gt (tgt := 28) (pc' := 18) dX11_measures_15 rfl rfl (by omega) (by omega) (fun c15 => ?_) (fun c15 => ?_)
    · exact h _
    · exact absurd c15 (by omega)
  | succ j ih =>
    intro k h2 hj
    have e : ((fcF (k - 1) : Nat) : Int) * (k : Int) = ((fcF k : Nat) : Int) := by
      obtain ⟨m, rfl⟩ : ∃ m, k = m + 1 := ⟨k - 1, by omega⟩
      rw [Nat.add_sub_cancel, show fcF (m + 1) = (m + 1) * fcF m from rfl, Nat.mul_comm, Int.natCast_mul]
    refine r_iload_n (pc' := 14) dX11_measures_13 rfl rfl ?_
    refine r_iload_n (pc' := 15) dX11_measures_14 rfl rfl ?_
    refine r_icmp_gt (tgt := 28) (pc' := 18) dX11_measures_15 rfl rfl (by omega) (by omega) (fun c15 => ?_) (fun c15 => ?_)
    · exact absurd c15 (by omega)
    · refine r_iload_n (pc' := 19) dX11_measures_18 rfl rfl ?_
      refine r_iload_n (pc' := 20) dX11_measures_19 rfl rfl ?_
      refine r_imul (pc' := 21) dX11_measures_20 rfl ?_
      refine r_istore_n (pc' := 22) dX11_measures_21 rfl rfl ?_
      refine r_iinc (pc' := 25) dX11_measures_22 rfl rfl rfl ?_
      refine r_goto (tgt := 13) dX11_measures_25 rfl ?_
      rw [e]
      have e9 := ih (k + 1) (by omega) (by omega)
      rw [Nat.add_sub_cancel] at e9
      exact e9
theorem lm_far1 {X : CX} {d : Nat} {g : Mem} {K : Mem → Prop} {a e : Int} (hk : ∀ y : Option VV, AJ X (d + 2) mX11_measures 0 0 (QV Z0 K) 0 0 54 [some (vr 166), some (vi a), some (vi e), y, none, none, none, none] [] Z0 (fnB g 178 (fun _ => -1) 315)) : ∀ (k i : Nat), i + k = 315 → AJ X (d + 2) mX11_measures 0 0 (QV Z0 K) 0 0 30 [some (vr 166), some (vi a), some (vi e), some (vi (i : Int)), none, none, none, none] [] Z0 (fnB g 178 (fun _ => -1) i) := by
  intro k
  induction k with
  | zero =>
    intro i hi
    have e : i = 315 := by omega
    subst e
    refine r_iload_n (pc' := 31) dX11_measures_30 rfl rfl ?_
    refine r_aload_n (pc' := 32) dX11_measures_31 rfl rfl ?_
    refine r_getr (pc' := 35) dX11_measures_32 rfl fX11_48 z166 rfl ?_
    refine r_alen (pc' := 36) dX11_measures_35 rfl z178 (by decide) ?_
    refine r_icmp_ge (tgt := 54) (pc' := 39) dX11_measures_36 rfl rfl (by omega) (by omega) (fun c36 => ?_) (fun c36 => ?_)
    · exact hk _
    · exact absurd c36 (by omega)
  | succ k ih =>
    intro i hi
    refine r_iload_n (pc' := 31) dX11_measures_30 rfl rfl ?_
    refine r_aload_n (pc' := 32) dX11_measures_31 rfl rfl ?_
    refine r_getr (pc' := 35) dX11_measures_32 rfl fX11_48 z166 rfl ?_
    refine r_alen (pc' := 36) dX11_measures_35 rfl z178 (by decide) ?_
    refine r_icmp_ge (tgt := 54) (pc' := 39) dX11_measures_36 rfl rfl (by omega) (by omega) (fun c36 => ?_) (fun c36 => ?_)
    · exact absurd c36 (by omega)
    · refine r_aload_n (pc' := 40) dX11_measures_39 rfl rfl ?_
      refine r_getr (pc' := 43) dX11_measures_40 rfl fX11_48 z166 rfl ?_
      refine r_iload_n (pc' := 44) dX11_measures_43 rfl rfl ?_
      refine r_ldc2_w (z := -1) (pc' := 47) dX11_measures_44 rfl kX11_191 ?_
      refine r_lastore (pc' := 48) (g' := (fnB g 178 (fun _ => -1) (i + 1))) dX11_measures_47 rfl z178 (by decide) (by omega) (by omega) (fnB_succ rfl rfl) ?_
      refine r_iinc (pc' := 51) dX11_measures_48 rfl rfl rfl ?_
      refine r_goto (tgt := 30) dX11_measures_51 rfl ?_
      exact ih (i + 1) (by omega)
theorem m_measures {X : CX} {d : Nat} {g : Mem} {K : Mem → Prop} {n : Nat} (hn : n ≤ 7) (hF : FT g) (h : ∀ g' : Mem, FTn g' n → FrS g g' → K g') : EV X (d + 2) mX11_measures [vr 166, vi (n : Int)] Z0 g K := by
  show AJ X (d + 2) mX11_measures 0 0 (QV Z0 K) 0 0 0 [some (vr 166), some (vi (n : Int)), none, none, none, none, none, none] [] Z0 g
  have hR : R32 (g 166 20) := by
    rcases hF with q | ⟨m, a, b, _⟩
    · rw [q]; decide
    · rw [b]; omega
  refine r_aload_n (pc' := 1) dX11_measures_0 rfl rfl ?_
  refine r_getf (pc' := 4) (kI := 20) dX11_measures_1 rfl fX11_52 z166 rfl rfl rfl ?_
  refine r_iload_n (pc' := 5) dX11_measures_4 rfl rfl ?_
  refine r_icmp_ne (tgt := 9) (pc' := 8) dX11_measures_5 rfl rfl hR (by omega) (fun c5 => ?_) (fun c5 => ?_)
  · refine r_iconst (pc' := 10) dX11_measures_9 rfl ?_
    refine r_istore_n (pc' := 11) dX11_measures_10 rfl rfl ?_
    refine r_iconst (pc' := 12) dX11_measures_11 rfl ?_
    refine r_istore_n (pc' := 13) dX11_measures_12 rfl rfl ?_
    refine lm_fc hn (fun y => ?_) (max 2 (n + 1) - 2) 2 (by omega) (by omega)
    refine r_iconst (pc' := 29) dX11_measures_28 rfl ?_
    refine r_istore_n (pc' := 30) dX11_measures_29 rfl rfl ?_
    have tl : ∀ y : Option VV, AJ X (d + 2) mX11_measures 0 0 (QV Z0 K) 0 0 54 [some (vr 166), some (vi (n : Int)), some (vi ((fcF n : Nat) : Int)), y, none, none, none, none] [] Z0 (fnB g 178 (fun _ => -1) 315) := fun y => by
      refine r_aload_n (pc' := 55) dX11_measures_54 rfl rfl ?_
      refine r_iconst (pc' := 56) dX11_measures_55 rfl ?_
      refine r_iconst (pc' := 57) dX11_measures_56 rfl ?_
      refine r_vv2 (pc' := 60) dX11_measures_57 rfl qX11_isFar lX11_193 z166 rfl rfl rfl rfl (Nat.zero_le _) (Nat.zero_le _) (m_isFar (v := 0) (s := 0) (by decide) (by decide) (fun g1 h1 f1 => ?_))
      refine r_iconst (pc' := 61) dX11_measures_60 rfl ?_
      refine r_istore_n (pc' := 62) dX11_measures_61 rfl rfl ?_
      refine r_iconst (pc' := 63) dX11_measures_62 rfl ?_
      refine r_istore (pc' := 65) dX11_measures_63 rfl rfl ?_
      refine lm_mesL hn 14 0 g1 none none none (by omega) (Inv_0 hn (fun w hw => ?_)) (fun g' a b => ?_)
      · rw [h1 w hw]
        by_cases e : w = 0
        · rw [if_pos e, if_pos e]
        · rw [if_neg e, if_neg e]
          unfold nibG
          rw [fnB_at (by omega) (by omega)]
          exact nib_m1 _ (by omega)
      · refine h _ ⟨mu_at, fun v hv => by rw [nib_fr (mu_ne (by decide))]; exact a v hv⟩ ⟨fun j x1 x2 x3 x4 x5 => ?_, fun k x => ?_⟩
        · rw [mu_ne x1, b j x2 x3 x4 x5, f1 j x2, fnB_off x2]
        · rw [mu_at' x, b 166 (by decide) (by decide) (by decide) (by decide), f1 166 (by decide), fnB_off (by decide)]
    have e0 := lm_far1 (X := X) (d := d) (K := K) (g := g) (a := (n : Int)) (e := ((fcF n : Nat) : Int)) tl (315) 0 (by omega)
    rw [fnB_0] at e0
    exact e0
  · refine r_retn dX11_measures_8 rfl ?_
    rcases hF with q | ⟨m, a, b⟩
    · omega
    · have e : m = n := by have := b.1; omega
      subst e
      exact h g b ⟨fun _ _ _ _ _ _ => rfl, fun _ _ => rfl⟩
theorem MS.scr2 {g g' : Mem} {tN : Nat} {tX : Nat → Int} {flt : Int} {u : PV} {v : LV} {kn : Nat} {kL : Nat → LV} {im : Nat → Bool × Int × LV} {sd : Int} {ln : Nat} {la : Nat → Nat} {lr : Nat → Bool} {bn : Nat} {bp : Nat → Nat} {bf : Nat → Int} (hM : MS g tN tX flt u v kn kL im sd ln la lr bn bp bf) (hf : ∀ j, 167 ≤ j → j ≤ 175 → j ≠ 169 → g' j = g j) (hk : ∀ k : Int, k ≠ 20 → g' 166 k = g 166 k) : MS g' tN tX flt u v kn kL im sd ln la lr bn bp bf := by
  obtain ⟨⟨m1, m2⟩, m3, m4, m5, ⟨m6, m7⟩, m8, m9, ⟨m10, m11⟩, ⟨m12, m13⟩⟩ := id hM
  exact ⟨⟨(hk 1 (by decide)).trans m1, fun k hk => (congrFun (hf 167 (by decide) (by decide) (by decide)) _).trans (m2 k hk)⟩, (hk 15 (by decide)).trans m3, m4.fr (hf 168 (by decide) (by decide) (by decide)), m5.fr (hf 170 (by decide) (by decide) (by decide)), ⟨(hk 6 (by decide)).trans m6, fun j hj => (m7 j hj).fr (hf 171 (by decide) (by decide) (by decide))⟩, MIm.fr m8 (hf 172 (by decide) (by decide) (by decide)) (hf 173 (by decide) (by decide) (by decide)), (hk 9 (by decide)).trans m9, ⟨(hk 11 (by decide)).trans m10, fun i hi => by rw [hf 174 (by decide) (by decide) (by decide)]; exact m11 i hi⟩, ⟨(hk 13 (by decide)).trans m12, fun i hi => by rw [hf 175 (by decide) (by decide) (by decide)]; exact m13 i hi⟩⟩
theorem lm_tcp {X : CX} {d : Nat} {g : Mem} {K : Int → Mem → Prop} {w : Int} {n : Nat} (h7 : n ≤ 7) (hk : ∀ y : Option VV, AJ X (d + 3) mX11_turnings 0 0 (QI Z0 K) 0 0 51 [some (vr 166), some (vi w), some (vi (n : Int)), y, none, none] [] Z0 (cpB g 170 180 4 0 n)) : ∀ (k i : Nat), i + k = n → AJ X (d + 3) mX11_turnings 0 0 (QI Z0 K) 0 0 26 [some (vr 166), some (vi w), some (vi (n : Int)), some (vi (i : Int)), none, none] [] Z0 (cpB g 170 180 4 0 i) := by
  intro k
  induction k with
  | zero =>
    intro i hi
    have e : i = n := by omega
    subst e
    refine r_iload_n (pc' := 27) dX11_turnings_26 rfl rfl ?_
    refine r_iload_n (pc' := 28) dX11_turnings_27 rfl rfl ?_
    refine r_icmp_ge (tgt := 51) (pc' := 31) dX11_turnings_28 rfl rfl (by omega) (by omega) (fun c28 => ?_) (fun c28 => ?_)
    · exact hk _
    · exact absurd c28 (by omega)
  | succ k ih =>
    intro i hi
    refine r_iload_n (pc' := 27) dX11_turnings_26 rfl rfl ?_
    refine r_iload_n (pc' := 28) dX11_turnings_27 rfl rfl ?_
    refine r_icmp_ge (tgt := 51) (pc' := 31) dX11_turnings_28 rfl rfl (by omega) (by omega) (fun c28 => ?_) (fun c28 => ?_)
    · exact absurd c28 (by omega)
    · refine r_aload_n (pc' := 32) dX11_turnings_31 rfl rfl ?_
      refine r_getr (pc' := 35) dX11_turnings_32 rfl fX11_58 z166 rfl ?_
      refine r_iload_n (pc' := 36) dX11_turnings_35 rfl rfl ?_
      refine r_aload_n (pc' := 37) dX11_turnings_36 rfl rfl ?_
      refine r_getr (pc' := 40) dX11_turnings_37 rfl fX11_19 z166 rfl ?_
      refine r_iconst (pc' := 41) dX11_turnings_40 rfl ?_
      refine r_iload_n (pc' := 42) dX11_turnings_41 rfl rfl ?_
      refine r_iadd (pc' := 43) dX11_turnings_42 rfl ?_
      refine r_iaload (pc' := 44) (x := g 170 (4 + (i : Int))) dX11_turnings_43 rfl z170 (by decide) (by omega) (by omega) (by rw [cpB_off (by decide)]) ?_
      refine r_iastore (pc' := 45) (g' := (cpB g 170 180 4 0 (i + 1))) dX11_turnings_44 rfl z180 (by decide) (by omega) (by omega) (cpB_succ (by omega) rfl) ?_
      refine r_iinc (pc' := 48) dX11_turnings_45 rfl rfl rfl ?_
      refine r_goto (tgt := 26) dX11_turnings_48 rfl ?_
      exact ih (i + 1) (by omega)
def PF (n l : Nat) (r : Nat → Nat) (k : Nat) (fo : Int) : Prop := (fo = -1 ∧ ∀ k', k < k' → 2 ≤ k' → k' ≤ n → ¬ So n l (flipN r k')) ∨ ∃ k0 : Nat, fo = (k0 : Int) ∧ k < k0 ∧ 2 ≤ k0 ∧ k0 ≤ n ∧ So n l (flipN r k0) ∧ ∀ k', k < k' → 2 ≤ k' → k' < k0 → ¬ So n l (flipN r k')
theorem PF_FW {n l k : Nat} {r : Nat → Nat} {fo : Int} (hk : k ≤ 1) (h : PF n l r k fo) : FW n l r fo := by
  rcases h with ⟨a, b⟩ | ⟨k0, a, b, c, e, f, z⟩
  · exact Or.inl ⟨a, fun k' x y => b k' (by omega) x y⟩
  · exact Or.inr ⟨k0, a, c, e, f, fun k' x y => z k' (by omega) x y⟩
theorem PF_yes {n l k : Nat} {r : Nat → Nat} {fo : Int} (h2 : 2 ≤ k) (hn : k ≤ n) (h : So n l (flipN r k)) : PF n l r (k - 1) (k : Int) := Or.inr ⟨k, rfl, by omega, h2, hn, h, fun k' a b c => by omega⟩
theorem PF_no {n l k : Nat} {r : Nat → Nat} {fo : Int} (h : ¬ So n l (flipN r k)) (hp : PF n l r k fo) : PF n l r (k - 1) fo := by
  rcases hp with ⟨a, b⟩ | ⟨k0, a, b, c, e, f, z⟩
  · refine Or.inl ⟨a, fun k' x y w => ?_⟩
    by_cases q : k' = k
    · rw [q]; exact h
    · exact b k' (by omega) y w
  · refine Or.inr ⟨k0, a, by omega, c, e, f, fun k' x y w => ?_⟩
    by_cases q : k' = k
    · rw [q]; exact h
    · exact z k' (by omega) y w
theorem tab_r {n : Nat} (hn : n ≤ 7) {g : Mem} (hT : ∀ v, v < fcF n → ∃ t, isDv n v t ∧ nibG g v = t) {r : Nat → Nat} (hr : Pm n r) : ∃ t, isDr n r t ∧ nibG g (numF n r) = t := by
  obtain ⟨t, a, b⟩ := hT _ (num_lt n r)
  have ho := nb_ord hn hr
  exact ⟨t, ⟨So_congr t ho a.1, fun t' ht q => a.2 t' ht (So_congr t' (fun p hp => (ho p hp).symm) q)⟩, b⟩
theorem tab_k {n x k : Nat} {r : Nat → Nat} (hx : isDr n r x) (h1 : 1 ≤ x) (h2 : 2 ≤ k) (hk : k ≤ n) {t : Nat} (ht : isDr n (flipN r k) t) : (t : Int) = (x : Int) - 1 ↔ So n (x - 1) (flipN r k) := by
  constructor
  · intro h
    rw [show x - 1 = t by omega]
    exact ht.1
  · intro h
    have a : t ≤ x - 1 := by
      by_cases q : t ≤ x - 1
      · exact q
      · exact absurd h (ht.2 _ (by omega))
    have b : x ≤ t + 1 := by
      by_cases q : x ≤ t + 1
      · exact q
      · exact absurd (So_k h2 hk ht.1) (hx.2 _ (by omega))
    omega
theorem flip0 (o : Nat → Nat) : flipN o 0 = o := by
  funext p
  unfold flipN
  rw [if_neg (by omega)]
theorem lm_tui {X : CX} {d : Nat} {K : Int → Mem → Prop} {F : Nat} {v : LV} {w : Int} {x : Nat} (hW : LW F v) (hx : isDr (Ln v) (rkP (Lo v) (Ln v)) x) (h1 : 1 ≤ x) (hxb : x ≤ 15) : ∀ (k : Nat) (g : Mem) (fo : Int), k ≤ Ln v → (∀ v', v' < fcF (Ln v) → ∃ t, isDv (Ln v) v' t ∧ nibG g v' = t) → (∀ p : Nat, p < Ln v → g 180 p = (Lo v p : Int)) → PF (Ln v) (x - 1) (rkP (Lo v) (Ln v)) k fo → (∀ (g' : Mem) (fo : Int), FW (Ln v) (x - 1) (rkP (Lo v) (Ln v)) fo → (∀ j, j ≠ 181 → g' j = g j) → K fo g') → AJ X (d + 3) mX11_turnings 0 0 (QI Z0 K) 0 0 76 [some (vr 166), some (vi w), some (vi (Ln v : Int)), some (vi (x : Int)), some (vi fo), some (vi (k : Int))] [] Z0 g := by
  have w1 := hW.2.1
  have hP := rk_Pm hW.2.2.2.1
  intro k
  induction k with
  | zero =>
    intro g fo hk hT ho hp h
    refine r_iload (pc' := 78) dX11_turnings_76 rfl rfl ?_
    refine r_iconst (pc' := 79) dX11_turnings_78 rfl ?_
    refine r_icmp_le (tgt := 133) (pc' := 82) dX11_turnings_79 rfl rfl (by omega) (by omega) (fun c79 => ?_) (fun c79 => ?_)
    · refine r_iload (pc' := 135) dX11_turnings_133 rfl rfl ?_
      refine r_reti dX11_turnings_135 rfl (Or.inl rfl) ?_
      exact h g fo (PF_FW (by omega) hp) (fun _ _ => rfl)
    · exact absurd c79 (by decide)
  | succ k ih =>
    intro g fo hk hT ho hp h
    have hE := (K_6 (Ln v) (by omega)).2
    refine r_iload (pc' := 78) dX11_turnings_76 rfl rfl ?_
    refine r_iconst (pc' := 79) dX11_turnings_78 rfl ?_
    refine r_icmp_le (tgt := 133) (pc' := 82) dX11_turnings_79 rfl rfl (by omega) (by omega) (fun c79 => ?_) (fun c79 => ?_)
    · refine r_iload (pc' := 135) dX11_turnings_133 rfl rfl ?_
      refine r_reti dX11_turnings_135 rfl (Or.inl rfl) ?_
      exact h g fo (PF_FW (by omega) hp) (fun _ _ => rfl)
    · refine r_iload_n (pc' := 83) dX11_turnings_82 rfl rfl ?_
      refine r_if_le (tgt := 133) (pc' := 86) dX11_turnings_83 rfl rfl (by omega) (fun c83 => ?_) (fun c83 => ?_)
      · exact absurd c83 (by omega)
      · refine r_aload_n (pc' := 87) dX11_turnings_86 rfl rfl ?_
        refine r_getr (pc' := 90) dX11_turnings_87 rfl fX11_58 z166 rfl ?_
        refine r_aload_n (pc' := 91) dX11_turnings_90 rfl rfl ?_
        refine r_getr (pc' := 94) dX11_turnings_91 rfl fX11_61 z166 rfl ?_
        refine r_iload_n (pc' := 95) dX11_turnings_94 rfl rfl ?_
        refine r_iload (pc' := 97) dX11_turnings_95 rfl rfl ?_
        refine r_sv4 (pc' := 100) dX11_turnings_97 rfl qX11_turns lX11_204 rfl rfl rfl (Nat.zero_le _) (Nat.zero_le _) (m_turns w1 (k := k + 1) hk ho (fun g1 o1 f1 => ?_))
        refine r_aload_n (pc' := 101) dX11_turnings_100 rfl rfl ?_
        refine r_aload_n (pc' := 102) dX11_turnings_101 rfl rfl ?_
        refine r_getr (pc' := 105) dX11_turnings_102 rfl fX11_61 z166 rfl ?_
        refine r_iload_n (pc' := 106) dX11_turnings_105 rfl rfl ?_
        refine r_si2 (pc' := 109) dX11_turnings_106 rfl qX11_numberOf lX11_208 rfl rfl rfl (Nat.zero_le _) (Nat.zero_le _) (m_numb (o := flipN (Lo v) (k + 1)) z181 w1 o1 (fun p q => by unfold flipN; split; (have := hW.2.2.1 (k + 1 - 1 - p) (by omega); have := hW.1; omega); (have := hW.2.2.1 p q; have := hW.1; omega)) ?_)
        obtain ⟨tt, t1, t2⟩ := tab_r (g := g1) w1 (fun v1 hv1 => by rw [nib_fr (f1 178 (by decide))]; exact hT v1 hv1) (Pm_flip (k := k + 1) hk hP)
        have tk := tab_k hx h1 (k := k + 1) (by omega) hk t1
        rw [rk_num hW.2.2.2.1 (k := k + 1) hk]
        refine r_vi1 (pc' := 112) dX11_turnings_109 rfl qX11_farAt lX11_197 z166 rfl rfl rfl rfl (Nat.zero_le _) (Nat.zero_le _) (m_farAt (by have := num_lt (Ln v) (flipN (rkP (Lo v) (Ln v)) (k + 1)); omega) ?_)
        refine r_iload_n (pc' := 113) dX11_turnings_112 rfl rfl ?_
        refine r_iconst (pc' := 114) dX11_turnings_113 rfl ?_
        refine r_isub (pc' := 115) dX11_turnings_114 rfl ?_
        refine r_icmp_ne (tgt := 123) (pc' := 118) dX11_turnings_115 rfl rfl (by have := nibG_lt g1 (numF (Ln v) (flipN (rkP (Lo v) (Ln v)) (k + 1))); omega) (by omega) (fun c115 => ?_) (fun c115 => ?_)
        · refine r_iload (pc' := 125) dX11_turnings_123 rfl rfl ?_
          refine r_istore (pc' := 127) dX11_turnings_125 rfl rfl ?_
          refine r_iinc (pc' := 130) dX11_turnings_127 rfl rfl rfl ?_
          refine r_goto (tgt := 76) dX11_turnings_130 rfl ?_
          rw [show ((k + 1 : Nat) : Int) + -1 = (k : Int) by omega]
          first
            | (have cq := ceq
               exact ih g1 _ (by omega) (fun v' hv' => by rw [nib_fr (f1 178 (by decide))]; exact hT v' hv') (fun p hp => by rw [f1 180 (by decide)]; exact ho p hp) (PF_yes (fo := fo) (by omega) hk (tk.mp (by omega))) (fun g' fo a b => h g' fo a (fun j hj => (b j hj).trans (f1 j hj))))
            | exact ih g1 _ (by omega) (fun v' hv' => by rw [nib_fr (f1 178 (by decide))]; exact hT v' hv') (fun p hp => by rw [f1 180 (by decide)]; exact ho p hp) (PF_no (fun q => absurd (tk.mpr q) (by omega)) hp) (fun g' fo a b => h g' fo a (fun j hj => (b j hj).trans (f1 j hj)))
        · have ceq := c115
          refine r_iload (pc' := 120) dX11_turnings_118 rfl rfl ?_
          refine r_goto (tgt := 125) dX11_turnings_120 rfl ?_
          refine r_istore (pc' := 127) dX11_turnings_125 rfl rfl ?_
          refine r_iinc (pc' := 130) dX11_turnings_127 rfl rfl rfl ?_
          refine r_goto (tgt := 76) dX11_turnings_130 rfl ?_
          rw [show ((k + 1 : Nat) : Int) + -1 = (k : Int) by omega]
          first
            | (have cq := ceq
               exact ih g1 _ (by omega) (fun v' hv' => by rw [nib_fr (f1 178 (by decide))]; exact hT v' hv') (fun p hp => by rw [f1 180 (by decide)]; exact ho p hp) (PF_yes (fo := fo) (by omega) hk (tk.mp (by omega))) (fun g' fo a b => h g' fo a (fun j hj => (b j hj).trans (f1 j hj))))
            | exact ih g1 _ (by omega) (fun v' hv' => by rw [nib_fr (f1 178 (by decide))]; exact hT v' hv') (fun p hp => by rw [f1 180 (by decide)]; exact ho p hp) (PF_no (fun q => absurd (tk.mpr q) (by omega)) hp) (fun g' fo a b => h g' fo a (fun j hj => (b j hj).trans (f1 j hj)))
theorem M_turnings {X : CX} {d : Nat} {g : Mem} {K : Int → Mem → Prop} {tN : Nat} {tX : Nat → Int} {flt : Int} {u : PV} {v : LV} {kn : Nat} {kL : Nat → LV} {im : Nat → Bool × Int × LV} {sd : Int} {ln : Nat} {la : Nat → Nat} {lr : Nat → Bool} {bn : Nat} {bp : Nat → Nat} {bf : Nat → Int} (hM : MS g tN tX flt u v kn kL im sd ln la lr bn bp bf) (hS : WS tN tX flt u v kn kL im sd ln la lr bn bp bf) (hF : FT g) (w : Int) (hw0 : R32 w) (h : ∀ g' : Mem, MS g' tN tX flt u v kn kL im sd ln la lr bn bp bf → (∀ j : Nat, j < 166 → g' j = g j) → FT g' → K (E_turnings v w) g') : EI X (d + 3) mX11_turnings [vr 166, vi w] Z0 g K := by
  show AJ X (d + 3) mX11_turnings 0 0 (QI Z0 K) 0 0 0 [some (vr 166), some (vi w), none, none, none, none] [] Z0 g
  obtain ⟨⟨m1, m2⟩, m3, m4, m5, ⟨m6, m7⟩, m8, m9, ⟨m10, m11⟩, ⟨m12, m13⟩⟩ := id hM
  obtain ⟨⟨s1, s2⟩, s3, s4, s5, ⟨s6, s7⟩, s8, ⟨s9, s10⟩, ⟨s11, s12⟩, ⟨s13, s14⟩⟩ := id hS
  have hB : MB g u v := ⟨m4, s4, m5, s5⟩
  obtain ⟨hQ, hU, hC, hW⟩ := id hB
  obtain ⟨hy, hi, hc, ht, ho, hf, hw_⟩ := id hC
  obtain ⟨w0, w1, w2, w3, w4, w5, w6, w7⟩ := id hW
  obtain ⟨p6, p7, p8, p9, p10, pk, pg, px, py⟩ := id hQ
  obtain ⟨u0, u1, u2, u3, u4, u5, u6, u7⟩ := id hU
  refine r_iload_n (pc' := 1) dX11_turnings_0 rfl rfl ?_
  refine r_iconst (pc' := 2) dX11_turnings_1 rfl ?_
  refine r_iconst (pc' := 3) dX11_turnings_2 rfl ?_
  refine r_si3 (pc' := 6) dX11_turnings_3 rfl qX11_in lX11_67 rfl rfl rfl (Nat.zero_le _) (Nat.zero_le _) (m_in w 0 1 (by omega) (by omega) (by omega) ?_)
  refine r_if_ne (tgt := 12) (pc' := 9) dX11_turnings_6 rfl rfl (b01_R _) (fun c6 => ?_) (fun c6 => ?_)
  · have hd := of_decide_eq_true (b01_ne c6)
    refine r_aload_n (pc' := 13) dX11_turnings_12 rfl rfl ?_
    refine r_getr (pc' := 16) dX11_turnings_13 rfl fX11_19 z166 rfl ?_
    refine r_iconst (pc' := 17) dX11_turnings_16 rfl ?_
    refine r_iaload (pc' := 18) dX11_turnings_17 rfl z170 (by decide) (by omega) (by omega) hc ?_
    refine r_istore_n (pc' := 19) dX11_turnings_18 rfl rfl ?_
    refine r_aload_n (pc' := 20) dX11_turnings_19 rfl rfl ?_
    refine r_iload_n (pc' := 21) dX11_turnings_20 rfl rfl ?_
    refine r_vv1 (pc' := 24) dX11_turnings_21 rfl qX11_measures lX11_212 z166 rfl rfl rfl rfl (Nat.zero_le _) (Nat.zero_le _) (m_measures w1 hF (fun g1 hT1 fs1 => ?_))
    refine r_iconst (pc' := 25) dX11_turnings_24 rfl ?_
    refine r_istore_n (pc' := 26) dX11_turnings_25 rfl rfl ?_
    have tl : ∀ y : Option VV, AJ X (d + 3) mX11_turnings 0 0 (QI Z0 K) 0 0 51 [some (vr 166), some (vi w), some (vi (Ln v : Int)), y, none, none] [] Z0 (cpB g1 170 180 4 0 (Ln v)) := fun y => by
      have f2 : ∀ j, j ≠ 180 → (cpB g1 170 180 4 0 (Ln v)) j = g1 j := fun j hj => cpB_off hj
      have hT2 : ∀ v', v' < fcF (Ln v) → ∃ t, isDv (Ln v) v' t ∧ nibG (cpB g1 170 180 4 0 (Ln v)) v' = t := fun v' hv' => by rw [nib_fr (f2 178 (by decide))]; exact hT1.2 v' hv'
      have ho2 : ∀ p : Nat, p < Ln v → (cpB g1 170 180 4 0 (Ln v)) 180 p = (Lo v p : Int) := fun p hp => by
        rw [cpB_at (by omega) (by omega), fs1.1 170 (by decide) (by decide) (by decide) (by decide) (by decide)]
        have := ho p hp
        rw [show (4 : Int) + ((p : Int) - 0) = 4 + (p : Int) by omega]
        exact this
      have hP := rk_Pm hW.2.2.2.1
      obtain ⟨x, x1, x2⟩ := tab_r w1 hT2 hP
      obtain ⟨x', x3, x4⟩ := few_D w1 hP (by unfold rkP; rw [if_neg (by omega)])
      have ex := isDr_uniq x1 x4
      subst ex
      have hE := (K_6 (Ln v) (by omega)).2
      have hnl := num_lt (Ln v) (rkP (Lo v) (Ln v))
      have e0n : numF (Ln v) (Lo v) = numF (Ln v) (rkP (Lo v) (Ln v)) := by have := rk_num hW.2.2.2.1 (k := 0) (by omega); rw [flip0, flip0] at this; exact this
      have h15 := nibG_lt (cpB g1 170 180 4 0 (Ln v)) (numF (Ln v) (rkP (Lo v) (Ln v)))
      have fin : ∀ g' : Mem, (∀ j, j ≠ 181 → g' j = (cpB g1 170 180 4 0 (Ln v)) j) → K (E_turnings v w) g' := fun g' q => by
        have q2 : ∀ j, j ≠ 181 → j ≠ 180 → g' j = g1 j := fun j a b => (q j a).trans (f2 j b)
        refine h g' (hM.scr2 (fun j a b c => (q2 j (by omega) (by omega)).trans (fs1.1 j (by omega) (by omega) (by omega) (by omega) (by omega))) (fun k hk => (congrFun (q2 166 (by decide) (by decide)) k).trans (fs1.2 k hk))) (fun j hj => (q2 j (by omega) (by omega)).trans (fs1.1 j (by omega) (by omega) (by omega) (by omega) (by omega))) ?_
        exact FT.fr (Or.inr ⟨Ln v, w1, hT1⟩) (q2 178 (by decide) (by decide)) (congrFun (q2 166 (by decide) (by decide)) 20)
      unfold E_turnings at fin
      refine r_aload_n (pc' := 52) dX11_turnings_51 rfl rfl ?_
      refine r_aload_n (pc' := 53) dX11_turnings_52 rfl rfl ?_
      refine r_getr (pc' := 56) dX11_turnings_53 rfl fX11_58 z166 rfl ?_
      refine r_iload_n (pc' := 57) dX11_turnings_56 rfl rfl ?_
      refine r_si2 (pc' := 60) dX11_turnings_57 rfl qX11_numberOf lX11_208 rfl rfl rfl (Nat.zero_le _) (Nat.zero_le _) (m_numb (o := Lo v) z180 w1 ho2 (fun p q => by have := w2 p q; omega) ?_)
      rw [e0n]
      refine r_vi1 (pc' := 63) dX11_turnings_60 rfl qX11_farAt lX11_197 z166 rfl rfl rfl rfl (Nat.zero_le _) (Nat.zero_le _) (m_farAt (by omega) ?_)
      rw [x2]
      refine r_istore_n (pc' := 64) dX11_turnings_63 rfl rfl ?_
      refine r_iload_n (pc' := 65) dX11_turnings_64 rfl rfl ?_
      refine r_if_ne (tgt := 70) (pc' := 68) dX11_turnings_65 rfl rfl (by omega) (fun c65 => ?_) (fun c65 => ?_)
      · refine r_iconst (pc' := 71) dX11_turnings_70 rfl ?_
        refine r_istore (pc' := 73) dX11_turnings_71 rfl rfl ?_
        refine r_iload_n (pc' := 74) dX11_turnings_73 rfl rfl ?_
        refine r_istore (pc' := 76) dX11_turnings_74 rfl rfl ?_
        rcases ft_FW w1 hP (by unfold rkP; rw [if_neg (by omega)]) x1 with ⟨z1, z2⟩ | ⟨z1, z2⟩
        · subst z2
          have f9 := fin _ (fun _ _ => rfl)
          rw [if_neg (by omega), if_pos (by omega), z1] at f9
          refine r_iload (pc' := 78) dX11_turnings_76 rfl rfl ?_
          refine r_iconst (pc' := 79) dX11_turnings_78 rfl ?_
          refine r_icmp_le (tgt := 133) (pc' := 82) dX11_turnings_79 rfl rfl (by omega) (by omega) (fun c79 => ?_) (fun c79 => ?_)
          · refine r_iload (pc' := 135) dX11_turnings_133 rfl rfl ?_
            refine r_reti dX11_turnings_135 rfl (Or.inl rfl) ?_
            exact f9
          · refine r_iload_n (pc' := 83) dX11_turnings_82 rfl rfl ?_
            refine r_if_le (tgt := 133) (pc' := 86) dX11_turnings_83 rfl rfl (by omega) (fun c83 => ?_) (fun c83 => ?_)
            · refine r_iload (pc' := 135) dX11_turnings_133 rfl rfl ?_
              refine r_reti dX11_turnings_135 rfl (Or.inl rfl) ?_
              exact f9
            · exact absurd c83 (by decide)
        · refine lm_tui hW x1 z1 (by omega) (Ln v) (cpB g1 170 180 4 0 (Ln v)) (-1) (Nat.le_refl _) hT2 ho2 (Or.inl ⟨rfl, fun k' a b c => by omega⟩) (fun g' fo a b => ?_)
          have f9 := fin g' b
          rw [if_neg (by omega), if_pos (by omega), FW_uniq z2 a] at f9
          exact f9
      · refine r_iload_n (pc' := 69) dX11_turnings_68 rfl rfl ?_
        refine r_reti dX11_turnings_69 rfl (Or.inl rfl) ?_
        have f9 := fin _ (fun _ _ => rfl)
        rw [if_pos (by omega), x3] at f9
        exact f9
    have e7 := lm_tcp (X := X) (d := d) (K := K) (g := g1) (w := w) (n := Ln v) w1 tl (Ln v) 0 (by omega)
    rw [cpB_0] at e7
    exact e7
  · have hd := of_decide_eq_false (b01_eq c6)
    refine r_ldc (z := -1000000002) (pc' := 11) dX11_turnings_9 rfl kX11_71 ?_
    refine r_reti dX11_turnings_11 rfl (Or.inl rfl) ?_
    have h9 := h g hM (fun _ _ => rfl) hF
    unfold E_turnings at h9
    rw [if_neg (by omega), if_neg (by omega)] at h9
    exact h9
