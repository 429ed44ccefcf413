/-- the first n places of a row are so -/
def fnB (g : Mem) (c : Nat) (φ : Int → Int) (n : Nat) : Mem := fun j q => if j = c ∧ 0 ≤ q ∧ q < n then φ q else g j q
theorem fnB_0 (g : Mem) (c : Nat) (φ : Int → Int) : fnB g c φ 0 = g := by
  funext j q
  unfold fnB
  rw [if_neg (by omega)]
theorem fnB_succ {g : Mem} {c : Nat} {φ : Int → Int} {n : Nat} {j x : Int} (hj : j = n) (hx : x = φ n) : mu (fnB g c φ n) c j x = fnB g c φ (n + 1) := by
  funext k q
  unfold mu fnB
  subst hj hx
  by_cases e : k = c ∧ q = (n : Int)
  · rw [if_pos e, if_pos (by omega), e.2]
  · rw [if_neg e]
    by_cases z : k = c ∧ 0 ≤ q ∧ q < (n : Int)
    · rw [if_pos z, if_pos (by omega)]
    · rw [if_neg z, if_neg (by omega)]
theorem fnB_off {g : Mem} {c : Nat} {φ : Int → Int} {n j : Nat} (h : j ≠ c) : fnB g c φ n j = g j := by
  funext q
  unfold fnB
  rw [if_neg (fun z => h z.1)]
theorem fnB_at {g : Mem} {c : Nat} {φ : Int → Int} {n : Nat} {q : Int} (h1 : 0 ≤ q) (h2 : q < n) : fnB g c φ n c q = φ q := by
  unfold fnB
  rw [if_pos ⟨rfl, h1, h2⟩]
def drφ (q : Int) : Int := if 19 ≤ q ∧ q ≤ 42 then 9 else 0
def hgφ (q : Int) : Int := if 4 ≤ q ∧ q ≤ 10 then q - 4 else 0
theorem kd_b {N : Nat} {T : Nat → Int} : ∀ (k n : Nat) (W : Nat → Nat) (p : Nat) (f : Nat × Int), n + k = 4 → 1 ≤ n → (∀ q, q < n → W q ≤ 5) → 1 ≤ (kdF N T k n W p f).1 ∧ (kdF N T k n W p f).1 ≤ 4 ∧ ∀ q, q < (kdF N T k n W p f).1 → (kdF N T k n W p f).2.1 q ≤ 5
  | 0, n, W, p, f, h1, h2, h3 => ⟨h2, by show n ≤ 4; omega, h3⟩
  | k + 1, n, W, p, f, h1, h2, h3 => by
    unfold kdF
    split
    · refine kd_b k (n + 1) _ _ _ (by omega) (by omega) (fun q hq => ?_)
      have hb := numR_b (N := N) (T := T) (lo := 0) (hi := 5) (by decide) (p + 1) f
      split
      · omega
      · exact h3 q (by omega)
    · exact ⟨h2, by show n ≤ 4; omega, h3⟩
theorem PW_cl {N : Nat} {T : Nat → Int} {u : PV} {p : Nat} {f : Nat × Int} (h : PW u) : PW (clR N T u p f).1 := by
  unfold clR
  split
  · exact h
  · split
    · exact h
    · rename_i h1 h2
      have hf := fulN_0 (u := u) (nm := hereT N T p) (by omega)
      show PW (restR N T (hereT N T p) u (p + 1) f).1
      unfold restR
      split
      · have := numR_b (N := N) (T := T) (lo := 0) (hi := 9) (by decide) (p + 1) f
        exact PW_Y h this.1 this.2
      · split
        · rename_i e
          have a := numR_b (N := N) (T := T) (lo := 0) (hi := 5) (by decide) (p + 1) f
          have b := numR_b (N := N) (T := T) (lo := 1) (hi := 9) (by decide) (numR N T 0 5 (p + 1) f).2.1 (numR N T 0 5 (p + 1) f).2.2
          exact PW_F h (hf.1 e) a.1 a.2 b.1 b.2
        · split
          · rename_i e
            have a := numR_b (N := N) (T := T) (lo := 0) (hi := 5) (by decide) (p + 1) f
            have b := kd_b (N := N) (T := T) 3 1 (fun _ => (numR N T 0 5 (p + 1) f).1.toNat) (skT N T (numR N T 0 5 (p + 1) f).2.1) (numR N T 0 5 (p + 1) f).2.2 rfl (by decide) (fun q _ => by omega)
            exact PW_W h (hf.2.1 e) b.1 b.2.1 b.2.2
          · rename_i e1 e2 e3
            have a := numR_b (N := N) (T := T) (lo := 0) (hi := 6) (by decide) (p + 1) f
            have b := numR_b (N := N) (T := T) (lo := 0) (hi := 6) (by decide) (numR N T 0 6 (p + 1) f).2.1 (numR N T 0 6 (p + 1) f).2.2
            exact PW_H h (hf.2.2 ⟨e1, e2, e3⟩) a.1 a.2 b.1 b.2
theorem rdI_e {N : Nat} {T : Nat → Int} {k : Nat} {u : PV} {p : Nat} {f : Nat × Int} (h : N ≤ p ∨ f.1 ≠ 0) : rdI N T k u p f = (u, p, f) := by
  cases k with
  | zero => rfl
  | succ k =>
    unfold rdI
    rw [if_neg (by omega)]
theorem rdI_s {N : Nat} {T : Nat → Int} {k : Nat} {u : PV} {p : Nat} (h : p < N) : rdI N T (k + 1) u p (0, -1) = rdI N T k (clR N T u p (0, -1)).1 (skT N T (clR N T u p (0, -1)).2.1) (clR N T u p (0, -1)).2.2 := by
  rw [rdI, if_pos ⟨h, rfl⟩]
theorem rdI_0 {N : Nat} {T : Nat → Int} : ∀ (k : Nat) (u : PV) (p : Nat), (rdI N T k u p (0, -1)).2.2.1 = 0 → (rdI N T k u p (0, -1)).2.2 = (0, -1)
  | 0, _, _, _ => rfl
  | k + 1, u, p, h => by
    by_cases hp : p < N
    · rw [rdI_s hp] at h ⊢
      by_cases e : (clR N T u p (0, -1)).2.2.1 = 0
      · rw [cl_0 e] at h ⊢
        exact rdI_0 k _ _ h
      · rw [rdI_e (Or.inr e)] at h
        exact absurd h e
    · rw [rdI_e (Or.inl (by omega))]
theorem rdI_p {N : Nat} {T : Nat → Int} : ∀ (k : Nat) (u : PV) (p : Nat) (f : Nat × Int), PW u → PW (rdI N T k u p f).1
  | 0, _, _, _, h => h
  | k + 1, u, p, f, h => by
    unfold rdI
    split
    · exact rdI_p k _ _ _ (PW_cl h)
    · exact h
theorem lm_rd1 {X : CX} {d : Nat} {g : Mem} {K : Int → Mem → Prop}  (hk : ∀ y : Option VV, AJ X (d + 5) mX11_reads 0 0 (QI Z0 K) 0 0 37 [some (vr 166), y] [] Z0 (fnB g 169 drφ 53)) : ∀ (k i : Nat), i + k = 53 → AJ X (d + 5) mX11_reads 0 0 (QI Z0 K) 0 0 2 [some (vr 166), some (vi (i : Int))] [] Z0 (fnB g 169 drφ i) := by
  intro k
  induction k with
  | zero =>
    intro i hi
    have e : i = 53 := by omega
    subst e
    refine r_iload_n (pc' := 3) dX11_reads_2 rfl rfl ?_
    refine r_bipush (pc' := 5) dX11_reads_3 rfl (by decide) ?_
    refine r_icmp_ge (tgt := 37) (pc' := 8) dX11_reads_5 rfl rfl (by omega) (by omega) (fun c5 => ?_) (fun c5 => ?_)
    · exact hk _
    · exact absurd c5 (by omega)
  | succ k ih =>
    intro i hi
    refine r_iload_n (pc' := 3) dX11_reads_2 rfl rfl ?_
    refine r_bipush (pc' := 5) dX11_reads_3 rfl (by decide) ?_
    refine r_icmp_ge (tgt := 37) (pc' := 8) dX11_reads_5 rfl rfl (by omega) (by omega) (fun c5 => ?_) (fun c5 => ?_)
    · exact absurd c5 (by omega)
    · refine r_aload_n (pc' := 9) dX11_reads_8 rfl rfl ?_
      refine r_getr (pc' := 12) dX11_reads_9 rfl fX11_16 z166 rfl ?_
      refine r_iload_n (pc' := 13) dX11_reads_12 rfl rfl ?_
      refine r_iload_n (pc' := 14) dX11_reads_13 rfl rfl ?_
      refine r_bipush (pc' := 16) dX11_reads_14 rfl (by decide) ?_
      refine r_bipush (pc' := 18) dX11_reads_16 rfl (by decide) ?_
      refine r_si3 (pc' := 21) dX11_reads_18 rfl qX11_in lX11_67 rfl rfl rfl (Nat.zero_le _) (Nat.zero_le _) (m_in (i : Int) 19 42 (by omega) (by omega) (by omega) ?_)
      refine r_if_eq (tgt := 29) (pc' := 24) dX11_reads_21 rfl rfl (b01_R _) (fun c21 => ?_) (fun c21 => ?_)
      · have hd := of_decide_eq_false (b01_eq c21)
        refine r_iconst (pc' := 30) dX11_reads_29 rfl ?_
        refine r_iastore (pc' := 31) (g' := (fnB g 169 drφ (i + 1))) dX11_reads_30 rfl z169 (by decide) (by omega) (by omega) (fnB_succ rfl (by unfold drφ; first | rw [if_pos hd] | rw [if_neg hd])) ?_
        refine r_iinc (pc' := 34) dX11_reads_31 rfl rfl rfl ?_
        refine r_goto (tgt := 2) dX11_reads_34 rfl ?_
        exact ih (i + 1) (by omega)
      · have hd := of_decide_eq_true (b01_ne c21)
        refine r_bipush (pc' := 26) dX11_reads_24 rfl (by decide) ?_
        refine r_goto (tgt := 30) dX11_reads_26 rfl ?_
        refine r_iastore (pc' := 31) (g' := (fnB g 169 drφ (i + 1))) dX11_reads_30 rfl z169 (by decide) (by omega) (by omega) (fnB_succ rfl (by unfold drφ; first | rw [if_pos hd] | rw [if_neg hd])) ?_
        refine r_iinc (pc' := 34) dX11_reads_31 rfl rfl rfl ?_
        refine r_goto (tgt := 2) dX11_reads_34 rfl ?_
        exact ih (i + 1) (by omega)
theorem lm_rd2 {X : CX} {d : Nat} {K : Int → Mem → Prop} {N : Nat} {T : Nat → Int} : ∀ (k : Nat) (u : PV) (p : Nat) (g : Mem), N ≤ p + k → MRd g N T p → DM g u → PW u → RdK N T K g (rdI N T k u p (0, -1)) → AJ X (d + 5) mX11_reads 0 0 (QI Z0 K) 0 0 47 [some (vr 166), some (vi (hereT N T p))] [] Z0 g := by
  intro k
  induction k with
  | zero =>
    intro u p g hk hR hD hU h
    have hxR := hereT_M hR p
    have hv1 : hereT N T p = -1 := by unfold hereT; rw [if_neg (by omega)]
    refine r_iload_n (pc' := 48) dX11_reads_47 rfl rfl ?_
    refine r_if_lt (tgt := 69) (pc' := 51) dX11_reads_48 rfl rfl hxR.1 (fun c48 => ?_) (fun c48 => ?_)
    · refine r_iconst (pc' := 70) dX11_reads_69 rfl ?_
      refine r_reti dX11_reads_70 rfl (Or.inr ⟨rfl, by first | exact Or.inl rfl | exact Or.inr rfl | omega⟩) ?_
      exact h.yes rfl hR hD (FrD.rf g)
    · exact absurd c48 (by omega)
  | succ k ih =>
    intro u p g hk hR hD hU h
    have hxR := hereT_M hR p
    refine r_iload_n (pc' := 48) dX11_reads_47 rfl rfl ?_
    refine r_if_lt (tgt := 69) (pc' := 51) dX11_reads_48 rfl rfl hxR.1 (fun c48 => ?_) (fun c48 => ?_)
    · have hpN : N ≤ p := by
        by_cases q : p < N
        · exfalso
          have := (hR.2.2.1 p q).2.1
          unfold hereT at c48
          rw [if_pos q] at c48
          omega
        · omega
      refine r_iconst (pc' := 70) dX11_reads_69 rfl ?_
      refine r_reti dX11_reads_70 rfl (Or.inr ⟨rfl, by first | exact Or.inl rfl | exact Or.inr rfl | omega⟩) ?_
      rw [rdI_e (Or.inl hpN)] at h
      exact h.yes rfl hR hD (FrD.rf g)
    · have hpN : p < N := by
        by_cases q : p < N
        · exact q
        · exfalso
          unfold hereT at c48
          rw [if_neg q] at c48
          omega
      refine r_aload_n (pc' := 52) dX11_reads_51 rfl rfl ?_
      refine r_iload_n (pc' := 53) dX11_reads_52 rfl rfl ?_
      refine r_vi1 (pc' := 56) dX11_reads_53 rfl qX11_readsClause lX11_103 z166 rfl rfl rfl rfl (Nat.zero_le _) (Nat.zero_le _) (m_clause hR hD hU hpN ?_)
      rw [rdI_s hpN] at h
      refine ⟨fun a g1 b c e => ?_, fun a q b g1 c e z => ?_⟩
      · have hlt := cl_lt a
        rw [cl_0 a] at h
        refine r_if_ne (tgt := 61) (pc' := 59) dX11_reads_56 rfl rfl (by decide) (fun c56 => ?_) (fun c56 => ?_)
        · refine r_aload_n (pc' := 62) dX11_reads_61 rfl rfl ?_
          refine r_vi0 (pc' := 65) dX11_reads_62 rfl qX11_next0 lX11_82 z166 rfl rfl rfl (Nat.zero_le _) (Nat.zero_le _) (m_next0 b (fun g2 hR2 fr2 => ?_))
          refine r_istore_n (pc' := 66) dX11_reads_65 rfl rfl ?_
          refine r_goto (tgt := 47) dX11_reads_66 rfl ?_
          exact ih _ _ g2 (by have := skT_ge N T (clR N T u p (0, -1)).2.1; omega) hR2 (c.fr (fr2.1 169 (by decide))) (PW_cl hU) ((h.fr e).fr fr2.d)
        · exact absurd c56 (by decide)
      · rw [rdI_e (Or.inr a)] at h
        refine r_if_ne (tgt := 61) (pc' := 59) dX11_reads_56 rfl rfl (by decide) (fun c56 => ?_) (fun c56 => ?_)
        · exact absurd rfl c56
        · refine r_iconst (pc' := 60) dX11_reads_59 rfl ?_
          refine r_reti dX11_reads_60 rfl (Or.inr ⟨rfl, by first | exact Or.inl rfl | exact Or.inr rfl | omega⟩) ?_
          exact h.2 a q b g1 c e z
theorem m_reads {X : CX} {d : Nat} {g : Mem} {K : Int → Mem → Prop} {N : Nat} {T : Nat → Int} (hT : g 166 1 = N ∧ N ≤ 240 ∧ ∀ k : Nat, k < N → g 167 k = T k ∧ 0 ≤ T k ∧ T k ≤ 255) (h : RdK N T K g (rdA N T)) : EI X (d + 5) mX11_reads [vr 166] Z0 g K := by
  show AJ X (d + 5) mX11_reads 0 0 (QI Z0 K) 0 0 0 [some (vr 166), none] [] Z0 g
  have hR0 : MRd (mu (fnB g 169 drφ 53) 166 14 0) N T 0 := ⟨by rw [mu_at' (by decide), fnB_off (by decide)]; exact hT.1, hT.2.1, fun k hk => by rw [mu_ne (by decide), fnB_off (by decide)]; exact hT.2.2 k hk, by rw [mu_at]; rfl, by omega⟩
  have fr0 : FrD g (mu (fnB g 169 drφ 53) 166 14 0) := ⟨fun j a b => by rw [mu_ne a, fnB_off b], fun k a _ => by rw [mu_at' a, fnB_off (by decide)]⟩
  have h240 := hT.2.1
  have e0 : ∀ q : Int, 0 ≤ q → q < 53 → (mu (fnB g 169 drφ 53) 166 14 0) 169 q = drφ q := fun q a b => by rw [mu_ne (by decide), fnB_at a (by omega)]
  have hD0 : DM (mu (fnB g 169 drφ 53) 166 14 0) u00 := by
    refine ⟨⟨e0 0 (by decide) (by decide), e0 4 (by decide) (by decide), e0 1 (by decide) (by decide), e0 2 (by decide) (by decide), e0 3 (by decide) (by decide), fun k hk => absurd hk (Nat.not_lt_zero k), fun k hk => absurd hk (Nat.not_lt_zero k), fun x hx => absurd hx (Nat.not_lt_zero x), fun k hk => absurd hk (Nat.not_lt_zero k)⟩, fun x k a b c => ?_⟩
    rw [e0 _ (by omega) (by omega)]
    unfold drφ
    rw [if_pos (by omega)]
  refine r_iconst (pc' := 1) dX11_reads_0 rfl ?_
  refine r_istore_n (pc' := 2) dX11_reads_1 rfl rfl ?_
  have tl : ∀ y : Option VV, AJ X (d + 5) mX11_reads 0 0 (QI Z0 K) 0 0 37 [some (vr 166), y] [] Z0 (fnB g 169 drφ 53) := fun y => by
    refine r_aload_n (pc' := 38) dX11_reads_37 rfl rfl ?_
    refine r_iconst (pc' := 39) dX11_reads_38 rfl ?_
    refine r_putf (pc' := 42) (kI := 14) dX11_reads_39 rfl fX11_76 z166 rfl (Or.inl rfl) rfl rfl ?_
    refine r_aload_n (pc' := 43) dX11_reads_42 rfl rfl ?_
    refine r_vi0 (pc' := 46) dX11_reads_43 rfl qX11_next0 lX11_82 z166 rfl rfl rfl (Nat.zero_le _) (Nat.zero_le _) (m_next0 hR0 (fun g1 hR1 fr1 => ?_))
    refine r_istore_n (pc' := 47) dX11_reads_46 rfl rfl ?_
    exact lm_rd2 240 u00 _ g1 (by omega) hR1 (hD0.fr (fr1.1 169 (by decide))) PW_00 (h.fr (FrD.tr fr0 fr1.d))
  have e7 := lm_rd1 (X := X) (d := d) (K := K) (g := g)  tl (53) 0 (by omega)
  rw [fnB_0] at e7
  exact e7
