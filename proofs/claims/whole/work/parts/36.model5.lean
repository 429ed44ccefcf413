/-- n places of row c from b on, copied to row c' from b' on -/
def cpB (g : Mem) (c c' : Nat) (b b' : Int) (n : Nat) : Mem := fun j q => if j = c' ∧ b' ≤ q ∧ q < b' + n then g c (b + (q - b')) else g j q
theorem cpB_0 (g : Mem) (c c' : Nat) (b b' : Int) : cpB g c c' b b' 0 = g := by
  funext j q
  unfold cpB
  rw [if_neg (by omega)]
theorem cpB_succ {g : Mem} {c c' : Nat} {b b' : Int} {n : Nat} {j x : Int} (hj : j = b' + n) (hx : x = g c (b + n)) : mu (cpB g c c' b b' n) c' j x = cpB g c c' b b' (n + 1) := by
  funext i q
  subst hj
  subst hx
  unfold mu cpB
  by_cases h : i = c' ∧ q = b' + n
  · rw [if_pos h, if_pos ⟨h.1, by omega, by omega⟩, show b + (q - b') = b + n by omega]
  · rw [if_neg h]
    by_cases h2 : i = c' ∧ b' ≤ q ∧ q < b' + n
    · rw [if_pos h2, if_pos ⟨h2.1, by omega, by omega⟩]
    · rw [if_neg h2, if_neg (by rintro ⟨h3, h4, h5⟩; exact h2 ⟨h3, h4, by have : ¬ q = b' + n := fun e => h ⟨h3, e⟩; omega⟩)]
theorem cpB_off {g : Mem} {c c' : Nat} {b b' : Int} {n j : Nat} (h : j ≠ c') : cpB g c c' b b' n j = g j := by
  funext q
  unfold cpB
  rw [if_neg (fun e => h e.1)]
theorem cpB_at {g : Mem} {c c' : Nat} {b b' : Int} {n : Nat} {q : Int} (h1 : b' ≤ q) (h2 : q < b' + n) : cpB g c c' b b' n c' q = g c (b + (q - b')) := by
  unfold cpB
  rw [if_pos ⟨rfl, h1, h2⟩]
theorem cpB_out {g : Mem} {c c' : Nat} {b b' : Int} {n : Nat} {q : Int} (h : q < b' ∨ b' + n ≤ q) : cpB g c c' b b' n c' q = g c' q := by
  unfold cpB
  rw [if_neg (by omega)]
/-- a block of 25 goes along -/
theorem LM.cp {g g' : Mem} {c c' : Nat} {b b' : Int} {v : LV} {F : Nat} (hW : LW F v) (h : LM g c b v) (hq : ∀ q : Int, 0 ≤ q → q < 25 → g' c' (b' + q) = g c (b + q)) : LM g' c' b' v := by
  have w := hW.2.1
  obtain ⟨h1, h2, h3, h4, h5, h6, h7⟩ := h
  have h0 := hq 0 (by decide) (by decide)
  rw [Int.add_zero, Int.add_zero] at h0
  exact ⟨h0.trans h1, (hq 1 (by decide) (by decide)).trans h2, (hq 2 (by decide) (by decide)).trans h3, (hq 3 (by decide) (by decide)).trans h4, fun p hp => (hq (4 + p) (by omega) (by omega)).trans (h5 p hp), fun k hk => (hq (11 + k) (by omega) (by omega)).trans (h6 k hk), fun k hk => (hq (18 + k) (by omega) (by omega)).trans (h7 k hk)⟩
theorem LSr.lm {g : Mem} {v : LV} (h : LSr g v) : LM g 170 0 v := by
  obtain ⟨h1, h2, h3, h4, h5, h6, h7⟩ := h
  exact ⟨h1, by rw [Int.zero_add]; exact h2, by rw [Int.zero_add]; exact h3, by rw [Int.zero_add]; exact h4, fun p hp => by rw [Int.zero_add]; exact h5 p hp, fun k hk => by rw [Int.zero_add]; exact h6 k hk, fun k hk => by rw [Int.zero_add]; exact h7 k hk⟩
theorem LM.ls {g : Mem} {v : LV} (h : LM g 170 0 v) : LSr g v := by
  obtain ⟨h1, h2, h3, h4, h5, h6, h7⟩ := h
  simp only [Int.zero_add] at h2 h3 h4 h5 h6 h7
  exact ⟨h1, h2, h3, h4, h5, h6, h7⟩
theorem lm_keeps1 {X : CX} {d : Nat} {g : Mem} {K : Mem → Prop} (hk : ∀ y : Option VV, AJ X (d) mX11_keeps 0 0 (QV Z0 K) 0 0 39 [some (vr 166), y] [] Z0 (cpB g 171 171 25 0 725)) : ∀ (k i : Nat), i + k = 725 → AJ X (d) mX11_keeps 0 0 (QV Z0 K) 0 0 11 [some (vr 166), some (vi (i : Int))] [] Z0 (cpB g 171 171 25 0 i) := by
  intro k
  induction k with
  | zero =>
    intro i hi
    have e : i = 725 := by omega
    subst e
    refine r_iload_n (pc' := 12) dX11_keeps_11 rfl rfl ?_
    refine r_sipush (pc' := 15) dX11_keeps_12 rfl (by decide) ?_
    refine r_icmp_ge (tgt := 39) (pc' := 18) dX11_keeps_15 rfl rfl (by omega) (by omega) (fun c15 => ?_) (fun c15 => ?_)
    · exact hk _
    · exact absurd c15 (by decide)
  | succ k ih =>
    intro i hi
    refine r_iload_n (pc' := 12) dX11_keeps_11 rfl rfl ?_
    refine r_sipush (pc' := 15) dX11_keeps_12 rfl (by decide) ?_
    refine r_icmp_ge (tgt := 39) (pc' := 18) dX11_keeps_15 rfl rfl (by omega) (by omega) (fun c15 => ?_) (fun c15 => ?_)
    · exact absurd c15 (by omega)
    · refine r_aload_n (pc' := 19) dX11_keeps_18 rfl rfl ?_
      refine r_getr (pc' := 22) dX11_keeps_19 rfl fX11_22 z166 rfl ?_
      refine r_iload_n (pc' := 23) dX11_keeps_22 rfl rfl ?_
      refine r_aload_n (pc' := 24) dX11_keeps_23 rfl rfl ?_
      refine r_getr (pc' := 27) dX11_keeps_24 rfl fX11_22 z166 rfl ?_
      refine r_iload_n (pc' := 28) dX11_keeps_27 rfl rfl ?_
      refine r_bipush (pc' := 30) dX11_keeps_28 rfl (by decide) ?_
      refine r_iadd (pc' := 31) dX11_keeps_30 rfl ?_
      refine r_iaload (pc' := 32) (x := g 171 (25 + (i : Int))) dX11_keeps_31 rfl z171 (by decide) (by omega) (by omega) (by rw [cpB_out (by omega)]; congr 1; omega) ?_
      refine r_iastore (pc' := 33) (g' := (cpB g 171 171 25 0 (i + 1))) dX11_keeps_32 rfl z171 (by decide) (by omega) (by omega) (cpB_succ (by omega) rfl) ?_
      refine r_iinc (pc' := 36) dX11_keeps_33 rfl rfl rfl ?_
      refine r_goto (tgt := 11) dX11_keeps_36 rfl ?_
      exact ih (i + 1) (by omega)
theorem lm_keeps2 {X : CX} {d : Nat} {g : Mem} {K : Mem → Prop} {kn : Nat} (h30 : kn < 30) (h6 : g 166 6 = kn) (hk : ∀ y : Option VV, AJ X (d) mX11_keeps 0 0 (QV Z0 K) 0 0 83 [some (vr 166), y] [] Z0 (cpB g 170 171 0 (25 * (kn : Int)) 25)) : ∀ (k i : Nat), i + k = 25 → AJ X (d) mX11_keeps 0 0 (QV Z0 K) 0 0 51 [some (vr 166), some (vi (i : Int))] [] Z0 (cpB g 170 171 0 (25 * (kn : Int)) i) := by
  intro k
  induction k with
  | zero =>
    intro i hi
    have e : i = 25 := by omega
    subst e
    refine r_iload_n (pc' := 52) dX11_keeps_51 rfl rfl ?_
    refine r_bipush (pc' := 54) dX11_keeps_52 rfl (by decide) ?_
    refine r_icmp_ge (tgt := 83) (pc' := 57) dX11_keeps_54 rfl rfl (by omega) (by omega) (fun c54 => ?_) (fun c54 => ?_)
    · exact hk _
    · exact absurd c54 (by decide)
  | succ k ih =>
    intro i hi
    refine r_iload_n (pc' := 52) dX11_keeps_51 rfl rfl ?_
    refine r_bipush (pc' := 54) dX11_keeps_52 rfl (by decide) ?_
    refine r_icmp_ge (tgt := 83) (pc' := 57) dX11_keeps_54 rfl rfl (by omega) (by omega) (fun c54 => ?_) (fun c54 => ?_)
    · exact absurd c54 (by omega)
    · refine r_aload_n (pc' := 58) dX11_keeps_57 rfl rfl ?_
      refine r_getr (pc' := 61) dX11_keeps_58 rfl fX11_22 z166 rfl ?_
      refine r_bipush (pc' := 63) dX11_keeps_61 rfl (by decide) ?_
      refine r_aload_n (pc' := 64) dX11_keeps_63 rfl rfl ?_
      refine r_getf (pc' := 67) (kI := 6) (x := (kn : Int)) dX11_keeps_64 rfl fX11_109 z166 rfl rfl (by rw [cpB_off (by decide)]; exact h6) ?_
      refine r_imul (pc' := 68) dX11_keeps_67 rfl ?_
      refine r_iload_n (pc' := 69) dX11_keeps_68 rfl rfl ?_
      refine r_iadd (pc' := 70) dX11_keeps_69 rfl ?_
      refine r_aload_n (pc' := 71) dX11_keeps_70 rfl rfl ?_
      refine r_getr (pc' := 74) dX11_keeps_71 rfl fX11_19 z166 rfl ?_
      refine r_iload_n (pc' := 75) dX11_keeps_74 rfl rfl ?_
      refine r_iaload (pc' := 76) (x := g 170 (0 + (i : Int))) dX11_keeps_75 rfl z170 (by decide) (by omega) (by omega) (by rw [cpB_off (by decide), Int.zero_add]) ?_
      refine r_iastore (pc' := 77) (g' := (cpB g 170 171 0 (25 * (kn : Int)) (i + 1))) dX11_keeps_76 rfl z171 (by decide) (by omega) (by omega) (cpB_succ rfl rfl) ?_
      refine r_iinc (pc' := 80) dX11_keeps_77 rfl rfl rfl ?_
      refine r_goto (tgt := 51) dX11_keeps_80 rfl ?_
      exact ih (i + 1) (by omega)
theorem m_keeps {X : CX} {d : Nat} {g : Mem} {K : Mem → Prop} {tN : Nat} {tX : Nat → Int} {flt : Int} {u : PV} {v : LV} {kn : Nat} {kL : Nat → LV} {im : Nat → Bool × Int × LV} {sd : Int} {ln : Nat} {la : Nat → Nat} {lr : Nat → Bool} {bn : Nat} {bp : Nat → Nat} {bf : Nat → Int} (hM : MS g tN tX flt u v kn kL im sd ln la lr bn bp bf) (hS : WS tN tX flt u v kn kL im sd ln la lr bn bp bf) (h : ∀ g' : Mem, MS g' tN tX flt u v (pN kn) (pL kn kL v) im sd ln la lr bn bp bf → FrM g g' → K g') : EV X (d) mX11_keeps [vr 166] Z0 g K := by
  show AJ X (d) mX11_keeps 0 0 (QV Z0 K) 0 0 0 [some (vr 166), none] [] Z0 g
  obtain ⟨⟨m1, m2⟩, m3, m4, m5, ⟨m6, m7⟩, m8, m9, ⟨m10, m11⟩, ⟨m12, m13⟩⟩ := id hM
  obtain ⟨⟨s1, s2⟩, s3, s4, s5, ⟨s6, s7⟩, s8, ⟨s9, s10⟩, ⟨s11, s12⟩, ⟨s13, s14⟩⟩ := id hS
  have hB : MB g u v := ⟨m4, s4, m5, s5⟩
  obtain ⟨hQ, hU, hC, hW⟩ := id hB
  obtain ⟨hy, hi, hc, ht, ho, hf, hw_⟩ := id hC
  obtain ⟨w0, w1, w2, w3, w4, w5, w6, w7⟩ := id hW
  obtain ⟨p6, p7, p8, p9, p10, pk, pg, px, py⟩ := id hQ
  obtain ⟨u0, u1, u2, u3, u4, u5, u6, u7⟩ := id hU
  refine r_aload_n (pc' := 1) dX11_keeps_0 rfl rfl ?_
  refine r_getf (pc' := 4) (kI := 6) dX11_keeps_1 rfl fX11_109 z166 rfl rfl m6 ?_
  refine r_bipush (pc' := 6) dX11_keeps_4 rfl (by decide) ?_
  refine r_icmp_ne (tgt := 49) (pc' := 9) dX11_keeps_6 rfl rfl (by omega) (by omega) (fun c6 => ?_) (fun c6 => ?_)
  · refine r_iconst (pc' := 50) dX11_keeps_49 rfl ?_
    refine r_istore_n (pc' := 51) dX11_keeps_50 rfl rfl ?_
    have tl : ∀ y : Option VV, AJ X (d) mX11_keeps 0 0 (QV Z0 K) 0 0 83 [some (vr 166), y] [] Z0 (cpB g 170 171 0 (25 * (kn : Int)) 25) := fun y => by
      refine r_aload_n (pc' := 84) dX11_keeps_83 rfl rfl ?_
      refine r_dup (pc' := 85) dX11_keeps_84 rfl rfl ?_
      refine r_getf (pc' := 88) (kI := 6) (x := (kn : Int)) dX11_keeps_85 rfl fX11_109 z166 rfl rfl (by rw [cpB_off (by decide)]; exact m6) ?_
      refine r_iconst (pc' := 89) dX11_keeps_88 rfl ?_
      refine r_iadd (pc' := 90) dX11_keeps_89 rfl ?_
      refine r_putf (pc' := 93) (kI := 6) dX11_keeps_90 rfl fX11_109 z166 rfl (Or.inl rfl) rfl rfl ?_
      refine r_retn dX11_keeps_93 rfl ?_
      have e1 : pN kn = kn + 1 := by unfold pN; omega
      have qa : ∀ j, j ≠ 166 → j ≠ 171 → (mu (cpB g 170 171 0 (25 * (kn : Int)) 25) 166 6 ((kn : Int) + 1)) j = g j := fun j a b => by rw [mu_ne a, cpB_off b]
      have ra : ∀ k, k ≠ 6 → (mu (cpB g 170 171 0 (25 * (kn : Int)) 25) 166 6 ((kn : Int) + 1)) 166 k = g 166 k := fun k a => by rw [mu_at' a, cpB_off (by decide)]
      have hpa : ∀ j : Nat, j < pN kn → LM (mu (cpB g 170 171 0 (25 * (kn : Int)) 25) 166 6 ((kn : Int) + 1)) 171 (25 * j) (pL kn kL v j) := fun j hj => by
        rw [e1] at hj
        unfold pL
        rw [if_pos (by omega)]
        by_cases hjk : j < kn
        · rw [if_pos hjk]
          exact (m7 j hjk).cp (s7 j hjk) (fun q a b => by rw [mu_ne (by decide), cpB_out (by omega)])
        · rw [if_neg hjk, show j = kn by omega]
          exact m5.lm.cp s5 (fun q a b => by rw [mu_ne (by decide), cpB_at (by omega) (by omega)]; congr 1; omega)
      exact h _ ⟨⟨(ra 1 (by decide)).trans m1, fun k hk => (congrFun (qa 167 (by decide) (by decide)) _).trans (m2 k hk)⟩, (ra 15 (by decide)).trans m3, m4.fr (qa 168 (by decide) (by decide)), m5.fr (qa 170 (by decide) (by decide)), ⟨by rw [mu_at, e1]; omega, hpa⟩, MIm.fr m8 (qa 172 (by decide) (by decide)) (qa 173 (by decide) (by decide)), (ra 9 (by decide)).trans m9, ⟨(ra 11 (by decide)).trans m10, fun i hi => by rw [qa 174 (by decide) (by decide)]; exact m11 i hi⟩, ⟨(ra 13 (by decide)).trans m12, fun i hi => by rw [qa 175 (by decide) (by decide)]; exact m13 i hi⟩⟩ ⟨fun j hj => qa j (by omega) (by omega), qa 178 (by decide) (by decide), ra 20 (by decide)⟩
    have e51 := lm_keeps2 (X := X) (d := d) (K := K) (g := g) (kn := kn) (by omega) m6 tl 25 0 rfl
    rw [cpB_0] at e51
    exact e51
  · have hk30 : kn = 30 := by omega
    refine r_iconst (pc' := 10) dX11_keeps_9 rfl ?_
    refine r_istore_n (pc' := 11) dX11_keeps_10 rfl rfl ?_
    have tm : ∀ y : Option VV, AJ X (d) mX11_keeps 0 0 (QV Z0 K) 0 0 39 [some (vr 166), y] [] Z0 (cpB g 171 171 25 0 725) := fun y => by
      refine r_aload_n (pc' := 40) dX11_keeps_39 rfl rfl ?_
      refine r_dup (pc' := 41) dX11_keeps_40 rfl rfl ?_
      refine r_getf (pc' := 44) (kI := 6) (x := (30 : Int)) dX11_keeps_41 rfl fX11_109 z166 rfl rfl (by rw [cpB_off (by decide), m6, hk30]; rfl) ?_
      refine r_iconst (pc' := 45) dX11_keeps_44 rfl ?_
      refine r_isub (pc' := 46) dX11_keeps_45 rfl ?_
      refine r_putf (pc' := 49) (kI := 6) dX11_keeps_46 rfl fX11_109 z166 rfl (Or.inl rfl) rfl rfl ?_
      refine r_iconst (pc' := 50) dX11_keeps_49 rfl ?_
      refine r_istore_n (pc' := 51) dX11_keeps_50 rfl rfl ?_
      have tl : ∀ y : Option VV, AJ X (d) mX11_keeps 0 0 (QV Z0 K) 0 0 83 [some (vr 166), y] [] Z0 (cpB (mu (cpB g 171 171 25 0 725) 166 6 29) 170 171 0 (25 * ((29 : Nat) : Int)) 25) := fun y => by
        refine r_aload_n (pc' := 84) dX11_keeps_83 rfl rfl ?_
        refine r_dup (pc' := 85) dX11_keeps_84 rfl rfl ?_
        refine r_getf (pc' := 88) (kI := 6) (x := ((29 : Nat) : Int)) dX11_keeps_85 rfl fX11_109 z166 rfl rfl (by rw [cpB_off (by decide), mu_at]; rfl) ?_
        refine r_iconst (pc' := 89) dX11_keeps_88 rfl ?_
        refine r_iadd (pc' := 90) dX11_keeps_89 rfl ?_
        refine r_putf (pc' := 93) (kI := 6) dX11_keeps_90 rfl fX11_109 z166 rfl (Or.inl rfl) rfl rfl ?_
        refine r_retn dX11_keeps_93 rfl ?_
        have e1 : pN kn = 30 := by unfold pN; omega
        have qa : ∀ j, j ≠ 166 → j ≠ 171 → (mu (cpB (mu (cpB g 171 171 25 0 725) 166 6 29) 170 171 0 (25 * ((29 : Nat) : Int)) 25) 166 6 (((29 : Nat) : Int) + 1)) j = g j := fun j a b => by rw [mu_ne a, cpB_off b, mu_ne a, cpB_off b]
        have ra : ∀ k, k ≠ 6 → (mu (cpB (mu (cpB g 171 171 25 0 725) 166 6 29) 170 171 0 (25 * ((29 : Nat) : Int)) 25) 166 6 (((29 : Nat) : Int) + 1)) 166 k = g 166 k := fun k a => by rw [mu_at' a, cpB_off (by decide), mu_at' a, cpB_off (by decide)]
        have hpa : ∀ j : Nat, j < pN kn → LM (mu (cpB (mu (cpB g 171 171 25 0 725) 166 6 29) 170 171 0 (25 * ((29 : Nat) : Int)) 25) 166 6 (((29 : Nat) : Int) + 1)) 171 (25 * j) (pL kn kL v j) := fun j hj => by
          rw [e1] at hj
          unfold pL
          rw [if_neg (by omega)]
          by_cases hjk : j < 29
          · rw [if_pos hjk]
            refine (m7 (j + 1) (by omega)).cp (s7 (j + 1) (by omega)) (fun q a b => ?_)
            rw [mu_ne (by decide), cpB_out (by omega), mu_ne (by decide), cpB_at (by omega) (by omega)]
            congr 1; omega
          · rw [if_neg hjk, show j = 29 by omega]
            refine m5.lm.cp s5 (fun q a b => ?_)
            rw [mu_ne (by decide), cpB_at (by omega) (by omega), mu_ne (by decide), cpB_off (by decide)]
            congr 1; omega
        exact h _ ⟨⟨(ra 1 (by decide)).trans m1, fun k hk => (congrFun (qa 167 (by decide) (by decide)) _).trans (m2 k hk)⟩, (ra 15 (by decide)).trans m3, m4.fr (qa 168 (by decide) (by decide)), m5.fr (qa 170 (by decide) (by decide)), ⟨by rw [mu_at, e1]; rfl, hpa⟩, MIm.fr m8 (qa 172 (by decide) (by decide)) (qa 173 (by decide) (by decide)), (ra 9 (by decide)).trans m9, ⟨(ra 11 (by decide)).trans m10, fun i hi => by rw [qa 174 (by decide) (by decide)]; exact m11 i hi⟩, ⟨(ra 13 (by decide)).trans m12, fun i hi => by rw [qa 175 (by decide) (by decide)]; exact m13 i hi⟩⟩ ⟨fun j hj => qa j (by omega) (by omega), qa 178 (by decide) (by decide), ra 20 (by decide)⟩
      have e51 := lm_keeps2 (X := X) (d := d) (K := K) (g := (mu (cpB g 171 171 25 0 725) 166 6 29)) (kn := 29) (by decide) (by rw [mu_at]; rfl) tl 25 0 rfl
      rw [cpB_0] at e51
      exact e51
    have e11 := lm_keeps1 (X := X) (d := d) (K := K) (g := g) tm 725 0 rfl
    rw [cpB_0] at e11
    exact e11
