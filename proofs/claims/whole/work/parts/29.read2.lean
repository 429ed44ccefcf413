theorem numR_b {N : Nat} {T : Nat → Int} {lo hi : Int} (h : lo ≤ hi) (p : Nat) (f : Nat × Int) : lo ≤ (numR N T lo hi p f).1 ∧ (numR N T lo hi p f).1 ≤ hi := by
  unfold numR nuS nuR
  split
  · split
    · exact ⟨Int.le_refl _, h⟩
    · constructor <;> dsimp only <;> omega
  · exact ⟨Int.le_refl _, h⟩
def rdY (u : PV) (x : Int) : PV := (1, x.toNat, Pf u, Pk u, Ph u, Pw u, Pl u, Px u, Pq u, Pa u, Pr u)
def rdF (u : PV) (x y : Int) : PV := (Pp u, Pi u, Pf u + 1, (fun i => if i = Pf u then x.toNat else Pk u i), (fun i => if i = Pf u then y.toNat else Ph u i), Pw u, Pl u, Px u, Pq u, Pa u, Pr u)
def rdW (u : PV) (n : Nat) (W : Nat → Nat) : PV := (Pp u, Pi u, Pf u, Pk u, Ph u, Pw u + 1, (fun i => if i = Pw u then n else Pl u i), (fun i => if i = Pw u then W else Px u i), Pq u, Pa u, Pr u)
def rdH (u : PV) (x y : Int) : PV := (Pp u, Pi u, Pf u, Pk u, Ph u, Pw u, Pl u, Px u, Pq u + 1, (fun i => if i = Pq u then x.toNat else Pa u i), (fun i => if i = Pq u then y.toNat else Pr u i))
def kdF (N : Nat) (T : Nat → Int) : Nat → Nat → (Nat → Nat) → Nat → Nat × Int → Nat × (Nat → Nat) × Nat × (Nat × Int)
  | 0, n, W, p, f => (n, W, p, f)
  | k + 1, n, W, p, f => if f.1 = 0 ∧ hereT N T p = 44 then kdF N T k (n + 1) (fun i => if i = n then (numR N T 0 5 (p + 1) f).1.toNat else W i) (skT N T (numR N T 0 5 (p + 1) f).2.1) (numR N T 0 5 (p + 1) f).2.2 else (n, W, p, f)
def kdR (N : Nat) (T : Nat → Int) (p : Nat) (f : Nat × Int) : Nat × (Nat → Nat) × Nat × (Nat × Int) := kdF N T 3 1 (fun _ => (numR N T 0 5 p f).1.toNat) (skT N T (numR N T 0 5 p f).2.1) (numR N T 0 5 p f).2.2
def restR (N : Nat) (T : Nat → Int) (nm : Int) (u : PV) (p : Nat) (f : Nat × Int) : PV × Nat × (Nat × Int) :=
  if nm = 121 then (rdY u (numR N T 0 9 p f).1, (numR N T 0 9 p f).2)
  else if nm = 102 then (rdF u (numR N T 0 5 p f).1 (numR N T 1 9 (numR N T 0 5 p f).2.1 (numR N T 0 5 p f).2.2).1, (numR N T 1 9 (numR N T 0 5 p f).2.1 (numR N T 0 5 p f).2.2).2)
  else if nm = 119 then (rdW u (kdR N T p f).1 (kdR N T p f).2.1, (kdR N T p f).2.2)
  else (rdH u (numR N T 0 6 p f).1 (numR N T 0 6 (numR N T 0 6 p f).2.1 (numR N T 0 6 p f).2.2).1, (numR N T 0 6 (numR N T 0 6 p f).2.1 (numR N T 0 6 p f).2.2).2)
def fulN (u : PV) (nm : Int) : Int := if nm = 121 then (Pp u : Int) else if nm = 102 then b01 (decide (7 ≤ Pf u)) else if nm = 119 then b01 (decide (6 ≤ Pw u)) else b01 (decide (5 ≤ Pq u))
def clR (N : Nat) (T : Nat → Int) (u : PV) (p : Nat) (f : Nat × Int) : PV × Nat × (Nat × Int) :=
  if hereT N T p ≠ 121 ∧ ((hereT N T p ≠ 102 ∧ hereT N T p ≠ 119 ∧ hereT N T p ≠ 104) ∨ Pp u = 0) then (u, p, blm f 1 p)
  else if fulN u (hereT N T p) ≠ 0 then (u, p, blm f 3 p)
  else ((restR N T (hereT N T p) u (p + 1) f).1, mrkR N T 59 (restR N T (hereT N T p) u (p + 1) f).2.1 (restR N T (hereT N T p) u (p + 1) f).2.2)
def rdI (N : Nat) (T : Nat → Int) : Nat → PV → Nat → Nat × Int → PV × Nat × (Nat × Int)
  | 0, u, p, f => (u, p, f)
  | k + 1, u, p, f => if p < N ∧ f.1 = 0 then rdI N T k (clR N T u p f).1 (skT N T (clR N T u p f).2.1) (clR N T u p f).2.2 else (u, p, f)
def u00 : PV := (0, 0, 0, fun _ => 0, fun _ => 0, 0, fun _ => 0, fun _ _ => 0, 0, fun _ => 0, fun _ => 0)
def rdA (N : Nat) (T : Nat → Int) : PV × Nat × (Nat × Int) := rdI N T 240 u00 (skT N T 0) (0, -1)
theorem PD.fr {g g' : Mem} {u : PV} (h : PC_ g 3 4 5 6 7 8 9 u) (hf : Fr [1] g g') : PC_ g' 3 4 5 6 7 8 9 u := h.fr [1] hf (by decide)
theorem Rdr.fr {g g' : Mem} {N : Nat} {T : Nat → Int} {p : Nat} {f : Nat × Int} (h : Rdr g N T p f) (h1 : g' 1 = g 1) (h2 : g' 2 = g 2) : Rdr g' N T p f := by
  unfold Rdr
  rw [h1, h2]
  exact h
theorem PW_Y {u : PV} (h : PW u) {x : Int} (h0 : 0 ≤ x) (h9 : x ≤ 9) : PW (rdY u x) := ⟨Nat.le_refl _, by show x.toNat ≤ 9; omega, h.2.2⟩
theorem PW_F {u : PV} (h : PW u) (h7 : Pf u < 7) {x y : Int} (h0 : 0 ≤ x) (h5 : x ≤ 5) (h1 : 1 ≤ y) (h9 : y ≤ 9) : PW (rdF u x y) := by
  obtain ⟨u0, u1, u2, u3, u4, u5, u6, u7⟩ := h
  refine ⟨u0, u1, h7, u3, u4, fun k hk => ?_, u6, u7⟩
  have hk1 : k < Pf u + 1 := hk
  show (if k = Pf u then x.toNat else Pk u k) ≤ 5 ∧ 1 ≤ (if k = Pf u then y.toNat else Ph u k) ∧ (if k = Pf u then y.toNat else Ph u k) ≤ 9
  split
  · omega
  · exact u5 k (by omega)
theorem PW_H {u : PV} (h : PW u) (h7 : Pq u < 5) {x y : Int} (h0 : 0 ≤ x) (h5 : x ≤ 6) (h1 : 0 ≤ y) (h9 : y ≤ 6) : PW (rdH u x y) := by
  obtain ⟨u0, u1, u2, u3, u4, u5, u6, u7⟩ := h
  refine ⟨u0, u1, u2, u3, h7, u5, u6, fun k hk => ?_⟩
  have hk1 : k < Pq u + 1 := hk
  show (if k = Pq u then x.toNat else Pa u k) ≤ 6 ∧ (if k = Pq u then y.toNat else Pr u k) ≤ 6
  split
  · omega
  · exact u7 k (by omega)
theorem PW_W {u : PV} (h : PW u) (h7 : Pw u < 6) {n : Nat} {W : Nat → Nat} (h1 : 1 ≤ n) (h4 : n ≤ 4) (hW : ∀ k, k < n → W k ≤ 5) : PW (rdW u n W) := by
  obtain ⟨u0, u1, u2, u3, u4, u5, u6, u7⟩ := h
  refine ⟨u0, u1, u2, h7, u4, u5, fun k hk => ?_, u7⟩
  have hk1 : k < Pw u + 1 := hk
  show 1 ≤ (if k = Pw u then n else Pl u k) ∧ (if k = Pw u then n else Pl u k) ≤ 4 ∧ ∀ q, q < (if k = Pw u then n else Pl u k) → (if k = Pw u then W else Px u k) q ≤ 5
  split
  · exact ⟨h1, h4, hW⟩
  · exact u6 k (by omega)
theorem l_kinds {X : CX} {d : Nat} {K : Mem → Prop} {N : Nat} {T : Nat → Int} {u : PV} (hU : PW u) (h6 : Pw u < 6) : ∀ (k n : Nat) (W : Nat → Nat) (p : Nat) (f : Nat × Int) (g : Mem), n + k = 4 → 1 ≤ n → Rdr g N T p f → PC_ g 3 4 5 6 7 8 9 u → (∀ q, q < n → g 6 (4 * Pw u + q) = (W q : Int) ∧ W q ≤ 5) → (∀ g' : Mem, Rdr g' N T (kdF N T k n W p f).2.2.1 (kdF N T k n W p f).2.2.2 → PC_ g' 3 4 5 6 7 8 9 u → g' 7 (Pw u) = ((kdF N T k n W p f).1 : Int) → (∀ q, q < (kdF N T k n W p f).1 → g' 6 (4 * Pw u + q) = ((kdF N T k n W p f).2.1 q : Int) ∧ (kdF N T k n W p f).2.1 q ≤ 5) → 1 ≤ (kdF N T k n W p f).1 → (kdF N T k n W p f).1 ≤ 4 → Fr [1, 6, 7] g g' → K g') → AJ X (d + 2) mX6_readKinds 0 0 (QV Z0 K) 0 0 25 [some (vr 1), some (vr 3), some (vi ((Pw u : Int) * 4)), some (vi (n : Int))] [] Z0 g := by
  have fin : ∀ (n : Nat) (W : Nat → Nat) (p : Nat) (f : Nat × Int) (g : Mem), n ≤ 4 → 1 ≤ n → Rdr g N T p f → PC_ g 3 4 5 6 7 8 9 u → (∀ q, q < n → g 6 (4 * Pw u + q) = (W q : Int) ∧ W q ≤ 5) → (∀ g' : Mem, Rdr g' N T p f → PC_ g' 3 4 5 6 7 8 9 u → g' 7 (Pw u) = (n : Int) → (∀ q, q < n → g' 6 (4 * Pw u + q) = (W q : Int) ∧ W q ≤ 5) → 1 ≤ n → n ≤ 4 → Fr [1, 6, 7] g g' → K g') → AJ X (d + 2) mX6_readKinds 0 0 (QV Z0 K) 0 0 80 [some (vr 1), some (vr 3), some (vi ((Pw u : Int) * 4)), some (vi (n : Int))] [] Z0 g := by
    intro n W p f g hn4 hn1 hR hQ hX h
    obtain ⟨p6, p7, p8, p9, p10, pk, pg, px, py⟩ := id hQ
    obtain ⟨u0, u1, u2, u3, u4, u5, u6, u7⟩ := id hU
    refine r_aload_n (pc' := 81) dX6_readKinds_80 rfl rfl ?_
    refine r_getr (pc' := 84) dX6_readKinds_81 rfl fX6_98 z3 rfl ?_
    refine r_aload_n (pc' := 85) dX6_readKinds_84 rfl rfl ?_
    refine r_getf (pc' := 88) (kI := 9) dX6_readKinds_85 rfl fX6_67 z3 rfl rfl p9 ?_
    refine r_iload_n (pc' := 89) dX6_readKinds_88 rfl rfl ?_
    refine r_iastore (pc' := 90) dX6_readKinds_89 rfl z7 (by decide) (by omega) (by omega) rfl ?_
    refine r_retn dX6_readKinds_90 rfl ?_
    refine h _ (hR.fr (mu_ne (by decide)) (mu_ne (by decide))) ⟨by rw [mu_ne (by decide)]; exact p6, by rw [mu_ne (by decide)]; exact p7, by rw [mu_ne (by decide)]; exact p8, by rw [mu_ne (by decide)]; exact p9, by rw [mu_ne (by decide)]; exact p10, fun k hk => by rw [mu_ne (by decide)]; exact pk k hk, fun k hk => by rw [mu_ne (by decide)]; exact pg k hk, fun x hx => ?_, fun k hk => by rw [mu_ne (by decide), mu_ne (by decide)]; exact py k hk⟩ mu_at (fun q hq => by rw [mu_ne (by decide)]; exact hX q hq) hn1 hn4 (fun j hj => mu_ne (by simp only [List.mem_cons, List.not_mem_nil, or_false, not_or] at hj; exact hj.2.2))
    refine ⟨by rw [mu_at' (by omega)]; exact (px x hx).1, fun k hk => by rw [mu_ne (by decide)]; exact (px x hx).2 k hk⟩
  intro k
  induction k with
  | zero =>
    intro n W p f g hn h1 hR hQ hX h
    refine r_iload_n (pc' := 26) dX6_readKinds_25 rfl rfl ?_
    refine r_iconst (pc' := 27) dX6_readKinds_26 rfl ?_
    refine r_icmp_ge (tgt := 80) (pc' := 30) dX6_readKinds_27 rfl rfl (by omega) (by omega) (fun c27 => ?_) (fun c27 => ?_)
    · exact fin n W p f g (by omega) h1 hR hQ hX h
    · exact absurd c27 (by omega)
  | succ k ih =>
    intro n W p f g hn h1 hR hQ hX h
    obtain ⟨r1, r2, r3, r4, r5, r6, r7, r8, r9⟩ := id hR
    obtain ⟨p6, p7, p8, p9, p10, pk, pg, px, py⟩ := id hQ
    obtain ⟨u0, u1, u2, u3, u4, u5, u6, u7⟩ := id hU
    unfold kdF at h
    refine r_iload_n (pc' := 26) dX6_readKinds_25 rfl rfl ?_
    refine r_iconst (pc' := 27) dX6_readKinds_26 rfl ?_
    refine r_icmp_ge (tgt := 80) (pc' := 30) dX6_readKinds_27 rfl rfl (by omega) (by omega) (fun c27 => ?_) (fun c27 => ?_)
    · exact absurd c27 (by omega)
    · refine r_aload_n (pc' := 31) dX6_readKinds_30 rfl rfl ?_
      refine r_getf (pc' := 34) (kI := 2) dX6_readKinds_31 rfl fX6_19 z1 rfl rfl r6 ?_
      refine r_if_ne (tgt := 80) (pc' := 37) dX6_readKinds_34 rfl rfl (by omega) (fun c34 => ?_) (fun c34 => ?_)
      · rw [if_neg (by omega)] at h
        exact fin n W p f g (by omega) h1 hR hQ hX h
      · refine r_aload_n (pc' := 38) dX6_readKinds_37 rfl rfl ?_
        refine r_vi0 (pc' := 41) dX6_readKinds_38 rfl qX6_letterHere lX6_40 z1 rfl rfl rfl (Nat.zero_le _) (Nat.zero_le _) (a_here hR ?_)
        refine r_bipush (pc' := 43) dX6_readKinds_41 rfl (by decide) ?_
        refine r_icmp_ne (tgt := 80) (pc' := 46) dX6_readKinds_43 rfl rfl (hereT_R hR _).1 (by decide) (fun c43 => ?_) (fun c43 => ?_)
        · rw [if_neg (by omega)] at h
          exact fin n W p f g (by omega) h1 hR hQ hX h
        · have hlt : p < N := by
            unfold hereT at c43
            by_cases hc : p < N
            · exact hc
            · rw [if_neg hc] at c43; exact absurd c43 (by decide)
          have hRa := hR.pos (q := p + 1) (x := (p : Int) + 1) (by omega) (by omega)
          refine r_aload_n (pc' := 47) dX6_readKinds_46 rfl rfl ?_
          refine r_dup (pc' := 48) dX6_readKinds_47 rfl rfl ?_
          refine r_getf (pc' := 51) (kI := 4) dX6_readKinds_48 rfl fX6_25 z1 rfl rfl r4 ?_
          refine r_iconst (pc' := 52) dX6_readKinds_51 rfl ?_
          refine r_iadd (pc' := 53) dX6_readKinds_52 rfl ?_
          refine r_putf (pc' := 56) (kI := 4) dX6_readKinds_53 rfl fX6_25 z1 rfl (Or.inl rfl) rfl rfl ?_
          refine r_aload_n (pc' := 57) dX6_readKinds_56 rfl rfl ?_
          refine r_getr (pc' := 60) dX6_readKinds_57 rfl fX6_95 z3 rfl ?_
          refine r_iload_n (pc' := 61) dX6_readKinds_60 rfl rfl ?_
          refine r_iload_n (pc' := 62) dX6_readKinds_61 rfl rfl ?_
          refine r_iadd (pc' := 63) dX6_readKinds_62 rfl ?_
          refine r_aload_n (pc' := 64) dX6_readKinds_63 rfl rfl ?_
          refine r_iconst (pc' := 65) dX6_readKinds_64 rfl ?_
          refine r_iconst (pc' := 66) dX6_readKinds_65 rfl ?_
          refine r_vi2 (pc' := 69) dX6_readKinds_66 rfl qX6_readNumber lX6_73 z1 rfl rfl rfl rfl (Nat.zero_le _) (Nat.zero_le _) (a_number hRa (lo := 0) (hi := 5) (by decide) (by decide) (fun g2 hR2 fr2 => ?_))
          have hb2 := numR_b (N := N) (T := T) (lo := 0) (hi := 5) (by decide) (p + 1) f
          refine r_iastore (pc' := 70) dX6_readKinds_69 rfl z6 (by decide) (by omega) (by omega) rfl ?_
          refine r_iinc (pc' := 73) dX6_readKinds_70 rfl rfl rfl ?_
          refine r_aload_n (pc' := 74) dX6_readKinds_73 rfl rfl ?_
          refine r_vv0 (pc' := 77) dX6_readKinds_74 rfl qX6_skipBlanks lX6_33 z1 rfl rfl rfl (Nat.zero_le _) (Nat.zero_le _) (a_skip (g := mu g2 6 ((Pw u : Int) * 4 + n) (numR N T 0 5 (p + 1) f).1) (hR2.fr (mu_ne (by decide)) (mu_ne (by decide))) (fun g3 hR3 fr3 => ?_))
          have hv6 : g3 6 = mu g 6 ((Pw u : Int) * 4 + n) (numR N T 0 5 (p + 1) f).1 6 := by
            rw [fr3 6 (by decide), mu_row, mu_row, fr2 6 (by decide), mu_ne (by decide)]
          have hall : ∀ j, j ∉ [1, 6, 7] → g3 j = g j := fun j hj => by
            simp only [List.mem_cons, List.not_mem_nil, or_false, not_or] at hj
            rw [fr3 j (by simpa using hj.1), mu_ne hj.2.1, fr2 j (by simpa using hj.1), mu_ne hj.1]
          have h7 : g3 7 = g 7 := by rw [fr3 7 (by decide), mu_ne (by decide), fr2 7 (by decide), mu_ne (by decide)]
          have hQ3 : PC_ g3 3 4 5 6 7 8 9 u := by
            refine ⟨by rw [hall 3 (by decide)]; exact p6, by rw [hall 3 (by decide)]; exact p7, by rw [hall 3 (by decide)]; exact p8, by rw [hall 3 (by decide)]; exact p9, by rw [hall 3 (by decide)]; exact p10, fun k hk => by rw [hall 4 (by decide)]; exact pk k hk, fun k hk => by rw [hall 5 (by decide)]; exact pg k hk, fun x hx => ?_, fun k hk => by rw [hall 8 (by decide), hall 9 (by decide)]; exact py k hk⟩
            have hxx := u6 x hx
            refine ⟨by rw [h7]; exact (px x hx).1, fun k hk => ?_⟩
            rw [hv6, mu_at' (by omega)]
            exact (px x hx).2 k hk
          refine r_goto (tgt := 25) dX6_readKinds_77 rfl ?_
          rw [if_pos ⟨by omega, c43⟩] at h
          refine ih (n + 1) _ _ _ g3 (by omega) (by omega) hR3 ?_ ?_ (fun g' a1 a2 a3 a4 a5 a6 a7 => h g' a1 a2 a3 a4 a5 a6 (fun j hj => by rw [a7 j hj, hall j hj]))
          · exact hQ3
          · intro q hq
            by_cases hqn : q = n
            · subst hqn
              rw [if_pos rfl]
              exact ⟨by rw [hv6, show (4 * (Pw u : Int) + (q : Int)) = (Pw u : Int) * 4 + q by omega, mu_at]; omega, by omega⟩
            · rw [if_neg hqn]
              have := hX q (by omega)
              exact ⟨by rw [hv6, mu_at' (by omega)]; exact this.1, this.2⟩
theorem a_kinds {X : CX} {d : Nat} {g : Mem} {K : Mem → Prop} {N : Nat} {T : Nat → Int} {p : Nat} {f : Nat × Int} (hR : Rdr g N T p f) {u : PV} (hQ : PC_ g 3 4 5 6 7 8 9 u) (hU : PW u) (h6 : Pw u < 6) (h : ∀ g' : Mem, Rdr g' N T (kdR N T p f).2.2.1 (kdR N T p f).2.2.2 → PC_ g' 3 4 5 6 7 8 9 u → g' 7 (Pw u) = ((kdR N T p f).1 : Int) → (∀ q, q < (kdR N T p f).1 → g' 6 (4 * Pw u + q) = ((kdR N T p f).2.1 q : Int) ∧ (kdR N T p f).2.1 q ≤ 5) → 1 ≤ (kdR N T p f).1 → (kdR N T p f).1 ≤ 4 → Fr [1, 6, 7] g g' → K g') : EV X (d + 2) mX6_readKinds [vr 1, vr 3] Z0 g K := by
  show AJ X (d + 2) mX6_readKinds 0 0 (QV Z0 K) 0 0 0 [some (vr 1), some (vr 3), none, none] [] Z0 g
  obtain ⟨p6, p7, p8, p9, p10, pk, pg, px, py⟩ := id hQ
  obtain ⟨u0, u1, u2, u3, u4, u5, u6, u7⟩ := id hU
  refine r_aload_n (pc' := 1) dX6_readKinds_0 rfl rfl ?_
  refine r_getf (pc' := 4) (kI := 9) dX6_readKinds_1 rfl fX6_67 z3 rfl rfl p9 ?_
  refine r_iconst (pc' := 5) dX6_readKinds_4 rfl ?_
  refine r_imul (pc' := 6) dX6_readKinds_5 rfl ?_
  refine r_istore_n (pc' := 7) dX6_readKinds_6 rfl rfl ?_
  refine r_aload_n (pc' := 8) dX6_readKinds_7 rfl rfl ?_
  refine r_getr (pc' := 11) dX6_readKinds_8 rfl fX6_95 z3 rfl ?_
  refine r_iload_n (pc' := 12) dX6_readKinds_11 rfl rfl ?_
  refine r_aload_n (pc' := 13) dX6_readKinds_12 rfl rfl ?_
  refine r_iconst (pc' := 14) dX6_readKinds_13 rfl ?_
  refine r_iconst (pc' := 15) dX6_readKinds_14 rfl ?_
  refine r_vi2 (pc' := 18) dX6_readKinds_15 rfl qX6_readNumber lX6_73 z1 rfl rfl rfl rfl (Nat.zero_le _) (Nat.zero_le _) (a_number hR (lo := 0) (hi := 5) (by decide) (by decide) (fun g1 hR1 fr1 => ?_))
  have hb1 := numR_b (N := N) (T := T) (lo := 0) (hi := 5) (by decide) p f
  refine r_iastore (pc' := 19) dX6_readKinds_18 rfl z6 (by decide) (by omega) (by omega) rfl ?_
  refine r_iconst (pc' := 20) dX6_readKinds_19 rfl ?_
  refine r_istore_n (pc' := 21) dX6_readKinds_20 rfl rfl ?_
  refine r_aload_n (pc' := 22) dX6_readKinds_21 rfl rfl ?_
  refine r_vv0 (pc' := 25) dX6_readKinds_22 rfl qX6_skipBlanks lX6_33 z1 rfl rfl rfl (Nat.zero_le _) (Nat.zero_le _) (a_skip (g := mu g1 6 ((Pw u : Int) * 4) (numR N T 0 5 p f).1) (hR1.fr (mu_ne (by decide)) (mu_ne (by decide))) (fun g3 hR3 fr3 => ?_))
  have hv6 : g3 6 = mu g 6 ((Pw u : Int) * 4) (numR N T 0 5 p f).1 6 := by
    rw [fr3 6 (by decide), mu_row, mu_row, fr1 6 (by decide)]
  have hall : ∀ j, j ∉ [1, 6, 7] → g3 j = g j := fun j hj => by
    simp only [List.mem_cons, List.not_mem_nil, or_false, not_or] at hj
    rw [fr3 j (by simpa using hj.1), mu_ne hj.2.1, fr1 j (by simpa using hj.1)]
  have h7 : g3 7 = g 7 := by rw [fr3 7 (by decide), mu_ne (by decide), fr1 7 (by decide)]
  have hQ3 : PC_ g3 3 4 5 6 7 8 9 u := by
    refine ⟨by rw [hall 3 (by decide)]; exact p6, by rw [hall 3 (by decide)]; exact p7, by rw [hall 3 (by decide)]; exact p8, by rw [hall 3 (by decide)]; exact p9, by rw [hall 3 (by decide)]; exact p10, fun k hk => by rw [hall 4 (by decide)]; exact pk k hk, fun k hk => by rw [hall 5 (by decide)]; exact pg k hk, fun x hx => ?_, fun k hk => by rw [hall 8 (by decide), hall 9 (by decide)]; exact py k hk⟩
    have hxx := u6 x hx
    refine ⟨by rw [h7]; exact (px x hx).1, fun k hk => ?_⟩
    rw [hv6, mu_at' (by omega)]
    exact (px x hx).2 k hk
  refine l_kinds hU h6 3 1 _ _ _ g3 rfl (by decide) hR3 hQ3 (fun q hq => ?_) (fun g' a1 a2 a3 a4 a5 a6 a7 => h g' a1 a2 a3 a4 a5 a6 (fun j hj => by rw [a7 j hj, hall j hj]))
  have hq0 : q = 0 := by omega
  subst hq0
  exact ⟨by rw [hv6, show (4 * (Pw u : Int) + ((0 : Nat) : Int)) = (Pw u : Int) * 4 by omega, mu_at]; omega, by omega⟩
theorem a_full {X : CX} {d : Nat} {g : Mem} {K : Int → Mem → Prop} {u : PV} (hQ : PC_ g 3 4 5 6 7 8 9 u) (hU : PW u) (nm : Int) (hnm : R32 nm) (h : K (fulN u nm) g) : EI X (d) mX6_isFullFor [vr 3, vi nm] Z0 g K := by
  show AJ X (d) mX6_isFullFor 0 0 (QI Z0 K) 0 0 0 [some (vr 3), some (vi nm)] [] Z0 g
  obtain ⟨p6, p7, p8, p9, p10, pk, pg, px, py⟩ := id hQ
  obtain ⟨u0, u1, u2, u3, u4, u5, u6, u7⟩ := id hU
  refine r_iload_n (pc' := 1) dX6_isFullFor_0 rfl rfl ?_
  by_cases hsw : nm = 102 ∨ nm = 119 ∨ nm = 121
  · rcases hsw with rfl | rfl | rfl
    · refine r_look (tgt := 41) dX6_isFullFor_1 (by decide) (by decide) rfl rfl ?_
      refine r_aload_n (pc' := 42) dX6_isFullFor_41 rfl rfl ?_
      refine r_getf (pc' := 45) (kI := 8) dX6_isFullFor_42 rfl fX6_64 z3 rfl rfl p8 ?_
      refine r_bipush (pc' := 47) dX6_isFullFor_45 rfl (by decide) ?_
      refine r_icmp_lt (tgt := 54) (pc' := 50) dX6_isFullFor_47 rfl rfl (by omega) (by omega) (fun c47 => ?_) (fun c47 => ?_)
      · refine r_iconst (pc' := 55) dX6_isFullFor_54 rfl ?_
        refine r_reti dX6_isFullFor_55 rfl (Or.inr ⟨rfl, by first | exact Or.inl rfl | exact Or.inr rfl | omega⟩) ?_
        rw [show fulN u 102 = b01 (decide (7 ≤ Pf u)) from rfl] at h
        first | (rw [decide_eq_true (by omega)] at h; exact h) | (rw [decide_eq_false (by omega)] at h; exact h)
      · refine r_iconst (pc' := 51) dX6_isFullFor_50 rfl ?_
        refine r_goto (tgt := 55) dX6_isFullFor_51 rfl ?_
        refine r_reti dX6_isFullFor_55 rfl (Or.inr ⟨rfl, by first | exact Or.inl rfl | exact Or.inr rfl | omega⟩) ?_
        rw [show fulN u 102 = b01 (decide (7 ≤ Pf u)) from rfl] at h
        first | (rw [decide_eq_true (by omega)] at h; exact h) | (rw [decide_eq_false (by omega)] at h; exact h)
    · refine r_look (tgt := 56) dX6_isFullFor_1 (by decide) (by decide) rfl rfl ?_
      refine r_aload_n (pc' := 57) dX6_isFullFor_56 rfl rfl ?_
      refine r_getf (pc' := 60) (kI := 9) dX6_isFullFor_57 rfl fX6_67 z3 rfl rfl p9 ?_
      refine r_bipush (pc' := 62) dX6_isFullFor_60 rfl (by decide) ?_
      refine r_icmp_lt (tgt := 69) (pc' := 65) dX6_isFullFor_62 rfl rfl (by omega) (by omega) (fun c62 => ?_) (fun c62 => ?_)
      · refine r_iconst (pc' := 70) dX6_isFullFor_69 rfl ?_
        refine r_reti dX6_isFullFor_70 rfl (Or.inr ⟨rfl, by first | exact Or.inl rfl | exact Or.inr rfl | omega⟩) ?_
        rw [show fulN u 119 = b01 (decide (6 ≤ Pw u)) from rfl] at h
        first | (rw [decide_eq_true (by omega)] at h; exact h) | (rw [decide_eq_false (by omega)] at h; exact h)
      · refine r_iconst (pc' := 66) dX6_isFullFor_65 rfl ?_
        refine r_goto (tgt := 70) dX6_isFullFor_66 rfl ?_
        refine r_reti dX6_isFullFor_70 rfl (Or.inr ⟨rfl, by first | exact Or.inl rfl | exact Or.inr rfl | omega⟩) ?_
        rw [show fulN u 119 = b01 (decide (6 ≤ Pw u)) from rfl] at h
        first | (rw [decide_eq_true (by omega)] at h; exact h) | (rw [decide_eq_false (by omega)] at h; exact h)
    · refine r_look (tgt := 36) dX6_isFullFor_1 (by decide) (by decide) rfl rfl ?_
      refine r_aload_n (pc' := 37) dX6_isFullFor_36 rfl rfl ?_
      refine r_getf (pc' := 40) (kI := 6) dX6_isFullFor_37 rfl fX6_44 z3 rfl rfl p6 ?_
      refine r_reti dX6_isFullFor_40 rfl (Or.inr ⟨rfl, by first | exact Or.inl rfl | exact Or.inr rfl | omega⟩) ?_
      exact h
  · refine r_look (off := 70) (tgt := 71) dX6_isFullFor_1 (by decide) (by omega) (by simp only [Op.lookupswitch.offset_cons, Op.lookupswitch.offset_nil]; (repeat' split) <;> first | rfl | (exfalso; omega)) rfl ?_
    refine r_aload_n (pc' := 72) dX6_isFullFor_71 rfl rfl ?_
    refine r_getf (pc' := 75) (kI := 10) dX6_isFullFor_72 rfl fX6_70 z3 rfl rfl p10 ?_
    refine r_iconst (pc' := 76) dX6_isFullFor_75 rfl ?_
    refine r_icmp_lt (tgt := 83) (pc' := 79) dX6_isFullFor_76 rfl rfl (by omega) (by omega) (fun c76 => ?_) (fun c76 => ?_)
    · refine r_iconst (pc' := 84) dX6_isFullFor_83 rfl ?_
      refine r_reti dX6_isFullFor_84 rfl (Or.inr ⟨rfl, by first | exact Or.inl rfl | exact Or.inr rfl | omega⟩) ?_
      have e0 : fulN u nm = b01 (decide (5 ≤ Pq u)) := by unfold fulN; rw [if_neg (by omega), if_neg (by omega), if_neg (by omega)]
      rw [e0] at h
      first | (rw [decide_eq_true (by omega)] at h; exact h) | (rw [decide_eq_false (by omega)] at h; exact h)
    · refine r_iconst (pc' := 80) dX6_isFullFor_79 rfl ?_
      refine r_goto (tgt := 84) dX6_isFullFor_80 rfl ?_
      refine r_reti dX6_isFullFor_84 rfl (Or.inr ⟨rfl, by first | exact Or.inl rfl | exact Or.inr rfl | omega⟩) ?_
      have e0 : fulN u nm = b01 (decide (5 ≤ Pq u)) := by unfold fulN; rw [if_neg (by omega), if_neg (by omega), if_neg (by omega)]
      rw [e0] at h
      first | (rw [decide_eq_true (by omega)] at h; exact h) | (rw [decide_eq_false (by omega)] at h; exact h)
theorem a_rest {X : CX} {d : Nat} {g : Mem} {K : Mem → Prop} {N : Nat} {T : Nat → Int} {p : Nat} {f : Nat × Int} (hR : Rdr g N T p f) {u : PV} (hQ : PC_ g 3 4 5 6 7 8 9 u) (hU : PW u) (nm : Int) (hnm : R32 nm) (hful2 : nm = 102 → Pf u < 7) (hful3 : nm = 119 → Pw u < 6) (hful4 : nm ≠ 121 ∧ nm ≠ 102 ∧ nm ≠ 119 → Pq u < 5) (h : ∀ g' : Mem, Rdr g' N T (restR N T nm u p f).2.1 (restR N T nm u p f).2.2 → PC_ g' 3 4 5 6 7 8 9 (restR N T nm u p f).1 → PW (restR N T nm u p f).1 → Fr [1, 3, 4, 5, 6, 7, 8, 9] g g' → K g') : EV X (d + 3) mX6_readRest [vr 1, vr 3, vi nm] Z0 g K := by
  show AJ X (d + 3) mX6_readRest 0 0 (QV Z0 K) 0 0 0 [some (vr 1), some (vr 3), some (vi nm)] [] Z0 g
  obtain ⟨p6, p7, p8, p9, p10, pk, pg, px, py⟩ := id hQ
  obtain ⟨u0, u1, u2, u3, u4, u5, u6, u7⟩ := id hU
  refine r_iload_n (pc' := 1) dX6_readRest_0 rfl rfl ?_
  by_cases hsw : nm = 102 ∨ nm = 119 ∨ nm = 121
  · rcases hsw with rfl | rfl | rfl
    · refine r_look (tgt := 55) dX6_readRest_1 (by decide) (by decide) rfl rfl ?_
      refine r_aload_n (pc' := 56) dX6_readRest_55 rfl rfl ?_
      refine r_getr (pc' := 59) dX6_readRest_56 rfl fX6_80 z3 rfl ?_
      refine r_aload_n (pc' := 60) dX6_readRest_59 rfl rfl ?_
      refine r_getf (pc' := 63) (kI := 8) dX6_readRest_60 rfl fX6_64 z3 rfl rfl p8 ?_
      refine r_aload_n (pc' := 64) dX6_readRest_63 rfl rfl ?_
      refine r_iconst (pc' := 65) dX6_readRest_64 rfl ?_
      refine r_iconst (pc' := 66) dX6_readRest_65 rfl ?_
      refine r_vi2 (pc' := 69) dX6_readRest_66 rfl qX6_readNumber lX6_73 z1 rfl rfl rfl rfl (Nat.zero_le _) (Nat.zero_le _) (a_number hR (lo := 0) (hi := 5) (by decide) (by decide) (fun g1 hR1 fr1 => ?_))
      have h7 := hful2 rfl
      have hb1 := numR_b (N := N) (T := T) (lo := 0) (hi := 5) (by decide) p f
      refine r_iastore (pc' := 70) dX6_readRest_69 rfl z4 (by decide) (by omega) (by omega) rfl ?_
      refine r_aload_n (pc' := 71) dX6_readRest_70 rfl rfl ?_
      refine r_getr (pc' := 74) dX6_readRest_71 rfl fX6_83 z3 rfl ?_
      refine r_aload_n (pc' := 75) dX6_readRest_74 rfl rfl ?_
      refine r_getf (pc' := 78) (kI := 8) (x := (Pf u : Int)) dX6_readRest_75 rfl fX6_64 z3 rfl rfl (by rw [mu_ne (by decide), fr1 3 (by decide)]; exact p8) ?_
      refine r_aload_n (pc' := 79) dX6_readRest_78 rfl rfl ?_
      refine r_iconst (pc' := 80) dX6_readRest_79 rfl ?_
      refine r_bipush (pc' := 82) dX6_readRest_80 rfl (by decide) ?_
      refine r_vi2 (pc' := 85) dX6_readRest_82 rfl qX6_readNumber lX6_73 z1 rfl rfl rfl rfl (Nat.zero_le _) (Nat.zero_le _) (a_number (hR1.fr (g' := mu g1 4 (Pf u : Int) (numR N T 0 5 p f).1) (mu_ne (by decide)) (mu_ne (by decide))) (lo := 1) (hi := 9) (by decide) (by decide) (fun g2 hR2 fr2 => ?_))
      have hb2 := numR_b (N := N) (T := T) (lo := 1) (hi := 9) (by decide) (numR N T 0 5 p f).2.1 (numR N T 0 5 p f).2.2
      refine r_iastore (pc' := 86) dX6_readRest_85 rfl z5 (by decide) (by omega) (by omega) rfl ?_
      refine r_aload_n (pc' := 87) dX6_readRest_86 rfl rfl ?_
      refine r_dup (pc' := 88) dX6_readRest_87 rfl rfl ?_
      refine r_getf (pc' := 91) (kI := 8) (x := (Pf u : Int)) dX6_readRest_88 rfl fX6_64 z3 rfl rfl (by rw [mu_ne (by decide), fr2 3 (by decide), mu_ne (by decide), fr1 3 (by decide)]; exact p8) ?_
      refine r_iconst (pc' := 92) dX6_readRest_91 rfl ?_
      refine r_iadd (pc' := 93) dX6_readRest_92 rfl ?_
      refine r_putf (pc' := 96) (kI := 8) dX6_readRest_93 rfl fX6_64 z3 rfl (Or.inl rfl) rfl rfl ?_
      refine r_goto (tgt := 159) dX6_readRest_96 rfl ?_
      refine r_retn dX6_readRest_159 rfl ?_
      have e : restR N T 102 u p f = (rdF u (numR N T 0 5 p f).1 (numR N T 1 9 (numR N T 0 5 p f).2.1 (numR N T 0 5 p f).2.2).1, (numR N T 1 9 (numR N T 0 5 p f).2.1 (numR N T 0 5 p f).2.2).2) := by unfold restR; rw [if_neg (by decide), if_pos rfl]
      rw [e] at h
      have q1 : ∀ j, j ≠ 1 → j ≠ 3 → j ≠ 4 → j ≠ 5 → mu (mu g2 5 (Pf u : Int) (numR N T 1 9 (numR N T 0 5 p f).2.1 (numR N T 0 5 p f).2.2).1) 3 8 ((Pf u : Int) + 1) j = g j := fun j a b c d => by rw [mu_ne b, mu_ne d, fr2 j (by simpa using a), mu_ne c, fr1 j (by simpa using a)]
      refine h _ (hR2.fr (by rw [mu_ne (by decide), mu_ne (by decide)]) (by rw [mu_ne (by decide), mu_ne (by decide)])) ⟨by rw [mu_at' (by decide), mu_ne (by decide), fr2 3 (by decide), mu_ne (by decide), fr1 3 (by decide)]; exact p6, by rw [mu_at' (by decide), mu_ne (by decide), fr2 3 (by decide), mu_ne (by decide), fr1 3 (by decide)]; exact p7, by rw [mu_at]; show _ = (((Pf u + 1 : Nat)) : Int); omega, by rw [mu_at' (by decide), mu_ne (by decide), fr2 3 (by decide), mu_ne (by decide), fr1 3 (by decide)]; exact p9, by rw [mu_at' (by decide), mu_ne (by decide), fr2 3 (by decide), mu_ne (by decide), fr1 3 (by decide)]; exact p10, fun k hk => ?_, fun k hk => ?_, fun x hx => by rw [q1 7 (by decide) (by decide) (by decide) (by decide), q1 6 (by decide) (by decide) (by decide) (by decide)]; exact px x hx, fun k hk => by rw [q1 8 (by decide) (by decide) (by decide) (by decide), q1 9 (by decide) (by decide) (by decide) (by decide)]; exact py k hk⟩ (PW_F hU h7 hb1.1 hb1.2 hb2.1 hb2.2) (fun j hj => by simp only [List.mem_cons, List.not_mem_nil, or_false, not_or] at hj; exact q1 j hj.1 hj.2.1 hj.2.2.1 hj.2.2.2.1)
      · have hk1 : k < Pf u + 1 := hk
        show _ = (((if k = Pf u then (numR N T 0 5 p f).1.toNat else Pk u k) : Nat) : Int)
        rw [mu_ne (by decide), mu_ne (by decide), fr2 4 (by decide)]
        split
        · rename_i hkk; subst hkk; rw [mu_at]; omega
        · rw [mu_at' (by omega), fr1 4 (by decide)]; exact pk k (by omega)
      · have hk1 : k < Pf u + 1 := hk
        show _ = (((if k = Pf u then (numR N T 1 9 (numR N T 0 5 p f).2.1 (numR N T 0 5 p f).2.2).1.toNat else Ph u k) : Nat) : Int)
        rw [mu_ne (by decide)]
        split
        · rename_i hkk; subst hkk; rw [mu_at]; omega
        · rw [mu_at' (by omega), fr2 5 (by decide), mu_ne (by decide), fr1 5 (by decide)]; exact pg k (by omega)
    · refine r_look (tgt := 99) dX6_readRest_1 (by decide) (by decide) rfl rfl ?_
      refine r_aload_n (pc' := 100) dX6_readRest_99 rfl rfl ?_
      refine r_aload_n (pc' := 101) dX6_readRest_100 rfl rfl ?_
      refine r_vv1 (pc' := 104) dX6_readRest_101 rfl qX6_readKinds lX6_86 z1 rfl rfl rfl rfl (Nat.zero_le _) (Nat.zero_le _) (a_kinds hR hQ hU (hful3 rfl) (fun g1 hR1 hQ1 hl1 hx1 hn1 hn4 fr1 => ?_))
      have h6 := hful3 rfl
      refine r_aload_n (pc' := 105) dX6_readRest_104 rfl rfl ?_
      refine r_dup (pc' := 106) dX6_readRest_105 rfl rfl ?_
      refine r_getf (pc' := 109) (kI := 9) dX6_readRest_106 rfl fX6_67 z3 rfl rfl hQ1.2.2.2.1 ?_
      refine r_iconst (pc' := 110) dX6_readRest_109 rfl ?_
      refine r_iadd (pc' := 111) dX6_readRest_110 rfl ?_
      refine r_putf (pc' := 114) (kI := 9) dX6_readRest_111 rfl fX6_67 z3 rfl (Or.inl rfl) rfl rfl ?_
      refine r_goto (tgt := 159) dX6_readRest_114 rfl ?_
      refine r_retn dX6_readRest_159 rfl ?_
      have e : restR N T 119 u p f = (rdW u (kdR N T p f).1 (kdR N T p f).2.1, (kdR N T p f).2.2) := by unfold restR; rw [if_neg (by decide), if_neg (by decide), if_pos rfl]
      rw [e] at h
      have q1 : ∀ j, j ≠ 3 → mu g1 3 9 ((Pw u : Int) + 1) j = g1 j := fun j a => mu_ne a
      obtain ⟨s6, s7, s8, s9, s10, sk, sg, sx, sy⟩ := hQ1
      refine h _ (hR1.fr (q1 1 (by decide)) (q1 2 (by decide))) ⟨by rw [mu_at' (by decide)]; exact s6, by rw [mu_at' (by decide)]; exact s7, by rw [mu_at' (by decide)]; exact s8, by rw [mu_at]; show _ = (((Pw u + 1 : Nat)) : Int); omega, by rw [mu_at' (by decide)]; exact s10, fun k hk => by rw [q1 4 (by decide)]; exact sk k hk, fun k hk => by rw [q1 5 (by decide)]; exact sg k hk, fun x hx => ?_, fun k hk => by rw [q1 8 (by decide), q1 9 (by decide)]; exact sy k hk⟩ (PW_W hU h6 hn1 hn4 (fun k hk => (hx1 k hk).2)) (fun j hj => by simp only [List.mem_cons, List.not_mem_nil, or_false, not_or] at hj; rw [q1 j hj.2.1]; exact fr1 j (by simp only [List.mem_cons, List.not_mem_nil, or_false, not_or]; omega))
      have hx2 : x < Pw u + 1 := hx
      show _ = (((if x = Pw u then (kdR N T p f).1 else Pl u x) : Nat) : Int) ∧ ∀ k, k < (if x = Pw u then (kdR N T p f).1 else Pl u x) → _ = (((if x = Pw u then (kdR N T p f).2.1 else Px u x) k : Nat) : Int)
      rw [q1 7 (by decide), q1 6 (by decide)]
      split
      · rename_i hkk; subst hkk
        exact ⟨hl1, fun k hk => (hx1 k hk).1⟩
      · exact sx x (by omega)
    · refine r_look (tgt := 36) dX6_readRest_1 (by decide) (by decide) rfl rfl ?_
      refine r_aload_n (pc' := 37) dX6_readRest_36 rfl rfl ?_
      refine r_aload_n (pc' := 38) dX6_readRest_37 rfl rfl ?_
      refine r_iconst (pc' := 39) dX6_readRest_38 rfl ?_
      refine r_bipush (pc' := 41) dX6_readRest_39 rfl (by decide) ?_
      refine r_vi2 (pc' := 44) dX6_readRest_41 rfl qX6_readNumber lX6_73 z1 rfl rfl rfl rfl (Nat.zero_le _) (Nat.zero_le _) (a_number hR (lo := 0) (hi := 9) (by decide) (by decide) (fun g1 hR1 fr1 => ?_))
      have hb1 := numR_b (N := N) (T := T) (lo := 0) (hi := 9) (by decide) p f
      refine r_putf (pc' := 47) (kI := 7) dX6_readRest_44 rfl fX6_77 z3 rfl (Or.inl rfl) rfl rfl ?_
      refine r_aload_n (pc' := 48) dX6_readRest_47 rfl rfl ?_
      refine r_iconst (pc' := 49) dX6_readRest_48 rfl ?_
      refine r_putf (pc' := 52) (kI := 6) dX6_readRest_49 rfl fX6_44 z3 rfl (Or.inr ⟨rfl, Or.inr rfl⟩) rfl rfl ?_
      refine r_goto (tgt := 159) dX6_readRest_52 rfl ?_
      refine r_retn dX6_readRest_159 rfl ?_
      have e : restR N T 121 u p f = (rdY u (numR N T 0 9 p f).1, (numR N T 0 9 p f).2) := by unfold restR; rw [if_pos rfl]
      rw [e] at h
      have q1 : ∀ j, j ≠ 1 → j ≠ 3 → mu (mu g1 3 7 (numR N T 0 9 p f).1) 3 6 1 j = g j := fun j a b => by rw [mu_ne b, mu_ne b, fr1 j (by simpa using a)]
      refine h _ (hR1.fr (by rw [mu_ne (by decide), mu_ne (by decide)]) (by rw [mu_ne (by decide), mu_ne (by decide)])) ⟨by rw [mu_at]; rfl, ?_, ?_, ?_, ?_, fun k hk => by rw [q1 4 (by decide) (by decide)]; exact pk k hk, fun k hk => by rw [q1 5 (by decide) (by decide)]; exact pg k hk, fun x hx => by rw [q1 7 (by decide) (by decide), q1 6 (by decide) (by decide)]; exact px x hx, fun k hk => by rw [q1 8 (by decide) (by decide), q1 9 (by decide) (by decide)]; exact py k hk⟩ (PW_Y hU hb1.1 hb1.2) (fun j hj => by simp only [List.mem_cons, List.not_mem_nil, or_false, not_or] at hj; exact q1 j hj.1 hj.2.1)
      · rw [mu_at' (by decide), mu_at]; show _ = (((numR N T 0 9 p f).1.toNat : Nat) : Int); omega
      · rw [mu_at' (by decide), mu_at' (by decide), fr1 3 (by decide)]; exact p8
      · rw [mu_at' (by decide), mu_at' (by decide), fr1 3 (by decide)]; exact p9
      · rw [mu_at' (by decide), mu_at' (by decide), fr1 3 (by decide)]; exact p10
  · refine r_look (off := 116) (tgt := 117) dX6_readRest_1 (by decide) (by omega) (by simp only [Op.lookupswitch.offset_cons, Op.lookupswitch.offset_nil]; (repeat' split) <;> first | rfl | (exfalso; omega)) rfl ?_
    refine r_aload_n (pc' := 118) dX6_readRest_117 rfl rfl ?_
    refine r_getr (pc' := 121) dX6_readRest_118 rfl fX6_89 z3 rfl ?_
    refine r_aload_n (pc' := 122) dX6_readRest_121 rfl rfl ?_
    refine r_getf (pc' := 125) (kI := 10) dX6_readRest_122 rfl fX6_70 z3 rfl rfl p10 ?_
    refine r_aload_n (pc' := 126) dX6_readRest_125 rfl rfl ?_
    refine r_iconst (pc' := 127) dX6_readRest_126 rfl ?_
    refine r_bipush (pc' := 129) dX6_readRest_127 rfl (by decide) ?_
    refine r_vi2 (pc' := 132) dX6_readRest_129 rfl qX6_readNumber lX6_73 z1 rfl rfl rfl rfl (Nat.zero_le _) (Nat.zero_le _) (a_number hR (lo := 0) (hi := 6) (by decide) (by decide) (fun g1 hR1 fr1 => ?_))
    have h5 := hful4 (by omega)
    have hb1 := numR_b (N := N) (T := T) (lo := 0) (hi := 6) (by decide) p f
    refine r_iastore (pc' := 133) dX6_readRest_132 rfl z8 (by decide) (by omega) (by omega) rfl ?_
    refine r_aload_n (pc' := 134) dX6_readRest_133 rfl rfl ?_
    refine r_getr (pc' := 137) dX6_readRest_134 rfl fX6_92 z3 rfl ?_
    refine r_aload_n (pc' := 138) dX6_readRest_137 rfl rfl ?_
    refine r_getf (pc' := 141) (kI := 10) (x := (Pq u : Int)) dX6_readRest_138 rfl fX6_70 z3 rfl rfl (by rw [mu_ne (by decide), fr1 3 (by decide)]; exact p10) ?_
    refine r_aload_n (pc' := 142) dX6_readRest_141 rfl rfl ?_
    refine r_iconst (pc' := 143) dX6_readRest_142 rfl ?_
    refine r_bipush (pc' := 145) dX6_readRest_143 rfl (by decide) ?_
    refine r_vi2 (pc' := 148) dX6_readRest_145 rfl qX6_readNumber lX6_73 z1 rfl rfl rfl rfl (Nat.zero_le _) (Nat.zero_le _) (a_number (hR1.fr (g' := mu g1 8 (Pq u : Int) (numR N T 0 6 p f).1) (mu_ne (by decide)) (mu_ne (by decide))) (lo := 0) (hi := 6) (by decide) (by decide) (fun g2 hR2 fr2 => ?_))
    have hb2 := numR_b (N := N) (T := T) (lo := 0) (hi := 6) (by decide) (numR N T 0 6 p f).2.1 (numR N T 0 6 p f).2.2
    refine r_iastore (pc' := 149) dX6_readRest_148 rfl z9 (by decide) (by omega) (by omega) rfl ?_
    refine r_aload_n (pc' := 150) dX6_readRest_149 rfl rfl ?_
    refine r_dup (pc' := 151) dX6_readRest_150 rfl rfl ?_
    refine r_getf (pc' := 154) (kI := 10) (x := (Pq u : Int)) dX6_readRest_151 rfl fX6_70 z3 rfl rfl (by rw [mu_ne (by decide), fr2 3 (by decide), mu_ne (by decide), fr1 3 (by decide)]; exact p10) ?_
    refine r_iconst (pc' := 155) dX6_readRest_154 rfl ?_
    refine r_iadd (pc' := 156) dX6_readRest_155 rfl ?_
    refine r_putf (pc' := 159) (kI := 10) dX6_readRest_156 rfl fX6_70 z3 rfl (Or.inl rfl) rfl rfl ?_
    refine r_retn dX6_readRest_159 rfl ?_
    have e : restR N T nm u p f = (rdH u (numR N T 0 6 p f).1 (numR N T 0 6 (numR N T 0 6 p f).2.1 (numR N T 0 6 p f).2.2).1, (numR N T 0 6 (numR N T 0 6 p f).2.1 (numR N T 0 6 p f).2.2).2) := by unfold restR; rw [if_neg (by omega), if_neg (by omega), if_neg (by omega)]
    rw [e] at h
    have q1 : ∀ j, j ≠ 1 → j ≠ 3 → j ≠ 8 → j ≠ 9 → mu (mu g2 9 (Pq u : Int) (numR N T 0 6 (numR N T 0 6 p f).2.1 (numR N T 0 6 p f).2.2).1) 3 10 ((Pq u : Int) + 1) j = g j := fun j a b c d => by rw [mu_ne b, mu_ne d, fr2 j (by simpa using a), mu_ne c, fr1 j (by simpa using a)]
    refine h _ (hR2.fr (by rw [mu_ne (by decide), mu_ne (by decide)]) (by rw [mu_ne (by decide), mu_ne (by decide)])) ⟨by rw [mu_at' (by decide), mu_ne (by decide), fr2 3 (by decide), mu_ne (by decide), fr1 3 (by decide)]; exact p6, by rw [mu_at' (by decide), mu_ne (by decide), fr2 3 (by decide), mu_ne (by decide), fr1 3 (by decide)]; exact p7, by rw [mu_at' (by decide), mu_ne (by decide), fr2 3 (by decide), mu_ne (by decide), fr1 3 (by decide)]; exact p8, by rw [mu_at' (by decide), mu_ne (by decide), fr2 3 (by decide), mu_ne (by decide), fr1 3 (by decide)]; exact p9, by rw [mu_at]; show _ = (((Pq u + 1 : Nat)) : Int); omega, fun k hk => by rw [q1 4 (by decide) (by decide) (by decide) (by decide)]; exact pk k hk, fun k hk => by rw [q1 5 (by decide) (by decide) (by decide) (by decide)]; exact pg k hk, fun x hx => by rw [q1 7 (by decide) (by decide) (by decide) (by decide), q1 6 (by decide) (by decide) (by decide) (by decide)]; exact px x hx, fun k hk => ?_⟩ (PW_H hU h5 hb1.1 hb1.2 hb2.1 hb2.2) (fun j hj => by simp only [List.mem_cons, List.not_mem_nil, or_false, not_or] at hj; exact q1 j hj.1 hj.2.1 hj.2.2.2.2.2.2.1 hj.2.2.2.2.2.2.2)
    have hk1 : k < Pq u + 1 := hk
    show _ = (((if k = Pq u then (numR N T 0 6 p f).1.toNat else Pa u k) : Nat) : Int) ∧ _ = (((if k = Pq u then (numR N T 0 6 (numR N T 0 6 p f).2.1 (numR N T 0 6 p f).2.2).1.toNat else Pr u k) : Nat) : Int)
    constructor
    · rw [mu_ne (by decide), mu_ne (by decide), fr2 8 (by decide)]
      split
      · rename_i hkk; subst hkk; rw [mu_at]; omega
      · rw [mu_at' (by omega), fr1 8 (by decide)]; exact (py k (by omega)).1
    · rw [mu_ne (by decide)]
      split
      · rename_i hkk; subst hkk; rw [mu_at]; omega
      · rw [mu_at' (by omega), fr2 9 (by decide), mu_ne (by decide), fr1 9 (by decide)]; exact (py k (by omega)).2
