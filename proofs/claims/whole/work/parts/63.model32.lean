theorem RdK.no {N : Nat} {T : Nat → Int} {K : Int → Mem → Prop} {g : Mem} {r : PV × Nat × (Nat × Int)} (h : RdK N T K g r) {f : Nat × Int} (e : r.2.2 = f) (hf : f.1 ≠ 0) {q : Nat} (hq : (q : Int) = f.2) {g' : Mem} (hR : MRd g' N T q) (hw : g' 166 16 = (f.1 : Int)) (fr : FrD g g') : K 0 g' := by
  subst e
  exact h.2 hf q hq g' hR hw fr
theorem RdK.yes {N : Nat} {T : Nat → Int} {K : Int → Mem → Prop} {g : Mem} {r : PV × Nat × (Nat × Int)} (h : RdK N T K g r) {u : PV} {p : Nat} (e : r = (u, p, ((0, -1) : Nat × Int))) {g' : Mem} (hR : MRd g' N T p) (hD : DM g' u) (fr : FrD g g') : K 1 g' := by
  subst e
  exact h.1 rfl g' hR hD fr
theorem DM_Y {g g' : Mem} {u : PV} {x : Int} (h : DM g u) (h0 : 0 ≤ x) (e0 : g' 169 0 = 1) (e4 : g' 169 4 = x) (eo : ∀ k : Int, k ≠ 0 → k ≠ 4 → g' 169 k = g 169 k) : DM g' (rdY u x) := by
  obtain ⟨⟨d0, d4, d1, d2, d3, dk, dh, dw, dq⟩, dx⟩ := h
  refine ⟨⟨e0, ?_, ?_, ?_, ?_, fun k hk => ?_, fun k hk => ?_, fun x hx k hk => ?_, fun k hk => ?_⟩, fun x k a b c => ?_⟩
  · rw [e4]
    show x = ((x.toNat : Nat) : Int)
    omega
  · rw [eo _ (by decide) (by decide)]; exact d1
  · rw [eo _ (by decide) (by decide)]; exact d2
  · rw [eo _ (by decide) (by decide)]; exact d3
  · rw [eo _ (by omega) (by omega)]; exact dk k hk
  · rw [eo _ (by omega) (by omega)]; exact dh k hk
  · rw [eo _ (by omega) (by omega)]; exact dw x hx k hk
  · rw [eo _ (by omega) (by omega), eo _ (by omega) (by omega)]; exact dq k hk
  · rw [eo _ (by omega) (by omega)]; exact dx x k a b c
theorem DM_F {g g' : Mem} {u : PV} {x y : Int} (h : DM g u) (h7 : Pf u < 7) (h0 : 0 ≤ x) (h1 : 0 ≤ y) (e1 : g' 169 1 = (Pf u : Int) + 1) (e5 : g' 169 (5 + (Pf u : Int)) = x) (e12 : g' 169 (12 + (Pf u : Int)) = y) (eo : ∀ k : Int, k ≠ 1 → k ≠ 5 + (Pf u : Int) → k ≠ 12 + (Pf u : Int) → g' 169 k = g 169 k) : DM g' (rdF u x y) := by
  obtain ⟨⟨d0, d4, d1, d2, d3, dk, dh, dw, dq⟩, dx⟩ := h
  refine ⟨⟨?_, ?_, e1, ?_, ?_, fun k hk => ?_, fun k hk => ?_, fun x hx k hk => ?_, fun k hk => ?_⟩, fun x k a b c => ?_⟩
  · rw [eo _ (by omega) (by omega) (by omega)]; exact d0
  · rw [eo _ (by omega) (by omega) (by omega)]; exact d4
  · rw [eo _ (by omega) (by omega) (by omega)]; exact d2
  · rw [eo _ (by omega) (by omega) (by omega)]; exact d3
  · have hk : k < Pf u + 1 := hk
    show _ = ((if k = Pf u then x.toNat else Pk u k : Nat) : Int)
    by_cases e : k = Pf u
    · subst e
      rw [if_pos rfl, e5]
      omega
    · rw [if_neg e, eo _ (by omega) (by omega) (by omega)]
      exact dk k (by omega)
  · have hk : k < Pf u + 1 := hk
    show _ = ((if k = Pf u then y.toNat else Ph u k : Nat) : Int)
    by_cases e : k = Pf u
    · subst e
      rw [if_pos rfl, e12]
      omega
    · rw [if_neg e, eo _ (by omega) (by omega) (by omega)]
      exact dh k (by omega)
  · rw [eo _ (by omega) (by omega) (by omega)]; exact dw x hx k hk
  · rw [eo _ (by omega) (by omega) (by omega), eo _ (by omega) (by omega) (by omega)]; exact dq k hk
  · rw [eo _ (by omega) (by omega) (by omega)]; exact dx x k a b c
theorem DM_H {g g' : Mem} {u : PV} {x y : Int} (h : DM g u) (hw6 : Pw u ≤ 6) (h7 : Pq u < 5) (hf7 : Pf u ≤ 7) (h0 : 0 ≤ x) (h1 : 0 ≤ y) (e3 : g' 169 3 = (Pq u : Int) + 1) (ea : g' 169 (43 + 2 * (Pq u : Int)) = x) (er : g' 169 (43 + 2 * (Pq u : Int) + 1) = y) (eo : ∀ k : Int, k ≠ 3 → k ≠ 43 + 2 * (Pq u : Int) → k ≠ 43 + 2 * (Pq u : Int) + 1 → g' 169 k = g 169 k) : DM g' (rdH u x y) := by
  obtain ⟨⟨d0, d4, d1, d2, d3, dk, dh, dw, dq⟩, dx⟩ := h
  refine ⟨⟨?_, ?_, ?_, ?_, e3, fun k hk => ?_, fun k hk => ?_, fun x hx k hk => ?_, fun k hk => ?_⟩, fun x k a b c => ?_⟩
  · rw [eo _ (by omega) (by omega) (by omega)]; exact d0
  · rw [eo _ (by omega) (by omega) (by omega)]; exact d4
  · rw [eo _ (by omega) (by omega) (by omega)]; exact d1
  · rw [eo _ (by omega) (by omega) (by omega)]; exact d2
  · have hk : k < Pf u := hk
    rw [eo _ (by omega) (by omega) (by omega)]; exact dk k hk
  · have hk : k < Pf u := hk
    rw [eo _ (by omega) (by omega) (by omega)]; exact dh k hk
  · have hx : x < Pw u := hx
    rw [eo _ (by omega) (by omega) (by omega)]; exact dw x hx k hk
  · have hk : k < Pq u + 1 := hk
    show _ = ((if k = Pq u then x.toNat else Pa u k : Nat) : Int) ∧ _ = ((if k = Pq u then y.toNat else Pr u k : Nat) : Int)
    by_cases e : k = Pq u
    · subst e
      rw [if_pos rfl, if_pos rfl, ea, show (44 : Int) + 2 * (Pq u : Int) = 43 + 2 * (Pq u : Int) + 1 by omega, er]
      omega
    · rw [if_neg e, if_neg e, eo _ (by omega) (by omega) (by omega), eo _ (by omega) (by omega) (by omega)]
      exact dq k (by omega)
  · rw [eo _ (by omega) (by omega) (by omega)]; exact dx x k a b c
theorem DM_W {g g' : Mem} {u : PV} {n : Nat} {W : Nat → Nat} (h : DW g u n W) (h6 : Pw u < 6) (hf7 : Pf u ≤ 7) (e2 : g' 169 2 = (Pw u : Int) + 1) (eo : ∀ k : Int, k ≠ 2 → g' 169 k = g 169 k) : DM g' (rdW u n W) := by
  obtain ⟨⟨d0, d4, d1, d2, d3, dk, dh, dw, dq⟩, dx⟩ := h
  refine ⟨⟨?_, ?_, ?_, e2, ?_, fun k hk => ?_, fun k hk => ?_, fun x hx k hk => ?_, fun k hk => ?_⟩, fun x k a b c => ?_⟩
  · rw [eo _ (by omega)]; exact d0
  · rw [eo _ (by omega)]; exact d4
  · rw [eo _ (by omega)]; exact d1
  · rw [eo _ (by omega)]; exact d3
  · rw [eo _ (by omega)]; exact dk k hk
  · rw [eo _ (by omega)]; exact dh k hk
  · have hx : x < Pw u + 1 := hx
    rw [eo _ (by omega)]
    show _ = if k < (if x = Pw u then n else Pl u x) then (((if x = Pw u then W else Px u x) k : Nat) : Int) else 9
    by_cases e : x = Pw u
    · subst e
      rw [if_pos rfl, if_pos rfl, dx _ k (by omega) h6 hk]
      by_cases z : k < n
      · rw [if_pos ⟨rfl, z⟩, if_pos z]
      · rw [if_neg (fun q => z q.2), if_neg z]
    · rw [if_neg e, if_neg e]
      exact dw x (by omega) k hk
  · rw [eo _ (by omega), eo _ (by omega)]; exact dq k hk
  · have a : Pw u + 1 ≤ x := a
    rw [eo _ (by omega), dx x k (by omega) b c, if_neg (by omega)]
theorem DW_0 {g : Mem} {u : PV} (h : DM g u) (W : Nat → Nat) : DW g u 0 W := ⟨h.1, fun x k a b c => by rw [if_neg (by omega)]; exact h.2 x k a b c⟩
theorem DW_s {g g' : Mem} {u : PV} {n : Nat} {W W' : Nat → Nat} {a x : Int} (h : DW g u n W) (h6 : Pw u < 6) (hf7 : Pf u ≤ 7) (hn : n < 4) (ha : a = 19 + 4 * (Pw u : Int) + n) (e : g' 169 = mu g 169 a x 169) (hW : ∀ i, i < n → W' i = W i) (hx : (W' n : Int) = x) : DW g' u (n + 1) W' := by
  obtain ⟨⟨d0, d4, d1, d2, d3, dk, dh, dw, dq⟩, dx⟩ := h
  have eo : ∀ k : Int, k ≠ a → g' 169 k = g 169 k := fun k hk => by rw [e, mu_at' hk]
  have ea : g' 169 a = x := by rw [e, mu_at]
  refine ⟨⟨?_, ?_, ?_, ?_, ?_, fun k hk => ?_, fun k hk => ?_, fun x hx k hk => ?_, fun k hk => ?_⟩, fun y k p b c => ?_⟩
  · rw [eo _ (by omega)]; exact d0
  · rw [eo _ (by omega)]; exact d4
  · rw [eo _ (by omega)]; exact d1
  · rw [eo _ (by omega)]; exact d2
  · rw [eo _ (by omega)]; exact d3
  · rw [eo _ (by omega)]; exact dk k hk
  · rw [eo _ (by omega)]; exact dh k hk
  · rw [eo _ (by omega)]; exact dw x hx k hk
  · rw [eo _ (by omega), eo _ (by omega)]; exact dq k hk
  · by_cases z : y = Pw u ∧ k = n
    · obtain ⟨rfl, rfl⟩ := z
      rw [show (19 : Int) + 4 * ((Pw u : Nat) : Int) + ((k : Nat) : Int) = a by omega, ea, if_pos ⟨rfl, by omega⟩, hx]
    · rw [eo _ (by omega), dx y k p b c]
      by_cases q : y = Pw u ∧ k < n
      · rw [if_pos q, if_pos ⟨q.1, by omega⟩, hW k q.2]
      · rw [if_neg q, if_neg (by omega)]
theorem lm_word {X : CX} {d : Nat} {K : Int → Mem → Prop} {N : Nat} {T : Nat → Int} {u : PV} (hU : PW u) (h6 : Pw u < 6) : ∀ (j k : Nat) (W : Nat → Nat) (p : Nat) (g : Mem), k + j = 3 → MRd g N T p → DW g u (k + 1) W → RdK N T K g (rdW u (kdF N T j (k + 1) W (skT N T p) (0, -1)).1 (kdF N T j (k + 1) W (skT N T p) (0, -1)).2.1, mrkR N T 59 (kdF N T j (k + 1) W (skT N T p) (0, -1)).2.2.1 (kdF N T j (k + 1) W (skT N T p) (0, -1)).2.2.2) → AJ X (d + 3) mX11_readsWord 0 0 (QI Z0 K) 0 0 33 [some (vr 166), some (vi (Pw u : Int)), some (vi (k : Int))] [] Z0 g := by
  intro j
  induction j with
  | zero =>
    intro k W p g hk hR hD h
    obtain ⟨d0, d4, d1, d2, d3, dk, dh, dw, dq⟩ := id hD.1
    obtain ⟨u0, u1, u2, u3, u4, u5, u6, u7⟩ := id hU
    have hidm := skT_id (T := T) hR.2.2.2.2
    have hskl := skT_le (N := N) (T := T) hR.2.2.2.2
    refine r_aload_n (pc' := 34) dX11_readsWord_33 rfl rfl ?_
    refine r_vi0 (pc' := 37) dX11_readsWord_34 rfl qX11_next0 lX11_82 z166 rfl rfl rfl (Nat.zero_le _) (Nat.zero_le _) (m_next0 hR (fun g1 hR1 fr1 => ?_))
    refine r_bipush (pc' := 39) dX11_readsWord_37 rfl (by decide) ?_
    refine r_icmp_eq (tgt := 57) (pc' := 42) dX11_readsWord_39 rfl rfl (hereT_M hR1 _).1 (by decide) (fun c39 => ?_) (fun c39 => ?_)
    · refine r_iload_n (pc' := 58) dX11_readsWord_57 rfl rfl ?_
      refine r_iconst (pc' := 59) dX11_readsWord_58 rfl ?_
      refine r_icmp_ge (tgt := 72) (pc' := 62) dX11_readsWord_59 rfl rfl (by omega) (by omega) (fun c59 => ?_) (fun c59 => ?_)
      · refine r_iinc (pc' := 75) dX11_readsWord_72 rfl rfl rfl ?_
        refine r_goto (tgt := 9) dX11_readsWord_75 rfl ?_
        refine r_iload_n (pc' := 10) dX11_readsWord_9 rfl rfl ?_
        refine r_iconst (pc' := 11) dX11_readsWord_10 rfl ?_
        refine r_icmp_ge (tgt := 78) (pc' := 14) dX11_readsWord_11 rfl rfl (by omega) (by omega) (fun c11 => ?_) (fun c11 => ?_)
        · refine r_aload_n (pc' := 79) dX11_readsWord_78 rfl rfl ?_
          refine r_iconst (pc' := 80) dX11_readsWord_79 rfl ?_
          refine r_vi1 (pc' := 83) dX11_readsWord_80 rfl qX11_faulty lX11_90 z166 rfl rfl rfl rfl (Nat.zero_le _) (Nat.zero_le _) (m_faulty 1 ?_)
          refine r_reti dX11_readsWord_83 rfl (Or.inr ⟨rfl, by first | exact Or.inl rfl | exact Or.inr rfl | omega⟩) ?_
          exact h.no (f := (1, (skT N T p : Int))) (by show (mrkR N T 59 (skT N T p) (0, -1)).2 = _; rw [mrk_no (by rw [hidm, c39]; decide), hidm]) (by show (1 : Nat) ≠ 0; decide) rfl (hR1.wrong 1) mu_at (fr1.d.tr (FrP.wrong _ _).d)
        · exact absurd c11 (by omega)
      · exact absurd c59 (by omega)
    · refine r_aload_n (pc' := 43) dX11_readsWord_42 rfl rfl ?_
      refine r_getr (pc' := 46) dX11_readsWord_43 rfl fX11_16 z166 rfl ?_
      refine r_iconst (pc' := 47) dX11_readsWord_46 rfl ?_
      refine r_dup2 (pc' := 48) dX11_readsWord_47 rfl rfl rfl ?_
      refine r_iaload (pc' := 49) (x := (Pw u : Int)) dX11_readsWord_48 rfl z169 (by decide) (by omega) (by omega) (by rw [fr1.1 169 (by decide)]; exact d2) ?_
      refine r_iconst (pc' := 50) dX11_readsWord_49 rfl ?_
      refine r_iadd (pc' := 51) dX11_readsWord_50 rfl ?_
      refine r_iastore (pc' := 52) dX11_readsWord_51 rfl z169 (by decide) (by omega) (by omega) rfl ?_
      refine r_aload_n (pc' := 53) dX11_readsWord_52 rfl rfl ?_
      refine r_vi0 (pc' := 56) dX11_readsWord_53 rfl qX11_ends lX11_96 z166 rfl rfl rfl (Nat.zero_le _) (Nat.zero_le _) (m_mrk (hR1.dr _ _) (fun b g2 ht hf e2 fr2 => ?_))
      refine r_reti dX11_readsWord_56 rfl (Or.inr ⟨rfl, b01_01 _⟩) ?_
      cases b with
      | true =>
        obtain ⟨m1, m2⟩ := ht rfl
        rw [hidm] at m1 m2
        exact h.yes (by rw [kd_n c39, mrk_yes (by rw [hidm]; exact m1), hidm]) m2 (DM_W (hD.fr (fr1.1 169 (by decide))) h6 u2 (by rw [e2, mu_at]) (fun k hk => by rw [e2, mu_at' hk])) (fr1.d.tr ((FrD.dr _ _ _).tr fr2))
      | false =>
        obtain ⟨m1, m2, m3⟩ := hf rfl
        rw [hidm] at m1 m2
        exact h.no (f := (1, (skT N T p : Int))) (by rw [kd_n c39, mrk_no (by rw [hidm]; exact m1), hidm]) (by show (1 : Nat) ≠ 0; decide) rfl m2 m3 (fr1.d.tr ((FrD.dr _ _ _).tr fr2))
  | succ j ih =>
    intro k W p g hk hR hD h
    obtain ⟨d0, d4, d1, d2, d3, dk, dh, dw, dq⟩ := id hD.1
    obtain ⟨u0, u1, u2, u3, u4, u5, u6, u7⟩ := id hU
    have hidm := skT_id (T := T) hR.2.2.2.2
    have hskl := skT_le (N := N) (T := T) hR.2.2.2.2
    refine r_aload_n (pc' := 34) dX11_readsWord_33 rfl rfl ?_
    refine r_vi0 (pc' := 37) dX11_readsWord_34 rfl qX11_next0 lX11_82 z166 rfl rfl rfl (Nat.zero_le _) (Nat.zero_le _) (m_next0 hR (fun g1 hR1 fr1 => ?_))
    refine r_bipush (pc' := 39) dX11_readsWord_37 rfl (by decide) ?_
    refine r_icmp_eq (tgt := 57) (pc' := 42) dX11_readsWord_39 rfl rfl (hereT_M hR1 _).1 (by decide) (fun c39 => ?_) (fun c39 => ?_)
    · refine r_iload_n (pc' := 58) dX11_readsWord_57 rfl rfl ?_
      refine r_iconst (pc' := 59) dX11_readsWord_58 rfl ?_
      refine r_icmp_ge (tgt := 72) (pc' := 62) dX11_readsWord_59 rfl rfl (by omega) (by omega) (fun c59 => ?_) (fun c59 => ?_)
      · exact absurd c59 (by omega)
      · refine r_aload_n (pc' := 63) dX11_readsWord_62 rfl rfl ?_
        refine r_dup (pc' := 64) dX11_readsWord_63 rfl rfl ?_
        refine r_getf (pc' := 67) (kI := 14) dX11_readsWord_64 rfl fX11_76 z166 rfl rfl hR1.2.2.2.1 ?_
        refine r_iconst (pc' := 68) dX11_readsWord_67 rfl ?_
        refine r_iadd (pc' := 69) dX11_readsWord_68 rfl ?_
        refine r_putf (pc' := 72) (kI := 14) dX11_readsWord_69 rfl fX11_76 z166 rfl (Or.inl rfl) rfl rfl ?_
        refine r_iinc (pc' := 75) dX11_readsWord_72 rfl rfl rfl ?_
        refine r_goto (tgt := 9) dX11_readsWord_75 rfl ?_
        refine r_iload_n (pc' := 10) dX11_readsWord_9 rfl rfl ?_
        refine r_iconst (pc' := 11) dX11_readsWord_10 rfl ?_
        refine r_icmp_ge (tgt := 78) (pc' := 14) dX11_readsWord_11 rfl rfl (by omega) (by omega) (fun c11 => ?_) (fun c11 => ?_)
        · exact absurd c11 (by omega)
        · refine r_aload_n (pc' := 15) dX11_readsWord_14 rfl rfl ?_
          refine r_bipush (pc' := 17) dX11_readsWord_15 rfl (by decide) ?_
          refine r_iconst (pc' := 18) dX11_readsWord_17 rfl ?_
          refine r_iload_n (pc' := 19) dX11_readsWord_18 rfl rfl ?_
          refine r_imul (pc' := 20) dX11_readsWord_19 rfl ?_
          refine r_iadd (pc' := 21) dX11_readsWord_20 rfl ?_
          refine r_iload_n (pc' := 22) dX11_readsWord_21 rfl rfl ?_
          refine r_iadd (pc' := 23) dX11_readsWord_22 rfl ?_
          refine r_iconst (pc' := 24) dX11_readsWord_23 rfl ?_
          refine r_iconst (pc' := 25) dX11_readsWord_24 rfl ?_
          have hlt : skT N T p < N := by
            unfold hereT at c39
            by_cases hc9 : skT N T p < N
            · exact hc9
            · rw [if_neg hc9] at c39; exact absurd c39 (by decide)
          have xb := numR_b (N := N) (T := T) (lo := 0) (hi := 5) (by decide) (skT N T p + 1) (0, -1)
          refine r_vi3 (pc' := 28) dX11_readsWord_25 rfl qX11_number lX11_93 z166 rfl rfl rfl rfl (Nat.zero_le _) (Nat.zero_le _) (m_num (hR1.pos (q := skT N T p + 1) (by omega) (by omega)) (by omega) (by omega) (by decide) (by decide) (fun b g2 ht hf fr2 => ?_))
          refine r_if_ne (tgt := 33) (pc' := 31) dX11_readsWord_28 rfl rfl (b01_R _) (fun c28 => ?_) (fun c28 => ?_)
          · obtain ⟨n0, n2, n3⟩ := ht (b01_ne c28)
            rw [kd_c c39, num_ok n0] at h
            refine ih (k + 1) _ _ g2 (by omega) n2 (DW_s ((hD.fr (fr1.1 169 (by decide))).fr (g' := mu g1 166 14 ((skT N T p : Int) + 1)) (mu_ne (by decide))) h6 u2 (by omega) (by omega) n3 (fun i hi => if_neg (by omega)) ?_) (h.fr (fr1.d.tr ((FrP.pos _ _).d.tr fr2)))
            rw [if_pos rfl]
            omega
          · refine r_iconst (pc' := 32) dX11_readsWord_31 rfl ?_
            refine r_reti dX11_readsWord_32 rfl (Or.inr ⟨rfl, by first | exact Or.inl rfl | exact Or.inr rfl | omega⟩) ?_
            obtain ⟨n1, q, q1, q2, q3⟩ := hf (b01_eq c28)
            exact h.no (f := (numR N T 0 5 (skT N T p + 1) (0, -1)).2.2) (by rw [kd_c c39, kd_f n1]; show (mrkR N T 59 _ _).2 = _; rw [mrk_f n1]) n1 q1 q2 q3 (fr1.d.tr ((FrP.pos _ _).d.tr fr2))
    · refine r_aload_n (pc' := 43) dX11_readsWord_42 rfl rfl ?_
      refine r_getr (pc' := 46) dX11_readsWord_43 rfl fX11_16 z166 rfl ?_
      refine r_iconst (pc' := 47) dX11_readsWord_46 rfl ?_
      refine r_dup2 (pc' := 48) dX11_readsWord_47 rfl rfl rfl ?_
      refine r_iaload (pc' := 49) (x := (Pw u : Int)) dX11_readsWord_48 rfl z169 (by decide) (by omega) (by omega) (by rw [fr1.1 169 (by decide)]; exact d2) ?_
      refine r_iconst (pc' := 50) dX11_readsWord_49 rfl ?_
      refine r_iadd (pc' := 51) dX11_readsWord_50 rfl ?_
      refine r_iastore (pc' := 52) dX11_readsWord_51 rfl z169 (by decide) (by omega) (by omega) rfl ?_
      refine r_aload_n (pc' := 53) dX11_readsWord_52 rfl rfl ?_
      refine r_vi0 (pc' := 56) dX11_readsWord_53 rfl qX11_ends lX11_96 z166 rfl rfl rfl (Nat.zero_le _) (Nat.zero_le _) (m_mrk (hR1.dr _ _) (fun b g2 ht hf e2 fr2 => ?_))
      refine r_reti dX11_readsWord_56 rfl (Or.inr ⟨rfl, b01_01 _⟩) ?_
      cases b with
      | true =>
        obtain ⟨m1, m2⟩ := ht rfl
        rw [hidm] at m1 m2
        exact h.yes (by rw [kd_n c39, mrk_yes (by rw [hidm]; exact m1), hidm]) m2 (DM_W (hD.fr (fr1.1 169 (by decide))) h6 u2 (by rw [e2, mu_at]) (fun k hk => by rw [e2, mu_at' hk])) (fr1.d.tr ((FrD.dr _ _ _).tr fr2))
      | false =>
        obtain ⟨m1, m2, m3⟩ := hf rfl
        rw [hidm] at m1 m2
        exact h.no (f := (1, (skT N T p : Int))) (by rw [kd_n c39, mrk_no (by rw [hidm]; exact m1), hidm]) (by show (1 : Nat) ≠ 0; decide) rfl m2 m3 (fr1.d.tr ((FrD.dr _ _ _).tr fr2))
theorem m_word {X : CX} {d : Nat} {g : Mem} {K : Int → Mem → Prop} {N : Nat} {T : Nat → Int} {p : Nat} (hR : MRd g N T p) {u : PV} (hD : DM g u) (hU : PW u) (h6 : Pw u < 6) (h : RdK N T K g (rdW u (kdR N T p (0, -1)).1 (kdR N T p (0, -1)).2.1, mrkR N T 59 (kdR N T p (0, -1)).2.2.1 (kdR N T p (0, -1)).2.2.2)) : EI X (d + 3) mX11_readsWord [vr 166] Z0 g K := by
  show AJ X (d + 3) mX11_readsWord 0 0 (QI Z0 K) 0 0 0 [some (vr 166), none, none] [] Z0 g
  obtain ⟨d0, d4, d1, d2, d3, dk, dh, dw, dq⟩ := id hD.1
  obtain ⟨u0, u1, u2, u3, u4, u5, u6, u7⟩ := id hU
  have xb := numR_b (N := N) (T := T) (lo := 0) (hi := 5) (by decide) p (0, -1)
  unfold kdR at h
  refine r_aload_n (pc' := 1) dX11_readsWord_0 rfl rfl ?_
  refine r_getr (pc' := 4) dX11_readsWord_1 rfl fX11_16 z166 rfl ?_
  refine r_iconst (pc' := 5) dX11_readsWord_4 rfl ?_
  refine r_iaload (pc' := 6) dX11_readsWord_5 rfl z169 (by decide) (by omega) (by omega) d2 ?_
  refine r_istore_n (pc' := 7) dX11_readsWord_6 rfl rfl ?_
  refine r_iconst (pc' := 8) dX11_readsWord_7 rfl ?_
  refine r_istore_n (pc' := 9) dX11_readsWord_8 rfl rfl ?_
  refine r_iload_n (pc' := 10) dX11_readsWord_9 rfl rfl ?_
  refine r_iconst (pc' := 11) dX11_readsWord_10 rfl ?_
  refine r_icmp_ge (tgt := 78) (pc' := 14) dX11_readsWord_11 rfl rfl (by omega) (by omega) (fun c11 => ?_) (fun c11 => ?_)
  · exact absurd c11 (by decide)
  · refine r_aload_n (pc' := 15) dX11_readsWord_14 rfl rfl ?_
    refine r_bipush (pc' := 17) dX11_readsWord_15 rfl (by decide) ?_
    refine r_iconst (pc' := 18) dX11_readsWord_17 rfl ?_
    refine r_iload_n (pc' := 19) dX11_readsWord_18 rfl rfl ?_
    refine r_imul (pc' := 20) dX11_readsWord_19 rfl ?_
    refine r_iadd (pc' := 21) dX11_readsWord_20 rfl ?_
    refine r_iload_n (pc' := 22) dX11_readsWord_21 rfl rfl ?_
    refine r_iadd (pc' := 23) dX11_readsWord_22 rfl ?_
    refine r_iconst (pc' := 24) dX11_readsWord_23 rfl ?_
    refine r_iconst (pc' := 25) dX11_readsWord_24 rfl ?_
    refine r_vi3 (pc' := 28) dX11_readsWord_25 rfl qX11_number lX11_93 z166 rfl rfl rfl rfl (Nat.zero_le _) (Nat.zero_le _) (m_num hR (by omega) (by omega) (by decide) (by decide) (fun b g1 ht hf fr1 => ?_))
    refine r_if_ne (tgt := 33) (pc' := 31) dX11_readsWord_28 rfl rfl (b01_R _) (fun c28 => ?_) (fun c28 => ?_)
    · obtain ⟨n0, n2, n3⟩ := ht (b01_ne c28)
      rw [num_ok n0] at h
      exact lm_word hU h6 3 0 _ _ g1 rfl n2 (DW_s (DW_0 hD (fun _ => 0)) h6 u2 (by omega) (by omega) n3 (fun i hi => absurd hi (by omega)) (by omega)) (h.fr fr1)
    · refine r_iconst (pc' := 32) dX11_readsWord_31 rfl ?_
      refine r_reti dX11_readsWord_32 rfl (Or.inr ⟨rfl, by first | exact Or.inl rfl | exact Or.inr rfl | omega⟩) ?_
      obtain ⟨n1, q, q1, q2, q3⟩ := hf (b01_eq c28)
      exact h.no (f := (numR N T 0 5 p (0, -1)).2.2) (by rw [kd_f n1]; show (mrkR N T 59 _ _).2 = _; rw [mrk_f n1]) n1 q1 q2 q3 fr1
