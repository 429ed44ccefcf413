/-- the table of the takers: size s at place p -/
def mrT (g : Mem) (h : Nat → Int) (s p : Nat) : Prop := g 182 (9 * (p : Int) + s - 1) = ldF h s p
def mrI (g : Mem) (h : Nat → Int) (n s p : Nat) : Prop := ∀ s' p' : Nat, 1 ≤ s' → p' + s' ≤ n → (s' < s ∨ (s' = s ∧ p' < p)) → mrT g h s' p'
theorem m_moreOf {X : CX} {d : Nat} {g : Mem} {K : Int → Mem → Prop} {h : Nat → Int} {n s p s0 p0 : Nat} (hT : mrI g h n s0 p0) (hn : n ≤ 7) (hs : s < s0) (hp : p + s ≤ n) (hk : K (ldF h s p) g) : EI X (d) mX11_moreOf [vr 166, vi (p : Int), vi ((p : Int) + s - 1)] Z0 g K := by
  show AJ X (d) mX11_moreOf 0 0 (QI Z0 K) 0 0 0 [some (vr 166), some (vi (p : Int)), some (vi ((p : Int) + s - 1))] [] Z0 g
  refine r_iload_n (pc' := 1) dX11_moreOf_0 rfl rfl ?_
  refine r_iload_n (pc' := 2) dX11_moreOf_1 rfl rfl ?_
  refine r_icmp_le (tgt := 9) (pc' := 5) dX11_moreOf_2 rfl rfl (by omega) (by omega) (fun c2 => ?_) (fun c2 => ?_)
  · refine r_aload_n (pc' := 10) dX11_moreOf_9 rfl rfl ?_
    refine r_getr (pc' := 13) dX11_moreOf_10 rfl fX11_64 z166 rfl ?_
    refine r_bipush (pc' := 15) dX11_moreOf_13 rfl (by decide) ?_
    refine r_iload_n (pc' := 16) dX11_moreOf_15 rfl rfl ?_
    refine r_imul (pc' := 17) dX11_moreOf_16 rfl ?_
    refine r_iload_n (pc' := 18) dX11_moreOf_17 rfl rfl ?_
    refine r_iadd (pc' := 19) dX11_moreOf_18 rfl ?_
    refine r_iaload (pc' := 20) (x := ldF h s p) dX11_moreOf_19 rfl z182 (by decide) (by omega) (by omega) (by have q := hT s p (by omega) hp (Or.inl hs); unfold mrT at q; rw [show 9 * (p : Int) + (s : Int) - 1 = 8 * (p : Int) + ((p : Int) + (s : Int) - 1) by omega] at q; exact q) ?_
    refine r_reti dX11_moreOf_20 rfl (Or.inl rfl) ?_
    first
      | (have e : s = 0 := (by omega)
         subst e
         exact hk)
      | exact hk
  · refine r_iconst (pc' := 6) dX11_moreOf_5 rfl ?_
    refine r_goto (tgt := 20) dX11_moreOf_6 rfl ?_
    refine r_reti dX11_moreOf_20 rfl (Or.inl rfl) ?_
    first
      | (have e : s = 0 := (by omega)
         subst e
         exact hk)
      | exact hk
theorem m_moreJ {X : CX} {d : Nat} {g : Mem} {K : Int → Mem → Prop} {h : Nat → Int} {n s p s0 p0 : Nat} (hT : mrI g h n s0 p0) (hn : n ≤ 7) (hs : s < s0) (hp : p + s ≤ n) {a b : Int} (ha : a = p) (hb : b = (p : Int) + s - 1) (hk : K (ldF h s p) g) : EI X d mX11_moreOf [vr 166, vi a, vi b] Z0 g K := by
  subst ha hb
  exact m_moreOf hT hn hs hp hk
theorem m_heavyJ {X : CX} {d : Nat} {g : Mem} {K : Int → Mem → Prop} {u : PV} {v : LV} (hB : MB g u v) {p : Nat} (hp : p < Ln v) {a : Int} (ha : a = p) (hk : K (hv u v p) g) : EI X d mX11_heavyAt [vr 166, vi a] Z0 g K := by
  subst ha
  exact m_heavyAt hB hp hk
theorem mrI_set {g : Mem} {h : Nat → Int} {n s p : Nat} (hn : n ≤ 7) (hs : 1 ≤ s) (hp : p + s ≤ n) (hT : mrI g h n s p) {a x : Int} (ha : a = 9 * (p : Int) + s - 1) (hx : x = ldF h s p) : mrI (mu g 182 a x) h n s (p + 1) := by
  intro s' p' h1 h2 h3
  unfold mrT
  by_cases e : s' = s ∧ p' = p
  · obtain ⟨rfl, rfl⟩ := e
    rw [ha, mu_at]
    exact hx
  · rw [mu_at' (by omega)]
    exact hT s' p' h1 h2 (by omega)
theorem hv_b {u : PV} {v : LV} (hU : PW u) (hW : LW (Pf u) v) : ∀ p, p < Ln v → 1 ≤ hv u v p ∧ hv u v p ≤ 9 := fun p hp => by
  have := hU.2.2.2.2.2.1 (Lo v p) (hW.2.2.1 p hp)
  unfold hv
  omega
theorem ldF_s (h : Nat → Int) (s p : Nat) : ldF h (s + 1) p = max (h p - ldF h s (p + 1)) (h (p + s) - ldF h s p) := rfl
theorem lm_endI {X : CX} {d : Nat} {K : Int → Mem → Prop} {u : PV} {v : LV} {w : Int} {s : Nat} (hs : s + 1 ≤ Ln v) : ∀ (k p : Nat) (g : Mem) (x y z : Option VV), MB g u v → p + k = Ln v - s → mrI g (hv u v) (Ln v) (s + 1) p → (∀ (g' : Mem) (t x y z : Option VV), mrI g' (hv u v) (Ln v) (s + 2) 0 → Fr [182] g g' → AJ X (d + 2) mX11_ends_ 0 0 (QI Z0 K) 0 0 116 [some (vr 166), some (vi w), some (vi (Ln v : Int)), some (vi ((s + 1 : Nat) : Int)), t, x, y, z] [] Z0 g') → AJ X (d + 2) mX11_ends_ 0 0 (QI Z0 K) 0 0 29 [some (vr 166), some (vi w), some (vi (Ln v : Int)), some (vi ((s + 1 : Nat) : Int)), some (vi (p : Int)), x, y, z] [] Z0 g := by
  intro k
  induction k with
  | zero =>
    intro p g x y z hB hp hT h
    obtain ⟨hQ, hU, hC, hW⟩ := id hB
    obtain ⟨hy, hi, hc, ht, ho, hf, hw_⟩ := id hC
    obtain ⟨w0, w1, w2, w3, w4, w5, w6, w7⟩ := id hW
    obtain ⟨p6, p7, p8, p9, p10, pk, pg, px, py⟩ := id hQ
    obtain ⟨u0, u1, u2, u3, u4, u5, u6, u7⟩ := id hU
    refine r_iload (pc' := 31) dX11_ends__29 rfl rfl ?_
    refine r_iload_n (pc' := 32) dX11_ends__31 rfl rfl ?_
    refine r_iadd (pc' := 33) dX11_ends__32 rfl ?_
    refine r_iload_n (pc' := 34) dX11_ends__33 rfl rfl ?_
    refine r_icmp_gt (tgt := 116) (pc' := 37) dX11_ends__34 rfl rfl (by omega) (by omega) (fun c34 => ?_) (fun c34 => ?_)
    · exact h g _ _ _ _ (fun s1 p1 a b c => hT s1 p1 a b (by omega)) (Fr.rf _ _)
    · exact absurd c34 (by omega)
  | succ k ih =>
    intro p g x y z hB hp hT h
    obtain ⟨hQ, hU, hC, hW⟩ := id hB
    obtain ⟨hy, hi, hc, ht, ho, hf, hw_⟩ := id hC
    obtain ⟨w0, w1, w2, w3, w4, w5, w6, w7⟩ := id hW
    obtain ⟨p6, p7, p8, p9, p10, pk, pg, px, py⟩ := id hQ
    obtain ⟨u0, u1, u2, u3, u4, u5, u6, u7⟩ := id hU
    have hb := hv_b hU hW
    have b1 := ldF_b hb s p (by omega)
    have b2 := ldF_b hb s (p + 1) (by omega)
    have b3 := hb p (by omega)
    have b4 := hb (p + s) (by omega)
    refine r_iload (pc' := 31) dX11_ends__29 rfl rfl ?_
    refine r_iload_n (pc' := 32) dX11_ends__31 rfl rfl ?_
    refine r_iadd (pc' := 33) dX11_ends__32 rfl ?_
    refine r_iload_n (pc' := 34) dX11_ends__33 rfl rfl ?_
    refine r_icmp_gt (tgt := 116) (pc' := 37) dX11_ends__34 rfl rfl (by omega) (by omega) (fun c34 => ?_) (fun c34 => ?_)
    · exact absurd c34 (by omega)
    · refine r_iload (pc' := 39) dX11_ends__37 rfl rfl ?_
      refine r_iload_n (pc' := 40) dX11_ends__39 rfl rfl ?_
      refine r_iadd (pc' := 41) dX11_ends__40 rfl ?_
      refine r_iconst (pc' := 42) dX11_ends__41 rfl ?_
      refine r_isub (pc' := 43) dX11_ends__42 rfl ?_
      refine r_istore (pc' := 45) dX11_ends__43 rfl rfl ?_
      refine r_aload_n (pc' := 46) dX11_ends__45 rfl rfl ?_
      refine r_iload (pc' := 48) dX11_ends__46 rfl rfl ?_
      refine r_vi1 (pc' := 51) dX11_ends__48 rfl qX11_heavyAt lX11_219 z166 rfl rfl rfl rfl (Nat.zero_le _) (Nat.zero_le _) (m_heavyJ hB (p := p) (by omega) rfl ?_)
      refine r_aload_n (pc' := 52) dX11_ends__51 rfl rfl ?_
      refine r_iload (pc' := 54) dX11_ends__52 rfl rfl ?_
      refine r_iconst (pc' := 55) dX11_ends__54 rfl ?_
      refine r_iadd (pc' := 56) dX11_ends__55 rfl ?_
      refine r_iload (pc' := 58) dX11_ends__56 rfl rfl ?_
      refine r_vi2 (pc' := 61) dX11_ends__58 rfl qX11_moreOf lX11_222 z166 rfl rfl rfl rfl (Nat.zero_le _) (Nat.zero_le _) (m_moreJ hT (by omega) (s := s) (p := p + 1) (by omega) (by omega) (by omega) (by omega) ?_)
      refine r_isub (pc' := 62) dX11_ends__61 rfl ?_
      refine r_istore (pc' := 64) dX11_ends__62 rfl rfl ?_
      refine r_aload_n (pc' := 65) dX11_ends__64 rfl rfl ?_
      refine r_iload (pc' := 67) dX11_ends__65 rfl rfl ?_
      refine r_vi1 (pc' := 70) dX11_ends__67 rfl qX11_heavyAt lX11_219 z166 rfl rfl rfl rfl (Nat.zero_le _) (Nat.zero_le _) (m_heavyJ hB (p := p + s) (by omega) (by omega) ?_)
      refine r_aload_n (pc' := 71) dX11_ends__70 rfl rfl ?_
      refine r_iload (pc' := 73) dX11_ends__71 rfl rfl ?_
      refine r_iload (pc' := 75) dX11_ends__73 rfl rfl ?_
      refine r_iconst (pc' := 76) dX11_ends__75 rfl ?_
      refine r_isub (pc' := 77) dX11_ends__76 rfl ?_
      refine r_vi2 (pc' := 80) dX11_ends__77 rfl qX11_moreOf lX11_222 z166 rfl rfl rfl rfl (Nat.zero_le _) (Nat.zero_le _) (m_moreJ hT (by omega) (s := s) (p := p) (by omega) (by omega) rfl (by omega) ?_)
      refine r_isub (pc' := 81) dX11_ends__80 rfl ?_
      refine r_istore (pc' := 83) dX11_ends__81 rfl rfl ?_
      refine r_aload_n (pc' := 84) dX11_ends__83 rfl rfl ?_
      refine r_getr (pc' := 87) dX11_ends__84 rfl fX11_64 z166 rfl ?_
      refine r_bipush (pc' := 89) dX11_ends__87 rfl (by decide) ?_
      refine r_iload (pc' := 91) dX11_ends__89 rfl rfl ?_
      refine r_imul (pc' := 92) dX11_ends__91 rfl ?_
      refine r_iload (pc' := 94) dX11_ends__92 rfl rfl ?_
      refine r_iadd (pc' := 95) dX11_ends__94 rfl ?_
      refine r_iload (pc' := 97) dX11_ends__95 rfl rfl ?_
      refine r_iload (pc' := 99) dX11_ends__97 rfl rfl ?_
      refine r_icmp_ge (tgt := 107) (pc' := 102) dX11_ends__99 rfl rfl (by omega) (by omega) (fun c99 => ?_) (fun c99 => ?_)
      · have ldx : hv u v p - ldF (hv u v) s (p + 1) = ldF (hv u v) (s + 1) p := by rw [ldF_s]; omega
        refine r_iload (pc' := 109) dX11_ends__107 rfl rfl ?_
        refine r_iastore (pc' := 110) dX11_ends__109 rfl z182 (by decide) (by omega) (by omega) rfl ?_
        refine r_iinc (pc' := 113) dX11_ends__110 rfl rfl rfl ?_
        refine r_goto (tgt := 29) dX11_ends__113 rfl ?_
        rw [ldx]
        refine ih (p + 1) _ _ _ _ (hB.fr (mu_ne (by decide)) (mu_ne (by decide))) (by omega) (mrI_set (by omega) (by omega) (by omega) hT (by omega) rfl) (fun g' t x y z a f => h g' t x y z a (Fr.tr (fun j hj => mu_ne (by simpa using hj)) f))
      · have ldx : hv u v (p + s) - ldF (hv u v) s p = ldF (hv u v) (s + 1) p := by rw [ldF_s]; omega
        refine r_iload (pc' := 104) dX11_ends__102 rfl rfl ?_
        refine r_goto (tgt := 109) dX11_ends__104 rfl ?_
        refine r_iastore (pc' := 110) dX11_ends__109 rfl z182 (by decide) (by omega) (by omega) rfl ?_
        refine r_iinc (pc' := 113) dX11_ends__110 rfl rfl rfl ?_
        refine r_goto (tgt := 29) dX11_ends__113 rfl ?_
        rw [ldx]
        refine ih (p + 1) _ _ _ _ (hB.fr (mu_ne (by decide)) (mu_ne (by decide))) (by omega) (mrI_set (by omega) (by omega) (by omega) hT (by omega) rfl) (fun g' t x y z a f => h g' t x y z a (Fr.tr (fun j hj => mu_ne (by simpa using hj)) f))
theorem lm_endO {X : CX} {d : Nat} {K : Int → Mem → Prop} {u : PV} {v : LV} {w : Int} : ∀ (k s : Nat) (g : Mem) (t x y z : Option VV), MB g u v → s + k = Ln v → mrI g (hv u v) (Ln v) (s + 1) 0 → (∀ (g' : Mem) (x1 t x y z : Option VV), mrI g' (hv u v) (Ln v) (Ln v + 1) 0 → Fr [182] g g' → AJ X (d + 2) mX11_ends_ 0 0 (QI Z0 K) 0 0 122 [some (vr 166), some (vi w), some (vi (Ln v : Int)), x1, t, x, y, z] [] Z0 g') → AJ X (d + 2) mX11_ends_ 0 0 (QI Z0 K) 0 0 21 [some (vr 166), some (vi w), some (vi (Ln v : Int)), some (vi ((s + 1 : Nat) : Int)), t, x, y, z] [] Z0 g := by
  intro k
  induction k with
  | zero =>
    intro s g t x y z hB hp hT h
    obtain ⟨hQ, hU, hC, hW⟩ := id hB
    obtain ⟨hy, hi, hc, ht, ho, hf, hw_⟩ := id hC
    obtain ⟨w0, w1, w2, w3, w4, w5, w6, w7⟩ := id hW
    obtain ⟨p6, p7, p8, p9, p10, pk, pg, px, py⟩ := id hQ
    obtain ⟨u0, u1, u2, u3, u4, u5, u6, u7⟩ := id hU
    refine r_iload_n (pc' := 22) dX11_ends__21 rfl rfl ?_
    refine r_iload_n (pc' := 23) dX11_ends__22 rfl rfl ?_
    refine r_icmp_gt (tgt := 122) (pc' := 26) dX11_ends__23 rfl rfl (by omega) (by omega) (fun c23 => ?_) (fun c23 => ?_)
    · exact h g _ _ _ _ _ (fun s1 p1 a b c => hT s1 p1 a b (by omega)) (Fr.rf _ _)
    · exact absurd c23 (by omega)
  | succ k ih =>
    intro s g t x y z hB hp hT h
    obtain ⟨hQ, hU, hC, hW⟩ := id hB
    obtain ⟨hy, hi, hc, ht, ho, hf, hw_⟩ := id hC
    obtain ⟨w0, w1, w2, w3, w4, w5, w6, w7⟩ := id hW
    obtain ⟨p6, p7, p8, p9, p10, pk, pg, px, py⟩ := id hQ
    obtain ⟨u0, u1, u2, u3, u4, u5, u6, u7⟩ := id hU
    refine r_iload_n (pc' := 22) dX11_ends__21 rfl rfl ?_
    refine r_iload_n (pc' := 23) dX11_ends__22 rfl rfl ?_
    refine r_icmp_gt (tgt := 122) (pc' := 26) dX11_ends__23 rfl rfl (by omega) (by omega) (fun c23 => ?_) (fun c23 => ?_)
    · exact absurd c23 (by omega)
    · refine r_iconst (pc' := 27) dX11_ends__26 rfl ?_
      refine r_istore (pc' := 29) dX11_ends__27 rfl rfl ?_
      refine lm_endI (by omega) (Ln v - s) 0 g _ _ _ hB (by omega) hT (fun g1 t x y z hT1 fr1 => ?_)
      refine r_iinc (pc' := 119) dX11_ends__116 rfl rfl rfl ?_
      refine r_goto (tgt := 21) dX11_ends__119 rfl ?_
      exact ih (s + 1) g1 _ _ _ _ (hB.fr (fr1 168 (by decide)) (fr1 170 (by decide))) (by omega) hT1 (fun g' x1 t x y z a f => h g' x1 t x y z a (Fr.tr fr1 f))
theorem M_ends {X : CX} {d : Nat} {g : Mem} {K : Int → Mem → Prop} {tN : Nat} {tX : Nat → Int} {flt : Int} {u : PV} {v : LV} {kn : Nat} {kL : Nat → LV} {im : Nat → Bool × Int × LV} {sd : Int} {ln : Nat} {la : Nat → Nat} {lr : Nat → Bool} {bn : Nat} {bp : Nat → Nat} {bf : Nat → Int} (hM : MS g tN tX flt u v kn kL im sd ln la lr bn bp bf) (hS : WS tN tX flt u v kn kL im sd ln la lr bn bp bf) (w : Int) (hw0 : R32 w) (h : ∀ g' : Mem, MS g' tN tX flt u v kn kL im sd ln la lr bn bp bf → FrM g g' → K (E_ends u v w) g') : EI X (d + 2) mX11_ends_ [vr 166, vi w] Z0 g K := by
  show AJ X (d + 2) mX11_ends_ 0 0 (QI Z0 K) 0 0 0 [some (vr 166), some (vi w), none, none, none, none, none, none] [] Z0 g
  obtain ⟨⟨m1, m2⟩, m3, m4, m5, ⟨m6, m7⟩, m8, m9, ⟨m10, m11⟩, ⟨m12, m13⟩⟩ := id hM
  obtain ⟨⟨s1, s2⟩, s3, s4, s5, ⟨s6, s7⟩, s8, ⟨s9, s10⟩, ⟨s11, s12⟩, ⟨s13, s14⟩⟩ := id hS
  have hB : MB g u v := ⟨m4, s4, m5, s5⟩
  obtain ⟨hQ, hU, hC, hW⟩ := id hB
  obtain ⟨hy, hi, hc, ht, ho, hf, hw_⟩ := id hC
  obtain ⟨w0, w1, w2, w3, w4, w5, w6, w7⟩ := id hW
  obtain ⟨p6, p7, p8, p9, p10, pk, pg, px, py⟩ := id hQ
  obtain ⟨u0, u1, u2, u3, u4, u5, u6, u7⟩ := id hU
  refine r_iload_n (pc' := 1) dX11_ends__0 rfl rfl ?_
  refine r_iconst (pc' := 2) dX11_ends__1 rfl ?_
  refine r_iconst (pc' := 3) dX11_ends__2 rfl ?_
  refine r_si3 (pc' := 6) dX11_ends__3 rfl qX11_in lX11_67 rfl rfl rfl (Nat.zero_le _) (Nat.zero_le _) (m_in w 0 1 (by omega) (by omega) (by omega) ?_)
  refine r_if_ne (tgt := 12) (pc' := 9) dX11_ends__6 rfl rfl (b01_R _) (fun c6 => ?_) (fun c6 => ?_)
  · have hd := of_decide_eq_true (b01_ne c6)
    refine r_aload_n (pc' := 13) dX11_ends__12 rfl rfl ?_
    refine r_getr (pc' := 16) dX11_ends__13 rfl fX11_19 z166 rfl ?_
    refine r_iconst (pc' := 17) dX11_ends__16 rfl ?_
    refine r_iaload (pc' := 18) dX11_ends__17 rfl z170 (by decide) (by omega) (by omega) hc ?_
    refine r_istore_n (pc' := 19) dX11_ends__18 rfl rfl ?_
    refine r_iconst (pc' := 20) dX11_ends__19 rfl ?_
    refine r_istore_n (pc' := 21) dX11_ends__20 rfl rfl ?_
    refine lm_endO (Ln v) 0 g _ _ _ _ hB (by omega) (fun s1 p1 a b c => absurd a (by omega)) (fun g1 x1 t x y z hT1 fr1 => ?_)
    have hB1 := hB.fr (fr1 168 (by decide)) (fr1 170 (by decide))
    have h9 := h g1 (hM.of fr1 (by decide)) (FrM.of fr1 (by decide))
    unfold E_ends at h9
    have hb := hv_b hU hW
    have b1 := ldF_b hb (Ln v) 0 (by omega)
    have b5 : 1 ≤ Ln v → ldF (hv u v) (Ln v) 0 = max (hv u v 0 - ldF (hv u v) (Ln v - 1) 1) (hv u v (Ln v - 1) - ldF (hv u v) (Ln v - 1) 0) := fun q => by
      obtain ⟨m, hm⟩ : ∃ m, Ln v = m + 1 := ⟨Ln v - 1, by omega⟩
      rw [hm, ldF_s, Nat.add_sub_cancel, Nat.zero_add, Nat.zero_add]
    have b6 : 1 ≤ Ln v → -63 ≤ ldF (hv u v) (Ln v - 1) 1 ∧ ldF (hv u v) (Ln v - 1) 1 ≤ 63 := fun q => by
      have := ldF_b hb (Ln v - 1) 1 (by omega)
      omega
    have b7 : 1 ≤ Ln v → 1 ≤ hv u v 0 ∧ hv u v 0 ≤ 9 := fun q => hb 0 (by omega)
    refine r_iload_n (pc' := 123) dX11_ends__122 rfl rfl ?_
    refine r_if_ne (tgt := 147) (pc' := 126) dX11_ends__123 rfl rfl (by omega) (fun c123 => ?_) (fun c123 => ?_)
    · refine r_iload_n (pc' := 148) dX11_ends__147 rfl rfl ?_
      refine r_if_ne (tgt := 155) (pc' := 151) dX11_ends__148 rfl rfl (by omega) (fun c148 => ?_) (fun c148 => ?_)
      · refine r_aload_n (pc' := 156) dX11_ends__155 rfl rfl ?_
        refine r_iconst (pc' := 157) dX11_ends__156 rfl ?_
        refine r_vi1 (pc' := 160) dX11_ends__157 rfl qX11_heavyAt lX11_219 z166 rfl rfl rfl rfl (Nat.zero_le _) (Nat.zero_le _) (m_heavyJ hB1 (p := 0) (by omega) rfl ?_)
        refine r_aload_n (pc' := 161) dX11_ends__160 rfl rfl ?_
        refine r_iconst (pc' := 162) dX11_ends__161 rfl ?_
        refine r_iload_n (pc' := 163) dX11_ends__162 rfl rfl ?_
        refine r_iconst (pc' := 164) dX11_ends__163 rfl ?_
        refine r_isub (pc' := 165) dX11_ends__164 rfl ?_
        refine r_vi2 (pc' := 168) dX11_ends__165 rfl qX11_moreOf lX11_222 z166 rfl rfl rfl rfl (Nat.zero_le _) (Nat.zero_le _) (m_moreJ hT1 (by omega) (s := Ln v - 1) (p := 1) (by omega) (by omega) rfl (by omega) ?_)
        refine r_isub (pc' := 169) dX11_ends__168 rfl ?_
        refine r_aload_n (pc' := 170) dX11_ends__169 rfl rfl ?_
        refine r_getr (pc' := 173) dX11_ends__170 rfl fX11_64 z166 rfl ?_
        refine r_iload_n (pc' := 174) dX11_ends__173 rfl rfl ?_
        refine r_iconst (pc' := 175) dX11_ends__174 rfl ?_
        refine r_isub (pc' := 176) dX11_ends__175 rfl ?_
        refine r_iaload (pc' := 177) (x := ldF (hv u v) (Ln v) 0) dX11_ends__176 rfl z182 (by decide) (by omega) (by omega) (by have q := hT1 (Ln v) 0 (by omega) (by omega) (by omega); unfold mrT at q; rw [show 9 * ((0 : Nat) : Int) + (Ln v : Int) - 1 = (Ln v : Int) - 1 by omega] at q; exact q) ?_
        refine r_icmp_ne (tgt := 184) (pc' := 180) dX11_ends__177 rfl rfl (by omega) (by omega) (fun c177 => ?_) (fun c177 => ?_)
        · refine r_iconst (pc' := 185) dX11_ends__184 rfl ?_
          refine r_reti dX11_ends__185 rfl (Or.inl rfl) ?_
          rw [if_neg (by omega), if_pos (by omega)] at h9
          first
            | (rw [if_pos (by omega)] at h9
               exact h9)
            | (rw [if_neg (by omega), if_pos (by omega)] at h9
               exact h9)
            | (rw [if_neg (by omega), if_neg (by omega)] at h9
               exact h9)
        · refine r_iconst (pc' := 181) dX11_ends__180 rfl ?_
          refine r_goto (tgt := 185) dX11_ends__181 rfl ?_
          refine r_reti dX11_ends__185 rfl (Or.inl rfl) ?_
          rw [if_neg (by omega), if_pos (by omega)] at h9
          first
            | (rw [if_pos (by omega)] at h9
               exact h9)
            | (rw [if_neg (by omega), if_pos (by omega)] at h9
               exact h9)
            | (rw [if_neg (by omega), if_neg (by omega)] at h9
               exact h9)
      · refine r_iconst (pc' := 152) dX11_ends__151 rfl ?_
        refine r_goto (tgt := 185) dX11_ends__152 rfl ?_
        refine r_reti dX11_ends__185 rfl (Or.inl rfl) ?_
        rw [if_neg (by omega), if_pos (by omega)] at h9
        first
          | (rw [if_pos (by omega)] at h9
             exact h9)
          | (rw [if_neg (by omega), if_pos (by omega)] at h9
             exact h9)
          | (rw [if_neg (by omega), if_neg (by omega)] at h9
             exact h9)
    · refine r_sipush (pc' := 129) dX11_ends__126 rfl (by decide) ?_
      refine r_iload_n (pc' := 130) dX11_ends__129 rfl rfl ?_
      refine r_if_ne (tgt := 137) (pc' := 133) dX11_ends__130 rfl rfl (by omega) (fun c130 => ?_) (fun c130 => ?_)
      · refine r_aload_n (pc' := 138) dX11_ends__137 rfl rfl ?_
        refine r_getr (pc' := 141) dX11_ends__138 rfl fX11_64 z166 rfl ?_
        refine r_iload_n (pc' := 142) dX11_ends__141 rfl rfl ?_
        refine r_iconst (pc' := 143) dX11_ends__142 rfl ?_
        refine r_isub (pc' := 144) dX11_ends__143 rfl ?_
        refine r_iaload (pc' := 145) (x := ldF (hv u v) (Ln v) 0) dX11_ends__144 rfl z182 (by decide) (by omega) (by omega) (by have q := hT1 (Ln v) 0 (by omega) (by omega) (by omega); unfold mrT at q; rw [show 9 * ((0 : Nat) : Int) + (Ln v : Int) - 1 = (Ln v : Int) - 1 by omega] at q; exact q) ?_
        refine r_iadd (pc' := 146) dX11_ends__145 rfl ?_
        refine r_reti dX11_ends__146 rfl (Or.inl rfl) ?_
        rw [if_pos (by omega)] at h9
        first
          | (have e : Ln v = 0 := (by omega)
             rw [e] at h9
             exact h9)
          | exact h9
      · refine r_iconst (pc' := 134) dX11_ends__133 rfl ?_
        refine r_goto (tgt := 145) dX11_ends__134 rfl ?_
        refine r_iadd (pc' := 146) dX11_ends__145 rfl ?_
        refine r_reti dX11_ends__146 rfl (Or.inl rfl) ?_
        rw [if_pos (by omega)] at h9
        first
          | (have e : Ln v = 0 := (by omega)
             rw [e] at h9
             exact h9)
          | exact h9
  · have hd := of_decide_eq_false (b01_eq c6)
    refine r_ldc (z := -1000000002) (pc' := 11) dX11_ends__9 rfl kX11_71 ?_
    refine r_reti dX11_ends__11 rfl (Or.inl rfl) ?_
    have h9 := h g hM (FrM.rf g)
    unfold E_ends at h9
    rw [if_neg (by omega), if_neg (by omega)] at h9
    exact h9
