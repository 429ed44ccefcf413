theorem out_bit {u : PV} {v : LV} {f : Nat} (h : plc (Lo v) (f : Int) (Ln v) 0 ≠ -1) : (outN u v).testBit f = outP u v f := by
  rw [Bool.eq_iff_iff]
  unfold outN
  rw [orF_mem, Nat.zero_testBit]
  constructor
  · rintro (q | ⟨q, a, b, e, z⟩)
    · exact absurd q (by decide)
    · rw [Nat.testBit_two_pow] at z
      have z := of_decide_eq_true z
      rw [← z]
      exact e
  · intro ho
    rcases plc_b (o := Lo v) (f := (f : Int)) (Ln v) 0 with q | ⟨a, b, e⟩
    · exact absurd q h
    · have e1 : Lo v (plc (Lo v) (f : Int) (Ln v) 0).toNat = f := by omega
      refine Or.inr ⟨(plc (Lo v) (f : Int) (Ln v) 0).toNat, by omega, by omega, by rw [e1]; exact ho, ?_⟩
      rw [Nat.testBit_two_pow]
      exact decide_eq_true e1
theorem outN_lt {F : Nat} {u : PV} {v : LV} (h : LW F v) : outN u v < 128 := orF_lt _ _ _ (by decide) (fun p _ hp => pow7 (by have := h.2.2.1 p (by omega); have := h.1; omega))
theorem LSr.fd {g : Mem} {v : LV} (h : LSr g v) (h7 : Ln v ≤ 7) {f : Nat} (hf : f < 7) {a x : Int} (ha : a = 11 + (f : Int)) {G : Nat → Int} (hG : ∀ k, k < 7 → G k = if k = f then x else Lf v k) : LSr (mu g 170 a x) (vf v G) := by
  obtain ⟨h0, h1, h2, h3, h4, h5, h6⟩ := h
  subst ha
  refine ⟨by rw [mu_at' (by omega)]; exact h0, by rw [mu_at' (by omega)]; exact h1, by rw [mu_at' (by omega)]; exact h2, by rw [mu_at' (by omega)]; exact h3, fun p hp => ?_, fun k hk => ?_, fun k hk => by rw [mu_at' (by omega)]; exact h6 k hk⟩
  · have hp : p < Ln v := hp
    rw [mu_at' (by omega)]
    exact h4 p hp
  · show _ = G k
    rw [hG k hk]
    by_cases e : k = f
    · subst e
      rw [mu_at, if_pos rfl]
    · rw [mu_at' (by omega), if_neg e]
      exact h5 k hk
theorem LSr.fc {g : Mem} {v : LV} (h : LSr g v) {G : Nat → Int} (hG : ∀ k, k < 7 → G k = Lf v k) : LSr g (vf v G) := by
  obtain ⟨h0, h1, h2, h3, h4, h5, h6⟩ := h
  exact ⟨h0, h1, h2, h3, h4, fun k hk => by rw [show Lf (vf v G) k = G k from rfl, hG k hk]; exact h5 k hk, h6⟩
def pfF (u : PV) (v : LV) (f k : Nat) : Int := if k < f then fdP u v (Ln v) k else Lf v k
theorem pfF_b {F : Nat} {u : PV} {v : LV} (h : LW F v) (f : Nat) : ∀ k : Nat, k < 7 → 0 ≤ pfF u v f k ∧ pfF u v f k ≤ 99 := fun k hk => by
  unfold pfF
  split
  · exact fdP_b h _ k hk
  · exact h.2.2.2.2.2.1 k hk
theorem inF_plc {o : Nat → Nat} {n f : Nat} : inF o n f = decide (plc o (f : Int) n 0 ≠ -1) := by
  rw [Bool.eq_iff_iff, inF_iff]
  constructor
  · rintro ⟨q, a, b⟩
    exact decide_eq_true (fun z => plc_no n 0 z q (by omega) (by omega) (by omega))
  · intro h
    have h := of_decide_eq_true h
    rcases plc_b (o := o) (f := (f : Int)) n 0 with q | ⟨a, b, e⟩
    · exact absurd q h
    · exact ⟨(plc o (f : Int) n 0).toNat, by omega, by omega⟩
theorem pf_no {u : PV} {v : LV} {f : Nat} (h : plc (Lo v) (f : Int) (Ln v) 0 = -1) (k : Nat) : pfF u v (f + 1) k = pfF u v f k := by
  unfold pfF
  by_cases e : k = f
  · subst e
    rw [if_pos (by omega), if_neg (by omega)]
    unfold fdP
    rw [inF_plc, decide_eq_false (fun q => q h), if_neg (by decide)]
  · by_cases e1 : k < f
    · rw [if_pos (by omega), if_pos e1]
    · rw [if_neg (by omega), if_neg e1]
theorem pf_yes {u : PV} {v : LV} {f : Nat} (h : plc (Lo v) (f : Int) (Ln v) 0 ≠ -1) (k : Nat) : pfF u v (f + 1) k = if k = f then min 99 (Lf v f + mor u v f) else pfF u v f k := by
  unfold pfF
  by_cases e : k = f
  · subst e
    rw [if_pos (by omega), if_pos rfl]
    unfold fdP
    rw [inF_plc, decide_eq_true h, if_pos rfl]
  · rw [if_neg e]
    by_cases e1 : k < f
    · rw [if_pos (by omega), if_pos e1]
    · rw [if_neg (by omega), if_neg e1]
theorem er_fi : ∀ (l : List Nat) (p f : Nat), l.Nodup → l[p]? = some f → l.eraseIdx p = l.filter (fun x => !decide (x = f))
  | [], p, f, _, h => by simp at h
  | a :: l, 0, f, hn, h => by
    have e : a = f := by simpa using h
    subst e
    rw [List.filter_cons_of_neg (by simp)]
    have hno := (List.nodup_cons.mp hn).1
    show l = _
    symm
    apply List.filter_eq_self.mpr
    intro x hx
    have : x ≠ a := fun q => hno (q ▸ hx)
    simp [this]
  | a :: l, p + 1, f, hn, h => by
    have h1 : l[p]? = some f := by simpa using h
    have hno := (List.nodup_cons.mp hn).1
    have hm : f ∈ l := List.mem_of_getElem? h1
    have ha : a ≠ f := fun q => hno (q ▸ hm)
    rw [List.filter_cons_of_pos (by simp [ha])]
    show a :: l.eraseIdx p = _
    rw [er_fi l p f (List.nodup_cons.mp hn).2 h1]
theorem Ll_mem {v : LV} {f : Nat} : f ∈ Ll v ↔ plc (Lo v) (f : Int) (Ln v) 0 ≠ -1 := by
  unfold Ll
  rw [List.mem_map]
  constructor
  · rintro ⟨q, a, b⟩ z
    exact plc_no (Ln v) 0 z q (by omega) (by have := List.mem_range.mp a; omega) (by omega)
  · intro h
    rcases plc_b (o := Lo v) (f := (f : Int)) (Ln v) 0 with q | ⟨a, b, e⟩
    · exact absurd q h
    · exact ⟨(plc (Lo v) (f : Int) (Ln v) 0).toNat, List.mem_range.mpr (by omega), by omega⟩
def kpA (u : PV) (G : Nat → Int) (f x : Nat) : Bool := !decide (x < f) || keepB u G x
theorem kp_same {u : PV} {G : Nat → Int} {f : Nat} {l : List Nat} (h : keepB u G f = true ∨ f ∉ l.filter (kpA u G f)) : l.filter (kpA u G f) = l.filter (kpA u G (f + 1)) := by
  apply List.filter_congr
  intro x hx
  unfold kpA
  by_cases e : x = f
  · subst e
    rw [decide_eq_false (by omega), decide_eq_true (by omega)]
    rcases h with h | h
    · rw [h]; rfl
    · exfalso
      exact h (List.mem_filter.mpr ⟨hx, by unfold kpA; rw [decide_eq_false (by omega)]; rfl⟩)
  · rw [show decide (x < f + 1) = decide (x < f) from decide_eq_decide.mpr (by omega)]
theorem kp_drop {u : PV} {G : Nat → Int} {f : Nat} {l : List Nat} (h : keepB u G f = false) : (l.filter (kpA u G f)).filter (fun x => !decide (x = f)) = l.filter (kpA u G (f + 1)) := by
  rw [List.filter_filter]
  apply List.filter_congr
  intro x _
  unfold kpA
  by_cases e : x = f
  · subst e
    rw [decide_eq_true rfl, decide_eq_true (show x < x + 1 by omega), h]
    rfl
  · rw [decide_eq_false e, show decide (x < f + 1) = decide (x < f) from decide_eq_decide.mpr (by omega)]
    rfl
theorem Ll_plc {v : LV} {f : Nat} (h : plc (Lo v) (f : Int) (Ln v) 0 ≠ -1) : (plc (Lo v) (f : Int) (Ln v) 0).toNat < Ln v ∧ 0 ≤ plc (Lo v) (f : Int) (Ln v) 0 ∧ (Ll v)[(plc (Lo v) (f : Int) (Ln v) 0).toNat]? = some f := by
  rcases plc_b (o := Lo v) (f := (f : Int)) (Ln v) 0 with q | ⟨a, b, e⟩
  · exact absurd q h
  · refine ⟨by omega, by omega, ?_⟩
    rw [Ll_get, if_pos (by omega)]
    congr 1
    omega
theorem lm_pass1 {X : CX} {d : Nat} {K : Mem → Prop} {u : PV} {v : LV} (hW0 : LW (Pf u) v) : ∀ (k f : Nat) (g : Mem) (y : Option VV), f + k = Pf u → MB g u (vf v (pfF u v f)) → (∀ (g' : Mem) (y : Option VV), MB g' u (vf v (pfF u v (Pf u))) → (∀ j, j ≠ 170 → g' j = g j) → AJ X (d + 3) mX11_passes 0 0 (QV Z0 K) 0 0 89 [some (vr 166), some (vi (outN u v : Int)), some (vi (Pf u : Int)), y] [] Z0 g') → AJ X (d + 3) mX11_passes 0 0 (QV Z0 K) 0 0 7 [some (vr 166), some (vi (outN u v : Int)), some (vi (f : Int)), y] [] Z0 g := by
  intro k
  induction k with
  | zero =>
    intro f g y hf1 hB h
    obtain ⟨hQ, hU, hC, hW⟩ := id hB
    obtain ⟨hy, hi, hc, ht, ho, hf, hw_⟩ := id hC
    obtain ⟨w0, w1, w2, w3, w4, w5, w6, w7⟩ := id hW
    obtain ⟨p6, p7, p8, p9, p10, pk, pg, px, py⟩ := id hQ
    obtain ⟨u0, u1, u2, u3, u4, u5, u6, u7⟩ := id hU
    have e : Pf u = f := by omega
    rw [e] at h
    refine r_iload_n (pc' := 8) dX11_passes_7 rfl rfl ?_
    refine r_aload_n (pc' := 9) dX11_passes_8 rfl rfl ?_
    refine r_getr (pc' := 12) dX11_passes_9 rfl fX11_13 z166 rfl ?_
    refine r_iconst (pc' := 13) dX11_passes_12 rfl ?_
    refine r_iaload (pc' := 14) dX11_passes_13 rfl z168 (by decide) (by omega) (by omega) p8 ?_
    refine r_icmp_ge (tgt := 89) (pc' := 17) dX11_passes_14 rfl rfl (by omega) (by omega) (fun c14 => ?_) (fun c14 => ?_)
    · exact h g _ hB (fun _ _ => rfl)
    · exact absurd c14 (by omega)
  | succ k ih =>
    intro f g y hf1 hB h
    obtain ⟨hQ, hU, hC, hW⟩ := id hB
    obtain ⟨hy, hi, hc, ht, ho, hf, hw_⟩ := id hC
    obtain ⟨w0, w1, w2, w3, w4, w5, w6, w7⟩ := id hW
    obtain ⟨p6, p7, p8, p9, p10, pk, pg, px, py⟩ := id hQ
    obtain ⟨u0, u1, u2, u3, u4, u5, u6, u7⟩ := id hU
    have w1' : Ln v ≤ 7 := w1
    have hb := plc_b (o := Lo v) (f := (f : Int)) (Ln v) 0
    have hk1 := pk f (by omega)
    have hk2 := u5 f (by omega)
    have hf2 : g 170 (11 + (f : Int)) = Lf v f := by have q := hf f (by omega); rw [show Lf (vf v (pfF u v f)) f = Lf v f by show pfF u v f f = _; unfold pfF; rw [if_neg (by omega)]] at q; exact q
    have hf3 := hW0.2.2.2.2.2.1 f (by omega)
    refine r_iload_n (pc' := 8) dX11_passes_7 rfl rfl ?_
    refine r_aload_n (pc' := 9) dX11_passes_8 rfl rfl ?_
    refine r_getr (pc' := 12) dX11_passes_9 rfl fX11_13 z166 rfl ?_
    refine r_iconst (pc' := 13) dX11_passes_12 rfl ?_
    refine r_iaload (pc' := 14) dX11_passes_13 rfl z168 (by decide) (by omega) (by omega) p8 ?_
    refine r_icmp_ge (tgt := 89) (pc' := 17) dX11_passes_14 rfl rfl (by omega) (by omega) (fun c14 => ?_) (fun c14 => ?_)
    · exact absurd c14 (by omega)
    · refine r_aload_n (pc' := 18) dX11_passes_17 rfl rfl ?_
      refine r_iload_n (pc' := 19) dX11_passes_18 rfl rfl ?_
      refine r_vi1 (pc' := 22) dX11_passes_19 rfl qX11_placeOf lX11_157 z166 rfl rfl rfl rfl (Nat.zero_le _) (Nat.zero_le _) (m_placeOf hB (f : Int) (by omega) ?_)
      refine r_iconst (pc' := 23) dX11_passes_22 rfl ?_
      refine r_icmp_eq (tgt := 83) (pc' := 26) dX11_passes_23 rfl rfl (by have := hb; show R32 (plc (Lo v) (f : Int) (Ln v) 0); omega) (by decide) (fun c23 => ?_) (fun c23 => ?_)
      · have cno : plc (Lo v) (f : Int) (Ln v) 0 = -1 := c23
        refine r_iinc (pc' := 86) dX11_passes_83 rfl rfl rfl ?_
        refine r_goto (tgt := 7) dX11_passes_86 rfl ?_
        first
          | (have cn := cno
             exact ih (f + 1) g _ (by omega) ⟨hQ, hU, hC.fc (v := vf v (pfF u v f)) (G := pfF u v (f + 1)) (fun q _ => pf_no cno q), LW_vf hW0 (pfF_b hW0 _)⟩ h)
          | (have ho1 := out_bit (u := u) (v := v) cyes
             have em : min 99 (Lf v f + mor u v f) = 99 := by
               unfold mor
               rw [← ho1]
               first
                 | (rw [b01_eq c40, Bool.false_and, if_neg (by decide)]; omega)
                 | (rw [b01_ne c40, Bool.true_and, decide_eq_true (by omega), if_pos rfl]; omega)
                 | (rw [b01_ne c40, Bool.true_and, decide_eq_false (by omega), if_neg (by decide)]; omega)
             exact ih (f + 1) _ _ (by omega) ⟨hQ.fr (mu_ne (by decide)), hU, hC.fd (x := 99) w1 (f := f) (by omega) rfl (fun q _ => by rw [pf_yes (u := u) cyes q, em]; rfl), LW_vf hW0 (pfF_b hW0 _)⟩ (fun g' y a b => h g' y a (fun j hj => (b j hj).trans (mu_ne hj))))
          | (have ho1 := out_bit (u := u) (v := v) cyes
             have em : min 99 (Lf v f + mor u v f) = (Lf v f + 1) := by
               unfold mor
               rw [← ho1]
               first
                 | (rw [b01_eq c40, Bool.false_and, if_neg (by decide)]; omega)
                 | (rw [b01_ne c40, Bool.true_and, decide_eq_true (by omega), if_pos rfl]; omega)
                 | (rw [b01_ne c40, Bool.true_and, decide_eq_false (by omega), if_neg (by decide)]; omega)
             exact ih (f + 1) _ _ (by omega) ⟨hQ.fr (mu_ne (by decide)), hU, hC.fd (x := (Lf v f + 1)) w1 (f := f) (by omega) rfl (fun q _ => by rw [pf_yes (u := u) cyes q, em]; rfl), LW_vf hW0 (pfF_b hW0 _)⟩ (fun g' y a b => h g' y a (fun j hj => (b j hj).trans (mu_ne hj))))
          | (have ho1 := out_bit (u := u) (v := v) cyes
             have em : min 99 (Lf v f + mor u v f) = (Lf v f + 2) := by
               unfold mor
               rw [← ho1]
               first
                 | (rw [b01_eq c40, Bool.false_and, if_neg (by decide)]; omega)
                 | (rw [b01_ne c40, Bool.true_and, decide_eq_true (by omega), if_pos rfl]; omega)
                 | (rw [b01_ne c40, Bool.true_and, decide_eq_false (by omega), if_neg (by decide)]; omega)
             exact ih (f + 1) _ _ (by omega) ⟨hQ.fr (mu_ne (by decide)), hU, hC.fd (x := (Lf v f + 2)) w1 (f := f) (by omega) rfl (fun q _ => by rw [pf_yes (u := u) cyes q, em]; rfl), LW_vf hW0 (pfF_b hW0 _)⟩ (fun g' y a b => h g' y a (fun j hj => (b j hj).trans (mu_ne hj))))
      · have cyes : plc (Lo v) (f : Int) (Ln v) 0 ≠ -1 := c23
        refine r_aload_n (pc' := 27) dX11_passes_26 rfl rfl ?_
        refine r_getr (pc' := 30) dX11_passes_27 rfl fX11_19 z166 rfl ?_
        refine r_bipush (pc' := 32) dX11_passes_30 rfl (by decide) ?_
        refine r_iload_n (pc' := 33) dX11_passes_32 rfl rfl ?_
        refine r_iadd (pc' := 34) dX11_passes_33 rfl ?_
        refine r_iaload (pc' := 35) (x := Lf v f) dX11_passes_34 rfl z170 (by decide) (by omega) (by omega) hf2 ?_
        refine r_iload_n (pc' := 36) dX11_passes_35 rfl rfl ?_
        refine r_iload_n (pc' := 37) dX11_passes_36 rfl rfl ?_
        refine r_si2 (pc' := 40) dX11_passes_37 rfl qX11_has lX11_118 rfl rfl rfl (Nat.zero_le _) (Nat.zero_le _) (m_has (outN_lt hW0) (by omega) ?_)
        refine r_if_eq (tgt := 59) (pc' := 43) dX11_passes_40 rfl rfl (b01_R _) (fun c40 => ?_) (fun c40 => ?_)
        · refine r_iconst (pc' := 60) dX11_passes_59 rfl ?_
          refine r_iadd (pc' := 61) dX11_passes_60 rfl ?_
          refine r_istore_n (pc' := 62) dX11_passes_61 rfl rfl ?_
          refine r_aload_n (pc' := 63) dX11_passes_62 rfl rfl ?_
          refine r_getr (pc' := 66) dX11_passes_63 rfl fX11_19 z166 rfl ?_
          refine r_bipush (pc' := 68) dX11_passes_66 rfl (by decide) ?_
          refine r_iload_n (pc' := 69) dX11_passes_68 rfl rfl ?_
          refine r_iadd (pc' := 70) dX11_passes_69 rfl ?_
          refine r_iload_n (pc' := 71) dX11_passes_70 rfl rfl ?_
          refine r_bipush (pc' := 73) dX11_passes_71 rfl (by decide) ?_
          refine r_icmp_le (tgt := 81) (pc' := 76) dX11_passes_73 rfl rfl (by omega) (by omega) (fun c73 => ?_) (fun c73 => ?_)
          · refine r_iload_n (pc' := 82) dX11_passes_81 rfl rfl ?_
            refine r_iastore (pc' := 83) dX11_passes_82 rfl z170 (by decide) (by omega) (by omega) rfl ?_
            refine r_iinc (pc' := 86) dX11_passes_83 rfl rfl rfl ?_
            refine r_goto (tgt := 7) dX11_passes_86 rfl ?_
            first
              | (have cn := cno
                 exact ih (f + 1) g _ (by omega) ⟨hQ, hU, hC.fc (v := vf v (pfF u v f)) (G := pfF u v (f + 1)) (fun q _ => pf_no cno q), LW_vf hW0 (pfF_b hW0 _)⟩ h)
              | (have ho1 := out_bit (u := u) (v := v) cyes
                 have em : min 99 (Lf v f + mor u v f) = 99 := by
                   unfold mor
                   rw [← ho1]
                   first
                     | (rw [b01_eq c40, Bool.false_and, if_neg (by decide)]; omega)
                     | (rw [b01_ne c40, Bool.true_and, decide_eq_true (by omega), if_pos rfl]; omega)
                     | (rw [b01_ne c40, Bool.true_and, decide_eq_false (by omega), if_neg (by decide)]; omega)
                 exact ih (f + 1) _ _ (by omega) ⟨hQ.fr (mu_ne (by decide)), hU, hC.fd (x := 99) w1 (f := f) (by omega) rfl (fun q _ => by rw [pf_yes (u := u) cyes q, em]; rfl), LW_vf hW0 (pfF_b hW0 _)⟩ (fun g' y a b => h g' y a (fun j hj => (b j hj).trans (mu_ne hj))))
              | (have ho1 := out_bit (u := u) (v := v) cyes
                 have em : min 99 (Lf v f + mor u v f) = (Lf v f + 1) := by
                   unfold mor
                   rw [← ho1]
                   first
                     | (rw [b01_eq c40, Bool.false_and, if_neg (by decide)]; omega)
                     | (rw [b01_ne c40, Bool.true_and, decide_eq_true (by omega), if_pos rfl]; omega)
                     | (rw [b01_ne c40, Bool.true_and, decide_eq_false (by omega), if_neg (by decide)]; omega)
                 exact ih (f + 1) _ _ (by omega) ⟨hQ.fr (mu_ne (by decide)), hU, hC.fd (x := (Lf v f + 1)) w1 (f := f) (by omega) rfl (fun q _ => by rw [pf_yes (u := u) cyes q, em]; rfl), LW_vf hW0 (pfF_b hW0 _)⟩ (fun g' y a b => h g' y a (fun j hj => (b j hj).trans (mu_ne hj))))
              | (have ho1 := out_bit (u := u) (v := v) cyes
                 have em : min 99 (Lf v f + mor u v f) = (Lf v f + 2) := by
                   unfold mor
                   rw [← ho1]
                   first
                     | (rw [b01_eq c40, Bool.false_and, if_neg (by decide)]; omega)
                     | (rw [b01_ne c40, Bool.true_and, decide_eq_true (by omega), if_pos rfl]; omega)
                     | (rw [b01_ne c40, Bool.true_and, decide_eq_false (by omega), if_neg (by decide)]; omega)
                 exact ih (f + 1) _ _ (by omega) ⟨hQ.fr (mu_ne (by decide)), hU, hC.fd (x := (Lf v f + 2)) w1 (f := f) (by omega) rfl (fun q _ => by rw [pf_yes (u := u) cyes q, em]; rfl), LW_vf hW0 (pfF_b hW0 _)⟩ (fun g' y a b => h g' y a (fun j hj => (b j hj).trans (mu_ne hj))))
          · refine r_bipush (pc' := 78) dX11_passes_76 rfl (by decide) ?_
            refine r_goto (tgt := 82) dX11_passes_78 rfl ?_
            refine r_iastore (pc' := 83) dX11_passes_82 rfl z170 (by decide) (by omega) (by omega) rfl ?_
            refine r_iinc (pc' := 86) dX11_passes_83 rfl rfl rfl ?_
            refine r_goto (tgt := 7) dX11_passes_86 rfl ?_
            first
              | (have cn := cno
                 exact ih (f + 1) g _ (by omega) ⟨hQ, hU, hC.fc (v := vf v (pfF u v f)) (G := pfF u v (f + 1)) (fun q _ => pf_no cno q), LW_vf hW0 (pfF_b hW0 _)⟩ h)
              | (have ho1 := out_bit (u := u) (v := v) cyes
                 have em : min 99 (Lf v f + mor u v f) = 99 := by
                   unfold mor
                   rw [← ho1]
                   first
                     | (rw [b01_eq c40, Bool.false_and, if_neg (by decide)]; omega)
                     | (rw [b01_ne c40, Bool.true_and, decide_eq_true (by omega), if_pos rfl]; omega)
                     | (rw [b01_ne c40, Bool.true_and, decide_eq_false (by omega), if_neg (by decide)]; omega)
                 exact ih (f + 1) _ _ (by omega) ⟨hQ.fr (mu_ne (by decide)), hU, hC.fd (x := 99) w1 (f := f) (by omega) rfl (fun q _ => by rw [pf_yes (u := u) cyes q, em]; rfl), LW_vf hW0 (pfF_b hW0 _)⟩ (fun g' y a b => h g' y a (fun j hj => (b j hj).trans (mu_ne hj))))
              | (have ho1 := out_bit (u := u) (v := v) cyes
                 have em : min 99 (Lf v f + mor u v f) = (Lf v f + 1) := by
                   unfold mor
                   rw [← ho1]
                   first
                     | (rw [b01_eq c40, Bool.false_and, if_neg (by decide)]; omega)
                     | (rw [b01_ne c40, Bool.true_and, decide_eq_true (by omega), if_pos rfl]; omega)
                     | (rw [b01_ne c40, Bool.true_and, decide_eq_false (by omega), if_neg (by decide)]; omega)
                 exact ih (f + 1) _ _ (by omega) ⟨hQ.fr (mu_ne (by decide)), hU, hC.fd (x := (Lf v f + 1)) w1 (f := f) (by omega) rfl (fun q _ => by rw [pf_yes (u := u) cyes q, em]; rfl), LW_vf hW0 (pfF_b hW0 _)⟩ (fun g' y a b => h g' y a (fun j hj => (b j hj).trans (mu_ne hj))))
              | (have ho1 := out_bit (u := u) (v := v) cyes
                 have em : min 99 (Lf v f + mor u v f) = (Lf v f + 2) := by
                   unfold mor
                   rw [← ho1]
                   first
                     | (rw [b01_eq c40, Bool.false_and, if_neg (by decide)]; omega)
                     | (rw [b01_ne c40, Bool.true_and, decide_eq_true (by omega), if_pos rfl]; omega)
                     | (rw [b01_ne c40, Bool.true_and, decide_eq_false (by omega), if_neg (by decide)]; omega)
                 exact ih (f + 1) _ _ (by omega) ⟨hQ.fr (mu_ne (by decide)), hU, hC.fd (x := (Lf v f + 2)) w1 (f := f) (by omega) rfl (fun q _ => by rw [pf_yes (u := u) cyes q, em]; rfl), LW_vf hW0 (pfF_b hW0 _)⟩ (fun g' y a b => h g' y a (fun j hj => (b j hj).trans (mu_ne hj))))
        · refine r_aload_n (pc' := 44) dX11_passes_43 rfl rfl ?_
          refine r_getr (pc' := 47) dX11_passes_44 rfl fX11_13 z166 rfl ?_
          refine r_iconst (pc' := 48) dX11_passes_47 rfl ?_
          refine r_iload_n (pc' := 49) dX11_passes_48 rfl rfl ?_
          refine r_iadd (pc' := 50) dX11_passes_49 rfl ?_
          refine r_iaload (pc' := 51) dX11_passes_50 rfl z168 (by decide) (by omega) (by omega) hk1 ?_
          refine r_iconst (pc' := 52) dX11_passes_51 rfl ?_
          refine r_icmp_eq (tgt := 59) (pc' := 55) dX11_passes_52 rfl rfl (by omega) (by omega) (fun c52 => ?_) (fun c52 => ?_)
          · refine r_iconst (pc' := 60) dX11_passes_59 rfl ?_
            refine r_iadd (pc' := 61) dX11_passes_60 rfl ?_
            refine r_istore_n (pc' := 62) dX11_passes_61 rfl rfl ?_
            refine r_aload_n (pc' := 63) dX11_passes_62 rfl rfl ?_
            refine r_getr (pc' := 66) dX11_passes_63 rfl fX11_19 z166 rfl ?_
            refine r_bipush (pc' := 68) dX11_passes_66 rfl (by decide) ?_
            refine r_iload_n (pc' := 69) dX11_passes_68 rfl rfl ?_
            refine r_iadd (pc' := 70) dX11_passes_69 rfl ?_
            refine r_iload_n (pc' := 71) dX11_passes_70 rfl rfl ?_
            refine r_bipush (pc' := 73) dX11_passes_71 rfl (by decide) ?_
            refine r_icmp_le (tgt := 81) (pc' := 76) dX11_passes_73 rfl rfl (by omega) (by omega) (fun c73 => ?_) (fun c73 => ?_)
            · refine r_iload_n (pc' := 82) dX11_passes_81 rfl rfl ?_
              refine r_iastore (pc' := 83) dX11_passes_82 rfl z170 (by decide) (by omega) (by omega) rfl ?_
              refine r_iinc (pc' := 86) dX11_passes_83 rfl rfl rfl ?_
              refine r_goto (tgt := 7) dX11_passes_86 rfl ?_
              first
                | (have cn := cno
                   exact ih (f + 1) g _ (by omega) ⟨hQ, hU, hC.fc (v := vf v (pfF u v f)) (G := pfF u v (f + 1)) (fun q _ => pf_no cno q), LW_vf hW0 (pfF_b hW0 _)⟩ h)
                | (have ho1 := out_bit (u := u) (v := v) cyes
                   have em : min 99 (Lf v f + mor u v f) = 99 := by
                     unfold mor
                     rw [← ho1]
                     first
                       | (rw [b01_eq c40, Bool.false_and, if_neg (by decide)]; omega)
                       | (rw [b01_ne c40, Bool.true_and, decide_eq_true (by omega), if_pos rfl]; omega)
                       | (rw [b01_ne c40, Bool.true_and, decide_eq_false (by omega), if_neg (by decide)]; omega)
                   exact ih (f + 1) _ _ (by omega) ⟨hQ.fr (mu_ne (by decide)), hU, hC.fd (x := 99) w1 (f := f) (by omega) rfl (fun q _ => by rw [pf_yes (u := u) cyes q, em]; rfl), LW_vf hW0 (pfF_b hW0 _)⟩ (fun g' y a b => h g' y a (fun j hj => (b j hj).trans (mu_ne hj))))
                | (have ho1 := out_bit (u := u) (v := v) cyes
                   have em : min 99 (Lf v f + mor u v f) = (Lf v f + 1) := by
                     unfold mor
                     rw [← ho1]
                     first
                       | (rw [b01_eq c40, Bool.false_and, if_neg (by decide)]; omega)
                       | (rw [b01_ne c40, Bool.true_and, decide_eq_true (by omega), if_pos rfl]; omega)
                       | (rw [b01_ne c40, Bool.true_and, decide_eq_false (by omega), if_neg (by decide)]; omega)
                   exact ih (f + 1) _ _ (by omega) ⟨hQ.fr (mu_ne (by decide)), hU, hC.fd (x := (Lf v f + 1)) w1 (f := f) (by omega) rfl (fun q _ => by rw [pf_yes (u := u) cyes q, em]; rfl), LW_vf hW0 (pfF_b hW0 _)⟩ (fun g' y a b => h g' y a (fun j hj => (b j hj).trans (mu_ne hj))))
                | (have ho1 := out_bit (u := u) (v := v) cyes
                   have em : min 99 (Lf v f + mor u v f) = (Lf v f + 2) := by
                     unfold mor
                     rw [← ho1]
                     first
                       | (rw [b01_eq c40, Bool.false_and, if_neg (by decide)]; omega)
                       | (rw [b01_ne c40, Bool.true_and, decide_eq_true (by omega), if_pos rfl]; omega)
                       | (rw [b01_ne c40, Bool.true_and, decide_eq_false (by omega), if_neg (by decide)]; omega)
                   exact ih (f + 1) _ _ (by omega) ⟨hQ.fr (mu_ne (by decide)), hU, hC.fd (x := (Lf v f + 2)) w1 (f := f) (by omega) rfl (fun q _ => by rw [pf_yes (u := u) cyes q, em]; rfl), LW_vf hW0 (pfF_b hW0 _)⟩ (fun g' y a b => h g' y a (fun j hj => (b j hj).trans (mu_ne hj))))
            · refine r_bipush (pc' := 78) dX11_passes_76 rfl (by decide) ?_
              refine r_goto (tgt := 82) dX11_passes_78 rfl ?_
              refine r_iastore (pc' := 83) dX11_passes_82 rfl z170 (by decide) (by omega) (by omega) rfl ?_
              refine r_iinc (pc' := 86) dX11_passes_83 rfl rfl rfl ?_
              refine r_goto (tgt := 7) dX11_passes_86 rfl ?_
              first
                | (have cn := cno
                   exact ih (f + 1) g _ (by omega) ⟨hQ, hU, hC.fc (v := vf v (pfF u v f)) (G := pfF u v (f + 1)) (fun q _ => pf_no cno q), LW_vf hW0 (pfF_b hW0 _)⟩ h)
                | (have ho1 := out_bit (u := u) (v := v) cyes
                   have em : min 99 (Lf v f + mor u v f) = 99 := by
                     unfold mor
                     rw [← ho1]
                     first
                       | (rw [b01_eq c40, Bool.false_and, if_neg (by decide)]; omega)
                       | (rw [b01_ne c40, Bool.true_and, decide_eq_true (by omega), if_pos rfl]; omega)
                       | (rw [b01_ne c40, Bool.true_and, decide_eq_false (by omega), if_neg (by decide)]; omega)
                   exact ih (f + 1) _ _ (by omega) ⟨hQ.fr (mu_ne (by decide)), hU, hC.fd (x := 99) w1 (f := f) (by omega) rfl (fun q _ => by rw [pf_yes (u := u) cyes q, em]; rfl), LW_vf hW0 (pfF_b hW0 _)⟩ (fun g' y a b => h g' y a (fun j hj => (b j hj).trans (mu_ne hj))))
                | (have ho1 := out_bit (u := u) (v := v) cyes
                   have em : min 99 (Lf v f + mor u v f) = (Lf v f + 1) := by
                     unfold mor
                     rw [← ho1]
                     first
                       | (rw [b01_eq c40, Bool.false_and, if_neg (by decide)]; omega)
                       | (rw [b01_ne c40, Bool.true_and, decide_eq_true (by omega), if_pos rfl]; omega)
                       | (rw [b01_ne c40, Bool.true_and, decide_eq_false (by omega), if_neg (by decide)]; omega)
                   exact ih (f + 1) _ _ (by omega) ⟨hQ.fr (mu_ne (by decide)), hU, hC.fd (x := (Lf v f + 1)) w1 (f := f) (by omega) rfl (fun q _ => by rw [pf_yes (u := u) cyes q, em]; rfl), LW_vf hW0 (pfF_b hW0 _)⟩ (fun g' y a b => h g' y a (fun j hj => (b j hj).trans (mu_ne hj))))
                | (have ho1 := out_bit (u := u) (v := v) cyes
                   have em : min 99 (Lf v f + mor u v f) = (Lf v f + 2) := by
                     unfold mor
                     rw [← ho1]
                     first
                       | (rw [b01_eq c40, Bool.false_and, if_neg (by decide)]; omega)
                       | (rw [b01_ne c40, Bool.true_and, decide_eq_true (by omega), if_pos rfl]; omega)
                       | (rw [b01_ne c40, Bool.true_and, decide_eq_false (by omega), if_neg (by decide)]; omega)
                   exact ih (f + 1) _ _ (by omega) ⟨hQ.fr (mu_ne (by decide)), hU, hC.fd (x := (Lf v f + 2)) w1 (f := f) (by omega) rfl (fun q _ => by rw [pf_yes (u := u) cyes q, em]; rfl), LW_vf hW0 (pfF_b hW0 _)⟩ (fun g' y a b => h g' y a (fun j hj => (b j hj).trans (mu_ne hj))))
          · refine r_iconst (pc' := 56) dX11_passes_55 rfl ?_
            refine r_goto (tgt := 60) dX11_passes_56 rfl ?_
            refine r_iadd (pc' := 61) dX11_passes_60 rfl ?_
            refine r_istore_n (pc' := 62) dX11_passes_61 rfl rfl ?_
            refine r_aload_n (pc' := 63) dX11_passes_62 rfl rfl ?_
            refine r_getr (pc' := 66) dX11_passes_63 rfl fX11_19 z166 rfl ?_
            refine r_bipush (pc' := 68) dX11_passes_66 rfl (by decide) ?_
            refine r_iload_n (pc' := 69) dX11_passes_68 rfl rfl ?_
            refine r_iadd (pc' := 70) dX11_passes_69 rfl ?_
            refine r_iload_n (pc' := 71) dX11_passes_70 rfl rfl ?_
            refine r_bipush (pc' := 73) dX11_passes_71 rfl (by decide) ?_
            refine r_icmp_le (tgt := 81) (pc' := 76) dX11_passes_73 rfl rfl (by omega) (by omega) (fun c73 => ?_) (fun c73 => ?_)
            · refine r_iload_n (pc' := 82) dX11_passes_81 rfl rfl ?_
              refine r_iastore (pc' := 83) dX11_passes_82 rfl z170 (by decide) (by omega) (by omega) rfl ?_
              refine r_iinc (pc' := 86) dX11_passes_83 rfl rfl rfl ?_
              refine r_goto (tgt := 7) dX11_passes_86 rfl ?_
              first
                | (have cn := cno
                   exact ih (f + 1) g _ (by omega) ⟨hQ, hU, hC.fc (v := vf v (pfF u v f)) (G := pfF u v (f + 1)) (fun q _ => pf_no cno q), LW_vf hW0 (pfF_b hW0 _)⟩ h)
                | (have ho1 := out_bit (u := u) (v := v) cyes
                   have em : min 99 (Lf v f + mor u v f) = 99 := by
                     unfold mor
                     rw [← ho1]
                     first
                       | (rw [b01_eq c40, Bool.false_and, if_neg (by decide)]; omega)
                       | (rw [b01_ne c40, Bool.true_and, decide_eq_true (by omega), if_pos rfl]; omega)
                       | (rw [b01_ne c40, Bool.true_and, decide_eq_false (by omega), if_neg (by decide)]; omega)
                   exact ih (f + 1) _ _ (by omega) ⟨hQ.fr (mu_ne (by decide)), hU, hC.fd (x := 99) w1 (f := f) (by omega) rfl (fun q _ => by rw [pf_yes (u := u) cyes q, em]; rfl), LW_vf hW0 (pfF_b hW0 _)⟩ (fun g' y a b => h g' y a (fun j hj => (b j hj).trans (mu_ne hj))))
                | (have ho1 := out_bit (u := u) (v := v) cyes
                   have em : min 99 (Lf v f + mor u v f) = (Lf v f + 1) := by
                     unfold mor
                     rw [← ho1]
                     first
                       | (rw [b01_eq c40, Bool.false_and, if_neg (by decide)]; omega)
                       | (rw [b01_ne c40, Bool.true_and, decide_eq_true (by omega), if_pos rfl]; omega)
                       | (rw [b01_ne c40, Bool.true_and, decide_eq_false (by omega), if_neg (by decide)]; omega)
                   exact ih (f + 1) _ _ (by omega) ⟨hQ.fr (mu_ne (by decide)), hU, hC.fd (x := (Lf v f + 1)) w1 (f := f) (by omega) rfl (fun q _ => by rw [pf_yes (u := u) cyes q, em]; rfl), LW_vf hW0 (pfF_b hW0 _)⟩ (fun g' y a b => h g' y a (fun j hj => (b j hj).trans (mu_ne hj))))
                | (have ho1 := out_bit (u := u) (v := v) cyes
                   have em : min 99 (Lf v f + mor u v f) = (Lf v f + 2) := by
                     unfold mor
                     rw [← ho1]
                     first
                       | (rw [b01_eq c40, Bool.false_and, if_neg (by decide)]; omega)
                       | (rw [b01_ne c40, Bool.true_and, decide_eq_true (by omega), if_pos rfl]; omega)
                       | (rw [b01_ne c40, Bool.true_and, decide_eq_false (by omega), if_neg (by decide)]; omega)
                   exact ih (f + 1) _ _ (by omega) ⟨hQ.fr (mu_ne (by decide)), hU, hC.fd (x := (Lf v f + 2)) w1 (f := f) (by omega) rfl (fun q _ => by rw [pf_yes (u := u) cyes q, em]; rfl), LW_vf hW0 (pfF_b hW0 _)⟩ (fun g' y a b => h g' y a (fun j hj => (b j hj).trans (mu_ne hj))))
            · refine r_bipush (pc' := 78) dX11_passes_76 rfl (by decide) ?_
              refine r_goto (tgt := 82) dX11_passes_78 rfl ?_
              refine r_iastore (pc' := 83) dX11_passes_82 rfl z170 (by decide) (by omega) (by omega) rfl ?_
              refine r_iinc (pc' := 86) dX11_passes_83 rfl rfl rfl ?_
              refine r_goto (tgt := 7) dX11_passes_86 rfl ?_
              first
                | (have cn := cno
                   exact ih (f + 1) g _ (by omega) ⟨hQ, hU, hC.fc (v := vf v (pfF u v f)) (G := pfF u v (f + 1)) (fun q _ => pf_no cno q), LW_vf hW0 (pfF_b hW0 _)⟩ h)
                | (have ho1 := out_bit (u := u) (v := v) cyes
                   have em : min 99 (Lf v f + mor u v f) = 99 := by
                     unfold mor
                     rw [← ho1]
                     first
                       | (rw [b01_eq c40, Bool.false_and, if_neg (by decide)]; omega)
                       | (rw [b01_ne c40, Bool.true_and, decide_eq_true (by omega), if_pos rfl]; omega)
                       | (rw [b01_ne c40, Bool.true_and, decide_eq_false (by omega), if_neg (by decide)]; omega)
                   exact ih (f + 1) _ _ (by omega) ⟨hQ.fr (mu_ne (by decide)), hU, hC.fd (x := 99) w1 (f := f) (by omega) rfl (fun q _ => by rw [pf_yes (u := u) cyes q, em]; rfl), LW_vf hW0 (pfF_b hW0 _)⟩ (fun g' y a b => h g' y a (fun j hj => (b j hj).trans (mu_ne hj))))
                | (have ho1 := out_bit (u := u) (v := v) cyes
                   have em : min 99 (Lf v f + mor u v f) = (Lf v f + 1) := by
                     unfold mor
                     rw [← ho1]
                     first
                       | (rw [b01_eq c40, Bool.false_and, if_neg (by decide)]; omega)
                       | (rw [b01_ne c40, Bool.true_and, decide_eq_true (by omega), if_pos rfl]; omega)
                       | (rw [b01_ne c40, Bool.true_and, decide_eq_false (by omega), if_neg (by decide)]; omega)
                   exact ih (f + 1) _ _ (by omega) ⟨hQ.fr (mu_ne (by decide)), hU, hC.fd (x := (Lf v f + 1)) w1 (f := f) (by omega) rfl (fun q _ => by rw [pf_yes (u := u) cyes q, em]; rfl), LW_vf hW0 (pfF_b hW0 _)⟩ (fun g' y a b => h g' y a (fun j hj => (b j hj).trans (mu_ne hj))))
                | (have ho1 := out_bit (u := u) (v := v) cyes
                   have em : min 99 (Lf v f + mor u v f) = (Lf v f + 2) := by
                     unfold mor
                     rw [← ho1]
                     first
                       | (rw [b01_eq c40, Bool.false_and, if_neg (by decide)]; omega)
                       | (rw [b01_ne c40, Bool.true_and, decide_eq_true (by omega), if_pos rfl]; omega)
                       | (rw [b01_ne c40, Bool.true_and, decide_eq_false (by omega), if_neg (by decide)]; omega)
                   exact ih (f + 1) _ _ (by omega) ⟨hQ.fr (mu_ne (by decide)), hU, hC.fd (x := (Lf v f + 2)) w1 (f := f) (by omega) rfl (fun q _ => by rw [pf_yes (u := u) cyes q, em]; rfl), LW_vf hW0 (pfF_b hW0 _)⟩ (fun g' y a b => h g' y a (fun j hj => (b j hj).trans (mu_ne hj))))
