theorem lm_reach {X : CX} {d : Nat} {g : Mem} {K : Int → Mem → Prop} {u : PV} {v : LV} (hB : MB g u v)  {y : Nat} (hy1 : y < Pq u) : ∀ (k p acc : Nat), p + k = Ln v → acc < 128 → K ((orF (fun p => decide (Pa u y ≤ p + Pr u y) && decide (p ≤ Pa u y + Pr u y)) (fun p => 2 ^ Lo v p) k p acc : Nat) : Int) g → AJ X (d + 1) mX11_reached 0 0 (QI Z0 K) 0 0 32 [some (vr 166), some (vi (y : Int)), some (vi (Pa u y : Int)), some (vi (Pr u y : Int)), some (vi (acc : Int)), some (vi (p : Int))] [] Z0 g := by
  obtain ⟨hQ, hU, hC, hW⟩ := id hB
  obtain ⟨hy, hi, hc, ht, ho, hf, hw_⟩ := id hC
  obtain ⟨w0, w1, w2, w3, w4, w5, w6, w7⟩ := id hW
  obtain ⟨p6, p7, p8, p9, p10, pk, pg, px, py⟩ := id hQ
  obtain ⟨u0, u1, u2, u3, u4, u5, u6, u7⟩ := id hU
  intro k
  induction k with
  | zero =>
    intro p acc hp ha h
    refine r_iload (pc' := 34) dX11_reached_32 rfl rfl ?_
    refine r_aload_n (pc' := 35) dX11_reached_34 rfl rfl ?_
    refine r_getr (pc' := 38) dX11_reached_35 rfl fX11_19 z166 rfl ?_
    refine r_iconst (pc' := 39) dX11_reached_38 rfl ?_
    refine r_iaload (pc' := 40) dX11_reached_39 rfl z170 (by decide) (by omega) (by omega) hc ?_
    refine r_icmp_ge (tgt := 83) (pc' := 43) dX11_reached_40 rfl rfl (by omega) (by omega) (fun c40 => ?_) (fun c40 => ?_)
    · refine r_iload (pc' := 85) dX11_reached_83 rfl rfl ?_
      refine r_reti dX11_reached_85 rfl (Or.inl rfl) ?_
      exact h
    · exact absurd c40 (by omega)
  | succ k ih =>
    intro p acc hp ha h
    have q1 := ho p (by omega)
    have q2 := w2 p (by omega)
    have q3 := u7 y hy1
    have e1 := shl1 (k := Lo v p) (by omega)
    have e2 := or_n ha (pow7 (show Lo v p < 7 by omega))
    have e3 := or_n ha (show 0 < 128 by decide)
    have e4 := or128 ha (pow7 (show Lo v p < 7 by omega))
    unfold orF at h
    refine r_iload (pc' := 34) dX11_reached_32 rfl rfl ?_
    refine r_aload_n (pc' := 35) dX11_reached_34 rfl rfl ?_
    refine r_getr (pc' := 38) dX11_reached_35 rfl fX11_19 z166 rfl ?_
    refine r_iconst (pc' := 39) dX11_reached_38 rfl ?_
    refine r_iaload (pc' := 40) dX11_reached_39 rfl z170 (by decide) (by omega) (by omega) hc ?_
    refine r_icmp_ge (tgt := 83) (pc' := 43) dX11_reached_40 rfl rfl (by omega) (by omega) (fun c40 => ?_) (fun c40 => ?_)
    · exact absurd c40 (by omega)
    · refine r_iload (pc' := 45) dX11_reached_43 rfl rfl ?_
      refine r_iload (pc' := 47) dX11_reached_45 rfl rfl ?_
      refine r_iload_n (pc' := 48) dX11_reached_47 rfl rfl ?_
      refine r_iload_n (pc' := 49) dX11_reached_48 rfl rfl ?_
      refine r_isub (pc' := 50) dX11_reached_49 rfl ?_
      refine r_iload_n (pc' := 51) dX11_reached_50 rfl rfl ?_
      refine r_iload_n (pc' := 52) dX11_reached_51 rfl rfl ?_
      refine r_iadd (pc' := 53) dX11_reached_52 rfl ?_
      refine r_si3 (pc' := 56) dX11_reached_53 rfl qX11_in lX11_67 rfl rfl rfl (Nat.zero_le _) (Nat.zero_le _) (m_in (p : Int) _ _ (by omega) (by omega) (by omega) ?_)
      refine r_if_eq (tgt := 73) (pc' := 59) dX11_reached_56 rfl rfl (b01_R _) (fun c56 => ?_) (fun c56 => ?_)
      · refine r_iconst (pc' := 74) dX11_reached_73 rfl ?_
        refine r_ior (pc' := 75) dX11_reached_74 rfl ?_
        refine r_istore (pc' := 77) dX11_reached_75 rfl rfl ?_
        refine r_iinc (pc' := 80) dX11_reached_77 rfl rfl rfl ?_
        refine r_goto (tgt := 32) dX11_reached_80 rfl ?_
        first
          | (have hd := of_decide_eq_true (b01_ne c56)
             rw [e1, e2]
             rw [if_pos (by rw [Bool.and_eq_true]; exact ⟨decide_eq_true (by omega), decide_eq_true (by omega)⟩)] at h
             exact ih (p + 1) _ (by omega) e4 h)
          | (have hd := of_decide_eq_false (b01_eq c56)
             rw [if_neg (by rw [Bool.and_eq_true]; rintro ⟨a, b⟩; have a1 := of_decide_eq_true a; have b1 := of_decide_eq_true b; omega)] at h
             rw [show b_or (acc : Int) 0 = (acc : Int) from e3.trans (by rw [Nat.or_zero])]
             exact ih (p + 1) _ (by omega) ha h)
      · refine r_iconst (pc' := 60) dX11_reached_59 rfl ?_
        refine r_aload_n (pc' := 61) dX11_reached_60 rfl rfl ?_
        refine r_getr (pc' := 64) dX11_reached_61 rfl fX11_19 z166 rfl ?_
        refine r_iconst (pc' := 65) dX11_reached_64 rfl ?_
        refine r_iload (pc' := 67) dX11_reached_65 rfl rfl ?_
        refine r_iadd (pc' := 68) dX11_reached_67 rfl ?_
        refine r_iaload (pc' := 69) dX11_reached_68 rfl z170 (by decide) (by omega) (by omega) q1 ?_
        refine r_ishl (pc' := 70) dX11_reached_69 rfl ?_
        refine r_goto (tgt := 74) dX11_reached_70 rfl ?_
        refine r_ior (pc' := 75) dX11_reached_74 rfl ?_
        refine r_istore (pc' := 77) dX11_reached_75 rfl rfl ?_
        refine r_iinc (pc' := 80) dX11_reached_77 rfl rfl rfl ?_
        refine r_goto (tgt := 32) dX11_reached_80 rfl ?_
        first
          | (have hd := of_decide_eq_true (b01_ne c56)
             rw [e1, e2]
             rw [if_pos (by rw [Bool.and_eq_true]; exact ⟨decide_eq_true (by omega), decide_eq_true (by omega)⟩)] at h
             exact ih (p + 1) _ (by omega) e4 h)
          | (have hd := of_decide_eq_false (b01_eq c56)
             rw [if_neg (by rw [Bool.and_eq_true]; rintro ⟨a, b⟩; have a1 := of_decide_eq_true a; have b1 := of_decide_eq_true b; omega)] at h
             rw [show b_or (acc : Int) 0 = (acc : Int) from e3.trans (by rw [Nat.or_zero])]
             exact ih (p + 1) _ (by omega) ha h)
theorem m_reach {X : CX} {d : Nat} {g : Mem} {K : Int → Mem → Prop} {u : PV} {v : LV} (hB : MB g u v) {y : Nat} (hy1 : y < Pq u) (h : K (rchN u v y) g) : EI X (d + 1) mX11_reached [vr 166, vi (y : Int)] Z0 g K := by
  show AJ X (d + 1) mX11_reached 0 0 (QI Z0 K) 0 0 0 [some (vr 166), some (vi (y : Int)), none, none, none, none] [] Z0 g
  obtain ⟨hQ, hU, hC, hW⟩ := id hB
  obtain ⟨hy, hi, hc, ht, ho, hf, hw_⟩ := id hC
  obtain ⟨w0, w1, w2, w3, w4, w5, w6, w7⟩ := id hW
  obtain ⟨p6, p7, p8, p9, p10, pk, pg, px, py⟩ := id hQ
  obtain ⟨u0, u1, u2, u3, u4, u5, u6, u7⟩ := id hU
  have y1 := (py y hy1).1
  have y2 := (py y hy1).2
  refine r_aload_n (pc' := 1) dX11_reached_0 rfl rfl ?_
  refine r_getr (pc' := 4) dX11_reached_1 rfl fX11_13 z166 rfl ?_
  refine r_bipush (pc' := 6) dX11_reached_4 rfl (by decide) ?_
  refine r_iconst (pc' := 7) dX11_reached_6 rfl ?_
  refine r_iload_n (pc' := 8) dX11_reached_7 rfl rfl ?_
  refine r_imul (pc' := 9) dX11_reached_8 rfl ?_
  refine r_iadd (pc' := 10) dX11_reached_9 rfl ?_
  refine r_iaload (pc' := 11) dX11_reached_10 rfl z168 (by decide) (by omega) (by omega) y1 ?_
  refine r_istore_n (pc' := 12) dX11_reached_11 rfl rfl ?_
  refine r_aload_n (pc' := 13) dX11_reached_12 rfl rfl ?_
  refine r_getr (pc' := 16) dX11_reached_13 rfl fX11_13 z166 rfl ?_
  refine r_bipush (pc' := 18) dX11_reached_16 rfl (by decide) ?_
  refine r_iconst (pc' := 19) dX11_reached_18 rfl ?_
  refine r_iload_n (pc' := 20) dX11_reached_19 rfl rfl ?_
  refine r_imul (pc' := 21) dX11_reached_20 rfl ?_
  refine r_iadd (pc' := 22) dX11_reached_21 rfl ?_
  refine r_iconst (pc' := 23) dX11_reached_22 rfl ?_
  refine r_iadd (pc' := 24) dX11_reached_23 rfl ?_
  refine r_iaload (pc' := 25) (x := (Pr u y : Int)) dX11_reached_24 rfl z168 (by decide) (by omega) (by omega) (by rw [show (43 : Int) + 2 * (y : Int) + 1 = 44 + 2 * (y : Int) by omega]; exact y2) ?_
  refine r_istore_n (pc' := 26) dX11_reached_25 rfl rfl ?_
  refine r_iconst (pc' := 27) dX11_reached_26 rfl ?_
  refine r_istore (pc' := 29) dX11_reached_27 rfl rfl ?_
  refine r_iconst (pc' := 30) dX11_reached_29 rfl ?_
  refine r_istore (pc' := 32) dX11_reached_30 rfl rfl ?_
  exact lm_reach hB hy1 (Ln v) 0 0 (by omega) (by decide) h
theorem m_reachI {X : CX} {d : Nat} {g : Mem} {K : Int → Mem → Prop} {u : PV} {v : LV} (hB : MB g u v) {y : Int} (h0 : 0 ≤ y) (hy1 : y < Pq u) (h : K (rchN u v y.toNat) g) : EI X (d + 1) mX11_reached [vr 166, vi y] Z0 g K := by
  have e := m_reach (X := X) (d := d) (K := K) hB (y := y.toNat) (by omega) h
  rw [show ((y.toNat : Nat) : Int) = y by omega] at e
  exact e
theorem M_hook {X : CX} {d : Nat} {g : Mem} {K : Int → Mem → Prop} {tN : Nat} {tX : Nat → Int} {flt : Int} {u : PV} {v : LV} {kn : Nat} {kL : Nat → LV} {im : Nat → Bool × Int × LV} {sd : Int} {ln : Nat} {la : Nat → Nat} {lr : Nat → Bool} {bn : Nat} {bp : Nat → Nat} {bf : Nat → Int} (hM : MS g tN tX flt u v kn kL im sd ln la lr bn bp bf) (hS : WS tN tX flt u v kn kL im sd ln la lr bn bp bf) (y w : Int) (hy0 : R32 y) (hw0 : R32 w) (h : ∀ g' : Mem, MS g' tN tX flt u v kn kL im sd ln la lr bn bp bf → FrM g g' → K (E_hook u v y w) g') : EI X (d + 2) mX11_hook [vr 166, vi y, vi w] Z0 g K := by
  show AJ X (d + 2) mX11_hook 0 0 (QI Z0 K) 0 0 0 [some (vr 166), some (vi y), some (vi w)] [] Z0 g
  obtain ⟨⟨m1, m2⟩, m3, m4, m5, ⟨m6, m7⟩, m8, m9, ⟨m10, m11⟩, ⟨m12, m13⟩⟩ := id hM
  obtain ⟨⟨s1, s2⟩, s3, s4, s5, ⟨s6, s7⟩, s8, ⟨s9, s10⟩, ⟨s11, s12⟩, ⟨s13, s14⟩⟩ := id hS
  have hB : MB g u v := ⟨m4, s4, m5, s5⟩
  obtain ⟨hQ, hU, hC, hW⟩ := id hB
  obtain ⟨hy, hi, hc, ht, ho, hf, hw_⟩ := id hC
  obtain ⟨w0, w1, w2, w3, w4, w5, w6, w7⟩ := id hW
  obtain ⟨p6, p7, p8, p9, p10, pk, pg, px, py⟩ := id hQ
  obtain ⟨u0, u1, u2, u3, u4, u5, u6, u7⟩ := id hU
  have h9 := h g hM (FrM.rf g)
  unfold E_hook at h9
  refine r_iload_n (pc' := 1) dX11_hook_0 rfl rfl ?_
  refine r_iconst (pc' := 2) dX11_hook_1 rfl ?_
  refine r_aload_n (pc' := 3) dX11_hook_2 rfl rfl ?_
  refine r_getr (pc' := 6) dX11_hook_3 rfl fX11_13 z166 rfl ?_
  refine r_iconst (pc' := 7) dX11_hook_6 rfl ?_
  refine r_iaload (pc' := 8) dX11_hook_7 rfl z168 (by decide) (by omega) (by omega) p10 ?_
  refine r_iconst (pc' := 9) dX11_hook_8 rfl ?_
  refine r_isub (pc' := 10) dX11_hook_9 rfl ?_
  refine r_si3 (pc' := 13) dX11_hook_10 rfl qX11_in lX11_67 rfl rfl rfl (Nat.zero_le _) (Nat.zero_le _) (m_in y 0 ((Pq u : Int) - 1) (by omega) (by omega) (by omega) ?_)
  refine r_if_ne (tgt := 19) (pc' := 16) dX11_hook_13 rfl rfl (b01_R _) (fun c13 => ?_) (fun c13 => ?_)
  · have hd13 := of_decide_eq_true (b01_ne c13)
    have y1 := (py y.toNat (by omega)).1
    have y2 := (py y.toNat (by omega)).2
    rw [show ((y.toNat : Nat) : Int) = y by omega] at y1 y2
    refine r_iload_n (pc' := 20) dX11_hook_19 rfl rfl ?_
    refine r_iconst (pc' := 21) dX11_hook_20 rfl ?_
    refine r_icmp_ne (tgt := 32) (pc' := 24) dX11_hook_21 rfl rfl (by omega) (by omega) (fun c21 => ?_) (fun c21 => ?_)
    · refine r_iload_n (pc' := 33) dX11_hook_32 rfl rfl ?_
      refine r_if_eq (tgt := 41) (pc' := 36) dX11_hook_33 rfl rfl (by omega) (fun c33 => ?_) (fun c33 => ?_)
      · refine r_aload_n (pc' := 42) dX11_hook_41 rfl rfl ?_
        refine r_getr (pc' := 45) dX11_hook_42 rfl fX11_13 z166 rfl ?_
        refine r_bipush (pc' := 47) dX11_hook_45 rfl (by decide) ?_
        refine r_iconst (pc' := 48) dX11_hook_47 rfl ?_
        refine r_iload_n (pc' := 49) dX11_hook_48 rfl rfl ?_
        refine r_imul (pc' := 50) dX11_hook_49 rfl ?_
        refine r_iadd (pc' := 51) dX11_hook_50 rfl ?_
        refine r_iload_n (pc' := 52) dX11_hook_51 rfl rfl ?_
        refine r_iadd (pc' := 53) dX11_hook_52 rfl ?_
        refine r_iaload (pc' := 54) (x := (if w = 0 then (Pa u y.toNat : Int) else (Pr u y.toNat : Int))) dX11_hook_53 rfl z168 (by decide) (by omega) (by omega) (by by_cases e : w = 0; (· rw [if_pos e, e, Int.add_zero]; exact y1); (· rw [if_neg e, show (43 : Int) + 2 * y + w = 44 + 2 * y by omega]; exact y2)) ?_
        refine r_goto (tgt := 59) dX11_hook_54 rfl ?_
        refine r_reti dX11_hook_59 rfl (Or.inl rfl) ?_
        rw [if_pos (by omega)] at h9
        first
          | (rw [if_neg (by omega), if_neg (by omega), if_pos (by omega)] at h9; exact h9)
          | (rw [if_pos (by omega)] at h9; rw [if_pos (by omega)]; exact h9)
          | (rw [if_neg (by omega), if_pos (by omega)] at h9; rw [if_neg (by omega)]; exact h9)
          | (rw [if_neg (by omega), if_neg (by omega), if_neg (by omega)] at h9; exact h9)
      · refine r_iload_n (pc' := 37) dX11_hook_36 rfl rfl ?_
        refine r_iconst (pc' := 38) dX11_hook_37 rfl ?_
        refine r_icmp_ne (tgt := 57) (pc' := 41) dX11_hook_38 rfl rfl (by omega) (by omega) (fun c38 => ?_) (fun c38 => ?_)
        · refine r_ldc (z := -1000000002) (pc' := 59) dX11_hook_57 rfl kX11_71 ?_
          refine r_reti dX11_hook_59 rfl (Or.inl rfl) ?_
          rw [if_pos (by omega)] at h9
          first
            | (rw [if_neg (by omega), if_neg (by omega), if_pos (by omega)] at h9; exact h9)
            | (rw [if_pos (by omega)] at h9; rw [if_pos (by omega)]; exact h9)
            | (rw [if_neg (by omega), if_pos (by omega)] at h9; rw [if_neg (by omega)]; exact h9)
            | (rw [if_neg (by omega), if_neg (by omega), if_neg (by omega)] at h9; exact h9)
        · refine r_aload_n (pc' := 42) dX11_hook_41 rfl rfl ?_
          refine r_getr (pc' := 45) dX11_hook_42 rfl fX11_13 z166 rfl ?_
          refine r_bipush (pc' := 47) dX11_hook_45 rfl (by decide) ?_
          refine r_iconst (pc' := 48) dX11_hook_47 rfl ?_
          refine r_iload_n (pc' := 49) dX11_hook_48 rfl rfl ?_
          refine r_imul (pc' := 50) dX11_hook_49 rfl ?_
          refine r_iadd (pc' := 51) dX11_hook_50 rfl ?_
          refine r_iload_n (pc' := 52) dX11_hook_51 rfl rfl ?_
          refine r_iadd (pc' := 53) dX11_hook_52 rfl ?_
          refine r_iaload (pc' := 54) (x := (if w = 0 then (Pa u y.toNat : Int) else (Pr u y.toNat : Int))) dX11_hook_53 rfl z168 (by decide) (by omega) (by omega) (by by_cases e : w = 0; (· rw [if_pos e, e, Int.add_zero]; exact y1); (· rw [if_neg e, show (43 : Int) + 2 * y + w = 44 + 2 * y by omega]; exact y2)) ?_
          refine r_goto (tgt := 59) dX11_hook_54 rfl ?_
          refine r_reti dX11_hook_59 rfl (Or.inl rfl) ?_
          rw [if_pos (by omega)] at h9
          first
            | (rw [if_neg (by omega), if_neg (by omega), if_pos (by omega)] at h9; exact h9)
            | (rw [if_pos (by omega)] at h9; rw [if_pos (by omega)]; exact h9)
            | (rw [if_neg (by omega), if_pos (by omega)] at h9; rw [if_neg (by omega)]; exact h9)
            | (rw [if_neg (by omega), if_neg (by omega), if_neg (by omega)] at h9; exact h9)
    · refine r_aload_n (pc' := 25) dX11_hook_24 rfl rfl ?_
      refine r_iload_n (pc' := 26) dX11_hook_25 rfl rfl ?_
      refine r_vi1 (pc' := 29) dX11_hook_26 rfl qX11_reached lX11_160 z166 rfl rfl rfl rfl (Nat.zero_le _) (Nat.zero_le _) (m_reachI hB (by omega) (by omega) ?_)
      refine r_goto (tgt := 59) dX11_hook_29 rfl ?_
      refine r_reti dX11_hook_59 rfl (Or.inl rfl) ?_
      rw [if_pos (by omega)] at h9
      first
        | (rw [if_neg (by omega), if_neg (by omega), if_pos (by omega)] at h9; exact h9)
        | (rw [if_pos (by omega)] at h9; rw [if_pos (by omega)]; exact h9)
        | (rw [if_neg (by omega), if_pos (by omega)] at h9; rw [if_neg (by omega)]; exact h9)
        | (rw [if_neg (by omega), if_neg (by omega), if_neg (by omega)] at h9; exact h9)
  · have hd13 := of_decide_eq_false (b01_eq c13)
    refine r_ldc (z := -1000000001) (pc' := 18) dX11_hook_16 rfl kX11_156 ?_
    refine r_reti dX11_hook_18 rfl (Or.inl rfl) ?_
    rw [if_neg (by omega)] at h9
    exact h9
theorem lm_cross2 {X : CX} {d : Nat} {g : Mem} {K : Int → Mem → Prop} {u : PV} {v : LV} (hB : MB g u v)  {p : Nat} (hp0 : p < Ln v) : ∀ (k q acc : Nat), q + k = Ln v → acc + k ≤ 60 → (∀ y : Option VV, AJ X d mX11_crossed 0 0 (QI Z0 K) 0 0 61 [some (vr 166), some (vi ((cnF (fun q => decide (Lo v q < Lo v p)) k q acc : Nat) : Int)), some (vi (p : Int)), y] [] Z0 g) → AJ X (d) mX11_crossed 0 0 (QI Z0 K) 0 0 18 [some (vr 166), some (vi (acc : Int)), some (vi (p : Int)), some (vi (q : Int))] [] Z0 g := by
  obtain ⟨hQ, hU, hC, hW⟩ := id hB
  obtain ⟨hy, hi, hc, ht, ho, hf, hw_⟩ := id hC
  obtain ⟨w0, w1, w2, w3, w4, w5, w6, w7⟩ := id hW
  obtain ⟨p6, p7, p8, p9, p10, pk, pg, px, py⟩ := id hQ
  obtain ⟨u0, u1, u2, u3, u4, u5, u6, u7⟩ := id hU
  intro k
  induction k with
  | zero =>
    intro q acc hq hb h
    refine r_iload_n (pc' := 19) dX11_crossed_18 rfl rfl ?_
    refine r_aload_n (pc' := 20) dX11_crossed_19 rfl rfl ?_
    refine r_getr (pc' := 23) dX11_crossed_20 rfl fX11_19 z166 rfl ?_
    refine r_iconst (pc' := 24) dX11_crossed_23 rfl ?_
    refine r_iaload (pc' := 25) dX11_crossed_24 rfl z170 (by decide) (by omega) (by omega) hc ?_
    refine r_icmp_ge (tgt := 61) (pc' := 28) dX11_crossed_25 rfl rfl (by omega) (by omega) (fun c25 => ?_) (fun c25 => ?_)
    · exact h _
    · exact absurd c25 (by omega)
  | succ k ih =>
    intro q acc hq hb h
    have q1 := ho p hp0
    have q2 := w2 p hp0
    have q3 := ho q (by omega)
    have q4 := w2 q (by omega)
    unfold cnF at h
    refine r_iload_n (pc' := 19) dX11_crossed_18 rfl rfl ?_
    refine r_aload_n (pc' := 20) dX11_crossed_19 rfl rfl ?_
    refine r_getr (pc' := 23) dX11_crossed_20 rfl fX11_19 z166 rfl ?_
    refine r_iconst (pc' := 24) dX11_crossed_23 rfl ?_
    refine r_iaload (pc' := 25) dX11_crossed_24 rfl z170 (by decide) (by omega) (by omega) hc ?_
    refine r_icmp_ge (tgt := 61) (pc' := 28) dX11_crossed_25 rfl rfl (by omega) (by omega) (fun c25 => ?_) (fun c25 => ?_)
    · exact absurd c25 (by omega)
    · refine r_iload_n (pc' := 29) dX11_crossed_28 rfl rfl ?_
      refine r_aload_n (pc' := 30) dX11_crossed_29 rfl rfl ?_
      refine r_getr (pc' := 33) dX11_crossed_30 rfl fX11_19 z166 rfl ?_
      refine r_iconst (pc' := 34) dX11_crossed_33 rfl ?_
      refine r_iload_n (pc' := 35) dX11_crossed_34 rfl rfl ?_
      refine r_iadd (pc' := 36) dX11_crossed_35 rfl ?_
      refine r_iaload (pc' := 37) dX11_crossed_36 rfl z170 (by decide) (by omega) (by omega) q1 ?_
      refine r_aload_n (pc' := 38) dX11_crossed_37 rfl rfl ?_
      refine r_getr (pc' := 41) dX11_crossed_38 rfl fX11_19 z166 rfl ?_
      refine r_iconst (pc' := 42) dX11_crossed_41 rfl ?_
      refine r_iload_n (pc' := 43) dX11_crossed_42 rfl rfl ?_
      refine r_iadd (pc' := 44) dX11_crossed_43 rfl ?_
      refine r_iaload (pc' := 45) dX11_crossed_44 rfl z170 (by decide) (by omega) (by omega) q3 ?_
      refine r_icmp_le (tgt := 52) (pc' := 48) dX11_crossed_45 rfl rfl (by omega) (by omega) (fun c45 => ?_) (fun c45 => ?_)
      · refine r_iconst (pc' := 53) dX11_crossed_52 rfl ?_
        refine r_iadd (pc' := 54) dX11_crossed_53 rfl ?_
        refine r_istore_n (pc' := 55) dX11_crossed_54 rfl rfl ?_
        refine r_iinc (pc' := 58) dX11_crossed_55 rfl rfl rfl ?_
        refine r_goto (tgt := 18) dX11_crossed_58 rfl ?_
        first
          | (rw [if_pos (decide_eq_true (by omega))] at h; exact ih (q + 1) (acc + 1) (by omega) (by omega) h)
          | (rw [if_neg (by rw [decide_eq_false (by omega)]; decide)] at h; rw [Int.add_zero]; exact ih (q + 1) acc (by omega) (by omega) h)
      · refine r_iconst (pc' := 49) dX11_crossed_48 rfl ?_
        refine r_goto (tgt := 53) dX11_crossed_49 rfl ?_
        refine r_iadd (pc' := 54) dX11_crossed_53 rfl ?_
        refine r_istore_n (pc' := 55) dX11_crossed_54 rfl rfl ?_
        refine r_iinc (pc' := 58) dX11_crossed_55 rfl rfl rfl ?_
        refine r_goto (tgt := 18) dX11_crossed_58 rfl ?_
        first
          | (rw [if_pos (decide_eq_true (by omega))] at h; exact ih (q + 1) (acc + 1) (by omega) (by omega) h)
          | (rw [if_neg (by rw [decide_eq_false (by omega)]; decide)] at h; rw [Int.add_zero]; exact ih (q + 1) acc (by omega) (by omega) h)
