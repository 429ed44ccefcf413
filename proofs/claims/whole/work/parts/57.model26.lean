theorem orF_mem {c : Nat → Bool} {f : Nat → Nat} {i : Nat} : ∀ (k p acc : Nat), (orF c f k p acc).testBit i = true ↔ acc.testBit i = true ∨ ∃ q, p ≤ q ∧ q < p + k ∧ c q = true ∧ (f q).testBit i = true
  | 0, p, acc => ⟨fun h => Or.inl h, fun h => by rcases h with h | ⟨q, a, b, _⟩; exact h; omega⟩
  | k + 1, p, acc => by
    show (orF c f k (p + 1) (if c p = true then acc ||| f p else acc)).testBit i = true ↔ _
    rw [orF_mem k (p + 1)]
    constructor
    · rintro (h | ⟨q, a, b, e, z⟩)
      · by_cases hc : c p = true
        · rw [if_pos hc, Nat.testBit_or, Bool.or_eq_true] at h
          rcases h with h | h
          · exact Or.inl h
          · exact Or.inr ⟨p, by omega, by omega, hc, h⟩
        · rw [if_neg hc] at h
          exact Or.inl h
      · exact Or.inr ⟨q, by omega, by omega, e, z⟩
    · rintro (h | ⟨q, a, b, e, z⟩)
      · left
        by_cases hc : c p = true
        · rw [if_pos hc, Nat.testBit_or, h, Bool.true_or]
        · rw [if_neg hc]; exact h
      · by_cases hq : q = p
        · subst hq
          left
          rw [if_pos e, Nat.testBit_or, z, Bool.or_true]
        · exact Or.inr ⟨q, by omega, by omega, e, z⟩
def rcsN (u : PV) (v : LV) (s : Nat) : Nat := orF (fun p => s.testBit p) (rchN u v) (Pq u) 0 0
def hoB (u : PV) (v : LV) (x s : Nat) : Bool := decide (difN x (rcsN u v s) = 0)
theorem rch_mem {u : PV} {v : LV} {y i : Nat} : (rchN u v y).testBit i = true ↔ ∃ p, p < Ln v ∧ (Pa u y ≤ p + Pr u y ∧ p ≤ Pa u y + Pr u y) ∧ Lo v p = i := by
  unfold rchN
  rw [orF_mem, Nat.zero_testBit]
  constructor
  · rintro (h | ⟨q, a, b, e, z⟩)
    · exact absurd h (by decide)
    · rw [Bool.and_eq_true] at e
      rw [Nat.testBit_two_pow] at z
      exact ⟨q, by omega, ⟨of_decide_eq_true e.1, of_decide_eq_true e.2⟩, of_decide_eq_true z⟩
  · rintro ⟨p, a, ⟨b, e⟩, z⟩
    refine Or.inr ⟨p, by omega, by omega, by rw [decide_eq_true b, decide_eq_true e]; rfl, ?_⟩
    rw [Nat.testBit_two_pow]
    exact decide_eq_true z
theorem rcs_mem {u : PV} {v : LV} {s i : Nat} : (rcsN u v s).testBit i = true ↔ ∃ y, y < Pq u ∧ s.testBit y = true ∧ ∃ p, p < Ln v ∧ (Pa u y ≤ p + Pr u y ∧ p ≤ Pa u y + Pr u y) ∧ Lo v p = i := by
  unfold rcsN
  rw [orF_mem, Nat.zero_testBit]
  constructor
  · rintro (h | ⟨q, a, b, e, z⟩)
    · exact absurd h (by decide)
    · exact ⟨q, by omega, e, rch_mem.mp z⟩
  · rintro ⟨y, a, b, z⟩
    exact Or.inr ⟨y, by omega, by omega, b, rch_mem.mpr z⟩
theorem hks_mem {u : PV} {s p : Nat} (hp : p < 7) : (hksN u s).testBit p = true ↔ ∃ y, y < Pq u ∧ s.testBit y = true ∧ (Pa u y ≤ p + Pr u y ∧ p ≤ Pa u y + Pr u y) := by
  unfold hksN
  rw [orF_mem, Nat.zero_testBit]
  constructor
  · rintro (h | ⟨q, a, b, e, z⟩)
    · exact absurd h (by decide)
    · rw [hk_bit hp, Bool.and_eq_true] at z
      exact ⟨q, by omega, e, of_decide_eq_true z.1, of_decide_eq_true z.2⟩
  · rintro ⟨y, a, b, z1, z2⟩
    exact Or.inr ⟨y, by omega, by omega, b, by rw [hk_bit hp, decide_eq_true z1, decide_eq_true z2]; rfl⟩
theorem pls_mem {v : LV} {x p : Nat} : (plsN v x).testBit p = true ↔ p < Ln v ∧ x.testBit (Lo v p) = true := by
  unfold plsN
  rw [orF_bit, Nat.zero_testBit, Bool.false_or, Bool.and_eq_true]
  constructor
  · rintro ⟨a, b⟩
    have := of_decide_eq_true a
    exact ⟨by omega, b⟩
  · rintro ⟨a, b⟩
    exact ⟨decide_eq_true (by omega), b⟩
theorem on_mem {v : LV} {i : Nat} (h : (onN v).testBit i = true) : ∃ p, p < Ln v ∧ Lo v p = i := by
  rw [onN_bit] at h
  have h := of_decide_eq_true h
  rcases plc_b (o := Lo v) (f := (i : Int)) (Ln v) 0 with q | ⟨a, b, e⟩
  · exact absurd q h
  · exact ⟨(plc (Lo v) (i : Int) (Ln v) 0).toNat, by omega, by omega⟩
theorem hook_eq {F : Nat} {u : PV} {v : LV} (h : LW F v) (x : Nat) : fwF (hoB u v x) (2 ^ Pq u) 0 (-1) = if difN x (onN v) = 0 then fwF (fun s => decide (difN (plsN v x) (hksN u s) = 0)) (2 ^ Pq u) 0 (-1) else -1 := by
  by_cases hx : difN x (onN v) = 0
  · rw [if_pos hx]
    rw [difN_z] at hx
    refine fwF_congr _ _ _ (fun s _ _ => ?_)
    unfold hoB
    apply decide_eq_decide.mpr
    rw [difN_z, difN_z]
    constructor
    · intro hh p hp
      obtain ⟨p1, p2⟩ := pls_mem.mp hp
      obtain ⟨y, y1, y2, q, q1, q2, q3⟩ := rcs_mem.mp (hh _ p2)
      have : q = p := h.2.2.2.1 q p q1 p1 q3
      subst this
      exact (hks_mem (by have := h.2.1; omega)).mpr ⟨y, y1, y2, q2⟩
    · intro hh i hi
      obtain ⟨p, p1, p2⟩ := on_mem (hx i hi)
      obtain ⟨y, y1, y2, y3⟩ := (hks_mem (by have := h.2.1; omega)).mp (hh p (pls_mem.mpr ⟨p1, by rw [p2]; exact hi⟩))
      exact rcs_mem.mpr ⟨y, y1, y2, p, p1, y3, p2⟩
  · rw [if_neg hx]
    refine fwF_no _ _ _ (fun s _ _ => decide_eq_false (fun hz => hx ?_))
    rw [difN_z] at hz ⊢
    intro i hi
    obtain ⟨y, _, _, p, p1, _, p3⟩ := rcs_mem.mp (hz i hi)
    rw [← p3]
    exact on_at p1
theorem rcsN_lt {F : Nat} {u : PV} {v : LV} (h : LW F v) (s : Nat) : rcsN u v s < 128 := orF_lt _ _ _ (by decide) (fun q _ _ => orF_lt _ _ _ (by decide) (fun p _ hp => pow7 (by have := h.2.2.1 p (by omega); have := h.1; omega)))
theorem rchN_lt {F : Nat} {u : PV} {v : LV} (h : LW F v) (y : Nat) : rchN u v y < 128 := orF_lt _ _ _ (by decide) (fun p _ hp => pow7 (by have := h.2.2.1 p (by omega); have := h.1; omega))
theorem lm_hooI {X : CX} {d : Nat} {g : Mem} {K : Int → Mem → Prop} {u : PV} {v : LV} (hB : MB g u v)  {s x : Nat} (hs : s < 128) {fo : Int} : ∀ (k p acc : Nat), p + k = Pq u → acc < 128 → AJ X (d + 2) mX11_hooked 0 0 (QI Z0 K) 0 0 84 [some (vr 166), some (vi (x : Int)), some (vi fo), some (vi (s : Int)), some (vi ((orF (fun p => s.testBit p) (rchN u v) k p acc : Nat) : Int)), some (vi (Pq u : Int))] [] Z0 g → AJ X (d + 2) mX11_hooked 0 0 (QI Z0 K) 0 0 43 [some (vr 166), some (vi (x : Int)), some (vi fo), some (vi (s : Int)), some (vi (acc : Int)), some (vi (p : Int))] [] Z0 g := by
  obtain ⟨hQ, hU, hC, hW⟩ := id hB
  obtain ⟨hy, hi, hc, ht, ho, hf, hw_⟩ := id hC
  obtain ⟨w0, w1, w2, w3, w4, w5, w6, w7⟩ := id hW
  obtain ⟨p6, p7, p8, p9, p10, pk, pg, px, py⟩ := id hQ
  obtain ⟨u0, u1, u2, u3, u4, u5, u6, u7⟩ := id hU
  intro k
  induction k with
  | zero =>
    intro p acc hp ha h
    have e : (Pq u : Int) = (p : Int) := by omega
    rw [e] at h
    refine r_iload (pc' := 45) dX11_hooked_43 rfl rfl ?_
    refine r_aload_n (pc' := 46) dX11_hooked_45 rfl rfl ?_
    refine r_getr (pc' := 49) dX11_hooked_46 rfl fX11_13 z166 rfl ?_
    refine r_iconst (pc' := 50) dX11_hooked_49 rfl ?_
    refine r_iaload (pc' := 51) dX11_hooked_50 rfl z168 (by decide) (by omega) (by omega) p10 ?_
    refine r_icmp_ge (tgt := 84) (pc' := 54) dX11_hooked_51 rfl rfl (by omega) (by omega) (fun c51 => ?_) (fun c51 => ?_)
    · exact h
    · exact absurd c51 (by omega)
  | succ k ih =>
    intro p acc hp ha h
    have hr := rchN_lt (u := u) hW p
    have h : AJ X (d + 2) mX11_hooked 0 0 (QI Z0 K) 0 0 84 [some (vr 166), some (vi (x : Int)), some (vi fo), some (vi (s : Int)), some (vi ((orF (fun p => s.testBit p) (rchN u v) k (p + 1) (if s.testBit p = true then acc ||| rchN u v p else acc) : Nat) : Int)), some (vi (Pq u : Int))] [] Z0 g := h
    refine r_iload (pc' := 45) dX11_hooked_43 rfl rfl ?_
    refine r_aload_n (pc' := 46) dX11_hooked_45 rfl rfl ?_
    refine r_getr (pc' := 49) dX11_hooked_46 rfl fX11_13 z166 rfl ?_
    refine r_iconst (pc' := 50) dX11_hooked_49 rfl ?_
    refine r_iaload (pc' := 51) dX11_hooked_50 rfl z168 (by decide) (by omega) (by omega) p10 ?_
    refine r_icmp_ge (tgt := 84) (pc' := 54) dX11_hooked_51 rfl rfl (by omega) (by omega) (fun c51 => ?_) (fun c51 => ?_)
    · exact absurd c51 (by omega)
    · refine r_iload (pc' := 56) dX11_hooked_54 rfl rfl ?_
      refine r_iload_n (pc' := 57) dX11_hooked_56 rfl rfl ?_
      refine r_iload (pc' := 59) dX11_hooked_57 rfl rfl ?_
      refine r_si2 (pc' := 62) dX11_hooked_59 rfl qX11_has lX11_118 rfl rfl rfl (Nat.zero_le _) (Nat.zero_le _) (m_has hs (by omega) ?_)
      refine r_if_eq (tgt := 74) (pc' := 65) dX11_hooked_62 rfl rfl (b01_R _) (fun c62 => ?_) (fun c62 => ?_)
      · refine r_iconst (pc' := 75) dX11_hooked_74 rfl ?_
        refine r_ior (pc' := 76) dX11_hooked_75 rfl ?_
        refine r_istore (pc' := 78) dX11_hooked_76 rfl rfl ?_
        refine r_iinc (pc' := 81) dX11_hooked_78 rfl rfl rfl ?_
        refine r_goto (tgt := 43) dX11_hooked_81 rfl ?_
        first
          | (rw [if_pos (b01_ne c62)] at h
             rw [or_n ha hr]
             exact ih (p + 1) _ (by omega) (or128 ha hr) h)
          | (rw [if_neg (by rw [b01_eq c62]; decide)] at h
             rw [or0 ha]
             exact ih (p + 1) _ (by omega) ha h)
      · refine r_aload_n (pc' := 66) dX11_hooked_65 rfl rfl ?_
        refine r_iload (pc' := 68) dX11_hooked_66 rfl rfl ?_
        refine r_vi1 (pc' := 71) dX11_hooked_68 rfl qX11_reached lX11_160 z166 rfl rfl rfl rfl (Nat.zero_le _) (Nat.zero_le _) (m_reach hB (by omega) ?_)
        refine r_goto (tgt := 75) dX11_hooked_71 rfl ?_
        refine r_ior (pc' := 76) dX11_hooked_75 rfl ?_
        refine r_istore (pc' := 78) dX11_hooked_76 rfl rfl ?_
        refine r_iinc (pc' := 81) dX11_hooked_78 rfl rfl rfl ?_
        refine r_goto (tgt := 43) dX11_hooked_81 rfl ?_
        first
          | (rw [if_pos (b01_ne c62)] at h
             rw [or_n ha hr]
             exact ih (p + 1) _ (by omega) (or128 ha hr) h)
          | (rw [if_neg (by rw [b01_eq c62]; decide)] at h
             rw [or0 ha]
             exact ih (p + 1) _ (by omega) ha h)
theorem lm_hoo {X : CX} {d : Nat} {g : Mem} {K : Int → Mem → Prop} {u : PV} {v : LV} (hB : MB g u v)  {x : Nat} (hx : x < 128) : ∀ (k s : Nat) (fo : Int) (y z : Option VV), s + k = 2 ^ Pq u → -1 ≤ fo → fo < 128 → K (fwF (hoB u v x) k s fo) g → AJ X (d + 2) mX11_hooked 0 0 (QI Z0 K) 0 0 25 [some (vr 166), some (vi (x : Int)), some (vi fo), some (vi (s : Int)), y, z] [] Z0 g := by
  obtain ⟨hQ, hU, hC, hW⟩ := id hB
  obtain ⟨hy, hi, hc, ht, ho, hf, hw_⟩ := id hC
  obtain ⟨w0, w1, w2, w3, w4, w5, w6, w7⟩ := id hW
  obtain ⟨p6, p7, p8, p9, p10, pk, pg, px, py⟩ := id hQ
  obtain ⟨u0, u1, u2, u3, u4, u5, u6, u7⟩ := id hU
  intro k
  induction k with
  | zero =>
    intro s fo y z hs hf0 hf1 h
    have e := shl8 (k := Pq u) (by omega)
    have e7 : 2 ^ Pq u ≤ 2 ^ 5 := Nat.pow_le_pow_right (by decide) u4
    refine r_iload_n (pc' := 26) dX11_hooked_25 rfl rfl ?_
    refine r_iconst (pc' := 27) dX11_hooked_26 rfl ?_
    refine r_aload_n (pc' := 28) dX11_hooked_27 rfl rfl ?_
    refine r_getr (pc' := 31) dX11_hooked_28 rfl fX11_13 z166 rfl ?_
    refine r_iconst (pc' := 32) dX11_hooked_31 rfl ?_
    refine r_iaload (pc' := 33) dX11_hooked_32 rfl z168 (by decide) (by omega) (by omega) p10 ?_
    refine r_ishl (pc' := 34) dX11_hooked_33 rfl ?_
    rw [e]
    refine r_icmp_ge (tgt := 133) (pc' := 37) dX11_hooked_34 rfl rfl (by omega) (by omega) (fun c34 => ?_) (fun c34 => ?_)
    · refine r_iload_n (pc' := 134) dX11_hooked_133 rfl rfl ?_
      refine r_reti dX11_hooked_134 rfl (Or.inl rfl) ?_
      exact h
    · exact absurd c34 (by omega)
  | succ k ih =>
    intro s fo y z hs hf0 hf1 h
    have e := shl8 (k := Pq u) (by omega)
    have e7 : 2 ^ Pq u ≤ 2 ^ 5 := Nat.pow_le_pow_right (by decide) u4
    have hs1 : s < 128 := by omega
    have hrc := rcsN_lt (u := u) hW s
    have hdl := difN_lt (t := rcsN u v s) hx
    have h : K (fwF (hoB u v x) k (s + 1) (if (fo = -1 ∨ popN s < popN fo.toNat) ∧ hoB u v x s = true then (s : Int) else fo)) g := h
    refine r_iload_n (pc' := 26) dX11_hooked_25 rfl rfl ?_
    refine r_iconst (pc' := 27) dX11_hooked_26 rfl ?_
    refine r_aload_n (pc' := 28) dX11_hooked_27 rfl rfl ?_
    refine r_getr (pc' := 31) dX11_hooked_28 rfl fX11_13 z166 rfl ?_
    refine r_iconst (pc' := 32) dX11_hooked_31 rfl ?_
    refine r_iaload (pc' := 33) dX11_hooked_32 rfl z168 (by decide) (by omega) (by omega) p10 ?_
    refine r_ishl (pc' := 34) dX11_hooked_33 rfl ?_
    rw [e]
    refine r_icmp_ge (tgt := 133) (pc' := 37) dX11_hooked_34 rfl rfl (by omega) (by omega) (fun c34 => ?_) (fun c34 => ?_)
    · exact absurd c34 (by omega)
    · refine r_iconst (pc' := 38) dX11_hooked_37 rfl ?_
      refine r_istore (pc' := 40) dX11_hooked_38 rfl rfl ?_
      refine r_iconst (pc' := 41) dX11_hooked_40 rfl ?_
      refine r_istore (pc' := 43) dX11_hooked_41 rfl rfl ?_
      refine lm_hooI hB hs1 (Pq u) 0 0 (by omega) (by decide) ?_
      rw [show orF (fun p => s.testBit p) (rchN u v) (Pq u) 0 0 = rcsN u v s from rfl]
      refine r_iload_n (pc' := 85) dX11_hooked_84 rfl rfl ?_
      refine r_iload (pc' := 87) dX11_hooked_85 rfl rfl ?_
      refine r_iconst (pc' := 88) dX11_hooked_87 rfl ?_
      refine r_ixor (pc' := 89) dX11_hooked_88 rfl ?_
      refine r_iand (pc' := 90) dX11_hooked_89 rfl ?_
      rw [dif_n hx]
      refine r_if_ne (tgt := 97) (pc' := 93) dX11_hooked_90 rfl rfl (by omega) (fun c90 => ?_) (fun c90 => ?_)
      · refine r_iconst (pc' := 98) dX11_hooked_97 rfl ?_
        refine r_istore (pc' := 100) dX11_hooked_98 rfl rfl ?_
        refine r_iload (pc' := 102) dX11_hooked_100 rfl rfl ?_
        refine r_if_eq (tgt := 125) (pc' := 105) dX11_hooked_102 rfl rfl (by decide) (fun c102 => ?_) (fun c102 => ?_)
        · refine r_iload_n (pc' := 126) dX11_hooked_125 rfl rfl ?_
          refine r_istore_n (pc' := 127) dX11_hooked_126 rfl rfl ?_
          refine r_iinc (pc' := 130) dX11_hooked_127 rfl rfl rfl ?_
          refine r_goto (tgt := 25) dX11_hooked_130 rfl ?_
          first
            | (exfalso; omega)
            | (rw [if_neg (fun q => by have := of_decide_eq_true q.2; omega)] at h
               exact ih (s + 1) _ _ _ (by omega) (by omega) (by omega) h)
            | (rw [if_pos ⟨Or.inl (by omega), decide_eq_true (by omega)⟩] at h
               exact ih (s + 1) _ _ _ (by omega) (by omega) (by omega) h)
            | (rw [if_pos ⟨Or.inr (by omega), decide_eq_true (by omega)⟩] at h
               exact ih (s + 1) _ _ _ (by omega) (by omega) (by omega) h)
            | (rw [if_neg (fun q => by rcases q.1 with q | q <;> omega)] at h
               exact ih (s + 1) _ _ _ (by omega) (by omega) (by omega) h)
        · refine r_iload_n (pc' := 106) dX11_hooked_105 rfl rfl ?_
          refine r_iconst (pc' := 107) dX11_hooked_106 rfl ?_
          refine r_icmp_eq (tgt := 121) (pc' := 110) dX11_hooked_107 rfl rfl (by omega) (by omega) (fun c107 => ?_) (fun c107 => ?_)
          · refine r_iload_n (pc' := 122) dX11_hooked_121 rfl rfl ?_
            refine r_goto (tgt := 126) dX11_hooked_122 rfl ?_
            refine r_istore_n (pc' := 127) dX11_hooked_126 rfl rfl ?_
            refine r_iinc (pc' := 130) dX11_hooked_127 rfl rfl rfl ?_
            refine r_goto (tgt := 25) dX11_hooked_130 rfl ?_
            first
              | (exfalso; omega)
              | (rw [if_neg (fun q => by have := of_decide_eq_true q.2; omega)] at h
                 exact ih (s + 1) _ _ _ (by omega) (by omega) (by omega) h)
              | (rw [if_pos ⟨Or.inl (by omega), decide_eq_true (by omega)⟩] at h
                 exact ih (s + 1) _ _ _ (by omega) (by omega) (by omega) h)
              | (rw [if_pos ⟨Or.inr (by omega), decide_eq_true (by omega)⟩] at h
                 exact ih (s + 1) _ _ _ (by omega) (by omega) (by omega) h)
              | (rw [if_neg (fun q => by rcases q.1 with q | q <;> omega)] at h
                 exact ih (s + 1) _ _ _ (by omega) (by omega) (by omega) h)
          · refine r_iload_n (pc' := 111) dX11_hooked_110 rfl rfl ?_
            refine r_si1 (pc' := 114) dX11_hooked_111 rfl qX11_ones lX11_174 rfl rfl rfl (Nat.zero_le _) (Nat.zero_le _) (m_ones hs1 ?_)
            refine r_iload_n (pc' := 115) dX11_hooked_114 rfl rfl ?_
            refine r_si1 (pc' := 118) dX11_hooked_115 rfl qX11_ones lX11_174 rfl rfl rfl (Nat.zero_le _) (Nat.zero_le _) (m_onesI (by omega) hf1 ?_)
            refine r_icmp_ge (tgt := 125) (pc' := 121) dX11_hooked_118 rfl rfl (by have := popN_le s; omega) (by have := popN_le fo.toNat; omega) (fun c118 => ?_) (fun c118 => ?_)
            · refine r_iload_n (pc' := 126) dX11_hooked_125 rfl rfl ?_
              refine r_istore_n (pc' := 127) dX11_hooked_126 rfl rfl ?_
              refine r_iinc (pc' := 130) dX11_hooked_127 rfl rfl rfl ?_
              refine r_goto (tgt := 25) dX11_hooked_130 rfl ?_
              first
                | (exfalso; omega)
                | (rw [if_neg (fun q => by have := of_decide_eq_true q.2; omega)] at h
                   exact ih (s + 1) _ _ _ (by omega) (by omega) (by omega) h)
                | (rw [if_pos ⟨Or.inl (by omega), decide_eq_true (by omega)⟩] at h
                   exact ih (s + 1) _ _ _ (by omega) (by omega) (by omega) h)
                | (rw [if_pos ⟨Or.inr (by omega), decide_eq_true (by omega)⟩] at h
                   exact ih (s + 1) _ _ _ (by omega) (by omega) (by omega) h)
                | (rw [if_neg (fun q => by rcases q.1 with q | q <;> omega)] at h
                   exact ih (s + 1) _ _ _ (by omega) (by omega) (by omega) h)
            · refine r_iload_n (pc' := 122) dX11_hooked_121 rfl rfl ?_
              refine r_goto (tgt := 126) dX11_hooked_122 rfl ?_
              refine r_istore_n (pc' := 127) dX11_hooked_126 rfl rfl ?_
              refine r_iinc (pc' := 130) dX11_hooked_127 rfl rfl rfl ?_
              refine r_goto (tgt := 25) dX11_hooked_130 rfl ?_
              first
                | (exfalso; omega)
                | (rw [if_neg (fun q => by have := of_decide_eq_true q.2; omega)] at h
                   exact ih (s + 1) _ _ _ (by omega) (by omega) (by omega) h)
                | (rw [if_pos ⟨Or.inl (by omega), decide_eq_true (by omega)⟩] at h
                   exact ih (s + 1) _ _ _ (by omega) (by omega) (by omega) h)
                | (rw [if_pos ⟨Or.inr (by omega), decide_eq_true (by omega)⟩] at h
                   exact ih (s + 1) _ _ _ (by omega) (by omega) (by omega) h)
                | (rw [if_neg (fun q => by rcases q.1 with q | q <;> omega)] at h
                   exact ih (s + 1) _ _ _ (by omega) (by omega) (by omega) h)
      · refine r_iconst (pc' := 94) dX11_hooked_93 rfl ?_
        refine r_goto (tgt := 98) dX11_hooked_94 rfl ?_
        refine r_istore (pc' := 100) dX11_hooked_98 rfl rfl ?_
        refine r_iload (pc' := 102) dX11_hooked_100 rfl rfl ?_
        refine r_if_eq (tgt := 125) (pc' := 105) dX11_hooked_102 rfl rfl (by decide) (fun c102 => ?_) (fun c102 => ?_)
        · refine r_iload_n (pc' := 126) dX11_hooked_125 rfl rfl ?_
          refine r_istore_n (pc' := 127) dX11_hooked_126 rfl rfl ?_
          refine r_iinc (pc' := 130) dX11_hooked_127 rfl rfl rfl ?_
          refine r_goto (tgt := 25) dX11_hooked_130 rfl ?_
          first
            | (exfalso; omega)
            | (rw [if_neg (fun q => by have := of_decide_eq_true q.2; omega)] at h
               exact ih (s + 1) _ _ _ (by omega) (by omega) (by omega) h)
            | (rw [if_pos ⟨Or.inl (by omega), decide_eq_true (by omega)⟩] at h
               exact ih (s + 1) _ _ _ (by omega) (by omega) (by omega) h)
            | (rw [if_pos ⟨Or.inr (by omega), decide_eq_true (by omega)⟩] at h
               exact ih (s + 1) _ _ _ (by omega) (by omega) (by omega) h)
            | (rw [if_neg (fun q => by rcases q.1 with q | q <;> omega)] at h
               exact ih (s + 1) _ _ _ (by omega) (by omega) (by omega) h)
        · refine r_iload_n (pc' := 106) dX11_hooked_105 rfl rfl ?_
          refine r_iconst (pc' := 107) dX11_hooked_106 rfl ?_
          refine r_icmp_eq (tgt := 121) (pc' := 110) dX11_hooked_107 rfl rfl (by omega) (by omega) (fun c107 => ?_) (fun c107 => ?_)
          · refine r_iload_n (pc' := 122) dX11_hooked_121 rfl rfl ?_
            refine r_goto (tgt := 126) dX11_hooked_122 rfl ?_
            refine r_istore_n (pc' := 127) dX11_hooked_126 rfl rfl ?_
            refine r_iinc (pc' := 130) dX11_hooked_127 rfl rfl rfl ?_
            refine r_goto (tgt := 25) dX11_hooked_130 rfl ?_
            first
              | (exfalso; omega)
              | (rw [if_neg (fun q => by have := of_decide_eq_true q.2; omega)] at h
                 exact ih (s + 1) _ _ _ (by omega) (by omega) (by omega) h)
              | (rw [if_pos ⟨Or.inl (by omega), decide_eq_true (by omega)⟩] at h
                 exact ih (s + 1) _ _ _ (by omega) (by omega) (by omega) h)
              | (rw [if_pos ⟨Or.inr (by omega), decide_eq_true (by omega)⟩] at h
                 exact ih (s + 1) _ _ _ (by omega) (by omega) (by omega) h)
              | (rw [if_neg (fun q => by rcases q.1 with q | q <;> omega)] at h
                 exact ih (s + 1) _ _ _ (by omega) (by omega) (by omega) h)
          · refine r_iload_n (pc' := 111) dX11_hooked_110 rfl rfl ?_
            refine r_si1 (pc' := 114) dX11_hooked_111 rfl qX11_ones lX11_174 rfl rfl rfl (Nat.zero_le _) (Nat.zero_le _) (m_ones hs1 ?_)
            refine r_iload_n (pc' := 115) dX11_hooked_114 rfl rfl ?_
            refine r_si1 (pc' := 118) dX11_hooked_115 rfl qX11_ones lX11_174 rfl rfl rfl (Nat.zero_le _) (Nat.zero_le _) (m_onesI (by omega) hf1 ?_)
            refine r_icmp_ge (tgt := 125) (pc' := 121) dX11_hooked_118 rfl rfl (by have := popN_le s; omega) (by have := popN_le fo.toNat; omega) (fun c118 => ?_) (fun c118 => ?_)
            · refine r_iload_n (pc' := 126) dX11_hooked_125 rfl rfl ?_
              refine r_istore_n (pc' := 127) dX11_hooked_126 rfl rfl ?_
              refine r_iinc (pc' := 130) dX11_hooked_127 rfl rfl rfl ?_
              refine r_goto (tgt := 25) dX11_hooked_130 rfl ?_
              first
                | (exfalso; omega)
                | (rw [if_neg (fun q => by have := of_decide_eq_true q.2; omega)] at h
                   exact ih (s + 1) _ _ _ (by omega) (by omega) (by omega) h)
                | (rw [if_pos ⟨Or.inl (by omega), decide_eq_true (by omega)⟩] at h
                   exact ih (s + 1) _ _ _ (by omega) (by omega) (by omega) h)
                | (rw [if_pos ⟨Or.inr (by omega), decide_eq_true (by omega)⟩] at h
                   exact ih (s + 1) _ _ _ (by omega) (by omega) (by omega) h)
                | (rw [if_neg (fun q => by rcases q.1 with q | q <;> omega)] at h
                   exact ih (s + 1) _ _ _ (by omega) (by omega) (by omega) h)
            · refine r_iload_n (pc' := 122) dX11_hooked_121 rfl rfl ?_
              refine r_goto (tgt := 126) dX11_hooked_122 rfl ?_
              refine r_istore_n (pc' := 127) dX11_hooked_126 rfl rfl ?_
              refine r_iinc (pc' := 130) dX11_hooked_127 rfl rfl rfl ?_
              refine r_goto (tgt := 25) dX11_hooked_130 rfl ?_
              first
                | (exfalso; omega)
                | (rw [if_neg (fun q => by have := of_decide_eq_true q.2; omega)] at h
                   exact ih (s + 1) _ _ _ (by omega) (by omega) (by omega) h)
                | (rw [if_pos ⟨Or.inl (by omega), decide_eq_true (by omega)⟩] at h
                   exact ih (s + 1) _ _ _ (by omega) (by omega) (by omega) h)
                | (rw [if_pos ⟨Or.inr (by omega), decide_eq_true (by omega)⟩] at h
                   exact ih (s + 1) _ _ _ (by omega) (by omega) (by omega) h)
                | (rw [if_neg (fun q => by rcases q.1 with q | q <;> omega)] at h
                   exact ih (s + 1) _ _ _ (by omega) (by omega) (by omega) h)
theorem M_hooked {X : CX} {d : Nat} {g : Mem} {K : Int → Mem → Prop} {tN : Nat} {tX : Nat → Int} {flt : Int} {u : PV} {v : LV} {kn : Nat} {kL : Nat → LV} {im : Nat → Bool × Int × LV} {sd : Int} {ln : Nat} {la : Nat → Nat} {lr : Nat → Bool} {bn : Nat} {bp : Nat → Nat} {bf : Nat → Int} (hM : MS g tN tX flt u v kn kL im sd ln la lr bn bp bf) (hS : WS tN tX flt u v kn kL im sd ln la lr bn bp bf) (x : Int) (hx : R32 x) (h : ∀ g' : Mem, MS g' tN tX flt u v kn kL im sd ln la lr bn bp bf → FrM g g' → K (E_hooked u v x) g') : EI X (d + 2) mX11_hooked [vr 166, vi x] Z0 g K := by
  show AJ X (d + 2) mX11_hooked 0 0 (QI Z0 K) 0 0 0 [some (vr 166), some (vi x), none, none, none, none] [] Z0 g
  obtain ⟨⟨m1, m2⟩, m3, m4, m5, ⟨m6, m7⟩, m8, m9, ⟨m10, m11⟩, ⟨m12, m13⟩⟩ := id hM
  obtain ⟨⟨s1, s2⟩, s3, s4, s5, ⟨s6, s7⟩, s8, ⟨s9, s10⟩, ⟨s11, s12⟩, ⟨s13, s14⟩⟩ := id hS
  have hB : MB g u v := ⟨m4, s4, m5, s5⟩
  obtain ⟨hQ, hU, hC, hW⟩ := id hB
  obtain ⟨hy, hi, hc, ht, ho, hf, hw_⟩ := id hC
  obtain ⟨w0, w1, w2, w3, w4, w5, w6, w7⟩ := id hW
  obtain ⟨p6, p7, p8, p9, p10, pk, pg, px, py⟩ := id hQ
  obtain ⟨u0, u1, u2, u3, u4, u5, u6, u7⟩ := id hU
  have h9 := h g hM (FrM.rf g)
  unfold E_hooked at h9
  have e := shl8 u2
  have e7 : 2 ^ Pf u ≤ 2 ^ 7 := Nat.pow_le_pow_right (by decide) u2
  have e9 : 1 ≤ 2 ^ Pf u := Nat.one_le_two_pow
  have e8 : ((2 ^ Pf u : Nat) : Int) = 2 ^ Pf u := by rw [Int.natCast_pow]; rfl
  refine r_iload_n (pc' := 1) dX11_hooked_0 rfl rfl ?_
  refine r_iconst (pc' := 2) dX11_hooked_1 rfl ?_
  refine r_iconst (pc' := 3) dX11_hooked_2 rfl ?_
  refine r_aload_n (pc' := 4) dX11_hooked_3 rfl rfl ?_
  refine r_getr (pc' := 7) dX11_hooked_4 rfl fX11_13 z166 rfl ?_
  refine r_iconst (pc' := 8) dX11_hooked_7 rfl ?_
  refine r_iaload (pc' := 9) dX11_hooked_8 rfl z168 (by decide) (by omega) (by omega) p8 ?_
  refine r_ishl (pc' := 10) dX11_hooked_9 rfl ?_
  refine r_iconst (pc' := 11) dX11_hooked_10 rfl ?_
  refine r_isub (pc' := 12) dX11_hooked_11 rfl ?_
  rw [e]
  refine r_si3 (pc' := 15) dX11_hooked_12 rfl qX11_in lX11_67 rfl rfl rfl (Nat.zero_le _) (Nat.zero_le _) (m_in x 0 (((2 ^ Pf u : Nat) : Int) - 1) hx (by decide) (by omega) ?_)
  refine r_if_ne (tgt := 21) (pc' := 18) dX11_hooked_15 rfl rfl (b01_R _) (fun c15 => ?_) (fun c15 => ?_)
  · have hd := of_decide_eq_true (b01_ne c15)
    refine r_iconst (pc' := 22) dX11_hooked_21 rfl ?_
    refine r_istore_n (pc' := 23) dX11_hooked_22 rfl rfl ?_
    refine r_iconst (pc' := 24) dX11_hooked_23 rfl ?_
    refine r_istore_n (pc' := 25) dX11_hooked_24 rfl rfl ?_
    rw [if_pos (by omega), ← hook_eq hW] at h9
    have ht := lm_hoo (X := X) (d := d) hB (x := x.toNat) (by omega) (2 ^ Pq u) 0 (-1) none none (by omega) (by omega) (by omega) h9
    rw [show ((x.toNat : Nat) : Int) = x by omega] at ht
    exact ht
  · have hd := of_decide_eq_false (b01_eq c15)
    refine r_ldc (z := -1000000001) (pc' := 20) dX11_hooked_18 rfl kX11_156 ?_
    refine r_reti dX11_hooked_20 rfl (Or.inl rfl) ?_
    rw [if_neg (by omega)] at h9
    exact h9
