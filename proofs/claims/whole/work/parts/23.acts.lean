theorem CS.deed {g g2 : Mem} {tN : Nat} {tX : Nat → Int} {flt : Int} {u : PV} {v : LV} {kn : Nat} {kL : Nat → LV} {im : Nat → Bool × Int × LV} {sd : Int} {ln : Nat} {la : Nat → Nat} {lr : Nat → Bool} {bn : Nat} {bp : Nat → Nat} {bf : Nat → Int} {v' : LV} {kn' top' : Nat} {kL' : Nat → LV} (hS : CS g tN tX flt u v kn kL im sd ln la lr bn bp bf) (hps : PS g2 (Pf u) kn' top' kL') (hlc : LC g2 17 18 19 20 v') (hw : LW (Pf u) v') (hfr : ∀ j, ¬ pastB j → j ≠ 17 → j ≠ 18 → j ≠ 19 → j ≠ 20 → g2 j = g j) : CS g2 tN tX flt u v' kn' kL' im sd ln la lr bn bp bf := by
  have hx : ∀ j, ¬ pastB j → (j < 17 ∨ 20 < j) → g2 j = g j := fun j h1 h2 => hfr j h1 (by omega) (by omega) (by omega) (by omega)
  obtain ⟨⟨t1, t2, t3⟩, ⟨f1, f2⟩, hB, ⟨top, hP⟩, hI, hs, hK, hN⟩ := hS
  have np : ∀ j, j < 21 ∨ 143 ≤ j → ¬ pastB j := fun j hj q => by unfold pastB at q; omega
  refine ⟨⟨by rw [hx 1 (np _ (by omega)) (by omega)]; exact t1, t2, fun k hk => by rw [hx 2 (np _ (by omega)) (by omega)]; exact t3 k hk⟩, ⟨by rw [hx 1 (np _ (by omega)) (by omega)]; exact f1, f2⟩, ⟨?_, hB.2.1, hlc, hw⟩, ⟨top', hps⟩, fun i hi => ⟨?_, fun hk => ?_⟩, by rw [hx 0 (np _ (by omega)) (by omega)]; exact hs, ?_, ?_⟩
  · unfold PC_
    rw [hx 10 (np _ (by omega)) (by omega), hx 11 (np _ (by omega)) (by omega), hx 12 (np _ (by omega)) (by omega), hx 13 (np _ (by omega)) (by omega), hx 14 (np _ (by omega)) (by omega), hx 15 (np _ (by omega)) (by omega), hx 16 (np _ (by omega)) (by omega)]
    exact hB.1
  · rw [hx (144 + 5 * i) (np _ (by omega)) (by omega)]; exact (hI i hi).1
  · obtain ⟨q1, q2, q3, q4, q5⟩ := (hI i hi).2 hk
    exact ⟨by rw [hx (144 + 5 * i) (np _ (by omega)) (by omega)]; exact q1, q2, q3, q4.fr (hx _ (np _ (by omega)) (by omega)) (hx _ (np _ (by omega)) (by omega)) (hx _ (np _ (by omega)) (by omega)) (hx _ (np _ (by omega)) (by omega)), q5⟩
  · unfold LK
    rw [hx 160 (np _ (by omega)) (by omega), hx 161 (np _ (by omega)) (by omega), hx 162 (np _ (by omega)) (by omega)]
    exact hK
  · unfold BK
    rw [hx 163 (np _ (by omega)) (by omega), hx 164 (np _ (by omega)) (by omega), hx 165 (np _ (by omega)) (by omega)]
    exact hN
theorem LW_turn {F : Nat} {v : LV} (h : LW F v) {k : Nat} (hk : k ≤ Ln v) : LW F (turnV v k) := by
  obtain ⟨w0, w1, w2, w3, w4, w5, w6, w7⟩ := h
  refine ⟨w0, w1, fun q hq => ?_, fun q r hq hr e => ?_, w4, w5, w6, w7⟩
  · have hq1 : q < Ln v := hq
    show (if q < k then Lo v (k - 1 - q) else Lo v q) < F
    split
    · exact w2 _ (by omega)
    · exact w2 _ hq1
  · have hq1 : q < Ln v := hq
    have hr1 : r < Ln v := hr
    have e1 : (if q < k then Lo v (k - 1 - q) else Lo v q) = (if r < k then Lo v (k - 1 - r) else Lo v r) := e
    split at e1 <;> split at e1 <;> (have := w3 _ _ (by omega) (by omega) e1; omega)
theorem LW_cut {F : Nat} {v : LV} (h : LW F v) {p : Nat} (hp : p < Ln v) : LW F (cutV v p) := by
  obtain ⟨w0, w1, w2, w3, w4, w5, w6, w7⟩ := h
  refine ⟨w0, w1, fun q hq => w2 _ (Nat.mod_lt _ (by omega)), fun q r hq hr e => ?_, w4, w5, w6, w7⟩
  have hq1 : q < Ln v := hq
  have hr1 : r < Ln v := hr
  have e1 := w3 _ _ (Nat.mod_lt (q + p) (by omega)) (Nat.mod_lt (r + p) (by omega)) e
  have m1 : (q + p) % Ln v = if q + p < Ln v then q + p else q + p - Ln v := by
    split
    · exact Nat.mod_eq_of_lt (by assumption)
    · rw [Nat.mod_eq_sub_mod (by omega), Nat.mod_eq_of_lt (by omega)]
  have m2 : (r + p) % Ln v = if r + p < Ln v then r + p else r + p - Ln v := by
    split
    · exact Nat.mod_eq_of_lt (by assumption)
    · rw [Nat.mod_eq_sub_mod (by omega), Nat.mod_eq_of_lt (by omega)]
  rw [m1, m2] at e1
  split at e1 <;> split at e1 <;> omega
theorem LW_sew {F : Nat} {v : LV} (h : LW F v) {x p : Nat} (hx : x < F) (hp : p ≤ Ln v) (hn : Ln v < 7) (ho : ∀ q, q < Ln v → Lo v q ≠ x) : LW F (sewV v x p) := by
  obtain ⟨w0, w1, w2, w3, w4, w5, w6, w7⟩ := h
  refine ⟨w0, by show Ln v + 1 ≤ 7; omega, fun q hq => ?_, fun q r hq hr e => ?_, w4, fun k hk => ?_, w6, w7⟩
  · have hq1 : q < Ln v + 1 := hq
    show (if q < p then Lo v q else if q = p then x else Lo v (q - 1)) < F
    split
    · exact w2 _ (by omega)
    · split
      · exact hx
      · exact w2 _ (by omega)
  · have hq1 : q < Ln v + 1 := hq
    have hr1 : r < Ln v + 1 := hr
    have e1 : (if q < p then Lo v q else if q = p then x else Lo v (q - 1)) = (if r < p then Lo v r else if r = p then x else Lo v (r - 1)) := e
    split at e1 <;> split at e1 <;> (try split at e1) <;> (try split at e1)
    all_goals first | omega | (have := w3 _ _ (by omega) (by omega) e1; omega) | (exfalso; exact ho _ (by omega) e1) | (exfalso; exact ho _ (by omega) e1.symm)
  · show 0 ≤ (if k = x then 0 else Lf v k) ∧ (if k = x then 0 else Lf v k) ≤ 99
    split
    · omega
    · exact w5 k hk
def wetV (v : LV) (s : Nat) : LV := (Ln v, Lo v, Lf v, Lw v, s, Li v, Ly v)
def winV (v : LV) (s : Nat) : LV := (Ln v, Lo v, Lf v, Lw v, Lt v, s, Ly v)
theorem LW_wet {F : Nat} {v : LV} (h : LW F v) {s : Nat} (hs : s < 128) : LW F (wetV v s) := ⟨h.1, h.2.1, h.2.2.1, h.2.2.2.1, hs, h.2.2.2.2.2.1, h.2.2.2.2.2.2.1, h.2.2.2.2.2.2.2⟩
theorem LW_win {F : Nat} {v : LV} (h : LW F v) {s : Nat} (hs : s ≤ 9) : LW F (winV v s) := ⟨h.1, h.2.1, h.2.2.1, h.2.2.2.1, h.2.2.2.2.1, h.2.2.2.2.2.1, hs, h.2.2.2.2.2.2.2⟩
theorem plc_b {o : Nat → Nat} {f : Int} : ∀ (k p : Nat), plc o f k p = -1 ∨ ((p : Int) ≤ plc o f k p ∧ plc o f k p < p + k ∧ (o (plc o f k p).toNat : Int) = f)
  | 0, _ => Or.inl rfl
  | k + 1, p => by
    unfold plc
    split
    · right
      rename_i h
      refine ⟨by omega, by omega, ?_⟩
      rw [show ((p : Int)).toNat = p by omega]
      exact h
    · rcases plc_b (o := o) (f := f) k (p + 1) with h | h
      · exact Or.inl h
      · exact Or.inr ⟨by omega, by omega, h.2.2⟩
theorem plc_no {o : Nat → Nat} {f : Int} : ∀ (k p : Nat), plc o f k p = -1 → ∀ q, p ≤ q → q < p + k → (o q : Int) ≠ f
  | 0, p, _, q, h1, h2 => absurd h2 (by omega)
  | k + 1, p, h, q, h1, h2 => by
    unfold plc at h
    split at h
    · omega
    · rename_i hne
      by_cases hq : q = p
      · subst hq; exact hne
      · exact plc_no k (p + 1) h q (by omega) (by omega)
def E_turn (v : LV) (k : Int) : Int := if 2 ≤ k ∧ k ≤ Ln v then (Lo v (k.toNat - 1) : Int) else -1000000002
theorem a_turnFI {X : CX} {d : Nat} {g : Mem} {K : Mem → Prop} {i a f w F : Nat} {v : LV} (hL : isL i a f w) (hC : LC g i a f w v) (hW : LW F v) (hd : isD a f w) {k : Int} (h1 : 1 ≤ k) (h2 : k ≤ Ln v) (h : ∀ g', LC g' i a f w (turnV v k.toNat) → Fr [a] g g' → K g') : EV X (d + 1) mX2_turnFront [vr i, vi k] Z0 g K := by
  have e := a_turnF (X := X) (d := d) (K := K) hL hC hW hd (k := k.toNat) (by omega) (by omega) h
  rw [show ((k.toNat : Nat) : Int) = k by omega] at e
  exact e
theorem a_cutAtI {X : CX} {d : Nat} {g : Mem} {K : Mem → Prop} {i a f w F : Nat} {v : LV} (hL : isL i a f w) (hC : LC g i a f w v) (hW : LW F v) (hd : isD a f w) {p : Int} (h1 : 0 ≤ p) (h2 : p < Ln v) (h : ∀ g', LC g' i a f w (cutV v p.toNat) → Fr [a] g g' → K g') : EV X (d + 1) mX2_cutAt [vr i, vi p] Z0 g K := by
  have e := a_cutAt (X := X) (d := d) (K := K) hL hC hW hd (p := p.toNat) (by omega) h
  rw [show ((p.toNat : Nat) : Int) = p by omega] at e
  exact e
theorem a_takeOffI {X : CX} {d : Nat} {g : Mem} {K : Mem → Prop} {i a f w F : Nat} {v : LV} (hL : isL i a f w) (hC : LC g i a f w v) (hW : LW F v) (hd : isD a f w) {p : Int} (h1 : 0 ≤ p) (h2 : p < Ln v) (h : ∀ g', LC g' i a f w (dropV v p.toNat) → Fr [i, a] g g' → K g') : EV X d mX2_takeOff [vr i, vi p] Z0 g K := by
  have e := a_takeOff (X := X) (d := d) (K := K) hL hC hW hd (y := p.toNat) (by omega) h
  rw [show ((p.toNat : Nat) : Int) = p by omega] at e
  exact e
theorem a_sewOnI {X : CX} {d : Nat} {g : Mem} {K : Mem → Prop} {i a f w F : Nat} {v : LV} (hL : isL i a f w) (hC : LC g i a f w v) (hW : LW F v) (hd : isD a f w) {x y : Int} (h0 : 0 ≤ x) (hx : x < 7) (h7 : Ln v < 7) (h1 : 0 ≤ y) (h2 : y ≤ Ln v) (h : ∀ g', LC g' i a f w (sewV v x.toNat y.toNat) → Fr [i, a, f, w] g g' → K g') : EV X d mX2_sewOn [vr i, vi x, vi y] Z0 g K := by
  have e := a_sewOn (X := X) (d := d) (K := K) hL hC hW hd (x := x.toNat) (y := y.toNat) (by omega) h7 (by omega) h
  rw [show ((x.toNat : Nat) : Int) = x by omega, show ((y.toNat : Nat) : Int) = y by omega] at e
  exact e
theorem a_bringBackI {X : CX} {d : Nat} {g : Mem} {K : Mem → Prop} {u : PV} {v : LV} (hB : CB g u v) {kn top : Nat} {L : Nat → LV} (hp : PS g (Pf u) kn top L) {n : Int} (h1 : 1 ≤ n) (h2 : n ≤ kn) (h : ∀ g' : Mem, PS g' (Pf u) (kn - n.toNat) ((top + 30 - n.toNat) % 30) L → LC g' 17 18 19 20 (L (kn - n.toNat)) → LW (Pf u) (L (kn - n.toNat)) → (∀ j, j ≠ 21 → j ≠ 17 → j ≠ 18 → j ≠ 19 → j ≠ 20 → g' j = g j) → K g') : EV X (d + 2) mX4_bringBack [vr 21, vi n, vr 17] Z0 g K := by
  have e := a_bringBack (X := X) (d := d) (K := K) hB hp (n := n.toNat) (by omega) (by omega) h
  rw [show ((n.toNat : Nat) : Int) = n by omega] at e
  exact e
/-- among k flags of F, one is off: there is room -/
theorem room_of {F : Nat} {v : LV} (hW : LW F v) {x : Nat} (hx : x < F) (ho : ∀ q, q < Ln v → Lo v q ≠ x) : Ln v < 7 := by
  have h1 : (x :: Ll v).Nodup := by
    rw [List.nodup_cons]
    refine ⟨fun hm => ?_, Ll_nodup hW⟩
    unfold Ll at hm
    obtain ⟨q, hq, e⟩ := List.mem_map.mp hm
    exact ho q (List.mem_range.mp hq) e
  have h2 : (x :: Ll v) ⊆ List.range F := by
    intro y hy
    rw [List.mem_range]
    rcases List.mem_cons.mp hy with rfl | hy
    · exact hx
    · unfold Ll at hy
      obtain ⟨q, hq, rfl⟩ := List.mem_map.mp hy
      exact hW.2.2.1 q (List.mem_range.mp hq)
  have h4 := h1.length_le_of_subset h2
  rw [List.length_cons, Ll_len, List.length_range] at h4
  have := hW.1
  omega
theorem C_turn {X : CX} {d : Nat} {g : Mem} {K : Int → Mem → Prop} {tN : Nat} {tX : Nat → Int} {flt : Int} {u : PV} {v : LV} {kn : Nat} {kL : Nat → LV} {im : Nat → Bool × Int × LV} {sd : Int} {ln : Nat} {la : Nat → Nat} {lr : Nat → Bool} {bn : Nat} {bp : Nat → Nat} {bf : Nat → Int} (hS : CS g tN tX flt u v kn kL im sd ln la lr bn bp bf) (k : Int) (hk0 : R32 k) (h : ∀ g' : Mem, CS g' tN tX flt u (if 2 ≤ k ∧ k ≤ Ln v then turnV v k.toNat else v) (if 2 ≤ k ∧ k ≤ Ln v then pN kn else kn) (if 2 ≤ k ∧ k ≤ Ln v then pL kn kL v else kL) im sd ln la lr bn bp bf → FrC g g' → K (E_turn v k) g') : EI X (d + 3) mX10_turn [vr 0, vi k] Z0 g K := by
  show AJ X (d + 3) mX10_turn 0 0 (QI Z0 K) 0 0 0 [some (vr 0), some (vi k)] [] Z0 g
  obtain ⟨⟨t1, t2, t3⟩, ⟨f1, f2⟩, hB, ⟨top, hP⟩, hI, ⟨sd1, sd2, sd3⟩, hK, hN⟩ := id hS
  obtain ⟨hQ, hU, hC, hW⟩ := id hB
  obtain ⟨hc, ho, hf, hw_, ht, hi, hy⟩ := id hC
  obtain ⟨w0, w1, w2, w3, w4, w5, w6, w7⟩ := id hW
  obtain ⟨p6, p7, p8, p9, p10, pk, pg, px, py⟩ := id hQ
  obtain ⟨u0, u1, u2, u3, u4, u5, u6, u7⟩ := id hU
  refine r_iload_n (pc' := 1) dX10_turn_0 rfl rfl ?_
  refine r_iconst (pc' := 2) dX10_turn_1 rfl ?_
  refine r_icmp_lt (tgt := 16) (pc' := 5) dX10_turn_2 rfl rfl (by omega) (by omega) (fun c2 => ?_) (fun c2 => ?_)
  · refine r_ldc (z := -1000000002) (pc' := 18) dX10_turn_16 rfl kX10_86 ?_
    refine r_reti dX10_turn_18 rfl (Or.inl rfl) ?_
    have hno : ¬ (2 ≤ k ∧ k ≤ Ln v) := by omega
    have h9 := h g (by simp only [if_neg hno]; exact hS) (FrC.rf g)
    unfold E_turn at h9
    rw [if_neg hno] at h9
    exact h9
  · refine r_iload_n (pc' := 6) dX10_turn_5 rfl rfl ?_
    refine r_aload_n (pc' := 7) dX10_turn_6 rfl rfl ?_
    refine r_getr (pc' := 10) dX10_turn_7 rfl fX10_29 z0 rfl ?_
    refine r_getf (pc' := 13) (kI := 3) dX10_turn_10 rfl fX10_140 isL17.1 rfl rfl hc ?_
    refine r_icmp_le (tgt := 19) (pc' := 16) dX10_turn_13 rfl rfl (by omega) (by omega) (fun c13 => ?_) (fun c13 => ?_)
    · refine r_aload_n (pc' := 20) dX10_turn_19 rfl rfl ?_
      refine r_getr (pc' := 23) dX10_turn_20 rfl fX10_36 z0 rfl ?_
      refine r_aload_n (pc' := 24) dX10_turn_23 rfl rfl ?_
      refine r_getr (pc' := 27) dX10_turn_24 rfl fX10_29 z0 rfl ?_
      refine r_vv1 (pc' := 30) dX10_turn_27 rfl qX4_remember lX10_216 z21 rfl rfl rfl rfl (Nat.zero_le _) (Nat.zero_le _) (a_remember hB hP (fun g1 hP1 fr1 => ?_))
      have hl1 : ∀ j, j < 21 ∨ 143 ≤ j → g1 j = g j := fun j hj => fr1 j (by unfold pastB; omega)
      have hC1 := LC.fr hC (hl1 17 (by omega)) (hl1 18 (by omega)) (hl1 19 (by omega)) (hl1 20 (by omega))
      refine r_aload_n (pc' := 31) dX10_turn_30 rfl rfl ?_
      refine r_getr (pc' := 34) dX10_turn_31 rfl fX10_29 z0 rfl ?_
      refine r_iload_n (pc' := 35) dX10_turn_34 rfl rfl ?_
      refine r_vv1 (pc' := 38) dX10_turn_35 rfl qX2_turnFront lX10_220 isL17.1 rfl rfl rfl rfl (Nat.zero_le _) (Nat.zero_le _) (a_turnFI isL17 hC1 hW isD17 (k := k) (by omega) (by omega) (fun g2 hC2 fr2 => ?_))
      refine r_aload_n (pc' := 39) dX10_turn_38 rfl rfl ?_
      refine r_getr (pc' := 42) dX10_turn_39 rfl fX10_29 z0 rfl ?_
      refine r_iconst (pc' := 43) dX10_turn_42 rfl ?_
      refine r_vi1 (pc' := 46) dX10_turn_43 rfl qX2_flagAt lX10_194 isL17.1 rfl rfl rfl rfl (Nat.zero_le _) (Nat.zero_le _) (a_flagAt isL17 hC2 (LW_turn hW (by omega)) 0 (by decide) ?_)
      refine r_reti dX10_turn_46 rfl (Or.inl rfl) ?_
      have hok : 2 ≤ k ∧ k ≤ Ln v := by omega
      have hcs : CS g2 tN tX flt u (turnV v k.toNat) (pN kn) (pL kn kL v) im sd ln la lr bn bp bf := hS.deed (hP1.fr (fun j hj => fr2 j (by unfold pastB at hj; simp only [List.mem_cons, List.not_mem_nil, or_false, not_or]; omega))) hC2 (LW_turn hW (by omega)) (fun j h0 h1 h2 h3 h4 => (fr2 j (by simp only [List.mem_cons, List.not_mem_nil, or_false, not_or]; omega)).trans (fr1 j h0))
      have h9 := h g2 (by simp only [if_pos hok]; exact hcs) (fun j hj => (fr2 j (by simp only [List.mem_cons, List.not_mem_nil, or_false, not_or]; omega)).trans (hl1 j (by omega)))
      unfold E_turn at h9
      rw [if_pos hok] at h9
      rw [if_pos ⟨by omega, show (0 : Int) < Ln v by omega⟩]
      show K ((if (0 : Int).toNat < k.toNat then Lo v (k.toNat - 1 - (0 : Int).toNat) else Lo v (0 : Int).toNat : Nat) : Int) g2
      rw [if_pos (by omega), show k.toNat - 1 - (0 : Int).toNat = k.toNat - 1 by omega]
      exact h9
    · refine r_ldc (z := -1000000002) (pc' := 18) dX10_turn_16 rfl kX10_86 ?_
      refine r_reti dX10_turn_18 rfl (Or.inl rfl) ?_
      have hno : ¬ (2 ≤ k ∧ k ≤ Ln v) := by omega
      have h9 := h g (by simp only [if_neg hno]; exact hS) (FrC.rf g)
      unfold E_turn at h9
      rw [if_neg hno] at h9
      exact h9
def E_cut (v : LV) (p : Int) : Int := if 1 ≤ p ∧ p < Ln v then (Lo v p.toNat : Int) else -1000000002
theorem C_cut {X : CX} {d : Nat} {g : Mem} {K : Int → Mem → Prop} {tN : Nat} {tX : Nat → Int} {flt : Int} {u : PV} {v : LV} {kn : Nat} {kL : Nat → LV} {im : Nat → Bool × Int × LV} {sd : Int} {ln : Nat} {la : Nat → Nat} {lr : Nat → Bool} {bn : Nat} {bp : Nat → Nat} {bf : Nat → Int} (hS : CS g tN tX flt u v kn kL im sd ln la lr bn bp bf) (p : Int) (hk0 : R32 p) (h : ∀ g' : Mem, CS g' tN tX flt u (if 1 ≤ p ∧ p < Ln v then cutV v p.toNat else v) (if 1 ≤ p ∧ p < Ln v then pN kn else kn) (if 1 ≤ p ∧ p < Ln v then pL kn kL v else kL) im sd ln la lr bn bp bf → FrC g g' → K (E_cut v p) g') : EI X (d + 3) mX10_cut [vr 0, vi p] Z0 g K := by
  show AJ X (d + 3) mX10_cut 0 0 (QI Z0 K) 0 0 0 [some (vr 0), some (vi p)] [] Z0 g
  obtain ⟨⟨t1, t2, t3⟩, ⟨f1, f2⟩, hB, ⟨top, hP⟩, hI, ⟨sd1, sd2, sd3⟩, hK, hN⟩ := id hS
  obtain ⟨hQ, hU, hC, hW⟩ := id hB
  obtain ⟨hc, ho, hf, hw_, ht, hi, hy⟩ := id hC
  obtain ⟨w0, w1, w2, w3, w4, w5, w6, w7⟩ := id hW
  obtain ⟨p6, p7, p8, p9, p10, pk, pg, px, py⟩ := id hQ
  obtain ⟨u0, u1, u2, u3, u4, u5, u6, u7⟩ := id hU
  refine r_iload_n (pc' := 1) dX10_cut_0 rfl rfl ?_
  refine r_iconst (pc' := 2) dX10_cut_1 rfl ?_
  refine r_icmp_lt (tgt := 16) (pc' := 5) dX10_cut_2 rfl rfl (by omega) (by omega) (fun c2 => ?_) (fun c2 => ?_)
  · refine r_ldc (z := -1000000002) (pc' := 18) dX10_cut_16 rfl kX10_86 ?_
    refine r_reti dX10_cut_18 rfl (Or.inl rfl) ?_
    have hno : ¬ (1 ≤ p ∧ p < Ln v) := by omega
    have h9 := h g (by simp only [if_neg hno]; exact hS) (FrC.rf g)
    unfold E_cut at h9
    rw [if_neg hno] at h9
    exact h9
  · refine r_iload_n (pc' := 6) dX10_cut_5 rfl rfl ?_
    refine r_aload_n (pc' := 7) dX10_cut_6 rfl rfl ?_
    refine r_getr (pc' := 10) dX10_cut_7 rfl fX10_29 z0 rfl ?_
    refine r_getf (pc' := 13) (kI := 3) dX10_cut_10 rfl fX10_140 isL17.1 rfl rfl hc ?_
    refine r_icmp_lt (tgt := 19) (pc' := 16) dX10_cut_13 rfl rfl (by omega) (by omega) (fun c13 => ?_) (fun c13 => ?_)
    · refine r_aload_n (pc' := 20) dX10_cut_19 rfl rfl ?_
      refine r_getr (pc' := 23) dX10_cut_20 rfl fX10_36 z0 rfl ?_
      refine r_aload_n (pc' := 24) dX10_cut_23 rfl rfl ?_
      refine r_getr (pc' := 27) dX10_cut_24 rfl fX10_29 z0 rfl ?_
      refine r_vv1 (pc' := 30) dX10_cut_27 rfl qX4_remember lX10_216 z21 rfl rfl rfl rfl (Nat.zero_le _) (Nat.zero_le _) (a_remember hB hP (fun g1 hP1 fr1 => ?_))
      have hl1 : ∀ j, j < 21 ∨ 143 ≤ j → g1 j = g j := fun j hj => fr1 j (by unfold pastB; omega)
      have hC1 := LC.fr hC (hl1 17 (by omega)) (hl1 18 (by omega)) (hl1 19 (by omega)) (hl1 20 (by omega))
      refine r_aload_n (pc' := 31) dX10_cut_30 rfl rfl ?_
      refine r_getr (pc' := 34) dX10_cut_31 rfl fX10_29 z0 rfl ?_
      refine r_iload_n (pc' := 35) dX10_cut_34 rfl rfl ?_
      refine r_vv1 (pc' := 38) dX10_cut_35 rfl qX2_cutAt lX10_224 isL17.1 rfl rfl rfl rfl (Nat.zero_le _) (Nat.zero_le _) (a_cutAtI isL17 hC1 hW isD17 (p := p) (by omega) (by omega) (fun g2 hC2 fr2 => ?_))
      refine r_aload_n (pc' := 39) dX10_cut_38 rfl rfl ?_
      refine r_getr (pc' := 42) dX10_cut_39 rfl fX10_29 z0 rfl ?_
      refine r_iconst (pc' := 43) dX10_cut_42 rfl ?_
      refine r_vi1 (pc' := 46) dX10_cut_43 rfl qX2_flagAt lX10_194 isL17.1 rfl rfl rfl rfl (Nat.zero_le _) (Nat.zero_le _) (a_flagAt isL17 hC2 (LW_cut hW (by omega)) 0 (by decide) ?_)
      refine r_reti dX10_cut_46 rfl (Or.inl rfl) ?_
      have hok : 1 ≤ p ∧ p < Ln v := by omega
      have hcs : CS g2 tN tX flt u (cutV v p.toNat) (pN kn) (pL kn kL v) im sd ln la lr bn bp bf := hS.deed (hP1.fr (fun j hj => fr2 j (by unfold pastB at hj; simp only [List.mem_cons, List.not_mem_nil, or_false, not_or]; omega))) hC2 (LW_cut hW (by omega)) (fun j h0 h1 h2 h3 h4 => (fr2 j (by simp only [List.mem_cons, List.not_mem_nil, or_false, not_or]; omega)).trans (fr1 j h0))
      have h9 := h g2 (by simp only [if_pos hok]; exact hcs) (fun j hj => (fr2 j (by simp only [List.mem_cons, List.not_mem_nil, or_false, not_or]; omega)).trans (hl1 j (by omega)))
      unfold E_cut at h9
      rw [if_pos hok] at h9
      rw [if_pos ⟨by omega, show (0 : Int) < Ln v by omega⟩]
      show K ((Lo v (((0 : Int).toNat + p.toNat) % Ln v) : Nat) : Int) g2
      rw [show ((0 : Int).toNat + p.toNat) % Ln v = p.toNat by rw [Nat.mod_eq_of_lt (by omega)]; omega]
      exact h9
    · refine r_ldc (z := -1000000002) (pc' := 18) dX10_cut_16 rfl kX10_86 ?_
      refine r_reti dX10_cut_18 rfl (Or.inl rfl) ?_
      have hno : ¬ (1 ≤ p ∧ p < Ln v) := by omega
      have h9 := h g (by simp only [if_neg hno]; exact hS) (FrC.rf g)
      unfold E_cut at h9
      rw [if_neg hno] at h9
      exact h9
def E_eat (u : PV) (v : LV) (f : Int) : Int := if 0 ≤ f ∧ f < Pf u then (if plc (Lo v) f (Ln v) 0 = -1 then -1000000003 else plc (Lo v) f (Ln v) 0) else -1000000001
theorem C_eat {X : CX} {d : Nat} {g : Mem} {K : Int → Mem → Prop} {tN : Nat} {tX : Nat → Int} {flt : Int} {u : PV} {v : LV} {kn : Nat} {kL : Nat → LV} {im : Nat → Bool × Int × LV} {sd : Int} {ln : Nat} {la : Nat → Nat} {lr : Nat → Bool} {bn : Nat} {bp : Nat → Nat} {bf : Nat → Int} (hS : CS g tN tX flt u v kn kL im sd ln la lr bn bp bf) (f : Int) (hf0 : R32 f) (h : ∀ g' : Mem, CS g' tN tX flt u (if (0 ≤ f ∧ f < Pf u) ∧ plc (Lo v) f (Ln v) 0 ≠ -1 then dropV v (plc (Lo v) f (Ln v) 0).toNat else v) (if (0 ≤ f ∧ f < Pf u) ∧ plc (Lo v) f (Ln v) 0 ≠ -1 then pN kn else kn) (if (0 ≤ f ∧ f < Pf u) ∧ plc (Lo v) f (Ln v) 0 ≠ -1 then pL kn kL v else kL) im sd ln la lr bn bp bf → FrC g g' → K (E_eat u v f) g') : EI X (d + 3) mX10_eat [vr 0, vi f] Z0 g K := by
  show AJ X (d + 3) mX10_eat 0 0 (QI Z0 K) 0 0 0 [some (vr 0), some (vi f), none] [] Z0 g
  obtain ⟨⟨t1, t2, t3⟩, ⟨f1, f2⟩, hB, ⟨top, hP⟩, hI, ⟨sd1, sd2, sd3⟩, hK, hN⟩ := id hS
  obtain ⟨hQ, hU, hC, hW⟩ := id hB
  obtain ⟨hc, ho, hf, hw_, ht, hi, hy⟩ := id hC
  obtain ⟨w0, w1, w2, w3, w4, w5, w6, w7⟩ := id hW
  obtain ⟨p6, p7, p8, p9, p10, pk, pg, px, py⟩ := id hQ
  obtain ⟨u0, u1, u2, u3, u4, u5, u6, u7⟩ := id hU
  have hpb := plc_b (o := Lo v) (f := f) (Ln v) 0
  refine r_aload_n (pc' := 1) dX10_eat_0 rfl rfl ?_
  refine r_getr (pc' := 4) dX10_eat_1 rfl fX10_23 z0 rfl ?_
  refine r_iload_n (pc' := 5) dX10_eat_4 rfl rfl ?_
  refine r_vi1 (pc' := 8) dX10_eat_5 rfl qX5_hasFlag lX10_173 isP10.1 rfl rfl rfl rfl (Nat.zero_le _) (Nat.zero_le _) (a_hasFlag isP10 hQ hU f hf0 ?_)
  refine r_if_ne (tgt := 14) (pc' := 11) dX10_eat_8 rfl rfl (b01_R _) (fun c8 => ?_) (fun c8 => ?_)
  · have hd := of_decide_eq_true (b01_ne c8)
    refine r_aload_n (pc' := 15) dX10_eat_14 rfl rfl ?_
    refine r_getr (pc' := 18) dX10_eat_15 rfl fX10_29 z0 rfl ?_
    refine r_iload_n (pc' := 19) dX10_eat_18 rfl rfl ?_
    refine r_vi1 (pc' := 22) dX10_eat_19 rfl qX2_placeOf lX10_184 isL17.1 rfl rfl rfl rfl (Nat.zero_le _) (Nat.zero_le _) (a_placeOf isL17 hC hW f hf0 ?_)
    refine r_istore_n (pc' := 23) dX10_eat_22 rfl rfl ?_
    refine r_iload_n (pc' := 24) dX10_eat_23 rfl rfl ?_
    refine r_iconst (pc' := 25) dX10_eat_24 rfl ?_
    refine r_icmp_ne (tgt := 31) (pc' := 28) dX10_eat_25 rfl rfl (by omega) (by omega) (fun c25 => ?_) (fun c25 => ?_)
    · refine r_aload_n (pc' := 32) dX10_eat_31 rfl rfl ?_
      refine r_getr (pc' := 35) dX10_eat_32 rfl fX10_36 z0 rfl ?_
      refine r_aload_n (pc' := 36) dX10_eat_35 rfl rfl ?_
      refine r_getr (pc' := 39) dX10_eat_36 rfl fX10_29 z0 rfl ?_
      refine r_vv1 (pc' := 42) dX10_eat_39 rfl qX4_remember lX10_216 z21 rfl rfl rfl rfl (Nat.zero_le _) (Nat.zero_le _) (a_remember hB hP (fun g1 hP1 fr1 => ?_))
      have hl1 : ∀ j, j < 21 ∨ 143 ≤ j → g1 j = g j := fun j hj => fr1 j (by unfold pastB; omega)
      have hC1 := LC.fr hC (hl1 17 (by omega)) (hl1 18 (by omega)) (hl1 19 (by omega)) (hl1 20 (by omega))
      refine r_aload_n (pc' := 43) dX10_eat_42 rfl rfl ?_
      refine r_getr (pc' := 46) dX10_eat_43 rfl fX10_29 z0 rfl ?_
      refine r_iload_n (pc' := 47) dX10_eat_46 rfl rfl ?_
      refine r_vv1 (pc' := 50) dX10_eat_47 rfl qX2_takeOff lX10_228 isL17.1 rfl rfl rfl rfl (Nat.zero_le _) (Nat.zero_le _) (a_takeOffI isL17 hC1 hW isD17 (p := plc (Lo v) f (Ln v) 0) (by omega) (by omega) (fun g2 hC2 fr2 => ?_))
      refine r_iload_n (pc' := 51) dX10_eat_50 rfl rfl ?_
      refine r_reti dX10_eat_51 rfl (Or.inl rfl) ?_
      have hok : (0 ≤ f ∧ f < Pf u) ∧ plc (Lo v) f (Ln v) 0 ≠ -1 := by omega
      have hcs : CS g2 tN tX flt u (dropV v (plc (Lo v) f (Ln v) 0).toNat) (pN kn) (pL kn kL v) im sd ln la lr bn bp bf := hS.deed (hP1.fr (fun j hj => fr2 j (by unfold pastB at hj; simp only [List.mem_cons, List.not_mem_nil, or_false, not_or]; omega))) hC2 (LW_drop hW (by omega)) (fun j h0 h1 h2 h3 h4 => (fr2 j (by simp only [List.mem_cons, List.not_mem_nil, or_false, not_or]; omega)).trans (fr1 j h0))
      have h9 := h g2 (by simp only [if_pos hok]; exact hcs) (fun j hj => (fr2 j (by simp only [List.mem_cons, List.not_mem_nil, or_false, not_or]; omega)).trans (hl1 j (by omega)))
      unfold E_eat at h9
      rw [if_pos hd, if_neg c25] at h9
      exact h9
    · refine r_ldc (z := -1000000003) (pc' := 30) dX10_eat_28 rfl kX10_227 ?_
      refine r_reti dX10_eat_30 rfl (Or.inl rfl) ?_
      have hno : ¬ ((0 ≤ f ∧ f < Pf u) ∧ plc (Lo v) f (Ln v) 0 ≠ -1) := by omega
      have h9 := h g (by simp only [if_neg hno]; exact hS) (FrC.rf g)
      unfold E_eat at h9
      rw [if_pos hd, if_pos c25] at h9
      exact h9
  · refine r_ldc (z := -1000000001) (pc' := 13) dX10_eat_11 rfl kX10_177 ?_
    refine r_reti dX10_eat_13 rfl (Or.inl rfl) ?_
    have hd := of_decide_eq_false (b01_eq c8)
    have hno : ¬ ((0 ≤ f ∧ f < Pf u) ∧ plc (Lo v) f (Ln v) 0 ≠ -1) := by omega
    have h9 := h g (by simp only [if_neg hno]; exact hS) (FrC.rf g)
    unfold E_eat at h9
    rw [if_neg hd] at h9
    exact h9
def E_sew (u : PV) (v : LV) (f p : Int) : Int := if 0 ≤ f ∧ f < Pf u then (if 0 ≤ p ∧ p ≤ Ln v then (if plc (Lo v) f (Ln v) 0 = -1 then (Ln v : Int) + 1 else -1000000003) else -1000000002) else -1000000001
theorem C_sew {X : CX} {d : Nat} {g : Mem} {K : Int → Mem → Prop} {tN : Nat} {tX : Nat → Int} {flt : Int} {u : PV} {v : LV} {kn : Nat} {kL : Nat → LV} {im : Nat → Bool × Int × LV} {sd : Int} {ln : Nat} {la : Nat → Nat} {lr : Nat → Bool} {bn : Nat} {bp : Nat → Nat} {bf : Nat → Int} (hS : CS g tN tX flt u v kn kL im sd ln la lr bn bp bf) (f p : Int) (hf0 : R32 f) (hp0 : R32 p) (h : ∀ g' : Mem, CS g' tN tX flt u (if ((0 ≤ f ∧ f < Pf u) ∧ (0 ≤ p ∧ p ≤ Ln v)) ∧ plc (Lo v) f (Ln v) 0 = -1 then sewV v f.toNat p.toNat else v) (if ((0 ≤ f ∧ f < Pf u) ∧ (0 ≤ p ∧ p ≤ Ln v)) ∧ plc (Lo v) f (Ln v) 0 = -1 then pN kn else kn) (if ((0 ≤ f ∧ f < Pf u) ∧ (0 ≤ p ∧ p ≤ Ln v)) ∧ plc (Lo v) f (Ln v) 0 = -1 then pL kn kL v else kL) im sd ln la lr bn bp bf → FrC g g' → K (E_sew u v f p) g') : EI X (d + 3) mX10_sew [vr 0, vi f, vi p] Z0 g K := by
  show AJ X (d + 3) mX10_sew 0 0 (QI Z0 K) 0 0 0 [some (vr 0), some (vi f), some (vi p)] [] Z0 g
  obtain ⟨⟨t1, t2, t3⟩, ⟨f1, f2⟩, hB, ⟨top, hP⟩, hI, ⟨sd1, sd2, sd3⟩, hK, hN⟩ := id hS
  obtain ⟨hQ, hU, hC, hW⟩ := id hB
  obtain ⟨hc, ho, hf, hw_, ht, hi, hy⟩ := id hC
  obtain ⟨w0, w1, w2, w3, w4, w5, w6, w7⟩ := id hW
  obtain ⟨p6, p7, p8, p9, p10, pk, pg, px, py⟩ := id hQ
  obtain ⟨u0, u1, u2, u3, u4, u5, u6, u7⟩ := id hU
  have hpb := plc_b (o := Lo v) (f := f) (Ln v) 0
  refine r_aload_n (pc' := 1) dX10_sew_0 rfl rfl ?_
  refine r_getr (pc' := 4) dX10_sew_1 rfl fX10_23 z0 rfl ?_
  refine r_iload_n (pc' := 5) dX10_sew_4 rfl rfl ?_
  refine r_vi1 (pc' := 8) dX10_sew_5 rfl qX5_hasFlag lX10_173 isP10.1 rfl rfl rfl rfl (Nat.zero_le _) (Nat.zero_le _) (a_hasFlag isP10 hQ hU f hf0 ?_)
  refine r_if_ne (tgt := 14) (pc' := 11) dX10_sew_8 rfl rfl (b01_R _) (fun c8 => ?_) (fun c8 => ?_)
  · have hd := of_decide_eq_true (b01_ne c8)
    refine r_iload_n (pc' := 15) dX10_sew_14 rfl rfl ?_
    refine r_if_lt (tgt := 29) (pc' := 18) dX10_sew_15 rfl rfl (by omega) (fun c15 => ?_) (fun c15 => ?_)
    · refine r_ldc (z := -1000000002) (pc' := 31) dX10_sew_29 rfl kX10_86 ?_
      refine r_reti dX10_sew_31 rfl (Or.inl rfl) ?_
      have hno : ¬ (((0 ≤ f ∧ f < Pf u) ∧ (0 ≤ p ∧ p ≤ Ln v)) ∧ plc (Lo v) f (Ln v) 0 = -1) := by omega
      have h9 := h g (by simp only [if_neg hno]; exact hS) (FrC.rf g)
      unfold E_sew at h9
      rw [if_pos hd, if_neg (by omega)] at h9
      exact h9
    · refine r_iload_n (pc' := 19) dX10_sew_18 rfl rfl ?_
      refine r_aload_n (pc' := 20) dX10_sew_19 rfl rfl ?_
      refine r_getr (pc' := 23) dX10_sew_20 rfl fX10_29 z0 rfl ?_
      refine r_getf (pc' := 26) (kI := 3) dX10_sew_23 rfl fX10_140 isL17.1 rfl rfl hc ?_
      refine r_icmp_le (tgt := 32) (pc' := 29) dX10_sew_26 rfl rfl (by omega) (by omega) (fun c26 => ?_) (fun c26 => ?_)
      · refine r_aload_n (pc' := 33) dX10_sew_32 rfl rfl ?_
        refine r_getr (pc' := 36) dX10_sew_33 rfl fX10_29 z0 rfl ?_
        refine r_iload_n (pc' := 37) dX10_sew_36 rfl rfl ?_
        refine r_vi1 (pc' := 40) dX10_sew_37 rfl qX2_placeOf lX10_184 isL17.1 rfl rfl rfl rfl (Nat.zero_le _) (Nat.zero_le _) (a_placeOf isL17 hC hW f hf0 ?_)
        refine r_iconst (pc' := 41) dX10_sew_40 rfl ?_
        refine r_icmp_eq (tgt := 47) (pc' := 44) dX10_sew_41 rfl rfl (by omega) (by omega) (fun c41 => ?_) (fun c41 => ?_)
        · have hon : ∀ q, q < Ln v → Lo v q ≠ f.toNat := fun q hq e => plc_no (Ln v) 0 c41 q (by omega) (by omega) (by omega)
          have h7 := room_of hW (x := f.toNat) (by omega) hon
          refine r_aload_n (pc' := 48) dX10_sew_47 rfl rfl ?_
          refine r_getr (pc' := 51) dX10_sew_48 rfl fX10_36 z0 rfl ?_
          refine r_aload_n (pc' := 52) dX10_sew_51 rfl rfl ?_
          refine r_getr (pc' := 55) dX10_sew_52 rfl fX10_29 z0 rfl ?_
          refine r_vv1 (pc' := 58) dX10_sew_55 rfl qX4_remember lX10_216 z21 rfl rfl rfl rfl (Nat.zero_le _) (Nat.zero_le _) (a_remember hB hP (fun g1 hP1 fr1 => ?_))
          have hl1 : ∀ j, j < 21 ∨ 143 ≤ j → g1 j = g j := fun j hj => fr1 j (by unfold pastB; omega)
          have hC1 := LC.fr hC (hl1 17 (by omega)) (hl1 18 (by omega)) (hl1 19 (by omega)) (hl1 20 (by omega))
          refine r_aload_n (pc' := 59) dX10_sew_58 rfl rfl ?_
          refine r_getr (pc' := 62) dX10_sew_59 rfl fX10_29 z0 rfl ?_
          refine r_iload_n (pc' := 63) dX10_sew_62 rfl rfl ?_
          refine r_iload_n (pc' := 64) dX10_sew_63 rfl rfl ?_
          refine r_vv2 (pc' := 67) dX10_sew_64 rfl qX2_sewOn lX10_231 isL17.1 rfl rfl rfl rfl (Nat.zero_le _) (Nat.zero_le _) (a_sewOnI isL17 hC1 hW isD17 (x := f) (y := p) (by omega) (by omega) h7 (by omega) (by omega) (fun g2 hC2 fr2 => ?_))
          refine r_aload_n (pc' := 68) dX10_sew_67 rfl rfl ?_
          refine r_getr (pc' := 71) dX10_sew_68 rfl fX10_29 z0 rfl ?_
          refine r_getf (pc' := 74) (kI := 3) dX10_sew_71 rfl fX10_140 isL17.1 rfl rfl hC2.1 ?_
          refine r_reti dX10_sew_74 rfl (Or.inl rfl) ?_
          have hok : ((0 ≤ f ∧ f < Pf u) ∧ (0 ≤ p ∧ p ≤ Ln v)) ∧ plc (Lo v) f (Ln v) 0 = -1 := by omega
          have hcs : CS g2 tN tX flt u (sewV v f.toNat p.toNat) (pN kn) (pL kn kL v) im sd ln la lr bn bp bf := hS.deed (hP1.fr (fun j hj => fr2 j (by unfold pastB at hj; simp only [List.mem_cons, List.not_mem_nil, or_false, not_or]; omega))) hC2 (LW_sew hW (by omega) (by omega) h7 hon) (fun j h0 h1 h2 h3 h4 => (fr2 j (by simp only [List.mem_cons, List.not_mem_nil, or_false, not_or]; omega)).trans (fr1 j h0))
          have h9 := h g2 (by simp only [if_pos hok]; exact hcs) (fun j hj => (fr2 j (by simp only [List.mem_cons, List.not_mem_nil, or_false, not_or]; omega)).trans (hl1 j (by omega)))
          unfold E_sew at h9
          rw [if_pos hd, if_pos (by omega), if_pos c41] at h9
          exact h9
        · refine r_ldc (z := -1000000003) (pc' := 46) dX10_sew_44 rfl kX10_227 ?_
          refine r_reti dX10_sew_46 rfl (Or.inl rfl) ?_
          have hno : ¬ (((0 ≤ f ∧ f < Pf u) ∧ (0 ≤ p ∧ p ≤ Ln v)) ∧ plc (Lo v) f (Ln v) 0 = -1) := by omega
          have h9 := h g (by simp only [if_neg hno]; exact hS) (FrC.rf g)
          unfold E_sew at h9
          rw [if_pos hd, if_pos (by omega), if_neg c41] at h9
          exact h9
      · refine r_ldc (z := -1000000002) (pc' := 31) dX10_sew_29 rfl kX10_86 ?_
        refine r_reti dX10_sew_31 rfl (Or.inl rfl) ?_
        have hno : ¬ (((0 ≤ f ∧ f < Pf u) ∧ (0 ≤ p ∧ p ≤ Ln v)) ∧ plc (Lo v) f (Ln v) 0 = -1) := by omega
        have h9 := h g (by simp only [if_neg hno]; exact hS) (FrC.rf g)
        unfold E_sew at h9
        rw [if_pos hd, if_neg (by omega)] at h9
        exact h9
  · refine r_ldc (z := -1000000001) (pc' := 13) dX10_sew_11 rfl kX10_177 ?_
    refine r_reti dX10_sew_13 rfl (Or.inl rfl) ?_
    have hd := of_decide_eq_false (b01_eq c8)
    have hno : ¬ (((0 ≤ f ∧ f < Pf u) ∧ (0 ≤ p ∧ p ≤ Ln v)) ∧ plc (Lo v) f (Ln v) 0 = -1) := by omega
    have h9 := h g (by simp only [if_neg hno]; exact hS) (FrC.rf g)
    unfold E_sew at h9
    rw [if_neg hd] at h9
    exact h9
