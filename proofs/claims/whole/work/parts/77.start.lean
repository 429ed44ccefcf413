/-! the world behind both constructors, and the law from its entry -/
def gI : Mem := mu (mu (mu (fun _ _ => 0) 1 3 (-1)) 166 15 (-1)) 166 20 (-1)
theorem gI0 {i : Nat} {k : Int} (h1 : i ≠ 1) (h2 : i ≠ 166) : gI i k = 0 := by
  unfold gI
  rw [mu_ne h2, mu_ne h2, mu_ne h1]
theorem gI1 {k : Int} (h : k ≠ 3) : gI 1 k = 0 := by
  unfold gI
  rw [mu_ne (by decide), mu_ne (by decide), mu_at' h]
theorem gI13 : gI 1 3 = -1 := by
  unfold gI
  rw [mu_ne (by decide), mu_ne (by decide), mu_at]
theorem gIm {k : Int} (h : k ≠ 15) (h' : k ≠ 20) : gI 166 k = 0 := by
  unfold gI
  rw [mu_at' h', mu_at' h, mu_ne (by decide)]
theorem gIm15 : gI 166 15 = -1 := by
  unfold gI
  rw [mu_at' (by decide), mu_at]
theorem gIm20 : gI 166 20 = -1 := by
  unfold gI
  rw [mu_at]
def v00 : LV := (0, fun _ => 0, fun _ => 0, fun _ => 0, 0, 0, 0)
theorem LW_00 : LW (Pf u00) v00 := ⟨by decide, by decide, fun p hp => absurd hp (Nat.not_lt_zero p), fun p _ hp => absurd hp (Nat.not_lt_zero p), by decide, fun _ _ => ⟨by show (0 : Int) ≤ 0; decide, by show (0 : Int) ≤ 99; decide⟩, by decide, by decide⟩
theorem CS_I : CS gI 0 (fun _ => 0) (-1) u00 v00 0 (fun _ => v00) (fun _ => (false, 0, v00)) 0 0 (fun _ => 0) (fun _ => false) 0 (fun _ => 0) (fun _ => 0) := by
  have z : ∀ {i : Nat} {k : Int}, i ≠ 1 → i ≠ 166 → gI i k = 0 := fun h1 h2 => gI0 h1 h2
  refine ⟨⟨gI1 (by decide), by decide, fun k hk => absurd hk (Nat.not_lt_zero k)⟩, ⟨gI13, by decide⟩, ⟨⟨z (by decide) (by decide), z (by decide) (by decide), z (by decide) (by decide), z (by decide) (by decide), z (by decide) (by decide), fun k hk => absurd hk (Nat.not_lt_zero k), fun k hk => absurd hk (Nat.not_lt_zero k), fun k hk => absurd hk (Nat.not_lt_zero k), fun k hk => absurd hk (Nat.not_lt_zero k)⟩, PW_00, ⟨z (by decide) (by decide), fun k hk => absurd hk (Nat.not_lt_zero k), fun k _ => z (by decide) (by decide), fun k _ => z (by decide) (by decide), z (by decide) (by decide), z (by decide) (by decide), z (by decide) (by decide)⟩, LW_00⟩, ⟨0, z (by decide) (by decide), by decide, z (by decide) (by decide), by decide, fun j hj => absurd hj (Nat.not_lt_zero j)⟩, fun i hi => ⟨z (by omega) (by omega), fun q => absurd q (by show ¬ (false = true); decide)⟩, ⟨z (by decide) (by decide), by decide, by decide⟩, ⟨z (by decide) (by decide), by decide, fun i hi => absurd hi (Nat.not_lt_zero i)⟩, ⟨z (by decide) (by decide), by decide, fun i hi => absurd hi (Nat.not_lt_zero i)⟩⟩
theorem MS_I : MS gI 0 (fun _ => 0) (-1) u00 v00 0 (fun _ => v00) (fun _ => (false, 0, v00)) 0 0 (fun _ => 0) (fun _ => false) 0 (fun _ => 0) (fun _ => 0) := by
  have z : ∀ {i : Nat} {k : Int}, i ≠ 1 → i ≠ 166 → gI i k = 0 := fun h1 h2 => gI0 h1 h2
  refine ⟨⟨gIm (by decide) (by decide), fun k hk => absurd hk (Nat.not_lt_zero k)⟩, gIm15, ⟨z (by decide) (by decide), z (by decide) (by decide), z (by decide) (by decide), z (by decide) (by decide), z (by decide) (by decide), fun k hk => absurd hk (Nat.not_lt_zero k), fun k hk => absurd hk (Nat.not_lt_zero k), fun k hk => absurd hk (Nat.not_lt_zero k), fun k hk => absurd hk (Nat.not_lt_zero k)⟩, ⟨z (by decide) (by decide), z (by decide) (by decide), z (by decide) (by decide), z (by decide) (by decide), fun k hk => absurd hk (Nat.not_lt_zero k), fun k _ => z (by decide) (by decide), fun k _ => z (by decide) (by decide)⟩, ⟨gIm (by decide) (by decide), fun j hj => absurd hj (Nat.not_lt_zero j)⟩, fun i _ => ⟨z (by decide) (by decide), fun q => absurd q (by show ¬ (false = true); decide)⟩, gIm (by decide) (by decide), ⟨gIm (by decide) (by decide), fun i hi => absurd hi (Nat.not_lt_zero i)⟩, ⟨gIm (by decide) (by decide), fun i hi => absurd hi (Nat.not_lt_zero i)⟩⟩
theorem lw_begin {X : CX} {d : Nat} {Q : Option VV → List Sh → Mem → Prop} (hL : X.2.1 ≤ 2048) (hx : ∀ j : Int, R32 (X.2.2.1 j)) (hQ : ∀ g, Q (some (vi 1)) Z0 g) : AJ X (d + 30) mL_law 183 3111 Q 0 0 0 [some vsc, none, none, none] [] [] (fun _ _ => 0) := by
  have h0 : Zr (fun _ _ => 0) 0 := fun _ _ _ => rfl
  have h1 : Zr (mu (fun _ _ => 0) 1 3 (-1)) 166 := fun j hj q => by rw [mu_ne (by omega)]
  refine r_new (pc' := 3) (j := 0) (Z' := [oD10]) dL_law_0 rfl cfX10 xL_7 iaX10 iiX10 df10 nf10 (fun _ => rfl) (Nat.le_of_ble_eq_true rfl) (Nat.le_of_ble_eq_true rfl) rfl rfl ?_
  refine r_dup (pc' := 4) dL_law_3 rfl rfl ?_
  refine r_cI (mc' := 165) (ms' := 1426) (pc' := 7) dL_law_4 rfl qX10_init lL_9 (by decide) rfl rfl (Nat.le_of_ble_eq_true rfl) (Nat.le_of_ble_eq_true rfl) (k_X10 h0 ?_)
  refine r_astore_n (pc' := 8) dL_law_7 rfl rfl ?_
  refine r_new (pc' := 11) (j := 166) (Z' := ZD ++ [oD11]) dL_law_8 rfl cfX11 xL_10 iaX11 iiX11 df11 nf11 (fun q => h1 _ (by rw [ZD_len]; decide) q) (Nat.le_of_ble_eq_true rfl) (Nat.le_of_ble_eq_true rfl) ZD_len rfl ?_
  refine r_dup (pc' := 12) dL_law_11 rfl rfl ?_
  refine r_cI (mc' := 16) (ms' := 1648) (pc' := 15) dL_law_12 rfl qX11_init lL_12 (by decide) rfl rfl (Nat.le_of_ble_eq_true rfl) (Nat.le_of_ble_eq_true rfl) (k_X11 (P := ZD) (a := 166) (Z' := Z0) ZD_len rfl ZD_0 (by rw [ZD_len]; exact h1) ?_)
  refine r_astore_n (pc' := 16) dL_law_15 rfl rfl ?_
  refine r_iconst (pc' := 17) dL_law_16 rfl ?_
  refine r_istore_n (pc' := 18) dL_law_17 rfl rfl ?_
  exact lw_loop hL hx hQ X.2.1 0 gI CS_I MS_I (Or.inl gIm20) (by omega) (by omega)
/-- an array class by its word -/
theorem arr_cls {ty : FieldType} {args : Array Value} {s : State} (h : (Cond.arrayClass ty).before args s = true) (hty : ∀ cA, s.vm.findClass ("[" ++ ty.toString) = some cA → va_RA s cA ty) : ∃ cA, ArrOfT s cA ty ∧ va_RA s cA ty := by
  obtain ⟨c, k, comp, h1, h2, h3⟩ := Cond.arrayClass_spec h
  exact ⟨c, fun n z => ⟨(fun k h => by cases h), k, h2, comp, h3⟩, hty c h1⟩
theorem arr_obj {C : String} {args : Array Value} {s : State} (h : (Cond.arrayOver (.object C)).before args s = true) : ∃ cA, ArrOfT s cA (.object C) ∧ va_RA s cA (.object C) := by
  obtain ⟨comp, c, k, h1, h2, h3, h4, h5⟩ := Cond.arrayOver_spec h
  exact ⟨c, fun n z => ⟨(fun k h => by cases h), k, h3, comp, h4⟩, k, comp, h3, h4, h1, h5⟩
theorem cls_all {args : Array Value} {s : State} (htg : ∀ w ∈ gTbl, w.before args s = true) : ∃ D : va_G, ∀ (k : Nat) (q : vw_C), vwCl[k]? = some q → u_Kn s q.1 q.2.1 q.2.2 (D.1 k) (D.2 k) := by
  have h : ∀ k : Nat, ∃ (cC : ClassId) (iS : Nat → Nat), ∀ q : vw_C, vwCl[k]? = some q → u_Kn s q.1 q.2.1 q.2.2 cC iS := by
    intro k
    match k with
    | 0 => obtain ⟨a, b, h⟩ := u_known htg uX0 (htg _ iaX0); exact ⟨a, b, fun q hq => by cases hq; exact h⟩
    | 1 => obtain ⟨a, b, h⟩ := u_known htg uX1 (htg _ iaX1); exact ⟨a, b, fun q hq => by cases hq; exact h⟩
    | 2 => obtain ⟨a, b, h⟩ := u_known htg uX2 (htg _ iaX2); exact ⟨a, b, fun q hq => by cases hq; exact h⟩
    | 3 => obtain ⟨a, b, h⟩ := u_known htg uX3 (htg _ iaX3); exact ⟨a, b, fun q hq => by cases hq; exact h⟩
    | 4 => obtain ⟨a, b, h⟩ := u_known htg uX4 (htg _ iaX4); exact ⟨a, b, fun q hq => by cases hq; exact h⟩
    | 5 => obtain ⟨a, b, h⟩ := u_known htg uX5 (htg _ iaX5); exact ⟨a, b, fun q hq => by cases hq; exact h⟩
    | 6 => obtain ⟨a, b, h⟩ := u_known htg uX6 (htg _ iaX6); exact ⟨a, b, fun q hq => by cases hq; exact h⟩
    | 7 => obtain ⟨a, b, h⟩ := u_known htg uX7 (htg _ iaX7); exact ⟨a, b, fun q hq => by cases hq; exact h⟩
    | 8 => obtain ⟨a, b, h⟩ := u_known htg uX8 (htg _ iaX8); exact ⟨a, b, fun q hq => by cases hq; exact h⟩
    | 9 => obtain ⟨a, b, h⟩ := u_known htg uX9 (htg _ iaX9); exact ⟨a, b, fun q hq => by cases hq; exact h⟩
    | 10 => obtain ⟨a, b, h⟩ := u_known htg uX10 (htg _ iaX10); exact ⟨a, b, fun q hq => by cases hq; exact h⟩
    | 11 => obtain ⟨a, b, h⟩ := u_known htg uX11 (htg _ iaX11); exact ⟨a, b, fun q hq => by cases hq; exact h⟩
    | k + 12 => exact ⟨0, fun _ => 0, fun q hq => by cases hq⟩
  exact ⟨(fun k => Classical.choose (h k), fun k => Classical.choose (Classical.choose_spec (h k))), fun k q hq => Classical.choose_spec (Classical.choose_spec (h k)) q hq⟩
theorem nw_all {b : Nat} {s : State} (hts : ∀ w ∈ lw_tbl, w.before #[Value.ref b] s = true) : NW s := by
  refine ⟨fun q hq => ?_, va_AO.of (hts _ (List.mem_of_getElem? (i := 227) (by decide +kernel))), va_AO.of (hts _ (List.mem_of_getElem? (i := 241) (by decide +kernel)))⟩
  unfold nTbl at hq
  obtain ⟨w, hw, e⟩ := List.mem_filterMap.mp hq
  have hb := hts w hw
  split at e
  · cases e
    exact va_Nw.of rfl hb
  · cases e
