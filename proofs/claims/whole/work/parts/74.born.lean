theorem app0 {P t : List Sh} {o : Sh} : (P ++ (o :: t))[P.length]? = some o := by
  rw [List.getElem?_append_right (Nat.le_refl _), Nat.sub_self]
  rfl
theorem set0 {P t : List Sh} {o o' : Sh} : (P ++ (o :: t)).set P.length o' = P ++ (o' :: t) := by
  rw [List.set_append_right _ _ (Nat.le_refl _), Nat.sub_self]
  rfl
theorem app1 {P t : List Sh} {x y : Sh} : (P ++ (x :: y :: t))[P.length + 1]? = some y := by
  rw [List.getElem?_append_right (by omega), Nat.add_sub_cancel_left]
  rfl
theorem set1 {P t : List Sh} {x y y' : Sh} : (P ++ (x :: y :: t)).set (P.length + 1) y' = P ++ (x :: y' :: t) := by
  rw [List.set_append_right _ _ (by omega), Nat.add_sub_cancel_left]
  rfl
theorem mu_z {g : Mem} {i : Nat} {k v : Int} (h : g i k = v) : mu g i k v = g := by
  funext j q
  unfold mu
  split
  · rename_i e
    rw [e.1, e.2, h]
  · rfl
def Zr (g : Mem) (n : Nat) : Prop := ∀ j, n ≤ j → ∀ q, g j q = 0
theorem Zr.le {g : Mem} {n n' : Nat} (h : Zr g n) (hl : n ≤ n') : Zr g n' := fun j hj q => h j (Nat.le_trans hl hj) q
abbrev oD0 : Sh := .inr (.inr (0, [some none, some none, none]))
abbrev oD1 : Sh := .inr (.inr (1, [some none, none, none]))
abbrev oD2 : Sh := .inr (.inr (2, [some none, some none, some none, none, none, none, none]))
abbrev oD3 : Sh := .inr (.inr (3, [some none, some none, none]))
abbrev oD4 : Sh := .inr (.inr (4, [some none, none, none]))
abbrev oD5 : Sh := .inr (.inr (5, [some none, some none, some none, some none, some none, some none, none, none, none, none, none]))
abbrev oD6 : Sh := .inr (.inr (6, [some none, none, none, none, none]))
abbrev oD7 : Sh := .inr (.inr (7, [some none]))
abbrev oD8 : Sh := .inr (.inr (8, [some none]))
abbrev oD9 : Sh := .inr (.inr (9, [some none, none]))
abbrev oD10 : Sh := .inr (.inr (10, [some none, some none, some none, some none, some none, some none, some none, some none, some none, some none, some none, none]))
abbrev oD11 : Sh := .inr (.inr (11, [some none, none, some none, some none, some none, some none, none, some none, some none, none, some none, none, some none, none, none, none, none, some none, some none, some none, none, some none, some none, some none, some none]))
abbrev bX0 (a : Nat) : List Sh := [.inr (.inr (0, [some (some (a + 1)), some (some (a + 2)), none])), .inl (0, 20), .inl (0, 20)]
theorem k_X0 {X : CX} {d : Nat} {Q : Option VV → List Sh → Mem → Prop} {P Z Z' : List Sh} {a : Nat} {g : Mem} (ha : P.length = a) (hz : P ++ [oD0] = Z) (hz' : P ++ bX0 a = Z') (hg : Zr g P.length) (h : Q none Z' g) : Ent X (d + 1) mX0_init 2 40 [vr a] Z g Q := by
  subst ha hz hz'
  show AJ X (d + 1) mX0_init 2 40 Q 0 0 0 [some (vr P.length)] [] (P ++ [oD0]) g
  refine r_aload_n (pc' := 1) dX0_init_0 rfl rfl ?_
  refine r_objI (pc' := 4) dX0_init_1 rfl lX0_3 rfl ?_
  refine r_aload_n (pc' := 5) dX0_init_4 rfl rfl ?_
  refine r_bipush (pc' := 7) dX0_init_5 rfl (by decide) ?_
  refine r_newI (pc' := 9) (len := 20) (j := P.length + 1) (Z' := P ++ (.inr (.inr (0, [some none, some none, none])) :: [.inl (0, 20)])) dX0_init_7 rfl rfl (Nat.le_of_ble_eq_true rfl) (fun q => hg _ (by rw [List.length_append]; exact Nat.le_add_right _ _) q) (Nat.le_of_ble_eq_true rfl) (Nat.le_of_ble_eq_true rfl) List.length_append (List.append_assoc _ _ _) ?_
  refine r_putr (pc' := 12) (Z' := P ++ (.inr (.inr (0, [some (some (P.length + 1)), some none, none])) :: [.inl (0, 20)])) dX0_init_9 rfl fX0_9 rfl rfl (fun _ => ⟨rfl, rfl⟩) app0 rfl set0 ?_
  refine r_aload_n (pc' := 13) dX0_init_12 rfl rfl ?_
  refine r_bipush (pc' := 15) dX0_init_13 rfl (by decide) ?_
  refine r_newI (pc' := 17) (len := 20) (j := P.length + 2) (Z' := P ++ (.inr (.inr (0, [some (some (P.length + 1)), some none, none])) :: [.inl (0, 20), .inl (0, 20)])) dX0_init_15 rfl rfl (Nat.le_of_ble_eq_true rfl) (fun q => hg _ (by rw [List.length_append]; exact Nat.le_add_right _ _) q) (Nat.le_of_ble_eq_true rfl) (Nat.le_of_ble_eq_true rfl) List.length_append (List.append_assoc _ _ _) ?_
  refine r_putr (pc' := 20) (Z' := P ++ (.inr (.inr (0, [some (some (P.length + 1)), some (some (P.length + 2)), none])) :: [.inl (0, 20), .inl (0, 20)])) dX0_init_17 rfl fX0_15 rfl rfl (fun _ => ⟨rfl, rfl⟩) app0 rfl set0 ?_
  refine r_aload_n (pc' := 21) dX0_init_20 rfl rfl ?_
  refine r_iconst (pc' := 22) dX0_init_21 rfl ?_
  refine r_putf (pc' := 25) (kI := 2) (g' := g) dX0_init_22 rfl fX0_18 app0 rfl (Or.inl rfl) rfl (mu_z (hg _ (Nat.le_refl _) _)) ?_
  exact r_retv dX0_init_25 rfl (Nat.le_of_ble_eq_true rfl) (Nat.le_of_ble_eq_true rfl) h
abbrev bX2 (a : Nat) : List Sh := [.inr (.inr (2, [some (some (a + 1)), some (some (a + 2)), some (some (a + 3)), none, none, none, none])), .inl (0, 7), .inl (0, 7), .inl (0, 7)]
theorem k_X2 {X : CX} {d : Nat} {Q : Option VV → List Sh → Mem → Prop} {P Z Z' : List Sh} {a : Nat} {g : Mem} (ha : P.length = a) (hz : P ++ [oD2] = Z) (hz' : P ++ bX2 a = Z') (hg : Zr g P.length) (h : Q none Z' g) : Ent X (d + 1) mX2_init 3 21 [vr a] Z g Q := by
  subst ha hz hz'
  show AJ X (d + 1) mX2_init 3 21 Q 0 0 0 [some (vr P.length)] [] (P ++ [oD2]) g
  refine r_aload_n (pc' := 1) dX2_init_0 rfl rfl ?_
  refine r_objI (pc' := 4) dX2_init_1 rfl lX2_3 rfl ?_
  refine r_aload_n (pc' := 5) dX2_init_4 rfl rfl ?_
  refine r_bipush (pc' := 7) dX2_init_5 rfl (by decide) ?_
  refine r_newI (pc' := 9) (len := 7) (j := P.length + 1) (Z' := P ++ (.inr (.inr (2, [some none, some none, some none, none, none, none, none])) :: [.inl (0, 7)])) dX2_init_7 rfl rfl (Nat.le_of_ble_eq_true rfl) (fun q => hg _ (by rw [List.length_append]; exact Nat.le_add_right _ _) q) (Nat.le_of_ble_eq_true rfl) (Nat.le_of_ble_eq_true rfl) List.length_append (List.append_assoc _ _ _) ?_
  refine r_putr (pc' := 12) (Z' := P ++ (.inr (.inr (2, [some (some (P.length + 1)), some none, some none, none, none, none, none])) :: [.inl (0, 7)])) dX2_init_9 rfl fX2_9 rfl rfl (fun _ => ⟨rfl, rfl⟩) app0 rfl set0 ?_
  refine r_aload_n (pc' := 13) dX2_init_12 rfl rfl ?_
  refine r_bipush (pc' := 15) dX2_init_13 rfl (by decide) ?_
  refine r_newI (pc' := 17) (len := 7) (j := P.length + 2) (Z' := P ++ (.inr (.inr (2, [some (some (P.length + 1)), some none, some none, none, none, none, none])) :: [.inl (0, 7), .inl (0, 7)])) dX2_init_15 rfl rfl (Nat.le_of_ble_eq_true rfl) (fun q => hg _ (by rw [List.length_append]; exact Nat.le_add_right _ _) q) (Nat.le_of_ble_eq_true rfl) (Nat.le_of_ble_eq_true rfl) List.length_append (List.append_assoc _ _ _) ?_
  refine r_putr (pc' := 20) (Z' := P ++ (.inr (.inr (2, [some (some (P.length + 1)), some (some (P.length + 2)), some none, none, none, none, none])) :: [.inl (0, 7), .inl (0, 7)])) dX2_init_17 rfl fX2_15 rfl rfl (fun _ => ⟨rfl, rfl⟩) app0 rfl set0 ?_
  refine r_aload_n (pc' := 21) dX2_init_20 rfl rfl ?_
  refine r_bipush (pc' := 23) dX2_init_21 rfl (by decide) ?_
  refine r_newI (pc' := 25) (len := 7) (j := P.length + 3) (Z' := P ++ (.inr (.inr (2, [some (some (P.length + 1)), some (some (P.length + 2)), some none, none, none, none, none])) :: [.inl (0, 7), .inl (0, 7), .inl (0, 7)])) dX2_init_23 rfl rfl (Nat.le_of_ble_eq_true rfl) (fun q => hg _ (by rw [List.length_append]; exact Nat.le_add_right _ _) q) (Nat.le_of_ble_eq_true rfl) (Nat.le_of_ble_eq_true rfl) List.length_append (List.append_assoc _ _ _) ?_
  refine r_putr (pc' := 28) (Z' := P ++ (.inr (.inr (2, [some (some (P.length + 1)), some (some (P.length + 2)), some (some (P.length + 3)), none, none, none, none])) :: [.inl (0, 7), .inl (0, 7), .inl (0, 7)])) dX2_init_25 rfl fX2_18 rfl rfl (fun _ => ⟨rfl, rfl⟩) app0 rfl set0 ?_
  refine r_aload_n (pc' := 29) dX2_init_28 rfl rfl ?_
  refine r_iconst (pc' := 30) dX2_init_29 rfl ?_
  refine r_putf (pc' := 33) (kI := 3) (g' := g) dX2_init_30 rfl fX2_21 app0 rfl (Or.inl rfl) rfl (mu_z (hg _ (Nat.le_refl _) _)) ?_
  refine r_aload_n (pc' := 34) dX2_init_33 rfl rfl ?_
  refine r_iconst (pc' := 35) dX2_init_34 rfl ?_
  refine r_putf (pc' := 38) (kI := 4) (g' := g) dX2_init_35 rfl fX2_25 app0 rfl (Or.inl rfl) rfl (mu_z (hg _ (Nat.le_refl _) _)) ?_
  refine r_aload_n (pc' := 39) dX2_init_38 rfl rfl ?_
  refine r_iconst (pc' := 40) dX2_init_39 rfl ?_
  refine r_putf (pc' := 43) (kI := 5) (g' := g) dX2_init_40 rfl fX2_28 app0 rfl (Or.inl rfl) rfl (mu_z (hg _ (Nat.le_refl _) _)) ?_
  refine r_aload_n (pc' := 44) dX2_init_43 rfl rfl ?_
  refine r_iconst (pc' := 45) dX2_init_44 rfl ?_
  refine r_putf (pc' := 48) (kI := 6) (g' := g) dX2_init_45 rfl fX2_31 app0 rfl (Or.inl rfl) rfl (mu_z (hg _ (Nat.le_refl _) _)) ?_
  exact r_retv dX2_init_48 rfl (Nat.le_of_ble_eq_true rfl) (Nat.le_of_ble_eq_true rfl) h
abbrev bX3 (a : Nat) : List Sh := [.inr (.inr (3, [some (some (a + 1)), some (some (a + 2)), none])), .inl (0, 6), .inl (1, 6)]
theorem k_X3 {X : CX} {d : Nat} {Q : Option VV → List Sh → Mem → Prop} {P Z Z' : List Sh} {a : Nat} {g : Mem} (ha : P.length = a) (hz : P ++ [oD3] = Z) (hz' : P ++ bX3 a = Z') (hg : Zr g P.length) (h : Q none Z' g) : Ent X (d + 1) mX3_init 2 12 [vr a] Z g Q := by
  subst ha hz hz'
  show AJ X (d + 1) mX3_init 2 12 Q 0 0 0 [some (vr P.length)] [] (P ++ [oD3]) g
  refine r_aload_n (pc' := 1) dX3_init_0 rfl rfl ?_
  refine r_objI (pc' := 4) dX3_init_1 rfl lX3_3 rfl ?_
  refine r_aload_n (pc' := 5) dX3_init_4 rfl rfl ?_
  refine r_bipush (pc' := 7) dX3_init_5 rfl (by decide) ?_
  refine r_newI (pc' := 9) (len := 6) (j := P.length + 1) (Z' := P ++ (.inr (.inr (3, [some none, some none, none])) :: [.inl (0, 6)])) dX3_init_7 rfl rfl (Nat.le_of_ble_eq_true rfl) (fun q => hg _ (by rw [List.length_append]; exact Nat.le_add_right _ _) q) (Nat.le_of_ble_eq_true rfl) (Nat.le_of_ble_eq_true rfl) List.length_append (List.append_assoc _ _ _) ?_
  refine r_putr (pc' := 12) (Z' := P ++ (.inr (.inr (3, [some (some (P.length + 1)), some none, none])) :: [.inl (0, 6)])) dX3_init_9 rfl fX3_9 rfl rfl (fun _ => ⟨rfl, rfl⟩) app0 rfl set0 ?_
  refine r_aload_n (pc' := 13) dX3_init_12 rfl rfl ?_
  refine r_bipush (pc' := 15) dX3_init_13 rfl (by decide) ?_
  refine r_newZ (pc' := 17) (len := 6) (j := P.length + 2) (Z' := P ++ (.inr (.inr (3, [some (some (P.length + 1)), some none, none])) :: [.inl (0, 6), .inl (1, 6)])) dX3_init_15 rfl rfl (Nat.le_of_ble_eq_true rfl) (fun q => hg _ (by rw [List.length_append]; exact Nat.le_add_right _ _) q) (Nat.le_of_ble_eq_true rfl) (Nat.le_of_ble_eq_true rfl) List.length_append (List.append_assoc _ _ _) ?_
  refine r_putr (pc' := 20) (Z' := P ++ (.inr (.inr (3, [some (some (P.length + 1)), some (some (P.length + 2)), none])) :: [.inl (0, 6), .inl (1, 6)])) dX3_init_17 rfl fX3_15 rfl rfl (fun _ => ⟨rfl, rfl⟩) app0 rfl set0 ?_
  refine r_aload_n (pc' := 21) dX3_init_20 rfl rfl ?_
  refine r_iconst (pc' := 22) dX3_init_21 rfl ?_
  refine r_putf (pc' := 25) (kI := 2) (g' := g) dX3_init_22 rfl fX3_19 app0 rfl (Or.inl rfl) rfl (mu_z (hg _ (Nat.le_refl _) _)) ?_
  exact r_retv dX3_init_25 rfl (Nat.le_of_ble_eq_true rfl) (Nat.le_of_ble_eq_true rfl) h
abbrev bX5 (a : Nat) : List Sh := [.inr (.inr (5, [some (some (a + 1)), some (some (a + 2)), some (some (a + 3)), some (some (a + 4)), some (some (a + 5)), some (some (a + 6)), none, none, none, none, none])), .inl (0, 7), .inl (0, 7), .inl (0, 24), .inl (0, 6), .inl (0, 5), .inl (0, 5)]
theorem k_X5 {X : CX} {d : Nat} {Q : Option VV → List Sh → Mem → Prop} {P Z Z' : List Sh} {a : Nat} {g : Mem} (ha : P.length = a) (hz : P ++ [oD5] = Z) (hz' : P ++ bX5 a = Z') (hg : Zr g P.length) (h : Q none Z' g) : Ent X (d + 1) mX5_init 6 54 [vr a] Z g Q := by
  subst ha hz hz'
  show AJ X (d + 1) mX5_init 6 54 Q 0 0 0 [some (vr P.length)] [] (P ++ [oD5]) g
  refine r_aload_n (pc' := 1) dX5_init_0 rfl rfl ?_
  refine r_objI (pc' := 4) dX5_init_1 rfl lX5_3 rfl ?_
  refine r_aload_n (pc' := 5) dX5_init_4 rfl rfl ?_
  refine r_bipush (pc' := 7) dX5_init_5 rfl (by decide) ?_
  refine r_newI (pc' := 9) (len := 7) (j := P.length + 1) (Z' := P ++ (.inr (.inr (5, [some none, some none, some none, some none, some none, some none, none, none, none, none, none])) :: [.inl (0, 7)])) dX5_init_7 rfl rfl (Nat.le_of_ble_eq_true rfl) (fun q => hg _ (by rw [List.length_append]; exact Nat.le_add_right _ _) q) (Nat.le_of_ble_eq_true rfl) (Nat.le_of_ble_eq_true rfl) List.length_append (List.append_assoc _ _ _) ?_
  refine r_putr (pc' := 12) (Z' := P ++ (.inr (.inr (5, [some (some (P.length + 1)), some none, some none, some none, some none, some none, none, none, none, none, none])) :: [.inl (0, 7)])) dX5_init_9 rfl fX5_9 rfl rfl (fun _ => ⟨rfl, rfl⟩) app0 rfl set0 ?_
  refine r_aload_n (pc' := 13) dX5_init_12 rfl rfl ?_
  refine r_bipush (pc' := 15) dX5_init_13 rfl (by decide) ?_
  refine r_newI (pc' := 17) (len := 7) (j := P.length + 2) (Z' := P ++ (.inr (.inr (5, [some (some (P.length + 1)), some none, some none, some none, some none, some none, none, none, none, none, none])) :: [.inl (0, 7), .inl (0, 7)])) dX5_init_15 rfl rfl (Nat.le_of_ble_eq_true rfl) (fun q => hg _ (by rw [List.length_append]; exact Nat.le_add_right _ _) q) (Nat.le_of_ble_eq_true rfl) (Nat.le_of_ble_eq_true rfl) List.length_append (List.append_assoc _ _ _) ?_
  refine r_putr (pc' := 20) (Z' := P ++ (.inr (.inr (5, [some (some (P.length + 1)), some (some (P.length + 2)), some none, some none, some none, some none, none, none, none, none, none])) :: [.inl (0, 7), .inl (0, 7)])) dX5_init_17 rfl fX5_15 rfl rfl (fun _ => ⟨rfl, rfl⟩) app0 rfl set0 ?_
  refine r_aload_n (pc' := 21) dX5_init_20 rfl rfl ?_
  refine r_bipush (pc' := 23) dX5_init_21 rfl (by decide) ?_
  refine r_newI (pc' := 25) (len := 24) (j := P.length + 3) (Z' := P ++ (.inr (.inr (5, [some (some (P.length + 1)), some (some (P.length + 2)), some none, some none, some none, some none, none, none, none, none, none])) :: [.inl (0, 7), .inl (0, 7), .inl (0, 24)])) dX5_init_23 rfl rfl (Nat.le_of_ble_eq_true rfl) (fun q => hg _ (by rw [List.length_append]; exact Nat.le_add_right _ _) q) (Nat.le_of_ble_eq_true rfl) (Nat.le_of_ble_eq_true rfl) List.length_append (List.append_assoc _ _ _) ?_
  refine r_putr (pc' := 28) (Z' := P ++ (.inr (.inr (5, [some (some (P.length + 1)), some (some (P.length + 2)), some (some (P.length + 3)), some none, some none, some none, none, none, none, none, none])) :: [.inl (0, 7), .inl (0, 7), .inl (0, 24)])) dX5_init_25 rfl fX5_18 rfl rfl (fun _ => ⟨rfl, rfl⟩) app0 rfl set0 ?_
  refine r_aload_n (pc' := 29) dX5_init_28 rfl rfl ?_
  refine r_bipush (pc' := 31) dX5_init_29 rfl (by decide) ?_
  refine r_newI (pc' := 33) (len := 6) (j := P.length + 4) (Z' := P ++ (.inr (.inr (5, [some (some (P.length + 1)), some (some (P.length + 2)), some (some (P.length + 3)), some none, some none, some none, none, none, none, none, none])) :: [.inl (0, 7), .inl (0, 7), .inl (0, 24), .inl (0, 6)])) dX5_init_31 rfl rfl (Nat.le_of_ble_eq_true rfl) (fun q => hg _ (by rw [List.length_append]; exact Nat.le_add_right _ _) q) (Nat.le_of_ble_eq_true rfl) (Nat.le_of_ble_eq_true rfl) List.length_append (List.append_assoc _ _ _) ?_
  refine r_putr (pc' := 36) (Z' := P ++ (.inr (.inr (5, [some (some (P.length + 1)), some (some (P.length + 2)), some (some (P.length + 3)), some (some (P.length + 4)), some none, some none, none, none, none, none, none])) :: [.inl (0, 7), .inl (0, 7), .inl (0, 24), .inl (0, 6)])) dX5_init_33 rfl fX5_21 rfl rfl (fun _ => ⟨rfl, rfl⟩) app0 rfl set0 ?_
  refine r_aload_n (pc' := 37) dX5_init_36 rfl rfl ?_
  refine r_iconst (pc' := 38) dX5_init_37 rfl ?_
  refine r_newI (pc' := 40) (len := 5) (j := P.length + 5) (Z' := P ++ (.inr (.inr (5, [some (some (P.length + 1)), some (some (P.length + 2)), some (some (P.length + 3)), some (some (P.length + 4)), some none, some none, none, none, none, none, none])) :: [.inl (0, 7), .inl (0, 7), .inl (0, 24), .inl (0, 6), .inl (0, 5)])) dX5_init_38 rfl rfl (Nat.le_of_ble_eq_true rfl) (fun q => hg _ (by rw [List.length_append]; exact Nat.le_add_right _ _) q) (Nat.le_of_ble_eq_true rfl) (Nat.le_of_ble_eq_true rfl) List.length_append (List.append_assoc _ _ _) ?_
  refine r_putr (pc' := 43) (Z' := P ++ (.inr (.inr (5, [some (some (P.length + 1)), some (some (P.length + 2)), some (some (P.length + 3)), some (some (P.length + 4)), some (some (P.length + 5)), some none, none, none, none, none, none])) :: [.inl (0, 7), .inl (0, 7), .inl (0, 24), .inl (0, 6), .inl (0, 5)])) dX5_init_40 rfl fX5_24 rfl rfl (fun _ => ⟨rfl, rfl⟩) app0 rfl set0 ?_
  refine r_aload_n (pc' := 44) dX5_init_43 rfl rfl ?_
  refine r_iconst (pc' := 45) dX5_init_44 rfl ?_
  refine r_newI (pc' := 47) (len := 5) (j := P.length + 6) (Z' := P ++ (.inr (.inr (5, [some (some (P.length + 1)), some (some (P.length + 2)), some (some (P.length + 3)), some (some (P.length + 4)), some (some (P.length + 5)), some none, none, none, none, none, none])) :: [.inl (0, 7), .inl (0, 7), .inl (0, 24), .inl (0, 6), .inl (0, 5), .inl (0, 5)])) dX5_init_45 rfl rfl (Nat.le_of_ble_eq_true rfl) (fun q => hg _ (by rw [List.length_append]; exact Nat.le_add_right _ _) q) (Nat.le_of_ble_eq_true rfl) (Nat.le_of_ble_eq_true rfl) List.length_append (List.append_assoc _ _ _) ?_
  refine r_putr (pc' := 50) (Z' := P ++ (.inr (.inr (5, [some (some (P.length + 1)), some (some (P.length + 2)), some (some (P.length + 3)), some (some (P.length + 4)), some (some (P.length + 5)), some (some (P.length + 6)), none, none, none, none, none])) :: [.inl (0, 7), .inl (0, 7), .inl (0, 24), .inl (0, 6), .inl (0, 5), .inl (0, 5)])) dX5_init_47 rfl fX5_27 rfl rfl (fun _ => ⟨rfl, rfl⟩) app0 rfl set0 ?_
  refine r_aload_n (pc' := 51) dX5_init_50 rfl rfl ?_
  refine r_iconst (pc' := 52) dX5_init_51 rfl ?_
  refine r_putf (pc' := 55) (kI := 6) (g' := g) dX5_init_52 rfl fX5_30 app0 rfl (Or.inr ⟨rfl, Or.inl rfl⟩) rfl (mu_z (hg _ (Nat.le_refl _) _)) ?_
  refine r_aload_n (pc' := 56) dX5_init_55 rfl rfl ?_
  refine r_iconst (pc' := 57) dX5_init_56 rfl ?_
  refine r_putf (pc' := 60) (kI := 7) (g' := g) dX5_init_57 rfl fX5_34 app0 rfl (Or.inl rfl) rfl (mu_z (hg _ (Nat.le_refl _) _)) ?_
  refine r_aload_n (pc' := 61) dX5_init_60 rfl rfl ?_
  refine r_iconst (pc' := 62) dX5_init_61 rfl ?_
  refine r_putf (pc' := 65) (kI := 8) (g' := g) dX5_init_62 rfl fX5_38 app0 rfl (Or.inl rfl) rfl (mu_z (hg _ (Nat.le_refl _) _)) ?_
  refine r_aload_n (pc' := 66) dX5_init_65 rfl rfl ?_
  refine r_iconst (pc' := 67) dX5_init_66 rfl ?_
  refine r_putf (pc' := 70) (kI := 9) (g' := g) dX5_init_67 rfl fX5_41 app0 rfl (Or.inl rfl) rfl (mu_z (hg _ (Nat.le_refl _) _)) ?_
  refine r_aload_n (pc' := 71) dX5_init_70 rfl rfl ?_
  refine r_iconst (pc' := 72) dX5_init_71 rfl ?_
  refine r_putf (pc' := 75) (kI := 10) (g' := g) dX5_init_72 rfl fX5_44 app0 rfl (Or.inl rfl) rfl (mu_z (hg _ (Nat.le_refl _) _)) ?_
  exact r_retv dX5_init_75 rfl (Nat.le_of_ble_eq_true rfl) (Nat.le_of_ble_eq_true rfl) h
abbrev bX6 (a : Nat) : List Sh := [.inr (.inr (6, [some (some (a + 1)), none, none, none, none])), .inl (0, 240)]
theorem k_X6 {X : CX} {d : Nat} {Q : Option VV → List Sh → Mem → Prop} {P Z Z' : List Sh} {a : Nat} {g : Mem} (ha : P.length = a) (hz : P ++ [oD6] = Z) (hz' : P ++ bX6 a = Z') (hg : Zr g P.length) (h : Q none Z' (mu g a 3 (-1))) : Ent X (d + 1) mX6_init 1 240 [vr a] Z g Q := by
  subst ha hz hz'
  show AJ X (d + 1) mX6_init 1 240 Q 0 0 0 [some (vr P.length)] [] (P ++ [oD6]) g
  refine r_aload_n (pc' := 1) dX6_init_0 rfl rfl ?_
  refine r_objI (pc' := 4) dX6_init_1 rfl lX6_3 rfl ?_
  refine r_aload_n (pc' := 5) dX6_init_4 rfl rfl ?_
  refine r_sipush (pc' := 8) dX6_init_5 rfl (by decide) ?_
  refine r_newI (pc' := 10) (len := 240) (j := P.length + 1) (Z' := P ++ (.inr (.inr (6, [some none, none, none, none, none])) :: [.inl (0, 240)])) dX6_init_8 rfl rfl (Nat.le_of_ble_eq_true rfl) (fun q => hg _ (by rw [List.length_append]; exact Nat.le_add_right _ _) q) (Nat.le_of_ble_eq_true rfl) (Nat.le_of_ble_eq_true rfl) List.length_append (List.append_assoc _ _ _) ?_
  refine r_putr (pc' := 13) (Z' := P ++ (.inr (.inr (6, [some (some (P.length + 1)), none, none, none, none])) :: [.inl (0, 240)])) dX6_init_10 rfl fX6_9 rfl rfl (fun _ => ⟨rfl, rfl⟩) app0 rfl set0 ?_
  refine r_aload_n (pc' := 14) dX6_init_13 rfl rfl ?_
  refine r_iconst (pc' := 15) dX6_init_14 rfl ?_
  refine r_putf (pc' := 18) (kI := 1) (g' := g) dX6_init_15 rfl fX6_15 app0 rfl (Or.inl rfl) rfl (mu_z (hg _ (Nat.le_refl _) _)) ?_
  refine r_aload_n (pc' := 19) dX6_init_18 rfl rfl ?_
  refine r_iconst (pc' := 20) dX6_init_19 rfl ?_
  refine r_putf (pc' := 23) (kI := 2) (g' := g) dX6_init_20 rfl fX6_19 app0 rfl (Or.inl rfl) rfl (mu_z (hg _ (Nat.le_refl _) _)) ?_
  refine r_aload_n (pc' := 24) dX6_init_23 rfl rfl ?_
  refine r_iconst (pc' := 25) dX6_init_24 rfl ?_
  refine r_putf (pc' := 28) (kI := 3) (g' := (mu g P.length 3 (-1))) dX6_init_25 rfl fX6_22 app0 rfl (Or.inl rfl) rfl rfl ?_
  have h0m : ∀ j, P.length < j → ∀ q, (mu g P.length 3 (-1)) j q = 0 := fun j hj q => by rw [mu_ne (by omega)]; exact hg j (by omega) q
  refine r_aload_n (pc' := 29) dX6_init_28 rfl rfl ?_
  refine r_iconst (pc' := 30) dX6_init_29 rfl ?_
  refine r_putf (pc' := 33) (kI := 4) (g' := (mu g P.length 3 (-1))) dX6_init_30 rfl fX6_25 app0 rfl (Or.inl rfl) rfl (mu_z ((by rw [mu_at' (by decide)]; exact hg _ (Nat.le_refl _) _))) ?_
  exact r_retv dX6_init_33 rfl (Nat.le_of_ble_eq_true rfl) (Nat.le_of_ble_eq_true rfl) h
abbrev bX7 (a : Nat) : List Sh := [.inr (.inr (7, [some (some (a + 1))])), .inl (0, 8)]
theorem k_X7 {X : CX} {d : Nat} {Q : Option VV → List Sh → Mem → Prop} {P Z Z' : List Sh} {a : Nat} {g : Mem} (ha : P.length = a) (hz : P ++ [oD7] = Z) (hz' : P ++ bX7 a = Z') (hg : Zr g P.length) (h : Q none Z' g) : Ent X (d + 1) mX7_init 1 8 [vr a] Z g Q := by
  subst ha hz hz'
  show AJ X (d + 1) mX7_init 1 8 Q 0 0 0 [some (vr P.length)] [] (P ++ [oD7]) g
  refine r_aload_n (pc' := 1) dX7_init_0 rfl rfl ?_
  refine r_objI (pc' := 4) dX7_init_1 rfl lX7_3 rfl ?_
  refine r_aload_n (pc' := 5) dX7_init_4 rfl rfl ?_
  refine r_bipush (pc' := 7) dX7_init_5 rfl (by decide) ?_
  refine r_newI (pc' := 9) (len := 8) (j := P.length + 1) (Z' := P ++ (.inr (.inr (7, [some none])) :: [.inl (0, 8)])) dX7_init_7 rfl rfl (Nat.le_of_ble_eq_true rfl) (fun q => hg _ (by rw [List.length_append]; exact Nat.le_add_right _ _) q) (Nat.le_of_ble_eq_true rfl) (Nat.le_of_ble_eq_true rfl) List.length_append (List.append_assoc _ _ _) ?_
  refine r_putr (pc' := 12) (Z' := P ++ (.inr (.inr (7, [some (some (P.length + 1))])) :: [.inl (0, 8)])) dX7_init_9 rfl fX7_9 rfl rfl (fun _ => ⟨rfl, rfl⟩) app0 rfl set0 ?_
  exact r_retv dX7_init_12 rfl (Nat.le_of_ble_eq_true rfl) (Nat.le_of_ble_eq_true rfl) h
abbrev bX8 (a : Nat) : List Sh := [.inr (.inr (8, [some (some (a + 1))])), .inl (0, 8)]
theorem k_X8 {X : CX} {d : Nat} {Q : Option VV → List Sh → Mem → Prop} {P Z Z' : List Sh} {a : Nat} {g : Mem} (ha : P.length = a) (hz : P ++ [oD8] = Z) (hz' : P ++ bX8 a = Z') (hg : Zr g P.length) (h : Q none Z' g) : Ent X (d + 1) mX8_init 1 8 [vr a] Z g Q := by
  subst ha hz hz'
  show AJ X (d + 1) mX8_init 1 8 Q 0 0 0 [some (vr P.length)] [] (P ++ [oD8]) g
  refine r_aload_n (pc' := 1) dX8_init_0 rfl rfl ?_
  refine r_objI (pc' := 4) dX8_init_1 rfl lX8_3 rfl ?_
  refine r_aload_n (pc' := 5) dX8_init_4 rfl rfl ?_
  refine r_bipush (pc' := 7) dX8_init_5 rfl (by decide) ?_
  refine r_newI (pc' := 9) (len := 8) (j := P.length + 1) (Z' := P ++ (.inr (.inr (8, [some none])) :: [.inl (0, 8)])) dX8_init_7 rfl rfl (Nat.le_of_ble_eq_true rfl) (fun q => hg _ (by rw [List.length_append]; exact Nat.le_add_right _ _) q) (Nat.le_of_ble_eq_true rfl) (Nat.le_of_ble_eq_true rfl) List.length_append (List.append_assoc _ _ _) ?_
  refine r_putr (pc' := 12) (Z' := P ++ (.inr (.inr (8, [some (some (P.length + 1))])) :: [.inl (0, 8)])) dX8_init_9 rfl fX8_9 rfl rfl (fun _ => ⟨rfl, rfl⟩) app0 rfl set0 ?_
  exact r_retv dX8_init_12 rfl (Nat.le_of_ble_eq_true rfl) (Nat.le_of_ble_eq_true rfl) h
abbrev bX9 (a : Nat) : List Sh := [.inr (.inr (9, [some (some (a + 1)), none])), .inl (0, 8)]
theorem k_X9 {X : CX} {d : Nat} {Q : Option VV → List Sh → Mem → Prop} {P Z Z' : List Sh} {a : Nat} {g : Mem} (ha : P.length = a) (hz : P ++ [oD9] = Z) (hz' : P ++ bX9 a = Z') (hg : Zr g P.length) (h : Q none Z' g) : Ent X (d + 1) mX9_init 1 8 [vr a] Z g Q := by
  subst ha hz hz'
  show AJ X (d + 1) mX9_init 1 8 Q 0 0 0 [some (vr P.length)] [] (P ++ [oD9]) g
  refine r_aload_n (pc' := 1) dX9_init_0 rfl rfl ?_
  refine r_objI (pc' := 4) dX9_init_1 rfl lX9_3 rfl ?_
  refine r_aload_n (pc' := 5) dX9_init_4 rfl rfl ?_
  refine r_bipush (pc' := 7) dX9_init_5 rfl (by decide) ?_
  refine r_newI (pc' := 9) (len := 8) (j := P.length + 1) (Z' := P ++ (.inr (.inr (9, [some none, none])) :: [.inl (0, 8)])) dX9_init_7 rfl rfl (Nat.le_of_ble_eq_true rfl) (fun q => hg _ (by rw [List.length_append]; exact Nat.le_add_right _ _) q) (Nat.le_of_ble_eq_true rfl) (Nat.le_of_ble_eq_true rfl) List.length_append (List.append_assoc _ _ _) ?_
  refine r_putr (pc' := 12) (Z' := P ++ (.inr (.inr (9, [some (some (P.length + 1)), none])) :: [.inl (0, 8)])) dX9_init_9 rfl fX9_9 rfl rfl (fun _ => ⟨rfl, rfl⟩) app0 rfl set0 ?_
  refine r_aload_n (pc' := 13) dX9_init_12 rfl rfl ?_
  refine r_iconst (pc' := 14) dX9_init_13 rfl ?_
  refine r_putf (pc' := 17) (kI := 1) (g' := g) dX9_init_14 rfl fX9_15 app0 rfl (Or.inl rfl) rfl (mu_z (hg _ (Nat.le_refl _) _)) ?_
  exact r_retv dX9_init_17 rfl (Nat.le_of_ble_eq_true rfl) (Nat.le_of_ble_eq_true rfl) h
abbrev bX11 (a : Nat) : List Sh := [.inr (.inr (11, [some (some (a + 1)), none, some (some (a + 2)), some (some (a + 3)), some (some (a + 4)), some (some (a + 5)), none, some (some (a + 6)), some (some (a + 7)), none, some (some (a + 8)), none, some (some (a + 9)), none, none, none, none, some (some (a + 10)), some (some (a + 11)), some (some (a + 12)), none, some (some (a + 13)), some (some (a + 14)), some (some (a + 15)), some (some (a + 16))])), .inl (0, 240), .inl (0, 53), .inl (0, 53), .inl (0, 25), .inl (0, 750), .inl (0, 52), .inl (1, 2), .inl (0, 18), .inl (0, 40), .inl (0, 8), .inl (0, 7), .inl (2, 315), .inl (0, 7), .inl (0, 7), .inl (0, 7), .inl (0, 64)]
theorem k_X11 {X : CX} {d : Nat} {Q : Option VV → List Sh → Mem → Prop} {P Z Z' : List Sh} {a : Nat} {g : Mem} (ha : P.length = a) (hz : P ++ [oD11] = Z) (hz' : P ++ bX11 a = Z') (hg : Zr g P.length) (h : Q none Z' (mu (mu g a 15 (-1)) a 20 (-1))) : Ent X (d + 1) mX11_init 16 1648 [vr a] Z g Q := by
  subst ha hz hz'
  show AJ X (d + 1) mX11_init 16 1648 Q 0 0 0 [some (vr P.length)] [] (P ++ [oD11]) g
  refine r_aload_n (pc' := 1) dX11_init_0 rfl rfl ?_
  refine r_objI (pc' := 4) dX11_init_1 rfl lX11_1 rfl ?_
  refine r_aload_n (pc' := 5) dX11_init_4 rfl rfl ?_
  refine r_sipush (pc' := 8) dX11_init_5 rfl (by decide) ?_
  refine r_newI (pc' := 10) (len := 240) (j := P.length + 1) (Z' := P ++ (.inr (.inr (11, [some none, none, some none, some none, some none, some none, none, some none, some none, none, some none, none, some none, none, none, none, none, some none, some none, some none, none, some none, some none, some none, some none])) :: [.inl (0, 240)])) dX11_init_8 rfl rfl (Nat.le_of_ble_eq_true rfl) (fun q => hg _ (by rw [List.length_append]; exact Nat.le_add_right _ _) q) (Nat.le_of_ble_eq_true rfl) (Nat.le_of_ble_eq_true rfl) List.length_append (List.append_assoc _ _ _) ?_
  refine r_putr (pc' := 13) (Z' := P ++ (.inr (.inr (11, [some (some (P.length + 1)), none, some none, some none, some none, some none, none, some none, some none, none, some none, none, some none, none, none, none, none, some none, some none, some none, none, some none, some none, some none, some none])) :: [.inl (0, 240)])) dX11_init_10 rfl fX11_7 rfl rfl (fun _ => ⟨rfl, rfl⟩) app0 rfl set0 ?_
  refine r_aload_n (pc' := 14) dX11_init_13 rfl rfl ?_
  refine r_bipush (pc' := 16) dX11_init_14 rfl (by decide) ?_
  refine r_newI (pc' := 18) (len := 53) (j := P.length + 2) (Z' := P ++ (.inr (.inr (11, [some (some (P.length + 1)), none, some none, some none, some none, some none, none, some none, some none, none, some none, none, some none, none, none, none, none, some none, some none, some none, none, some none, some none, some none, some none])) :: [.inl (0, 240), .inl (0, 53)])) dX11_init_16 rfl rfl (Nat.le_of_ble_eq_true rfl) (fun q => hg _ (by rw [List.length_append]; exact Nat.le_add_right _ _) q) (Nat.le_of_ble_eq_true rfl) (Nat.le_of_ble_eq_true rfl) List.length_append (List.append_assoc _ _ _) ?_
  refine r_putr (pc' := 21) (Z' := P ++ (.inr (.inr (11, [some (some (P.length + 1)), none, some (some (P.length + 2)), some none, some none, some none, none, some none, some none, none, some none, none, some none, none, none, none, none, some none, some none, some none, none, some none, some none, some none, some none])) :: [.inl (0, 240), .inl (0, 53)])) dX11_init_18 rfl fX11_13 rfl rfl (fun _ => ⟨rfl, rfl⟩) app0 rfl set0 ?_
  refine r_aload_n (pc' := 22) dX11_init_21 rfl rfl ?_
  refine r_bipush (pc' := 24) dX11_init_22 rfl (by decide) ?_
  refine r_newI (pc' := 26) (len := 53) (j := P.length + 3) (Z' := P ++ (.inr (.inr (11, [some (some (P.length + 1)), none, some (some (P.length + 2)), some none, some none, some none, none, some none, some none, none, some none, none, some none, none, none, none, none, some none, some none, some none, none, some none, some none, some none, some none])) :: [.inl (0, 240), .inl (0, 53), .inl (0, 53)])) dX11_init_24 rfl rfl (Nat.le_of_ble_eq_true rfl) (fun q => hg _ (by rw [List.length_append]; exact Nat.le_add_right _ _) q) (Nat.le_of_ble_eq_true rfl) (Nat.le_of_ble_eq_true rfl) List.length_append (List.append_assoc _ _ _) ?_
  refine r_putr (pc' := 29) (Z' := P ++ (.inr (.inr (11, [some (some (P.length + 1)), none, some (some (P.length + 2)), some (some (P.length + 3)), some none, some none, none, some none, some none, none, some none, none, some none, none, none, none, none, some none, some none, some none, none, some none, some none, some none, some none])) :: [.inl (0, 240), .inl (0, 53), .inl (0, 53)])) dX11_init_26 rfl fX11_16 rfl rfl (fun _ => ⟨rfl, rfl⟩) app0 rfl set0 ?_
  refine r_aload_n (pc' := 30) dX11_init_29 rfl rfl ?_
  refine r_bipush (pc' := 32) dX11_init_30 rfl (by decide) ?_
  refine r_newI (pc' := 34) (len := 25) (j := P.length + 4) (Z' := P ++ (.inr (.inr (11, [some (some (P.length + 1)), none, some (some (P.length + 2)), some (some (P.length + 3)), some none, some none, none, some none, some none, none, some none, none, some none, none, none, none, none, some none, some none, some none, none, some none, some none, some none, some none])) :: [.inl (0, 240), .inl (0, 53), .inl (0, 53), .inl (0, 25)])) dX11_init_32 rfl rfl (Nat.le_of_ble_eq_true rfl) (fun q => hg _ (by rw [List.length_append]; exact Nat.le_add_right _ _) q) (Nat.le_of_ble_eq_true rfl) (Nat.le_of_ble_eq_true rfl) List.length_append (List.append_assoc _ _ _) ?_
  refine r_putr (pc' := 37) (Z' := P ++ (.inr (.inr (11, [some (some (P.length + 1)), none, some (some (P.length + 2)), some (some (P.length + 3)), some (some (P.length + 4)), some none, none, some none, some none, none, some none, none, some none, none, none, none, none, some none, some none, some none, none, some none, some none, some none, some none])) :: [.inl (0, 240), .inl (0, 53), .inl (0, 53), .inl (0, 25)])) dX11_init_34 rfl fX11_19 rfl rfl (fun _ => ⟨rfl, rfl⟩) app0 rfl set0 ?_
  refine r_aload_n (pc' := 38) dX11_init_37 rfl rfl ?_
  refine r_sipush (pc' := 41) dX11_init_38 rfl (by decide) ?_
  refine r_newI (pc' := 43) (len := 750) (j := P.length + 5) (Z' := P ++ (.inr (.inr (11, [some (some (P.length + 1)), none, some (some (P.length + 2)), some (some (P.length + 3)), some (some (P.length + 4)), some none, none, some none, some none, none, some none, none, some none, none, none, none, none, some none, some none, some none, none, some none, some none, some none, some none])) :: [.inl (0, 240), .inl (0, 53), .inl (0, 53), .inl (0, 25), .inl (0, 750)])) dX11_init_41 rfl rfl (Nat.le_of_ble_eq_true rfl) (fun q => hg _ (by rw [List.length_append]; exact Nat.le_add_right _ _) q) (Nat.le_of_ble_eq_true rfl) (Nat.le_of_ble_eq_true rfl) List.length_append (List.append_assoc _ _ _) ?_
  refine r_putr (pc' := 46) (Z' := P ++ (.inr (.inr (11, [some (some (P.length + 1)), none, some (some (P.length + 2)), some (some (P.length + 3)), some (some (P.length + 4)), some (some (P.length + 5)), none, some none, some none, none, some none, none, some none, none, none, none, none, some none, some none, some none, none, some none, some none, some none, some none])) :: [.inl (0, 240), .inl (0, 53), .inl (0, 53), .inl (0, 25), .inl (0, 750)])) dX11_init_43 rfl fX11_22 rfl rfl (fun _ => ⟨rfl, rfl⟩) app0 rfl set0 ?_
  refine r_aload_n (pc' := 47) dX11_init_46 rfl rfl ?_
  refine r_bipush (pc' := 49) dX11_init_47 rfl (by decide) ?_
  refine r_newI (pc' := 51) (len := 52) (j := P.length + 6) (Z' := P ++ (.inr (.inr (11, [some (some (P.length + 1)), none, some (some (P.length + 2)), some (some (P.length + 3)), some (some (P.length + 4)), some (some (P.length + 5)), none, some none, some none, none, some none, none, some none, none, none, none, none, some none, some none, some none, none, some none, some none, some none, some none])) :: [.inl (0, 240), .inl (0, 53), .inl (0, 53), .inl (0, 25), .inl (0, 750), .inl (0, 52)])) dX11_init_49 rfl rfl (Nat.le_of_ble_eq_true rfl) (fun q => hg _ (by rw [List.length_append]; exact Nat.le_add_right _ _) q) (Nat.le_of_ble_eq_true rfl) (Nat.le_of_ble_eq_true rfl) List.length_append (List.append_assoc _ _ _) ?_
  refine r_putr (pc' := 54) (Z' := P ++ (.inr (.inr (11, [some (some (P.length + 1)), none, some (some (P.length + 2)), some (some (P.length + 3)), some (some (P.length + 4)), some (some (P.length + 5)), none, some (some (P.length + 6)), some none, none, some none, none, some none, none, none, none, none, some none, some none, some none, none, some none, some none, some none, some none])) :: [.inl (0, 240), .inl (0, 53), .inl (0, 53), .inl (0, 25), .inl (0, 750), .inl (0, 52)])) dX11_init_51 rfl fX11_25 rfl rfl (fun _ => ⟨rfl, rfl⟩) app0 rfl set0 ?_
  refine r_aload_n (pc' := 55) dX11_init_54 rfl rfl ?_
  refine r_iconst (pc' := 56) dX11_init_55 rfl ?_
  refine r_newZ (pc' := 58) (len := 2) (j := P.length + 7) (Z' := P ++ (.inr (.inr (11, [some (some (P.length + 1)), none, some (some (P.length + 2)), some (some (P.length + 3)), some (some (P.length + 4)), some (some (P.length + 5)), none, some (some (P.length + 6)), some none, none, some none, none, some none, none, none, none, none, some none, some none, some none, none, some none, some none, some none, some none])) :: [.inl (0, 240), .inl (0, 53), .inl (0, 53), .inl (0, 25), .inl (0, 750), .inl (0, 52), .inl (1, 2)])) dX11_init_56 rfl rfl (Nat.le_of_ble_eq_true rfl) (fun q => hg _ (by rw [List.length_append]; exact Nat.le_add_right _ _) q) (Nat.le_of_ble_eq_true rfl) (Nat.le_of_ble_eq_true rfl) List.length_append (List.append_assoc _ _ _) ?_
  refine r_putr (pc' := 61) (Z' := P ++ (.inr (.inr (11, [some (some (P.length + 1)), none, some (some (P.length + 2)), some (some (P.length + 3)), some (some (P.length + 4)), some (some (P.length + 5)), none, some (some (P.length + 6)), some (some (P.length + 7)), none, some none, none, some none, none, none, none, none, some none, some none, some none, none, some none, some none, some none, some none])) :: [.inl (0, 240), .inl (0, 53), .inl (0, 53), .inl (0, 25), .inl (0, 750), .inl (0, 52), .inl (1, 2)])) dX11_init_58 rfl fX11_28 rfl rfl (fun _ => ⟨rfl, rfl⟩) app0 rfl set0 ?_
  refine r_aload_n (pc' := 62) dX11_init_61 rfl rfl ?_
  refine r_bipush (pc' := 64) dX11_init_62 rfl (by decide) ?_
  refine r_newI (pc' := 66) (len := 18) (j := P.length + 8) (Z' := P ++ (.inr (.inr (11, [some (some (P.length + 1)), none, some (some (P.length + 2)), some (some (P.length + 3)), some (some (P.length + 4)), some (some (P.length + 5)), none, some (some (P.length + 6)), some (some (P.length + 7)), none, some none, none, some none, none, none, none, none, some none, some none, some none, none, some none, some none, some none, some none])) :: [.inl (0, 240), .inl (0, 53), .inl (0, 53), .inl (0, 25), .inl (0, 750), .inl (0, 52), .inl (1, 2), .inl (0, 18)])) dX11_init_64 rfl rfl (Nat.le_of_ble_eq_true rfl) (fun q => hg _ (by rw [List.length_append]; exact Nat.le_add_right _ _) q) (Nat.le_of_ble_eq_true rfl) (Nat.le_of_ble_eq_true rfl) List.length_append (List.append_assoc _ _ _) ?_
  refine r_putr (pc' := 69) (Z' := P ++ (.inr (.inr (11, [some (some (P.length + 1)), none, some (some (P.length + 2)), some (some (P.length + 3)), some (some (P.length + 4)), some (some (P.length + 5)), none, some (some (P.length + 6)), some (some (P.length + 7)), none, some (some (P.length + 8)), none, some none, none, none, none, none, some none, some none, some none, none, some none, some none, some none, some none])) :: [.inl (0, 240), .inl (0, 53), .inl (0, 53), .inl (0, 25), .inl (0, 750), .inl (0, 52), .inl (1, 2), .inl (0, 18)])) dX11_init_66 rfl fX11_32 rfl rfl (fun _ => ⟨rfl, rfl⟩) app0 rfl set0 ?_
  refine r_aload_n (pc' := 70) dX11_init_69 rfl rfl ?_
  refine r_bipush (pc' := 72) dX11_init_70 rfl (by decide) ?_
  refine r_newI (pc' := 74) (len := 40) (j := P.length + 9) (Z' := P ++ (.inr (.inr (11, [some (some (P.length + 1)), none, some (some (P.length + 2)), some (some (P.length + 3)), some (some (P.length + 4)), some (some (P.length + 5)), none, some (some (P.length + 6)), some (some (P.length + 7)), none, some (some (P.length + 8)), none, some none, none, none, none, none, some none, some none, some none, none, some none, some none, some none, some none])) :: [.inl (0, 240), .inl (0, 53), .inl (0, 53), .inl (0, 25), .inl (0, 750), .inl (0, 52), .inl (1, 2), .inl (0, 18), .inl (0, 40)])) dX11_init_72 rfl rfl (Nat.le_of_ble_eq_true rfl) (fun q => hg _ (by rw [List.length_append]; exact Nat.le_add_right _ _) q) (Nat.le_of_ble_eq_true rfl) (Nat.le_of_ble_eq_true rfl) List.length_append (List.append_assoc _ _ _) ?_
  refine r_putr (pc' := 77) (Z' := P ++ (.inr (.inr (11, [some (some (P.length + 1)), none, some (some (P.length + 2)), some (some (P.length + 3)), some (some (P.length + 4)), some (some (P.length + 5)), none, some (some (P.length + 6)), some (some (P.length + 7)), none, some (some (P.length + 8)), none, some (some (P.length + 9)), none, none, none, none, some none, some none, some none, none, some none, some none, some none, some none])) :: [.inl (0, 240), .inl (0, 53), .inl (0, 53), .inl (0, 25), .inl (0, 750), .inl (0, 52), .inl (1, 2), .inl (0, 18), .inl (0, 40)])) dX11_init_74 rfl fX11_35 rfl rfl (fun _ => ⟨rfl, rfl⟩) app0 rfl set0 ?_
  refine r_aload_n (pc' := 78) dX11_init_77 rfl rfl ?_
  refine r_iconst (pc' := 79) dX11_init_78 rfl ?_
  refine r_putf (pc' := 82) (kI := 15) (g' := (mu g P.length 15 (-1))) dX11_init_79 rfl fX11_38 app0 rfl (Or.inl rfl) rfl rfl ?_
  have h0m : ∀ j, P.length < j → ∀ q, (mu g P.length 15 (-1)) j q = 0 := fun j hj q => by rw [mu_ne (by omega)]; exact hg j (by omega) q
  refine r_aload_n (pc' := 83) dX11_init_82 rfl rfl ?_
  refine r_bipush (pc' := 85) dX11_init_83 rfl (by decide) ?_
  refine r_newI (pc' := 87) (len := 8) (j := P.length + 10) (Z' := P ++ (.inr (.inr (11, [some (some (P.length + 1)), none, some (some (P.length + 2)), some (some (P.length + 3)), some (some (P.length + 4)), some (some (P.length + 5)), none, some (some (P.length + 6)), some (some (P.length + 7)), none, some (some (P.length + 8)), none, some (some (P.length + 9)), none, none, none, none, some none, some none, some none, none, some none, some none, some none, some none])) :: [.inl (0, 240), .inl (0, 53), .inl (0, 53), .inl (0, 25), .inl (0, 750), .inl (0, 52), .inl (1, 2), .inl (0, 18), .inl (0, 40), .inl (0, 8)])) dX11_init_85 rfl rfl (Nat.le_of_ble_eq_true rfl) (fun q => h0m _ (by rw [List.length_append]; exact Nat.lt_add_of_pos_right (Nat.succ_pos _)) q) (Nat.le_of_ble_eq_true rfl) (Nat.le_of_ble_eq_true rfl) List.length_append (List.append_assoc _ _ _) ?_
  refine r_putr (pc' := 90) (Z' := P ++ (.inr (.inr (11, [some (some (P.length + 1)), none, some (some (P.length + 2)), some (some (P.length + 3)), some (some (P.length + 4)), some (some (P.length + 5)), none, some (some (P.length + 6)), some (some (P.length + 7)), none, some (some (P.length + 8)), none, some (some (P.length + 9)), none, none, none, none, some (some (P.length + 10)), some none, some none, none, some none, some none, some none, some none])) :: [.inl (0, 240), .inl (0, 53), .inl (0, 53), .inl (0, 25), .inl (0, 750), .inl (0, 52), .inl (1, 2), .inl (0, 18), .inl (0, 40), .inl (0, 8)])) dX11_init_87 rfl fX11_42 rfl rfl (fun _ => ⟨rfl, rfl⟩) app0 rfl set0 ?_
  refine r_aload_n (pc' := 91) dX11_init_90 rfl rfl ?_
  refine r_bipush (pc' := 93) dX11_init_91 rfl (by decide) ?_
  refine r_newI (pc' := 95) (len := 7) (j := P.length + 11) (Z' := P ++ (.inr (.inr (11, [some (some (P.length + 1)), none, some (some (P.length + 2)), some (some (P.length + 3)), some (some (P.length + 4)), some (some (P.length + 5)), none, some (some (P.length + 6)), some (some (P.length + 7)), none, some (some (P.length + 8)), none, some (some (P.length + 9)), none, none, none, none, some (some (P.length + 10)), some none, some none, none, some none, some none, some none, some none])) :: [.inl (0, 240), .inl (0, 53), .inl (0, 53), .inl (0, 25), .inl (0, 750), .inl (0, 52), .inl (1, 2), .inl (0, 18), .inl (0, 40), .inl (0, 8), .inl (0, 7)])) dX11_init_93 rfl rfl (Nat.le_of_ble_eq_true rfl) (fun q => h0m _ (by rw [List.length_append]; exact Nat.lt_add_of_pos_right (Nat.succ_pos _)) q) (Nat.le_of_ble_eq_true rfl) (Nat.le_of_ble_eq_true rfl) List.length_append (List.append_assoc _ _ _) ?_
  refine r_putr (pc' := 98) (Z' := P ++ (.inr (.inr (11, [some (some (P.length + 1)), none, some (some (P.length + 2)), some (some (P.length + 3)), some (some (P.length + 4)), some (some (P.length + 5)), none, some (some (P.length + 6)), some (some (P.length + 7)), none, some (some (P.length + 8)), none, some (some (P.length + 9)), none, none, none, none, some (some (P.length + 10)), some (some (P.length + 11)), some none, none, some none, some none, some none, some none])) :: [.inl (0, 240), .inl (0, 53), .inl (0, 53), .inl (0, 25), .inl (0, 750), .inl (0, 52), .inl (1, 2), .inl (0, 18), .inl (0, 40), .inl (0, 8), .inl (0, 7)])) dX11_init_95 rfl fX11_45 rfl rfl (fun _ => ⟨rfl, rfl⟩) app0 rfl set0 ?_
  refine r_aload_n (pc' := 99) dX11_init_98 rfl rfl ?_
  refine r_sipush (pc' := 102) dX11_init_99 rfl (by decide) ?_
  refine r_newJ (pc' := 104) (len := 315) (j := P.length + 12) (Z' := P ++ (.inr (.inr (11, [some (some (P.length + 1)), none, some (some (P.length + 2)), some (some (P.length + 3)), some (some (P.length + 4)), some (some (P.length + 5)), none, some (some (P.length + 6)), some (some (P.length + 7)), none, some (some (P.length + 8)), none, some (some (P.length + 9)), none, none, none, none, some (some (P.length + 10)), some (some (P.length + 11)), some none, none, some none, some none, some none, some none])) :: [.inl (0, 240), .inl (0, 53), .inl (0, 53), .inl (0, 25), .inl (0, 750), .inl (0, 52), .inl (1, 2), .inl (0, 18), .inl (0, 40), .inl (0, 8), .inl (0, 7), .inl (2, 315)])) dX11_init_102 rfl rfl (Nat.le_of_ble_eq_true rfl) (fun q => h0m _ (by rw [List.length_append]; exact Nat.lt_add_of_pos_right (Nat.succ_pos _)) q) (Nat.le_of_ble_eq_true rfl) (Nat.le_of_ble_eq_true rfl) List.length_append (List.append_assoc _ _ _) ?_
  refine r_putr (pc' := 107) (Z' := P ++ (.inr (.inr (11, [some (some (P.length + 1)), none, some (some (P.length + 2)), some (some (P.length + 3)), some (some (P.length + 4)), some (some (P.length + 5)), none, some (some (P.length + 6)), some (some (P.length + 7)), none, some (some (P.length + 8)), none, some (some (P.length + 9)), none, none, none, none, some (some (P.length + 10)), some (some (P.length + 11)), some (some (P.length + 12)), none, some none, some none, some none, some none])) :: [.inl (0, 240), .inl (0, 53), .inl (0, 53), .inl (0, 25), .inl (0, 750), .inl (0, 52), .inl (1, 2), .inl (0, 18), .inl (0, 40), .inl (0, 8), .inl (0, 7), .inl (2, 315)])) dX11_init_104 rfl fX11_48 rfl rfl (fun _ => ⟨rfl, rfl⟩) app0 rfl set0 ?_
  refine r_aload_n (pc' := 108) dX11_init_107 rfl rfl ?_
  refine r_iconst (pc' := 109) dX11_init_108 rfl ?_
  refine r_putf (pc' := 112) (kI := 20) (g' := (mu (mu g P.length 15 (-1)) P.length 20 (-1))) dX11_init_109 rfl fX11_52 app0 rfl (Or.inl rfl) rfl rfl ?_
  have h0m : ∀ j, P.length < j → ∀ q, (mu (mu g P.length 15 (-1)) P.length 20 (-1)) j q = 0 := fun j hj q => by rw [mu_ne (by omega), mu_ne (by omega)]; exact hg j (by omega) q
  refine r_aload_n (pc' := 113) dX11_init_112 rfl rfl ?_
  refine r_bipush (pc' := 115) dX11_init_113 rfl (by decide) ?_
  refine r_newI (pc' := 117) (len := 7) (j := P.length + 13) (Z' := P ++ (.inr (.inr (11, [some (some (P.length + 1)), none, some (some (P.length + 2)), some (some (P.length + 3)), some (some (P.length + 4)), some (some (P.length + 5)), none, some (some (P.length + 6)), some (some (P.length + 7)), none, some (some (P.length + 8)), none, some (some (P.length + 9)), none, none, none, none, some (some (P.length + 10)), some (some (P.length + 11)), some (some (P.length + 12)), none, some none, some none, some none, some none])) :: [.inl (0, 240), .inl (0, 53), .inl (0, 53), .inl (0, 25), .inl (0, 750), .inl (0, 52), .inl (1, 2), .inl (0, 18), .inl (0, 40), .inl (0, 8), .inl (0, 7), .inl (2, 315), .inl (0, 7)])) dX11_init_115 rfl rfl (Nat.le_of_ble_eq_true rfl) (fun q => h0m _ (by rw [List.length_append]; exact Nat.lt_add_of_pos_right (Nat.succ_pos _)) q) (Nat.le_of_ble_eq_true rfl) (Nat.le_of_ble_eq_true rfl) List.length_append (List.append_assoc _ _ _) ?_
  refine r_putr (pc' := 120) (Z' := P ++ (.inr (.inr (11, [some (some (P.length + 1)), none, some (some (P.length + 2)), some (some (P.length + 3)), some (some (P.length + 4)), some (some (P.length + 5)), none, some (some (P.length + 6)), some (some (P.length + 7)), none, some (some (P.length + 8)), none, some (some (P.length + 9)), none, none, none, none, some (some (P.length + 10)), some (some (P.length + 11)), some (some (P.length + 12)), none, some (some (P.length + 13)), some none, some none, some none])) :: [.inl (0, 240), .inl (0, 53), .inl (0, 53), .inl (0, 25), .inl (0, 750), .inl (0, 52), .inl (1, 2), .inl (0, 18), .inl (0, 40), .inl (0, 8), .inl (0, 7), .inl (2, 315), .inl (0, 7)])) dX11_init_117 rfl fX11_55 rfl rfl (fun _ => ⟨rfl, rfl⟩) app0 rfl set0 ?_
  refine r_aload_n (pc' := 121) dX11_init_120 rfl rfl ?_
  refine r_bipush (pc' := 123) dX11_init_121 rfl (by decide) ?_
  refine r_newI (pc' := 125) (len := 7) (j := P.length + 14) (Z' := P ++ (.inr (.inr (11, [some (some (P.length + 1)), none, some (some (P.length + 2)), some (some (P.length + 3)), some (some (P.length + 4)), some (some (P.length + 5)), none, some (some (P.length + 6)), some (some (P.length + 7)), none, some (some (P.length + 8)), none, some (some (P.length + 9)), none, none, none, none, some (some (P.length + 10)), some (some (P.length + 11)), some (some (P.length + 12)), none, some (some (P.length + 13)), some none, some none, some none])) :: [.inl (0, 240), .inl (0, 53), .inl (0, 53), .inl (0, 25), .inl (0, 750), .inl (0, 52), .inl (1, 2), .inl (0, 18), .inl (0, 40), .inl (0, 8), .inl (0, 7), .inl (2, 315), .inl (0, 7), .inl (0, 7)])) dX11_init_123 rfl rfl (Nat.le_of_ble_eq_true rfl) (fun q => h0m _ (by rw [List.length_append]; exact Nat.lt_add_of_pos_right (Nat.succ_pos _)) q) (Nat.le_of_ble_eq_true rfl) (Nat.le_of_ble_eq_true rfl) List.length_append (List.append_assoc _ _ _) ?_
  refine r_putr (pc' := 128) (Z' := P ++ (.inr (.inr (11, [some (some (P.length + 1)), none, some (some (P.length + 2)), some (some (P.length + 3)), some (some (P.length + 4)), some (some (P.length + 5)), none, some (some (P.length + 6)), some (some (P.length + 7)), none, some (some (P.length + 8)), none, some (some (P.length + 9)), none, none, none, none, some (some (P.length + 10)), some (some (P.length + 11)), some (some (P.length + 12)), none, some (some (P.length + 13)), some (some (P.length + 14)), some none, some none])) :: [.inl (0, 240), .inl (0, 53), .inl (0, 53), .inl (0, 25), .inl (0, 750), .inl (0, 52), .inl (1, 2), .inl (0, 18), .inl (0, 40), .inl (0, 8), .inl (0, 7), .inl (2, 315), .inl (0, 7), .inl (0, 7)])) dX11_init_125 rfl fX11_58 rfl rfl (fun _ => ⟨rfl, rfl⟩) app0 rfl set0 ?_
  refine r_aload_n (pc' := 129) dX11_init_128 rfl rfl ?_
  refine r_bipush (pc' := 131) dX11_init_129 rfl (by decide) ?_
  refine r_newI (pc' := 133) (len := 7) (j := P.length + 15) (Z' := P ++ (.inr (.inr (11, [some (some (P.length + 1)), none, some (some (P.length + 2)), some (some (P.length + 3)), some (some (P.length + 4)), some (some (P.length + 5)), none, some (some (P.length + 6)), some (some (P.length + 7)), none, some (some (P.length + 8)), none, some (some (P.length + 9)), none, none, none, none, some (some (P.length + 10)), some (some (P.length + 11)), some (some (P.length + 12)), none, some (some (P.length + 13)), some (some (P.length + 14)), some none, some none])) :: [.inl (0, 240), .inl (0, 53), .inl (0, 53), .inl (0, 25), .inl (0, 750), .inl (0, 52), .inl (1, 2), .inl (0, 18), .inl (0, 40), .inl (0, 8), .inl (0, 7), .inl (2, 315), .inl (0, 7), .inl (0, 7), .inl (0, 7)])) dX11_init_131 rfl rfl (Nat.le_of_ble_eq_true rfl) (fun q => h0m _ (by rw [List.length_append]; exact Nat.lt_add_of_pos_right (Nat.succ_pos _)) q) (Nat.le_of_ble_eq_true rfl) (Nat.le_of_ble_eq_true rfl) List.length_append (List.append_assoc _ _ _) ?_
  refine r_putr (pc' := 136) (Z' := P ++ (.inr (.inr (11, [some (some (P.length + 1)), none, some (some (P.length + 2)), some (some (P.length + 3)), some (some (P.length + 4)), some (some (P.length + 5)), none, some (some (P.length + 6)), some (some (P.length + 7)), none, some (some (P.length + 8)), none, some (some (P.length + 9)), none, none, none, none, some (some (P.length + 10)), some (some (P.length + 11)), some (some (P.length + 12)), none, some (some (P.length + 13)), some (some (P.length + 14)), some (some (P.length + 15)), some none])) :: [.inl (0, 240), .inl (0, 53), .inl (0, 53), .inl (0, 25), .inl (0, 750), .inl (0, 52), .inl (1, 2), .inl (0, 18), .inl (0, 40), .inl (0, 8), .inl (0, 7), .inl (2, 315), .inl (0, 7), .inl (0, 7), .inl (0, 7)])) dX11_init_133 rfl fX11_61 rfl rfl (fun _ => ⟨rfl, rfl⟩) app0 rfl set0 ?_
  refine r_aload_n (pc' := 137) dX11_init_136 rfl rfl ?_
  refine r_bipush (pc' := 139) dX11_init_137 rfl (by decide) ?_
  refine r_newI (pc' := 141) (len := 64) (j := P.length + 16) (Z' := P ++ (.inr (.inr (11, [some (some (P.length + 1)), none, some (some (P.length + 2)), some (some (P.length + 3)), some (some (P.length + 4)), some (some (P.length + 5)), none, some (some (P.length + 6)), some (some (P.length + 7)), none, some (some (P.length + 8)), none, some (some (P.length + 9)), none, none, none, none, some (some (P.length + 10)), some (some (P.length + 11)), some (some (P.length + 12)), none, some (some (P.length + 13)), some (some (P.length + 14)), some (some (P.length + 15)), some none])) :: [.inl (0, 240), .inl (0, 53), .inl (0, 53), .inl (0, 25), .inl (0, 750), .inl (0, 52), .inl (1, 2), .inl (0, 18), .inl (0, 40), .inl (0, 8), .inl (0, 7), .inl (2, 315), .inl (0, 7), .inl (0, 7), .inl (0, 7), .inl (0, 64)])) dX11_init_139 rfl rfl (Nat.le_of_ble_eq_true rfl) (fun q => h0m _ (by rw [List.length_append]; exact Nat.lt_add_of_pos_right (Nat.succ_pos _)) q) (Nat.le_of_ble_eq_true rfl) (Nat.le_of_ble_eq_true rfl) List.length_append (List.append_assoc _ _ _) ?_
  refine r_putr (pc' := 144) (Z' := P ++ (.inr (.inr (11, [some (some (P.length + 1)), none, some (some (P.length + 2)), some (some (P.length + 3)), some (some (P.length + 4)), some (some (P.length + 5)), none, some (some (P.length + 6)), some (some (P.length + 7)), none, some (some (P.length + 8)), none, some (some (P.length + 9)), none, none, none, none, some (some (P.length + 10)), some (some (P.length + 11)), some (some (P.length + 12)), none, some (some (P.length + 13)), some (some (P.length + 14)), some (some (P.length + 15)), some (some (P.length + 16))])) :: [.inl (0, 240), .inl (0, 53), .inl (0, 53), .inl (0, 25), .inl (0, 750), .inl (0, 52), .inl (1, 2), .inl (0, 18), .inl (0, 40), .inl (0, 8), .inl (0, 7), .inl (2, 315), .inl (0, 7), .inl (0, 7), .inl (0, 7), .inl (0, 64)])) dX11_init_141 rfl fX11_64 rfl rfl (fun _ => ⟨rfl, rfl⟩) app0 rfl set0 ?_
  exact r_retv dX11_init_144 rfl (Nat.le_of_ble_eq_true rfl) (Nat.le_of_ble_eq_true rfl) h
theorem df0 : ∀ j, j < 3 → ∃ f, ([some none, some none, none] : List (Option (Option Nat)))[j]? = some f ∧ defaultValue (tyX0 j) = dfl f
  | 0, _ => ⟨_, rfl, rfl⟩
  | 1, _ => ⟨_, rfl, rfl⟩
  | 2, _ => ⟨_, rfl, rfl⟩
  | j + 3, h => absurd h (by omega)
theorem nf0 : ∀ i : Nat, some (some i) ∉ ([some none, some none, none] : List (Option (Option Nat))) := fun i => by simp
theorem df1 : ∀ j, j < 3 → ∃ f, ([some none, none, none] : List (Option (Option Nat)))[j]? = some f ∧ defaultValue (tyX1 j) = dfl f
  | 0, _ => ⟨_, rfl, rfl⟩
  | 1, _ => ⟨_, rfl, rfl⟩
  | 2, _ => ⟨_, rfl, rfl⟩
  | j + 3, h => absurd h (by omega)
theorem nf1 : ∀ i : Nat, some (some i) ∉ ([some none, none, none] : List (Option (Option Nat))) := fun i => by simp
theorem df2 : ∀ j, j < 7 → ∃ f, ([some none, some none, some none, none, none, none, none] : List (Option (Option Nat)))[j]? = some f ∧ defaultValue (tyX2 j) = dfl f
  | 0, _ => ⟨_, rfl, rfl⟩
  | 1, _ => ⟨_, rfl, rfl⟩
  | 2, _ => ⟨_, rfl, rfl⟩
  | 3, _ => ⟨_, rfl, rfl⟩
  | 4, _ => ⟨_, rfl, rfl⟩
  | 5, _ => ⟨_, rfl, rfl⟩
  | 6, _ => ⟨_, rfl, rfl⟩
  | j + 7, h => absurd h (by omega)
theorem nf2 : ∀ i : Nat, some (some i) ∉ ([some none, some none, some none, none, none, none, none] : List (Option (Option Nat))) := fun i => by simp
theorem df3 : ∀ j, j < 3 → ∃ f, ([some none, some none, none] : List (Option (Option Nat)))[j]? = some f ∧ defaultValue (tyX3 j) = dfl f
  | 0, _ => ⟨_, rfl, rfl⟩
  | 1, _ => ⟨_, rfl, rfl⟩
  | 2, _ => ⟨_, rfl, rfl⟩
  | j + 3, h => absurd h (by omega)
theorem nf3 : ∀ i : Nat, some (some i) ∉ ([some none, some none, none] : List (Option (Option Nat))) := fun i => by simp
theorem df4 : ∀ j, j < 3 → ∃ f, ([some none, none, none] : List (Option (Option Nat)))[j]? = some f ∧ defaultValue (tyX4 j) = dfl f
  | 0, _ => ⟨_, rfl, rfl⟩
  | 1, _ => ⟨_, rfl, rfl⟩
  | 2, _ => ⟨_, rfl, rfl⟩
  | j + 3, h => absurd h (by omega)
theorem nf4 : ∀ i : Nat, some (some i) ∉ ([some none, none, none] : List (Option (Option Nat))) := fun i => by simp
theorem df5 : ∀ j, j < 11 → ∃ f, ([some none, some none, some none, some none, some none, some none, none, none, none, none, none] : List (Option (Option Nat)))[j]? = some f ∧ defaultValue (tyX5 j) = dfl f
  | 0, _ => ⟨_, rfl, rfl⟩
  | 1, _ => ⟨_, rfl, rfl⟩
  | 2, _ => ⟨_, rfl, rfl⟩
  | 3, _ => ⟨_, rfl, rfl⟩
  | 4, _ => ⟨_, rfl, rfl⟩
  | 5, _ => ⟨_, rfl, rfl⟩
  | 6, _ => ⟨_, rfl, rfl⟩
  | 7, _ => ⟨_, rfl, rfl⟩
  | 8, _ => ⟨_, rfl, rfl⟩
  | 9, _ => ⟨_, rfl, rfl⟩
  | 10, _ => ⟨_, rfl, rfl⟩
  | j + 11, h => absurd h (by omega)
theorem nf5 : ∀ i : Nat, some (some i) ∉ ([some none, some none, some none, some none, some none, some none, none, none, none, none, none] : List (Option (Option Nat))) := fun i => by simp
theorem df6 : ∀ j, j < 5 → ∃ f, ([some none, none, none, none, none] : List (Option (Option Nat)))[j]? = some f ∧ defaultValue (tyX6 j) = dfl f
  | 0, _ => ⟨_, rfl, rfl⟩
  | 1, _ => ⟨_, rfl, rfl⟩
  | 2, _ => ⟨_, rfl, rfl⟩
  | 3, _ => ⟨_, rfl, rfl⟩
  | 4, _ => ⟨_, rfl, rfl⟩
  | j + 5, h => absurd h (by omega)
theorem nf6 : ∀ i : Nat, some (some i) ∉ ([some none, none, none, none, none] : List (Option (Option Nat))) := fun i => by simp
theorem df7 : ∀ j, j < 1 → ∃ f, ([some none] : List (Option (Option Nat)))[j]? = some f ∧ defaultValue (tyX7 j) = dfl f
  | 0, _ => ⟨_, rfl, rfl⟩
  | j + 1, h => absurd h (by omega)
theorem nf7 : ∀ i : Nat, some (some i) ∉ ([some none] : List (Option (Option Nat))) := fun i => by simp
theorem df8 : ∀ j, j < 1 → ∃ f, ([some none] : List (Option (Option Nat)))[j]? = some f ∧ defaultValue (tyX8 j) = dfl f
  | 0, _ => ⟨_, rfl, rfl⟩
  | j + 1, h => absurd h (by omega)
theorem nf8 : ∀ i : Nat, some (some i) ∉ ([some none] : List (Option (Option Nat))) := fun i => by simp
theorem df9 : ∀ j, j < 2 → ∃ f, ([some none, none] : List (Option (Option Nat)))[j]? = some f ∧ defaultValue (tyX9 j) = dfl f
  | 0, _ => ⟨_, rfl, rfl⟩
  | 1, _ => ⟨_, rfl, rfl⟩
  | j + 2, h => absurd h (by omega)
theorem nf9 : ∀ i : Nat, some (some i) ∉ ([some none, none] : List (Option (Option Nat))) := fun i => by simp
theorem df10 : ∀ j, j < 12 → ∃ f, ([some none, some none, some none, some none, some none, some none, some none, some none, some none, some none, some none, none] : List (Option (Option Nat)))[j]? = some f ∧ defaultValue (tyX10 j) = dfl f
  | 0, _ => ⟨_, rfl, rfl⟩
  | 1, _ => ⟨_, rfl, rfl⟩
  | 2, _ => ⟨_, rfl, rfl⟩
  | 3, _ => ⟨_, rfl, rfl⟩
  | 4, _ => ⟨_, rfl, rfl⟩
  | 5, _ => ⟨_, rfl, rfl⟩
  | 6, _ => ⟨_, rfl, rfl⟩
  | 7, _ => ⟨_, rfl, rfl⟩
  | 8, _ => ⟨_, rfl, rfl⟩
  | 9, _ => ⟨_, rfl, rfl⟩
  | 10, _ => ⟨_, rfl, rfl⟩
  | 11, _ => ⟨_, rfl, rfl⟩
  | j + 12, h => absurd h (by omega)
theorem nf10 : ∀ i : Nat, some (some i) ∉ ([some none, some none, some none, some none, some none, some none, some none, some none, some none, some none, some none, none] : List (Option (Option Nat))) := fun i => by simp
theorem df11 : ∀ j, j < 25 → ∃ f, ([some none, none, some none, some none, some none, some none, none, some none, some none, none, some none, none, some none, none, none, none, none, some none, some none, some none, none, some none, some none, some none, some none] : List (Option (Option Nat)))[j]? = some f ∧ defaultValue (tyX11 j) = dfl f
  | 0, _ => ⟨_, rfl, rfl⟩
  | 1, _ => ⟨_, rfl, rfl⟩
  | 2, _ => ⟨_, rfl, rfl⟩
  | 3, _ => ⟨_, rfl, rfl⟩
  | 4, _ => ⟨_, rfl, rfl⟩
  | 5, _ => ⟨_, rfl, rfl⟩
  | 6, _ => ⟨_, rfl, rfl⟩
  | 7, _ => ⟨_, rfl, rfl⟩
  | 8, _ => ⟨_, rfl, rfl⟩
  | 9, _ => ⟨_, rfl, rfl⟩
  | 10, _ => ⟨_, rfl, rfl⟩
  | 11, _ => ⟨_, rfl, rfl⟩
  | 12, _ => ⟨_, rfl, rfl⟩
  | 13, _ => ⟨_, rfl, rfl⟩
  | 14, _ => ⟨_, rfl, rfl⟩
  | 15, _ => ⟨_, rfl, rfl⟩
  | 16, _ => ⟨_, rfl, rfl⟩
  | 17, _ => ⟨_, rfl, rfl⟩
  | 18, _ => ⟨_, rfl, rfl⟩
  | 19, _ => ⟨_, rfl, rfl⟩
  | 20, _ => ⟨_, rfl, rfl⟩
  | 21, _ => ⟨_, rfl, rfl⟩
  | 22, _ => ⟨_, rfl, rfl⟩
  | 23, _ => ⟨_, rfl, rfl⟩
  | 24, _ => ⟨_, rfl, rfl⟩
  | j + 25, h => absurd h (by omega)
theorem nf11 : ∀ i : Nat, some (some i) ∉ ([some none, none, some none, some none, some none, some none, none, some none, some none, none, some none, none, some none, none, none, none, none, some none, some none, some none, none, some none, some none, some none, some none] : List (Option (Option Nat))) := fun i => by simp
abbrev bX1 (a : Nat) : List Sh := .inr (.inr (1, [some (some (a + 1)), none, none])) :: bX2 (a + 1)
theorem k_X1 {X : CX} {d : Nat} {Q : Option VV → List Sh → Mem → Prop} {P Z Z' : List Sh} {a : Nat} {g : Mem} (ha : P.length = a) (hz : P ++ [oD1] = Z) (hz' : P ++ bX1 a = Z') (hg : Zr g P.length) (h : Q none Z' g) : Ent X (d + 2) mX1_init 4 28 [vr a] Z g Q := by
  subst ha hz hz'
  show AJ X (d + 2) mX1_init 4 28 Q 0 0 0 [some (vr P.length)] [] (P ++ [oD1]) g
  refine r_aload_n (pc' := 1) dX1_init_0 rfl rfl ?_
  refine r_objI (pc' := 4) dX1_init_1 rfl lX1_1 rfl ?_
  refine r_aload_n (pc' := 5) dX1_init_4 rfl rfl ?_
  refine r_new (pc' := 8) (j := P.length + 1) (Z' := P ++ [oD1, oD2]) dX1_init_5 rfl cfX2 xX1_7 iaX2 iiX2 df2 nf2 (fun q => hg _ (by rw [List.length_append]; exact Nat.le_add_right _ _) q) (by decide) (by decide) List.length_append (List.append_assoc _ _ _) ?_
  refine r_dup (pc' := 9) dX1_init_8 rfl rfl ?_
  refine r_cIN (mc' := 3) (ms' := 21) (pc' := 12) dX1_init_9 rfl qX2_init nX1_9 (by decide) rfl rfl (by decide) (by decide) (k_X2 (P := P ++ [oD1]) (a := P.length + 1) (Z' := P ++ (oD1 :: bX2 (P.length + 1))) List.length_append (List.append_assoc _ _ _) (List.append_assoc _ _ _) (hg.le (by rw [List.length_append]; exact Nat.le_add_right _ _)) ?_)
  refine r_putr (pc' := 15) (Z' := P ++ (.inr (.inr (1, [some (some (P.length + 1)), none, none])) :: bX2 (P.length + 1))) dX1_init_12 rfl fX1_10 rfl rfl (fun _ => ⟨rfl, rfl⟩) app0 rfl set0 ?_
  refine r_aload_n (pc' := 16) dX1_init_15 rfl rfl ?_
  refine r_iconst (pc' := 17) dX1_init_16 rfl ?_
  refine r_putf (pc' := 20) (kI := 1) (g' := g) dX1_init_17 rfl fX1_16 app0 rfl (Or.inl rfl) rfl (mu_z (hg _ (Nat.le_refl _) _)) ?_
  refine r_aload_n (pc' := 21) dX1_init_20 rfl rfl ?_
  refine r_iconst (pc' := 22) dX1_init_21 rfl ?_
  refine r_putf (pc' := 25) (kI := 2) (g' := g) dX1_init_22 rfl fX1_20 app0 rfl (Or.inr ⟨rfl, Or.inl rfl⟩) rfl (mu_z (hg _ (Nat.le_refl _) _)) ?_
  exact r_retv dX1_init_25 rfl (by decide) (by decide) h
def lnB (b : Nat) : Nat → List Sh
  | 0 => []
  | k + 1 => lnB b k ++ bX2 (b + 4 * k)
def rsB (b k : Nat) : List (Option Nat) := (List.range 30).map (fun i => if i < k then some (b + 4 * i) else none)
theorem lnB_len (b : Nat) : ∀ k, (lnB b k).length = 4 * k
  | 0 => rfl
  | k + 1 => by
    show (lnB b k ++ bX2 (b + 4 * k)).length = _
    rw [List.length_append, lnB_len b k]
    show 4 * k + 4 = _
    omega
theorem rsB_len (b k : Nat) : (rsB b k).length = 30 := by
  unfold rsB
  rw [List.length_map, List.length_range]
theorem rsB_s {b k : Nat} (hk : k < 30) : (rsB b k).set k (some (b + 4 * k)) = rsB b (k + 1) := by
  apply List.ext_getElem?
  intro i
  by_cases e : i = k
  · subst e
    rw [List.getElem?_set_self (by rw [rsB_len]; exact hk)]
    unfold rsB
    rw [List.getElem?_map, List.getElem?_range hk]
    show _ = some (if i < i + 1 then some (b + 4 * i) else none)
    rw [if_pos (by omega)]
  · rw [List.getElem?_set_ne (Ne.symm e)]
    unfold rsB
    rw [List.getElem?_map, List.getElem?_map]
    by_cases h : i < 30
    · rw [List.getElem?_range h]
      show some (if i < k then _ else _) = some (if i < k + 1 then _ else _)
      by_cases z : i < k
      · rw [if_pos z, if_pos (by omega)]
      · rw [if_neg z, if_neg (by omega)]
    · rw [List.getElem?_eq_none (by rw [List.length_range]; omega)]
      rfl
theorem rsB_0 (b : Nat) : List.replicate 30 none = rsB b 0 := by
  apply List.ext_getElem?
  intro i
  unfold rsB
  rw [List.getElem?_replicate, List.getElem?_map]
  by_cases h : i < 30
  · rw [List.getElem?_range h, if_pos h]
    show _ = some (if i < 0 then _ else _)
    rw [if_neg (by omega)]
  · rw [if_neg h, List.getElem?_eq_none (by rw [List.length_range]; omega)]
    rfl
abbrev oP (a : Nat) : Sh := .inr (.inr (4, [some (some (a + 1)), none, none]))
abbrev Zp (P : List Sh) (k : Nat) : List Sh := P ++ (oP P.length :: .inr (.inl (3, rsB (P.length + 2) k)) :: lnB (P.length + 2) k)
abbrev bX4 (a : Nat) : List Sh := oP a :: .inr (.inl (3, rsB (a + 2) 30)) :: lnB (a + 2) 30
theorem Zp_len (P : List Sh) (k : Nat) : (Zp P k).length = P.length + 2 + 4 * k := by
  unfold Zp
  rw [List.length_append]
  show P.length + ((lnB (P.length + 2) k).length + 1 + 1) = _
  rw [lnB_len]
  omega
theorem lk_X4 {X : CX} {d : Nat} {Q : Option VV → List Sh → Mem → Prop} {P : List Sh} {g : Mem} (hg : Zr g P.length) (h : Q none (Zp P 30) g) : ∀ (j i : Nat), i + j = 30 → AJ X (d + 2) mX4_init 121 870 Q (1 + 4 * i) (30 + 28 * i) 25 [some (vr P.length), some (vi (i : Int))] [] (Zp P i) g := by
  intro j
  induction j with
  | zero =>
    intro i hj
    have e : i = 30 := by omega
    subst e
    refine r_iload_n (pc' := 26) dX4_init_25 rfl rfl ?_
    refine r_bipush (pc' := 28) dX4_init_26 rfl (by decide) ?_
    refine r_icmp_ge (tgt := 50) (pc' := 31) dX4_init_28 rfl rfl (by omega) (by omega) (fun c28 => ?_) (fun c28 => absurd c28 (by omega))
    exact r_retv dX4_init_50 rfl (by decide) (by decide) h
  | succ j ih =>
    intro i hj
    have hi : i < 30 := by omega
    refine r_iload_n (pc' := 26) dX4_init_25 rfl rfl ?_
    refine r_bipush (pc' := 28) dX4_init_26 rfl (by decide) ?_
    refine r_icmp_ge (tgt := 50) (pc' := 31) dX4_init_28 rfl rfl (by omega) (by omega) (fun c28 => absurd c28 (by omega)) (fun c28 => ?_)
    refine r_aload_n (pc' := 32) dX4_init_31 rfl rfl ?_
    refine r_getr (pc' := 35) dX4_init_32 rfl fX4_11 app0 rfl ?_
    refine r_iload_n (pc' := 36) dX4_init_35 rfl rfl ?_
    refine r_new (pc' := 39) (j := P.length + 2 + 4 * i) (Z' := Zp P i ++ [oD2]) dX4_init_36 rfl cfX2 xX4_9 iaX2 iiX2 df2 nf2 (fun q => hg _ (by rw [Zp_len]; omega) q) (by omega) (by omega) (Zp_len P i) rfl ?_
    refine r_dup (pc' := 40) dX4_init_39 rfl rfl ?_
    refine r_cIN (mc' := 3) (ms' := 21) (pc' := 43) dX4_init_40 rfl qX2_init nX4_24 (by decide) rfl rfl (by omega) (by omega) (k_X2 (P := Zp P i) (Z' := (P ++ (oP P.length :: .inr (.inl (3, rsB (P.length + 2) i)) :: lnB (P.length + 2) (i + 1)))) (Zp_len P i) rfl ?_ (hg.le (by rw [Zp_len]; omega)) ?_)
    · exact List.append_assoc _ _ _
    have hj2 : (P ++ (oP P.length :: .inr (.inl (3, rsB (P.length + 2) i)) :: lnB (P.length + 2) (i + 1)))[P.length + 2 + 4 * i]? = some (.inr (.inr (2, [some (some (P.length + 2 + 4 * i + 1)), some (some (P.length + 2 + 4 * i + 2)), some (some (P.length + 2 + 4 * i + 3)), none, none, none, none]))) := by
      have e := app0 (P := Zp P i) (t := [.inl (0, 7), .inl (0, 7), .inl (0, 7)]) (o := .inr (.inr (2, [some (some (P.length + 2 + 4 * i + 1)), some (some (P.length + 2 + 4 * i + 2)), some (some (P.length + 2 + 4 * i + 3)), none, none, none, none])))
      rw [Zp_len, show Zp P i ++ (.inr (.inr (2, [some (some (P.length + 2 + 4 * i + 1)), some (some (P.length + 2 + 4 * i + 2)), some (some (P.length + 2 + 4 * i + 3)), none, none, none, none])) :: [.inl (0, 7), .inl (0, 7), .inl (0, 7)]) = (P ++ (oP P.length :: .inr (.inl (3, rsB (P.length + 2) i)) :: lnB (P.length + 2) (i + 1))) from List.append_assoc _ _ _] at e
      exact e
    refine r_aast (pc' := 44) (t := 3) (q := i) (Z' := Zp P (i + 1)) dX4_init_43 rfl rfl rfl app1 hj2 rfl (by rw [rsB_len]; exact hi) (by rw [rsB_len]; decide) ?_ ?_
    · rw [set1, rsB_s hi]
    refine r_iinc (pc' := 47) dX4_init_44 rfl rfl rfl ?_
    refine r_goto (tgt := 25) dX4_init_47 rfl ?_
    have e9 := ih (i + 1) (by omega)
    rw [show 1 + 4 * (i + 1) = 1 + 4 * i + 1 + 3 by omega, show 30 + 28 * (i + 1) = 30 + 28 * i + 7 + 21 by omega] at e9
    exact e9
theorem k_X4 {X : CX} {d : Nat} {Q : Option VV → List Sh → Mem → Prop} {P Z Z' : List Sh} {a : Nat} {g : Mem} (ha : P.length = a) (hz : P ++ [oD4] = Z) (hz' : P ++ bX4 a = Z') (hg : Zr g P.length) (h : Q none Z' g) : Ent X (d + 2) mX4_init 121 870 [vr a] Z g Q := by
  subst ha hz hz'
  show AJ X (d + 2) mX4_init 121 870 Q 0 0 0 [some (vr P.length), none] [] (P ++ [oD4]) g
  refine r_aload_n (pc' := 1) dX4_init_0 rfl rfl ?_
  refine r_objI (pc' := 4) dX4_init_1 rfl lX4_3 rfl ?_
  refine r_aload_n (pc' := 5) dX4_init_4 rfl rfl ?_
  refine r_bipush (pc' := 7) dX4_init_5 rfl (by decide) ?_
  refine r_newQ (pc' := 10) (t := 3) (len := 30) (j := P.length + 1) (Z' := P ++ [oD4, .inr (.inl (3, List.replicate 30 none))]) dX4_init_7 rfl xX4_9 rfl (Or.inl rfl) rfl (by decide) (by decide) (by decide) List.length_append (List.append_assoc _ _ _) ?_
  refine r_putr (pc' := 13) (Z' := Zp P 0) dX4_init_10 rfl fX4_11 rfl rfl (fun _ => ⟨rfl, rfl⟩) app0 rfl (by rw [set0, rsB_0 (P.length + 2)]; rfl) ?_
  refine r_aload_n (pc' := 14) dX4_init_13 rfl rfl ?_
  refine r_iconst (pc' := 15) dX4_init_14 rfl ?_
  refine r_putf (pc' := 18) (kI := 1) (g' := g) dX4_init_15 rfl fX4_17 app0 rfl (Or.inl rfl) rfl (mu_z (hg _ (Nat.le_refl _) _)) ?_
  refine r_aload_n (pc' := 19) dX4_init_18 rfl rfl ?_
  refine r_iconst (pc' := 20) dX4_init_19 rfl ?_
  refine r_putf (pc' := 23) (kI := 2) (g' := g) dX4_init_20 rfl fX4_21 app0 rfl (Or.inl rfl) rfl (mu_z (hg _ (Nat.le_refl _) _)) ?_
  refine r_iconst (pc' := 24) dX4_init_23 rfl ?_
  refine r_istore_n (pc' := 25) dX4_init_24 rfl rfl ?_
  exact lk_X4 hg h 30 0 rfl
