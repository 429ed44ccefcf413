/-- how many of k from p on -/
def cnF (c : Nat → Bool) : Nat → Nat → Nat → Nat
  | 0, _, acc => acc
  | k + 1, p, acc => cnF c k (p + 1) (if c p then acc + 1 else acc)
def allF (c : Nat → Bool) : Nat → Nat → Bool
  | 0, _ => true
  | k + 1, p => c p && allF c k (p + 1)
def popN (x : Nat) : Nat := cnF (fun k => x.testBit k) 7 0 0
theorem cnF_le {c : Nat → Bool} : ∀ (k p acc : Nat), cnF c k p acc ≤ acc + k
  | 0, _, _ => Nat.le_refl _
  | k + 1, p, acc => by
    unfold cnF
    have := cnF_le (c := c) k (p + 1) (if c p then acc + 1 else acc)
    have h2 : (if c p then acc + 1 else acc) ≤ acc + 1 := by split <;> omega
    omega
theorem popN_le (x : Nat) : popN x ≤ 7 := by
  have := cnF_le (c := fun k => x.testBit k) 7 0 0
  unfold popN
  omega
def bcE (x : Int) : Int :=
  let a := x - b_and (b_ushr x 1) 1431655765
  let b := b_and a 858993459 + b_and (b_ushr a 2) 858993459
  let c := b_and (b + b_ushr b 4) 252645135
  let e := c + b_ushr c 8
  let f := e + b_ushr e 16
  b_and f 63
theorem bc_all : ∀ x, x < 128 → bcE (x : Nat) = ((popN x : Nat) : Int) := by decide +kernel
def outB (kind heavy wind : Nat) (wet : Bool) : Bool := if kind = 4 ∧ wet = true then false else if kind = 5 then decide (1 ≤ wind) else decide (heavy + (if wet then 2 else 0) ≤ wind)
theorem outB_a {h w : Nat} : outB 4 h w true = false := by simp [outB]
theorem outB_b {h w : Nat} {t : Bool} : outB 5 h w t = decide (1 ≤ w) := by simp [outB]
theorem outB_c {k h w : Nat} {t : Bool} (hk : k ≠ 5) (h4 : k ≠ 4 ∨ t = false) : outB k h w t = decide (h + (if t then 2 else 0) ≤ w) := by
  unfold outB
  rw [if_neg (by rintro ⟨a, b⟩; rcases h4 with q | q; exact q a; rw [q] at b; cases b), if_neg hk]
def outP (u : PV) (v : LV) (f : Nat) : Bool := outB (Pk u f) (Ph u f) (Li v) ((Lt v).testBit f)
theorem fm_all : ∀ k, k < 60 → ((0 ≤ b_xor ((k : Nat) - 30 : Int) 30 ↔ 30 ≤ k) ∧ (((k : Nat) : Int) - 30).tmod 30 = (if 30 ≤ k then (((k : Nat) : Int) - 30) % 30 else if k = 0 then 0 else ((k : Nat) : Int) - 30) ∧ (30 ≤ k ∨ k = 0 ∨ (((k : Nat) : Int) - 30 + 30 = (((k : Nat) : Int) - 30) % 30)) ∧ (k = 0 → (((k : Nat) : Int) - 30) % 30 = 0)) := by decide +kernel
theorem a_bitCount {X : CX} {d : Nat} {g : Mem} {K : Int → Mem → Prop} {x : Nat} (hx : x < 128) (h : K (popN x) g) : EI X (d) mJ6_bitCount [vi (x : Int)] Z0 g K := by
  show AJ X (d) mJ6_bitCount 0 0 (QI Z0 K) 0 0 0 [some (vi (x : Int))] [] Z0 g
  refine r_iload_n (pc' := 1) dJ6_bitCount_0f7a4_0 rfl rfl ?_
  refine r_iload_n (pc' := 2) dJ6_bitCount_0f7a4_1 rfl rfl ?_
  refine r_iconst (pc' := 3) dJ6_bitCount_0f7a4_2 rfl ?_
  refine r_iushr (pc' := 4) dJ6_bitCount_0f7a4_3 rfl ?_
  refine r_ldc_w (z := 1431655765) (pc' := 7) dJ6_bitCount_0f7a4_4 rfl kJ6_265 ?_
  refine r_iand (pc' := 8) dJ6_bitCount_0f7a4_7 rfl ?_
  refine r_isub (pc' := 9) dJ6_bitCount_0f7a4_8 rfl ?_
  refine r_istore_n (pc' := 10) dJ6_bitCount_0f7a4_9 rfl rfl ?_
  refine r_iload_n (pc' := 11) dJ6_bitCount_0f7a4_10 rfl rfl ?_
  refine r_ldc_w (z := 858993459) (pc' := 14) dJ6_bitCount_0f7a4_11 rfl kJ6_266 ?_
  refine r_iand (pc' := 15) dJ6_bitCount_0f7a4_14 rfl ?_
  refine r_iload_n (pc' := 16) dJ6_bitCount_0f7a4_15 rfl rfl ?_
  refine r_iconst (pc' := 17) dJ6_bitCount_0f7a4_16 rfl ?_
  refine r_iushr (pc' := 18) dJ6_bitCount_0f7a4_17 rfl ?_
  refine r_ldc_w (z := 858993459) (pc' := 21) dJ6_bitCount_0f7a4_18 rfl kJ6_266 ?_
  refine r_iand (pc' := 22) dJ6_bitCount_0f7a4_21 rfl ?_
  refine r_iadd (pc' := 23) dJ6_bitCount_0f7a4_22 rfl ?_
  refine r_istore_n (pc' := 24) dJ6_bitCount_0f7a4_23 rfl rfl ?_
  refine r_iload_n (pc' := 25) dJ6_bitCount_0f7a4_24 rfl rfl ?_
  refine r_iload_n (pc' := 26) dJ6_bitCount_0f7a4_25 rfl rfl ?_
  refine r_iconst (pc' := 27) dJ6_bitCount_0f7a4_26 rfl ?_
  refine r_iushr (pc' := 28) dJ6_bitCount_0f7a4_27 rfl ?_
  refine r_iadd (pc' := 29) dJ6_bitCount_0f7a4_28 rfl ?_
  refine r_ldc_w (z := 252645135) (pc' := 32) dJ6_bitCount_0f7a4_29 rfl kJ6_267 ?_
  refine r_iand (pc' := 33) dJ6_bitCount_0f7a4_32 rfl ?_
  refine r_istore_n (pc' := 34) dJ6_bitCount_0f7a4_33 rfl rfl ?_
  refine r_iload_n (pc' := 35) dJ6_bitCount_0f7a4_34 rfl rfl ?_
  refine r_iload_n (pc' := 36) dJ6_bitCount_0f7a4_35 rfl rfl ?_
  refine r_bipush (pc' := 38) dJ6_bitCount_0f7a4_36 rfl (by decide) ?_
  refine r_iushr (pc' := 39) dJ6_bitCount_0f7a4_38 rfl ?_
  refine r_iadd (pc' := 40) dJ6_bitCount_0f7a4_39 rfl ?_
  refine r_istore_n (pc' := 41) dJ6_bitCount_0f7a4_40 rfl rfl ?_
  refine r_iload_n (pc' := 42) dJ6_bitCount_0f7a4_41 rfl rfl ?_
  refine r_iload_n (pc' := 43) dJ6_bitCount_0f7a4_42 rfl rfl ?_
  refine r_bipush (pc' := 45) dJ6_bitCount_0f7a4_43 rfl (by decide) ?_
  refine r_iushr (pc' := 46) dJ6_bitCount_0f7a4_45 rfl ?_
  refine r_iadd (pc' := 47) dJ6_bitCount_0f7a4_46 rfl ?_
  refine r_istore_n (pc' := 48) dJ6_bitCount_0f7a4_47 rfl rfl ?_
  refine r_iload_n (pc' := 49) dJ6_bitCount_0f7a4_48 rfl rfl ?_
  refine r_bipush (pc' := 51) dJ6_bitCount_0f7a4_49 rfl (by decide) ?_
  refine r_iand (pc' := 52) dJ6_bitCount_0f7a4_51 rfl ?_
  refine r_reti dJ6_bitCount_0f7a4_52 rfl (Or.inl rfl) ?_
  have e := bc_all x hx
  show K (bcE x) g
  rw [e]
  exact h
theorem a_max {X : CX} {d : Nat} {g : Mem} {K : Int → Mem → Prop} (x y : Int) (hx : R32 x) (hy : R32 y) (h : K (max x y) g) : EI X (d) mJ9_max [vi x, vi y] Z0 g K := by
  show AJ X (d) mJ9_max 0 0 (QI Z0 K) 0 0 0 [some (vi x), some (vi y)] [] Z0 g
  refine r_iload_n (pc' := 1) dJ9_max_7cf53_0 rfl rfl ?_
  refine r_iload_n (pc' := 2) dJ9_max_7cf53_1 rfl rfl ?_
  refine r_icmp_lt (tgt := 9) (pc' := 5) dJ9_max_7cf53_2 rfl rfl (by omega) (by omega) (fun c2 => ?_) (fun c2 => ?_)
  · refine r_iload_n (pc' := 10) dJ9_max_7cf53_9 rfl rfl ?_
    refine r_reti dJ9_max_7cf53_10 rfl (Or.inl rfl) ?_
    first | (rw [show max x y = y by omega] at h; exact h) | (rw [show max x y = x by omega] at h; exact h)
  · refine r_iload_n (pc' := 6) dJ9_max_7cf53_5 rfl rfl ?_
    refine r_goto (tgt := 10) dJ9_max_7cf53_6 rfl ?_
    refine r_reti dJ9_max_7cf53_10 rfl (Or.inl rfl) ?_
    first | (rw [show max x y = y by omega] at h; exact h) | (rw [show max x y = x by omega] at h; exact h)
theorem a_min {X : CX} {d : Nat} {g : Mem} {K : Int → Mem → Prop} (x y : Int) (hx : R32 x) (hy : R32 y) (h : K (min x y) g) : EI X (d) mJ9_min [vi x, vi y] Z0 g K := by
  show AJ X (d) mJ9_min 0 0 (QI Z0 K) 0 0 0 [some (vi x), some (vi y)] [] Z0 g
  refine r_iload_n (pc' := 1) dJ9_min_7cf53_0 rfl rfl ?_
  refine r_iload_n (pc' := 2) dJ9_min_7cf53_1 rfl rfl ?_
  refine r_icmp_gt (tgt := 9) (pc' := 5) dJ9_min_7cf53_2 rfl rfl (by omega) (by omega) (fun c2 => ?_) (fun c2 => ?_)
  · refine r_iload_n (pc' := 10) dJ9_min_7cf53_9 rfl rfl ?_
    refine r_reti dJ9_min_7cf53_10 rfl (Or.inl rfl) ?_
    first | (rw [show min x y = y by omega] at h; exact h) | (rw [show min x y = x by omega] at h; exact h)
  · refine r_iload_n (pc' := 6) dJ9_min_7cf53_5 rfl rfl ?_
    refine r_goto (tgt := 10) dJ9_min_7cf53_6 rfl ?_
    refine r_reti dJ9_min_7cf53_10 rfl (Or.inl rfl) ?_
    first | (rw [show min x y = y by omega] at h; exact h) | (rw [show min x y = x by omega] at h; exact h)
theorem a_fmod {X : CX} {d : Nat} {g : Mem} {K : Int → Mem → Prop} (x : Int) (h0 : -30 ≤ x) (h1 : x < 30) (h : K (x % 30) g) : EI X (d) mJ9_floorMod [vi x, vi 30] Z0 g K := by
  show AJ X (d) mJ9_floorMod 0 0 (QI Z0 K) 0 0 0 [some (vi x), some (vi 30), none] [] Z0 g
  obtain ⟨q1, q2, q3, q4⟩ := fm_all (x + 30).toNat (by omega)
  rw [show (((x + 30).toNat : Nat) : Int) - 30 = x by omega] at q1 q2 q3 q4
  refine r_iload_n (pc' := 1) dJ9_floorMod_7cf53_0 rfl rfl ?_
  refine r_iload_n (pc' := 2) dJ9_floorMod_7cf53_1 rfl rfl ?_
  refine r_irem (pc' := 3) dJ9_floorMod_7cf53_2 rfl (by omega) (by omega) (by omega) ?_
  refine r_istore_n (pc' := 4) dJ9_floorMod_7cf53_3 rfl rfl ?_
  refine r_iload_n (pc' := 5) dJ9_floorMod_7cf53_4 rfl rfl ?_
  refine r_iload_n (pc' := 6) dJ9_floorMod_7cf53_5 rfl rfl ?_
  refine r_ixor (pc' := 7) dJ9_floorMod_7cf53_6 rfl ?_
  refine r_if_ge (tgt := 18) (pc' := 10) dJ9_floorMod_7cf53_7 rfl rfl (i32_R _) (fun c7 => ?_) (fun c7 => ?_)
  · refine r_iload_n (pc' := 19) dJ9_floorMod_7cf53_18 rfl rfl ?_
    refine r_reti dJ9_floorMod_7cf53_19 rfl (Or.inl rfl) ?_
    rw [show x.tmod 30 = x % 30 by split at q2 <;> (try split at q2) <;> omega]
    exact h
  · refine r_iload_n (pc' := 11) dJ9_floorMod_7cf53_10 rfl rfl ?_
    refine r_if_eq (tgt := 18) (pc' := 14) dJ9_floorMod_7cf53_11 rfl rfl (by split at q2 <;> (try split at q2) <;> omega) (fun c11 => ?_) (fun c11 => ?_)
    · refine r_iload_n (pc' := 19) dJ9_floorMod_7cf53_18 rfl rfl ?_
      refine r_reti dJ9_floorMod_7cf53_19 rfl (Or.inl rfl) ?_
      rw [show x.tmod 30 = x % 30 by split at q2 <;> (try split at q2) <;> omega]
      exact h
    · refine r_iload_n (pc' := 15) dJ9_floorMod_7cf53_14 rfl rfl ?_
      refine r_iload_n (pc' := 16) dJ9_floorMod_7cf53_15 rfl rfl ?_
      refine r_iadd (pc' := 17) dJ9_floorMod_7cf53_16 rfl ?_
      refine r_reti dJ9_floorMod_7cf53_17 rfl (Or.inl rfl) ?_
      rw [show x.tmod 30 + 30 = x % 30 by split at q2 <;> (try split at q2) <;> omega]
      exact h
theorem a_isOut {X : CX} {d : Nat} {g : Mem} {K : Int → Mem → Prop} {i a f w F : Nat} {v : LV} (hL : isL i a f w) (hC : LC g i a f w v) (hW : LW F v) {j pa pb pc pe pf ph : Nat} {u : PV} (hP : isP j pa pb pc pe pf ph) (hQ : PC_ g j pa pb pc pe pf ph u) (hU : PW u) (hF : F = Pf u) {y : Nat} (hy1 : y < F) (h : K (b01 (outP u v y)) g) : EI X (d + 1) mX2_isOut [vr i, vr j, vi (y : Int)] Z0 g K := by
  show AJ X (d + 1) mX2_isOut 0 0 (QI Z0 K) 0 0 0 [some (vr i), some (vr j), some (vi (y : Int)), none] [] Z0 g
  obtain ⟨hc, ho, hf, hw, ht, hi, hy⟩ := id hC
  obtain ⟨w0, w1, w2, w3, w4, w5, w6, w7⟩ := id hW
  obtain ⟨p6, p7, p8, p9, p10, pk, pg, px, py⟩ := id hQ
  obtain ⟨u0, u1, u2, u3, u4, u5, u6, u7⟩ := id hU
  have uy := u5 y (by omega)
  have hk := pk y (by omega)
  have hg := pg y (by omega)
  refine r_aload_n (pc' := 1) dX2_isOut_0 rfl rfl ?_
  refine r_getf (pc' := 4) (kI := 4) dX2_isOut_1 rfl fX2_25 hL.1 rfl rfl ht ?_
  refine r_iload_n (pc' := 5) dX2_isOut_4 rfl rfl ?_
  refine r_ni2 (pc' := 8) dX2_isOut_5 rfl qX10_hasBit nX2_54 rfl rfl rfl (Nat.zero_le _) (Nat.zero_le _) (a_hasBitN w4 (by omega) ?_)
  refine r_istore_n (pc' := 9) dX2_isOut_8 rfl rfl ?_
  refine r_aload_n (pc' := 10) dX2_isOut_9 rfl rfl ?_
  refine r_getr (pc' := 13) dX2_isOut_10 rfl fX2_62 hP.1 rfl ?_
  refine r_iload_n (pc' := 14) dX2_isOut_13 rfl rfl ?_
  refine r_iaload (pc' := 15) dX2_isOut_14 rfl hP.2.1 (by decide) (by omega) (by omega) hk ?_
  refine r_iconst (pc' := 16) dX2_isOut_15 rfl ?_
  refine r_icmp_ne (tgt := 25) (pc' := 19) dX2_isOut_16 rfl rfl (by omega) (by omega) (fun c16 => ?_) (fun c16 => ?_)
  · refine r_aload_n (pc' := 26) dX2_isOut_25 rfl rfl ?_
    refine r_getr (pc' := 29) dX2_isOut_26 rfl fX2_62 hP.1 rfl ?_
    refine r_iload_n (pc' := 30) dX2_isOut_29 rfl rfl ?_
    refine r_iaload (pc' := 31) dX2_isOut_30 rfl hP.2.1 (by decide) (by omega) (by omega) hk ?_
    refine r_iconst (pc' := 32) dX2_isOut_31 rfl ?_
    refine r_icmp_ne (tgt := 49) (pc' := 35) dX2_isOut_32 rfl rfl (by omega) (by omega) (fun c32 => ?_) (fun c32 => ?_)
    · refine r_aload_n (pc' := 50) dX2_isOut_49 rfl rfl ?_
      refine r_getf (pc' := 53) (kI := 5) dX2_isOut_50 rfl fX2_28 hL.1 rfl rfl hi ?_
      refine r_aload_n (pc' := 54) dX2_isOut_53 rfl rfl ?_
      refine r_getr (pc' := 57) dX2_isOut_54 rfl fX2_65 hP.1 rfl ?_
      refine r_iload_n (pc' := 58) dX2_isOut_57 rfl rfl ?_
      refine r_iaload (pc' := 59) dX2_isOut_58 rfl hP.2.2.1 (by decide) (by omega) (by omega) hg ?_
      refine r_iload_n (pc' := 60) dX2_isOut_59 rfl rfl ?_
      refine r_if_eq (tgt := 67) (pc' := 63) dX2_isOut_60 rfl rfl (b01_R _) (fun c60 => ?_) (fun c60 => ?_)
      · refine r_iconst (pc' := 68) dX2_isOut_67 rfl ?_
        refine r_iadd (pc' := 69) dX2_isOut_68 rfl ?_
        refine r_icmp_lt (tgt := 76) (pc' := 72) dX2_isOut_69 rfl rfl (by omega) (by omega) (fun c69 => ?_) (fun c69 => ?_)
        · refine r_iconst (pc' := 77) dX2_isOut_76 rfl ?_
          refine r_reti dX2_isOut_77 rfl (Or.inr ⟨rfl, by first | exact Or.inl rfl | exact Or.inr rfl | omega⟩) ?_
          have q5 : Pk u y ≠ 5 := by omega
          have q4 : Pk u y ≠ 4 ∨ (Lt v).testBit y = false := by first | exact Or.inl (by omega) | exact Or.inr (b01_eq c20)
          have qe : outP u v y = _ := outB_c q5 q4
          first | (rw [b01_ne c60] at qe; rw [show outP u v y = true from qe.trans (decide_eq_true (show Ph u y + 2 ≤ Li v by omega))] at h; exact h) | (rw [b01_ne c60] at qe; rw [show outP u v y = false from qe.trans (decide_eq_false (show ¬ Ph u y + 2 ≤ Li v by omega))] at h; exact h) | (rw [b01_eq c60] at qe; rw [show outP u v y = true from qe.trans (decide_eq_true (show Ph u y + 0 ≤ Li v by omega))] at h; exact h) | (rw [b01_eq c60] at qe; rw [show outP u v y = false from qe.trans (decide_eq_false (show ¬ Ph u y + 0 ≤ Li v by omega))] at h; exact h)
        · refine r_iconst (pc' := 73) dX2_isOut_72 rfl ?_
          refine r_goto (tgt := 77) dX2_isOut_73 rfl ?_
          refine r_reti dX2_isOut_77 rfl (Or.inr ⟨rfl, by first | exact Or.inl rfl | exact Or.inr rfl | omega⟩) ?_
          have q5 : Pk u y ≠ 5 := by omega
          have q4 : Pk u y ≠ 4 ∨ (Lt v).testBit y = false := by first | exact Or.inl (by omega) | exact Or.inr (b01_eq c20)
          have qe : outP u v y = _ := outB_c q5 q4
          first | (rw [b01_ne c60] at qe; rw [show outP u v y = true from qe.trans (decide_eq_true (show Ph u y + 2 ≤ Li v by omega))] at h; exact h) | (rw [b01_ne c60] at qe; rw [show outP u v y = false from qe.trans (decide_eq_false (show ¬ Ph u y + 2 ≤ Li v by omega))] at h; exact h) | (rw [b01_eq c60] at qe; rw [show outP u v y = true from qe.trans (decide_eq_true (show Ph u y + 0 ≤ Li v by omega))] at h; exact h) | (rw [b01_eq c60] at qe; rw [show outP u v y = false from qe.trans (decide_eq_false (show ¬ Ph u y + 0 ≤ Li v by omega))] at h; exact h)
      · refine r_iconst (pc' := 64) dX2_isOut_63 rfl ?_
        refine r_goto (tgt := 68) dX2_isOut_64 rfl ?_
        refine r_iadd (pc' := 69) dX2_isOut_68 rfl ?_
        refine r_icmp_lt (tgt := 76) (pc' := 72) dX2_isOut_69 rfl rfl (by omega) (by omega) (fun c69 => ?_) (fun c69 => ?_)
        · refine r_iconst (pc' := 77) dX2_isOut_76 rfl ?_
          refine r_reti dX2_isOut_77 rfl (Or.inr ⟨rfl, by first | exact Or.inl rfl | exact Or.inr rfl | omega⟩) ?_
          have q5 : Pk u y ≠ 5 := by omega
          have q4 : Pk u y ≠ 4 ∨ (Lt v).testBit y = false := by first | exact Or.inl (by omega) | exact Or.inr (b01_eq c20)
          have qe : outP u v y = _ := outB_c q5 q4
          first | (rw [b01_ne c60] at qe; rw [show outP u v y = true from qe.trans (decide_eq_true (show Ph u y + 2 ≤ Li v by omega))] at h; exact h) | (rw [b01_ne c60] at qe; rw [show outP u v y = false from qe.trans (decide_eq_false (show ¬ Ph u y + 2 ≤ Li v by omega))] at h; exact h) | (rw [b01_eq c60] at qe; rw [show outP u v y = true from qe.trans (decide_eq_true (show Ph u y + 0 ≤ Li v by omega))] at h; exact h) | (rw [b01_eq c60] at qe; rw [show outP u v y = false from qe.trans (decide_eq_false (show ¬ Ph u y + 0 ≤ Li v by omega))] at h; exact h)
        · refine r_iconst (pc' := 73) dX2_isOut_72 rfl ?_
          refine r_goto (tgt := 77) dX2_isOut_73 rfl ?_
          refine r_reti dX2_isOut_77 rfl (Or.inr ⟨rfl, by first | exact Or.inl rfl | exact Or.inr rfl | omega⟩) ?_
          have q5 : Pk u y ≠ 5 := by omega
          have q4 : Pk u y ≠ 4 ∨ (Lt v).testBit y = false := by first | exact Or.inl (by omega) | exact Or.inr (b01_eq c20)
          have qe : outP u v y = _ := outB_c q5 q4
          first | (rw [b01_ne c60] at qe; rw [show outP u v y = true from qe.trans (decide_eq_true (show Ph u y + 2 ≤ Li v by omega))] at h; exact h) | (rw [b01_ne c60] at qe; rw [show outP u v y = false from qe.trans (decide_eq_false (show ¬ Ph u y + 2 ≤ Li v by omega))] at h; exact h) | (rw [b01_eq c60] at qe; rw [show outP u v y = true from qe.trans (decide_eq_true (show Ph u y + 0 ≤ Li v by omega))] at h; exact h) | (rw [b01_eq c60] at qe; rw [show outP u v y = false from qe.trans (decide_eq_false (show ¬ Ph u y + 0 ≤ Li v by omega))] at h; exact h)
    · refine r_aload_n (pc' := 36) dX2_isOut_35 rfl rfl ?_
      refine r_getf (pc' := 39) (kI := 5) dX2_isOut_36 rfl fX2_28 hL.1 rfl rfl hi ?_
      refine r_iconst (pc' := 40) dX2_isOut_39 rfl ?_
      refine r_icmp_lt (tgt := 47) (pc' := 43) dX2_isOut_40 rfl rfl (by omega) (by omega) (fun c40 => ?_) (fun c40 => ?_)
      · refine r_iconst (pc' := 48) dX2_isOut_47 rfl ?_
        refine r_reti dX2_isOut_48 rfl (Or.inr ⟨rfl, by first | exact Or.inl rfl | exact Or.inr rfl | omega⟩) ?_
        first | (rw [show outP u v y = true by unfold outP; rw [show Pk u y = 5 by omega, outB_b]; exact decide_eq_true (by omega)] at h; exact h) | (rw [show outP u v y = false by unfold outP; rw [show Pk u y = 5 by omega, outB_b]; exact decide_eq_false (by omega)] at h; exact h)
      · refine r_iconst (pc' := 44) dX2_isOut_43 rfl ?_
        refine r_goto (tgt := 48) dX2_isOut_44 rfl ?_
        refine r_reti dX2_isOut_48 rfl (Or.inr ⟨rfl, by first | exact Or.inl rfl | exact Or.inr rfl | omega⟩) ?_
        first | (rw [show outP u v y = true by unfold outP; rw [show Pk u y = 5 by omega, outB_b]; exact decide_eq_true (by omega)] at h; exact h) | (rw [show outP u v y = false by unfold outP; rw [show Pk u y = 5 by omega, outB_b]; exact decide_eq_false (by omega)] at h; exact h)
  · refine r_iload_n (pc' := 20) dX2_isOut_19 rfl rfl ?_
    refine r_if_eq (tgt := 25) (pc' := 23) dX2_isOut_20 rfl rfl (b01_R _) (fun c20 => ?_) (fun c20 => ?_)
    · refine r_aload_n (pc' := 26) dX2_isOut_25 rfl rfl ?_
      refine r_getr (pc' := 29) dX2_isOut_26 rfl fX2_62 hP.1 rfl ?_
      refine r_iload_n (pc' := 30) dX2_isOut_29 rfl rfl ?_
      refine r_iaload (pc' := 31) dX2_isOut_30 rfl hP.2.1 (by decide) (by omega) (by omega) hk ?_
      refine r_iconst (pc' := 32) dX2_isOut_31 rfl ?_
      refine r_icmp_ne (tgt := 49) (pc' := 35) dX2_isOut_32 rfl rfl (by omega) (by omega) (fun c32 => ?_) (fun c32 => ?_)
      · refine r_aload_n (pc' := 50) dX2_isOut_49 rfl rfl ?_
        refine r_getf (pc' := 53) (kI := 5) dX2_isOut_50 rfl fX2_28 hL.1 rfl rfl hi ?_
        refine r_aload_n (pc' := 54) dX2_isOut_53 rfl rfl ?_
        refine r_getr (pc' := 57) dX2_isOut_54 rfl fX2_65 hP.1 rfl ?_
        refine r_iload_n (pc' := 58) dX2_isOut_57 rfl rfl ?_
        refine r_iaload (pc' := 59) dX2_isOut_58 rfl hP.2.2.1 (by decide) (by omega) (by omega) hg ?_
        refine r_iload_n (pc' := 60) dX2_isOut_59 rfl rfl ?_
        refine r_if_eq (tgt := 67) (pc' := 63) dX2_isOut_60 rfl rfl (b01_R _) (fun c60 => ?_) (fun c60 => ?_)
        · refine r_iconst (pc' := 68) dX2_isOut_67 rfl ?_
          refine r_iadd (pc' := 69) dX2_isOut_68 rfl ?_
          refine r_icmp_lt (tgt := 76) (pc' := 72) dX2_isOut_69 rfl rfl (by omega) (by omega) (fun c69 => ?_) (fun c69 => ?_)
          · refine r_iconst (pc' := 77) dX2_isOut_76 rfl ?_
            refine r_reti dX2_isOut_77 rfl (Or.inr ⟨rfl, by first | exact Or.inl rfl | exact Or.inr rfl | omega⟩) ?_
            have q5 : Pk u y ≠ 5 := by omega
            have q4 : Pk u y ≠ 4 ∨ (Lt v).testBit y = false := by first | exact Or.inl (by omega) | exact Or.inr (b01_eq c20)
            have qe : outP u v y = _ := outB_c q5 q4
            first | (rw [b01_ne c60] at qe; rw [show outP u v y = true from qe.trans (decide_eq_true (show Ph u y + 2 ≤ Li v by omega))] at h; exact h) | (rw [b01_ne c60] at qe; rw [show outP u v y = false from qe.trans (decide_eq_false (show ¬ Ph u y + 2 ≤ Li v by omega))] at h; exact h) | (rw [b01_eq c60] at qe; rw [show outP u v y = true from qe.trans (decide_eq_true (show Ph u y + 0 ≤ Li v by omega))] at h; exact h) | (rw [b01_eq c60] at qe; rw [show outP u v y = false from qe.trans (decide_eq_false (show ¬ Ph u y + 0 ≤ Li v by omega))] at h; exact h)
          · refine r_iconst (pc' := 73) dX2_isOut_72 rfl ?_
            refine r_goto (tgt := 77) dX2_isOut_73 rfl ?_
            refine r_reti dX2_isOut_77 rfl (Or.inr ⟨rfl, by first | exact Or.inl rfl | exact Or.inr rfl | omega⟩) ?_
            have q5 : Pk u y ≠ 5 := by omega
            have q4 : Pk u y ≠ 4 ∨ (Lt v).testBit y = false := by first | exact Or.inl (by omega) | exact Or.inr (b01_eq c20)
            have qe : outP u v y = _ := outB_c q5 q4
            first | (rw [b01_ne c60] at qe; rw [show outP u v y = true from qe.trans (decide_eq_true (show Ph u y + 2 ≤ Li v by omega))] at h; exact h) | (rw [b01_ne c60] at qe; rw [show outP u v y = false from qe.trans (decide_eq_false (show ¬ Ph u y + 2 ≤ Li v by omega))] at h; exact h) | (rw [b01_eq c60] at qe; rw [show outP u v y = true from qe.trans (decide_eq_true (show Ph u y + 0 ≤ Li v by omega))] at h; exact h) | (rw [b01_eq c60] at qe; rw [show outP u v y = false from qe.trans (decide_eq_false (show ¬ Ph u y + 0 ≤ Li v by omega))] at h; exact h)
        · refine r_iconst (pc' := 64) dX2_isOut_63 rfl ?_
          refine r_goto (tgt := 68) dX2_isOut_64 rfl ?_
          refine r_iadd (pc' := 69) dX2_isOut_68 rfl ?_
          refine r_icmp_lt (tgt := 76) (pc' := 72) dX2_isOut_69 rfl rfl (by omega) (by omega) (fun c69 => ?_) (fun c69 => ?_)
          · refine r_iconst (pc' := 77) dX2_isOut_76 rfl ?_
            refine r_reti dX2_isOut_77 rfl (Or.inr ⟨rfl, by first | exact Or.inl rfl | exact Or.inr rfl | omega⟩) ?_
            have q5 : Pk u y ≠ 5 := by omega
            have q4 : Pk u y ≠ 4 ∨ (Lt v).testBit y = false := by first | exact Or.inl (by omega) | exact Or.inr (b01_eq c20)
            have qe : outP u v y = _ := outB_c q5 q4
            first | (rw [b01_ne c60] at qe; rw [show outP u v y = true from qe.trans (decide_eq_true (show Ph u y + 2 ≤ Li v by omega))] at h; exact h) | (rw [b01_ne c60] at qe; rw [show outP u v y = false from qe.trans (decide_eq_false (show ¬ Ph u y + 2 ≤ Li v by omega))] at h; exact h) | (rw [b01_eq c60] at qe; rw [show outP u v y = true from qe.trans (decide_eq_true (show Ph u y + 0 ≤ Li v by omega))] at h; exact h) | (rw [b01_eq c60] at qe; rw [show outP u v y = false from qe.trans (decide_eq_false (show ¬ Ph u y + 0 ≤ Li v by omega))] at h; exact h)
          · refine r_iconst (pc' := 73) dX2_isOut_72 rfl ?_
            refine r_goto (tgt := 77) dX2_isOut_73 rfl ?_
            refine r_reti dX2_isOut_77 rfl (Or.inr ⟨rfl, by first | exact Or.inl rfl | exact Or.inr rfl | omega⟩) ?_
            have q5 : Pk u y ≠ 5 := by omega
            have q4 : Pk u y ≠ 4 ∨ (Lt v).testBit y = false := by first | exact Or.inl (by omega) | exact Or.inr (b01_eq c20)
            have qe : outP u v y = _ := outB_c q5 q4
            first | (rw [b01_ne c60] at qe; rw [show outP u v y = true from qe.trans (decide_eq_true (show Ph u y + 2 ≤ Li v by omega))] at h; exact h) | (rw [b01_ne c60] at qe; rw [show outP u v y = false from qe.trans (decide_eq_false (show ¬ Ph u y + 2 ≤ Li v by omega))] at h; exact h) | (rw [b01_eq c60] at qe; rw [show outP u v y = true from qe.trans (decide_eq_true (show Ph u y + 0 ≤ Li v by omega))] at h; exact h) | (rw [b01_eq c60] at qe; rw [show outP u v y = false from qe.trans (decide_eq_false (show ¬ Ph u y + 0 ≤ Li v by omega))] at h; exact h)
      · refine r_aload_n (pc' := 36) dX2_isOut_35 rfl rfl ?_
        refine r_getf (pc' := 39) (kI := 5) dX2_isOut_36 rfl fX2_28 hL.1 rfl rfl hi ?_
        refine r_iconst (pc' := 40) dX2_isOut_39 rfl ?_
        refine r_icmp_lt (tgt := 47) (pc' := 43) dX2_isOut_40 rfl rfl (by omega) (by omega) (fun c40 => ?_) (fun c40 => ?_)
        · refine r_iconst (pc' := 48) dX2_isOut_47 rfl ?_
          refine r_reti dX2_isOut_48 rfl (Or.inr ⟨rfl, by first | exact Or.inl rfl | exact Or.inr rfl | omega⟩) ?_
          first | (rw [show outP u v y = true by unfold outP; rw [show Pk u y = 5 by omega, outB_b]; exact decide_eq_true (by omega)] at h; exact h) | (rw [show outP u v y = false by unfold outP; rw [show Pk u y = 5 by omega, outB_b]; exact decide_eq_false (by omega)] at h; exact h)
        · refine r_iconst (pc' := 44) dX2_isOut_43 rfl ?_
          refine r_goto (tgt := 48) dX2_isOut_44 rfl ?_
          refine r_reti dX2_isOut_48 rfl (Or.inr ⟨rfl, by first | exact Or.inl rfl | exact Or.inr rfl | omega⟩) ?_
          first | (rw [show outP u v y = true by unfold outP; rw [show Pk u y = 5 by omega, outB_b]; exact decide_eq_true (by omega)] at h; exact h) | (rw [show outP u v y = false by unfold outP; rw [show Pk u y = 5 by omega, outB_b]; exact decide_eq_false (by omega)] at h; exact h)
    · refine r_iconst (pc' := 24) dX2_isOut_23 rfl ?_
      refine r_reti dX2_isOut_24 rfl (Or.inr ⟨rfl, by first | exact Or.inl rfl | exact Or.inr rfl | omega⟩) ?_
      rw [show outP u v y = false by unfold outP; rw [show Pk u y = 4 by omega, b01_ne c20]; exact outB_a] at h
      exact h
