/-- does a flag answer a look -/
def ansB (u : PV) (look f : Nat) : Bool := decide (Pk u f = look) || decide (Ph u f + 10 = look)
def ansN (u : PV) (s look : Nat) : Nat := orF (fun f => ansB u look f && s.testBit f) (fun f => 2 ^ f) (Pf u) 0 0
theorem ansN_lt {u : PV} (hU : PW u) (s look : Nat) : ansN u s look < 128 := orF_lt _ _ _ (by decide) (fun q _ hq => pow7 (by have := hU.2.2.1; omega))
/-- KV: how many looks, which, how answered -/
def fitF (u : PV) (a : Nat → Nat) (r : Nat → Bool) : Nat → Nat → Nat → Nat
  | 0, _, left => left
  | k + 1, i, left => fitF u a r k (i + 1) (if r i then ansN u left (a i) else difN left (ansN u left (a i)))
theorem fitF_lt {u : PV} (hU : PW u) {a : Nat → Nat} {r : Nat → Bool} : ∀ (k i left : Nat), left < 128 → fitF u a r k i left < 128
  | 0, _, _, h => h
  | k + 1, i, left, h => by
    unfold fitF
    refine fitF_lt hU k (i + 1) _ ?_
    split
    · exact ansN_lt hU _ _
    · exact difN_lt h
def blF (u : PV) (s : Nat) : Nat → Nat → Int → Nat → Int
  | 0, _, best, _ => best
  | k + 1, look, best, least => if max (popN (ansN u s look)) (popN s - popN (ansN u s look)) < least then blF u s k (look + 1) look (max (popN (ansN u s look)) (popN s - popN (ansN u s look))) else blF u s k (look + 1) best least
/-- what is OLD -/
def LK (g : Mem) (n : Nat) (a : Nat → Nat) (r : Nat → Bool) : Prop := g 160 2 = n ∧ n ≤ 6 ∧ (∀ i : Nat, i < n → g 161 i = a i ∧ g 162 i = b01 (r i) ∧ a i ≤ 19)
def BK (g : Mem) (n : Nat) (p : Nat → Nat) (f : Nat → Int) : Prop := g 163 2 = n ∧ n ≤ 20 ∧ (∀ i : Nat, i < n → g 164 i = p i ∧ g 165 i = f i ∧ p i ≤ 6 ∧ R32 (f i))
theorem l_ans {X : CX} {d : Nat} {g : Mem} {K : Int → Mem → Prop} {u : PV} {v : LV} (hB : CB g u v) {s look : Nat} (hs : s < 128) (hl : look ≤ 19) : ∀ (k f acc : Nat) (y : Option VV), f + k = Pf u → acc < 128 → K ((orF (fun f => ansB u look f && s.testBit f) (fun f => 2 ^ f) k f acc : Nat) : Int) g → AJ X (d + 1) mX3_answering 0 0 (QI Z0 K) 0 0 5 [some (vr 10), some (vi (s : Int)), some (vi (look : Int)), some (vi (acc : Int)), some (vi (f : Int)), y] [] Z0 g := by
  obtain ⟨hQ, hU, hC, hW⟩ := id hB
  obtain ⟨hc, ho, hf_, hw, ht, hi, hy⟩ := id hC
  obtain ⟨w0, w1, w2, w3, w4, w5, w6, w7⟩ := id hW
  obtain ⟨p6, p7, p8, p9, p10, pk, pg, px, py⟩ := id hQ
  obtain ⟨u0, u1, u2, u3, u4, u5, u6, u7⟩ := id hU
  intro k
  induction k with
  | zero =>
    intro f acc y hp ha h
    refine r_iload (pc' := 7) dX3_answering_5 rfl rfl ?_
    refine r_aload_n (pc' := 8) dX3_answering_7 rfl rfl ?_
    refine r_getf (pc' := 11) (kI := 8) dX3_answering_8 rfl fX3_39 isP10.1 rfl rfl p8 ?_
    refine r_icmp_ge (tgt := 73) (pc' := 14) dX3_answering_11 rfl rfl (by omega) (by omega) (fun c11 => ?_) (fun c11 => ?_)
    · refine r_iload_n (pc' := 74) dX3_answering_73 rfl rfl ?_
      refine r_reti dX3_answering_74 rfl (Or.inl rfl) ?_
      exact h
    · exact absurd c11 (by omega)
  | succ k ih =>
    intro f acc y hp ha h
    have hk := pk f (by omega)
    have hg := pg f (by omega)
    have hu := u5 f (by omega)
    have e : b_or (acc : Int) (b_shl 1 (f : Int)) = ((acc ||| 2 ^ f : Nat) : Int) := by rw [shl1 (by omega), or_n ha (pow7 (by omega))]
    unfold orF at h
    refine r_iload (pc' := 7) dX3_answering_5 rfl rfl ?_
    refine r_aload_n (pc' := 8) dX3_answering_7 rfl rfl ?_
    refine r_getf (pc' := 11) (kI := 8) dX3_answering_8 rfl fX3_39 isP10.1 rfl rfl p8 ?_
    refine r_icmp_ge (tgt := 73) (pc' := 14) dX3_answering_11 rfl rfl (by omega) (by omega) (fun c11 => ?_) (fun c11 => ?_)
    · exact absurd c11 (by omega)
    · refine r_aload_n (pc' := 15) dX3_answering_14 rfl rfl ?_
      refine r_getr (pc' := 18) dX3_answering_15 rfl fX3_44 isP10.1 rfl ?_
      refine r_iload (pc' := 20) dX3_answering_18 rfl rfl ?_
      refine r_iaload (pc' := 21) dX3_answering_20 rfl isP10.2.1 (by decide) (by omega) (by omega) hk ?_
      refine r_iload_n (pc' := 22) dX3_answering_21 rfl rfl ?_
      refine r_icmp_eq (tgt := 39) (pc' := 25) dX3_answering_22 rfl rfl (by omega) (by omega) (fun c22 => ?_) (fun c22 => ?_)
      · refine r_iconst (pc' := 40) dX3_answering_39 rfl ?_
        refine r_goto (tgt := 44) dX3_answering_40 rfl ?_
        refine r_istore (pc' := 46) dX3_answering_44 rfl rfl ?_
        refine r_iload (pc' := 48) dX3_answering_46 rfl rfl ?_
        refine r_if_eq (tgt := 67) (pc' := 51) dX3_answering_48 rfl rfl (by omega) (fun c48 => ?_) (fun c48 => ?_)
        · refine r_iinc (pc' := 70) dX3_answering_67 rfl rfl rfl ?_
          refine r_goto (tgt := 5) dX3_answering_70 rfl ?_
          first | exact absurd c48 (by decide) | (rw [if_neg (by unfold ansB; rw [decide_eq_false (by omega : ¬ Pk u f = look), decide_eq_false (by omega : ¬ Ph u f + 10 = look), Bool.or_false, Bool.false_and]; decide)] at h; exact ih (f + 1) _ _ (by omega) ha h) | (rw [if_neg (by rw [b01_eq c57, Bool.and_false]; decide)] at h; exact ih (f + 1) _ _ (by omega) ha h) | (rw [if_pos (by unfold ansB; rw [b01_ne c57, decide_eq_true (by omega : Pk u f = look)]; rfl)] at h; exact ih (f + 1) _ _ (by omega) (or128 ha (pow7 (by omega))) h) | (rw [if_pos (by unfold ansB; rw [b01_ne c57, decide_eq_true (by omega : Ph u f + 10 = look), Bool.or_true]; rfl)] at h; exact ih (f + 1) _ _ (by omega) (or128 ha (pow7 (by omega))) h)
        · refine r_iload_n (pc' := 52) dX3_answering_51 rfl rfl ?_
          refine r_iload (pc' := 54) dX3_answering_52 rfl rfl ?_
          refine r_ni2 (pc' := 57) dX3_answering_54 rfl qX10_hasBit nX3_50 rfl rfl rfl (Nat.zero_le _) (Nat.zero_le _) (a_hasBitN hs (by omega) ?_)
          refine r_if_eq (tgt := 67) (pc' := 60) dX3_answering_57 rfl rfl (b01_R _) (fun c57 => ?_) (fun c57 => ?_)
          · refine r_iinc (pc' := 70) dX3_answering_67 rfl rfl rfl ?_
            refine r_goto (tgt := 5) dX3_answering_70 rfl ?_
            first | exact absurd c48 (by decide) | (rw [if_neg (by unfold ansB; rw [decide_eq_false (by omega : ¬ Pk u f = look), decide_eq_false (by omega : ¬ Ph u f + 10 = look), Bool.or_false, Bool.false_and]; decide)] at h; exact ih (f + 1) _ _ (by omega) ha h) | (rw [if_neg (by rw [b01_eq c57, Bool.and_false]; decide)] at h; exact ih (f + 1) _ _ (by omega) ha h) | (rw [if_pos (by unfold ansB; rw [b01_ne c57, decide_eq_true (by omega : Pk u f = look)]; rfl)] at h; exact ih (f + 1) _ _ (by omega) (or128 ha (pow7 (by omega))) h) | (rw [if_pos (by unfold ansB; rw [b01_ne c57, decide_eq_true (by omega : Ph u f + 10 = look), Bool.or_true]; rfl)] at h; exact ih (f + 1) _ _ (by omega) (or128 ha (pow7 (by omega))) h)
          · refine r_iload_n (pc' := 61) dX3_answering_60 rfl rfl ?_
            refine r_iconst (pc' := 62) dX3_answering_61 rfl ?_
            refine r_iload (pc' := 64) dX3_answering_62 rfl rfl ?_
            refine r_ishl (pc' := 65) dX3_answering_64 rfl ?_
            refine r_ior (pc' := 66) dX3_answering_65 rfl ?_
            rw [e]
            refine r_istore_n (pc' := 67) dX3_answering_66 rfl rfl ?_
            refine r_iinc (pc' := 70) dX3_answering_67 rfl rfl rfl ?_
            refine r_goto (tgt := 5) dX3_answering_70 rfl ?_
            first | exact absurd c48 (by decide) | (rw [if_neg (by unfold ansB; rw [decide_eq_false (by omega : ¬ Pk u f = look), decide_eq_false (by omega : ¬ Ph u f + 10 = look), Bool.or_false, Bool.false_and]; decide)] at h; exact ih (f + 1) _ _ (by omega) ha h) | (rw [if_neg (by rw [b01_eq c57, Bool.and_false]; decide)] at h; exact ih (f + 1) _ _ (by omega) ha h) | (rw [if_pos (by unfold ansB; rw [b01_ne c57, decide_eq_true (by omega : Pk u f = look)]; rfl)] at h; exact ih (f + 1) _ _ (by omega) (or128 ha (pow7 (by omega))) h) | (rw [if_pos (by unfold ansB; rw [b01_ne c57, decide_eq_true (by omega : Ph u f + 10 = look), Bool.or_true]; rfl)] at h; exact ih (f + 1) _ _ (by omega) (or128 ha (pow7 (by omega))) h)
      · refine r_aload_n (pc' := 26) dX3_answering_25 rfl rfl ?_
        refine r_getr (pc' := 29) dX3_answering_26 rfl fX3_47 isP10.1 rfl ?_
        refine r_iload (pc' := 31) dX3_answering_29 rfl rfl ?_
        refine r_iaload (pc' := 32) dX3_answering_31 rfl isP10.2.2.1 (by decide) (by omega) (by omega) hg ?_
        refine r_bipush (pc' := 34) dX3_answering_32 rfl (by decide) ?_
        refine r_iadd (pc' := 35) dX3_answering_34 rfl ?_
        refine r_iload_n (pc' := 36) dX3_answering_35 rfl rfl ?_
        refine r_icmp_ne (tgt := 43) (pc' := 39) dX3_answering_36 rfl rfl (by omega) (by omega) (fun c36 => ?_) (fun c36 => ?_)
        · refine r_iconst (pc' := 44) dX3_answering_43 rfl ?_
          refine r_istore (pc' := 46) dX3_answering_44 rfl rfl ?_
          refine r_iload (pc' := 48) dX3_answering_46 rfl rfl ?_
          refine r_if_eq (tgt := 67) (pc' := 51) dX3_answering_48 rfl rfl (by omega) (fun c48 => ?_) (fun c48 => ?_)
          · refine r_iinc (pc' := 70) dX3_answering_67 rfl rfl rfl ?_
            refine r_goto (tgt := 5) dX3_answering_70 rfl ?_
            first | exact absurd c48 (by decide) | (rw [if_neg (by unfold ansB; rw [decide_eq_false (by omega : ¬ Pk u f = look), decide_eq_false (by omega : ¬ Ph u f + 10 = look), Bool.or_false, Bool.false_and]; decide)] at h; exact ih (f + 1) _ _ (by omega) ha h) | (rw [if_neg (by rw [b01_eq c57, Bool.and_false]; decide)] at h; exact ih (f + 1) _ _ (by omega) ha h) | (rw [if_pos (by unfold ansB; rw [b01_ne c57, decide_eq_true (by omega : Pk u f = look)]; rfl)] at h; exact ih (f + 1) _ _ (by omega) (or128 ha (pow7 (by omega))) h) | (rw [if_pos (by unfold ansB; rw [b01_ne c57, decide_eq_true (by omega : Ph u f + 10 = look), Bool.or_true]; rfl)] at h; exact ih (f + 1) _ _ (by omega) (or128 ha (pow7 (by omega))) h)
          · refine r_iload_n (pc' := 52) dX3_answering_51 rfl rfl ?_
            refine r_iload (pc' := 54) dX3_answering_52 rfl rfl ?_
            refine r_ni2 (pc' := 57) dX3_answering_54 rfl qX10_hasBit nX3_50 rfl rfl rfl (Nat.zero_le _) (Nat.zero_le _) (a_hasBitN hs (by omega) ?_)
            refine r_if_eq (tgt := 67) (pc' := 60) dX3_answering_57 rfl rfl (b01_R _) (fun c57 => ?_) (fun c57 => ?_)
            · refine r_iinc (pc' := 70) dX3_answering_67 rfl rfl rfl ?_
              refine r_goto (tgt := 5) dX3_answering_70 rfl ?_
              first | exact absurd c48 (by decide) | (rw [if_neg (by unfold ansB; rw [decide_eq_false (by omega : ¬ Pk u f = look), decide_eq_false (by omega : ¬ Ph u f + 10 = look), Bool.or_false, Bool.false_and]; decide)] at h; exact ih (f + 1) _ _ (by omega) ha h) | (rw [if_neg (by rw [b01_eq c57, Bool.and_false]; decide)] at h; exact ih (f + 1) _ _ (by omega) ha h) | (rw [if_pos (by unfold ansB; rw [b01_ne c57, decide_eq_true (by omega : Pk u f = look)]; rfl)] at h; exact ih (f + 1) _ _ (by omega) (or128 ha (pow7 (by omega))) h) | (rw [if_pos (by unfold ansB; rw [b01_ne c57, decide_eq_true (by omega : Ph u f + 10 = look), Bool.or_true]; rfl)] at h; exact ih (f + 1) _ _ (by omega) (or128 ha (pow7 (by omega))) h)
            · refine r_iload_n (pc' := 61) dX3_answering_60 rfl rfl ?_
              refine r_iconst (pc' := 62) dX3_answering_61 rfl ?_
              refine r_iload (pc' := 64) dX3_answering_62 rfl rfl ?_
              refine r_ishl (pc' := 65) dX3_answering_64 rfl ?_
              refine r_ior (pc' := 66) dX3_answering_65 rfl ?_
              rw [e]
              refine r_istore_n (pc' := 67) dX3_answering_66 rfl rfl ?_
              refine r_iinc (pc' := 70) dX3_answering_67 rfl rfl rfl ?_
              refine r_goto (tgt := 5) dX3_answering_70 rfl ?_
              first | exact absurd c48 (by decide) | (rw [if_neg (by unfold ansB; rw [decide_eq_false (by omega : ¬ Pk u f = look), decide_eq_false (by omega : ¬ Ph u f + 10 = look), Bool.or_false, Bool.false_and]; decide)] at h; exact ih (f + 1) _ _ (by omega) ha h) | (rw [if_neg (by rw [b01_eq c57, Bool.and_false]; decide)] at h; exact ih (f + 1) _ _ (by omega) ha h) | (rw [if_pos (by unfold ansB; rw [b01_ne c57, decide_eq_true (by omega : Pk u f = look)]; rfl)] at h; exact ih (f + 1) _ _ (by omega) (or128 ha (pow7 (by omega))) h) | (rw [if_pos (by unfold ansB; rw [b01_ne c57, decide_eq_true (by omega : Ph u f + 10 = look), Bool.or_true]; rfl)] at h; exact ih (f + 1) _ _ (by omega) (or128 ha (pow7 (by omega))) h)
        · refine r_iconst (pc' := 40) dX3_answering_39 rfl ?_
          refine r_goto (tgt := 44) dX3_answering_40 rfl ?_
          refine r_istore (pc' := 46) dX3_answering_44 rfl rfl ?_
          refine r_iload (pc' := 48) dX3_answering_46 rfl rfl ?_
          refine r_if_eq (tgt := 67) (pc' := 51) dX3_answering_48 rfl rfl (by omega) (fun c48 => ?_) (fun c48 => ?_)
          · refine r_iinc (pc' := 70) dX3_answering_67 rfl rfl rfl ?_
            refine r_goto (tgt := 5) dX3_answering_70 rfl ?_
            first | exact absurd c48 (by decide) | (rw [if_neg (by unfold ansB; rw [decide_eq_false (by omega : ¬ Pk u f = look), decide_eq_false (by omega : ¬ Ph u f + 10 = look), Bool.or_false, Bool.false_and]; decide)] at h; exact ih (f + 1) _ _ (by omega) ha h) | (rw [if_neg (by rw [b01_eq c57, Bool.and_false]; decide)] at h; exact ih (f + 1) _ _ (by omega) ha h) | (rw [if_pos (by unfold ansB; rw [b01_ne c57, decide_eq_true (by omega : Pk u f = look)]; rfl)] at h; exact ih (f + 1) _ _ (by omega) (or128 ha (pow7 (by omega))) h) | (rw [if_pos (by unfold ansB; rw [b01_ne c57, decide_eq_true (by omega : Ph u f + 10 = look), Bool.or_true]; rfl)] at h; exact ih (f + 1) _ _ (by omega) (or128 ha (pow7 (by omega))) h)
          · refine r_iload_n (pc' := 52) dX3_answering_51 rfl rfl ?_
            refine r_iload (pc' := 54) dX3_answering_52 rfl rfl ?_
            refine r_ni2 (pc' := 57) dX3_answering_54 rfl qX10_hasBit nX3_50 rfl rfl rfl (Nat.zero_le _) (Nat.zero_le _) (a_hasBitN hs (by omega) ?_)
            refine r_if_eq (tgt := 67) (pc' := 60) dX3_answering_57 rfl rfl (b01_R _) (fun c57 => ?_) (fun c57 => ?_)
            · refine r_iinc (pc' := 70) dX3_answering_67 rfl rfl rfl ?_
              refine r_goto (tgt := 5) dX3_answering_70 rfl ?_
              first | exact absurd c48 (by decide) | (rw [if_neg (by unfold ansB; rw [decide_eq_false (by omega : ¬ Pk u f = look), decide_eq_false (by omega : ¬ Ph u f + 10 = look), Bool.or_false, Bool.false_and]; decide)] at h; exact ih (f + 1) _ _ (by omega) ha h) | (rw [if_neg (by rw [b01_eq c57, Bool.and_false]; decide)] at h; exact ih (f + 1) _ _ (by omega) ha h) | (rw [if_pos (by unfold ansB; rw [b01_ne c57, decide_eq_true (by omega : Pk u f = look)]; rfl)] at h; exact ih (f + 1) _ _ (by omega) (or128 ha (pow7 (by omega))) h) | (rw [if_pos (by unfold ansB; rw [b01_ne c57, decide_eq_true (by omega : Ph u f + 10 = look), Bool.or_true]; rfl)] at h; exact ih (f + 1) _ _ (by omega) (or128 ha (pow7 (by omega))) h)
            · refine r_iload_n (pc' := 61) dX3_answering_60 rfl rfl ?_
              refine r_iconst (pc' := 62) dX3_answering_61 rfl ?_
              refine r_iload (pc' := 64) dX3_answering_62 rfl rfl ?_
              refine r_ishl (pc' := 65) dX3_answering_64 rfl ?_
              refine r_ior (pc' := 66) dX3_answering_65 rfl ?_
              rw [e]
              refine r_istore_n (pc' := 67) dX3_answering_66 rfl rfl ?_
              refine r_iinc (pc' := 70) dX3_answering_67 rfl rfl rfl ?_
              refine r_goto (tgt := 5) dX3_answering_70 rfl ?_
              first | exact absurd c48 (by decide) | (rw [if_neg (by unfold ansB; rw [decide_eq_false (by omega : ¬ Pk u f = look), decide_eq_false (by omega : ¬ Ph u f + 10 = look), Bool.or_false, Bool.false_and]; decide)] at h; exact ih (f + 1) _ _ (by omega) ha h) | (rw [if_neg (by rw [b01_eq c57, Bool.and_false]; decide)] at h; exact ih (f + 1) _ _ (by omega) ha h) | (rw [if_pos (by unfold ansB; rw [b01_ne c57, decide_eq_true (by omega : Pk u f = look)]; rfl)] at h; exact ih (f + 1) _ _ (by omega) (or128 ha (pow7 (by omega))) h) | (rw [if_pos (by unfold ansB; rw [b01_ne c57, decide_eq_true (by omega : Ph u f + 10 = look), Bool.or_true]; rfl)] at h; exact ih (f + 1) _ _ (by omega) (or128 ha (pow7 (by omega))) h)
theorem a_ans {X : CX} {d : Nat} {g : Mem} {K : Int → Mem → Prop} {u : PV} {v : LV} (hB : CB g u v) {s look : Nat} (hs : s < 128) (hl : look ≤ 19) (h : K (ansN u s look) g) : EI X (d + 1) mX3_answering [vr 10, vi (s : Int), vi (look : Int)] Z0 g K := by
  show AJ X (d + 1) mX3_answering 0 0 (QI Z0 K) 0 0 0 [some (vr 10), some (vi (s : Int)), some (vi (look : Int)), none, none, none] [] Z0 g
  refine r_iconst (pc' := 1) dX3_answering_0 rfl ?_
  refine r_istore_n (pc' := 2) dX3_answering_1 rfl rfl ?_
  refine r_iconst (pc' := 3) dX3_answering_2 rfl ?_
  refine r_istore (pc' := 5) dX3_answering_3 rfl rfl ?_
  exact l_ans hB hs hl (Pf u) 0 0 none (by omega) (by decide) h
theorem l_fit {X : CX} {d : Nat} {g : Mem} {K : Int → Mem → Prop} {u : PV} {v : LV} (hB : CB g u v)  {n : Nat} {a : Nat → Nat} {r : Nat → Bool} (hK : LK g n a r) {s0 : Int} : ∀ (k i left : Nat) (y : Option VV), i + k = n → left < 128 → K ((fitF u a r k i left : Nat) : Int) g → AJ X (d + 2) mX3_fitting 0 0 (QI Z0 K) 0 0 5 [some (vr 160), some (vr 10), some (vi s0), some (vi (left : Int)), some (vi (i : Int)), y] [] Z0 g := by
  obtain ⟨hQ, hU, hC, hW⟩ := id hB
  obtain ⟨hc, ho, hf, hw, ht, hi, hy⟩ := id hC
  obtain ⟨w0, w1, w2, w3, w4, w5, w6, w7⟩ := id hW
  obtain ⟨p6, p7, p8, p9, p10, pk, pg, px, py⟩ := id hQ
  obtain ⟨u0, u1, u2, u3, u4, u5, u6, u7⟩ := id hU
  intro k
  induction k with
  | zero =>
    intro i left y hp hl h
    obtain ⟨k1, k2, k3⟩ := id hK
    refine r_iload (pc' := 7) dX3_fitting_5 rfl rfl ?_
    refine r_aload_n (pc' := 8) dX3_fitting_7 rfl rfl ?_
    refine r_getf (pc' := 11) (kI := 2) dX3_fitting_8 rfl fX3_19 z160 rfl rfl k1 ?_
    refine r_icmp_ge (tgt := 56) (pc' := 14) dX3_fitting_11 rfl rfl (by omega) (by omega) (fun c11 => ?_) (fun c11 => ?_)
    · refine r_iload_n (pc' := 57) dX3_fitting_56 rfl rfl ?_
      refine r_reti dX3_fitting_57 rfl (Or.inl rfl) ?_
      exact h
    · exact absurd c11 (by omega)
  | succ k ih =>
    intro i left y hp hl h
    obtain ⟨k1, k2, k3⟩ := id hK
    have k4 := k3 i (by omega)
    have e := dif_n (s := left) (t := ansN u left (a i)) hl
    unfold fitF at h
    refine r_iload (pc' := 7) dX3_fitting_5 rfl rfl ?_
    refine r_aload_n (pc' := 8) dX3_fitting_7 rfl rfl ?_
    refine r_getf (pc' := 11) (kI := 2) dX3_fitting_8 rfl fX3_19 z160 rfl rfl k1 ?_
    refine r_icmp_ge (tgt := 56) (pc' := 14) dX3_fitting_11 rfl rfl (by omega) (by omega) (fun c11 => ?_) (fun c11 => ?_)
    · exact absurd c11 (by omega)
    · refine r_aload_n (pc' := 15) dX3_fitting_14 rfl rfl ?_
      refine r_iload_n (pc' := 16) dX3_fitting_15 rfl rfl ?_
      refine r_aload_n (pc' := 17) dX3_fitting_16 rfl rfl ?_
      refine r_getr (pc' := 20) dX3_fitting_17 rfl fX3_9 z160 rfl ?_
      refine r_iload (pc' := 22) dX3_fitting_20 rfl rfl ?_
      refine r_iaload (pc' := 23) dX3_fitting_22 rfl z161 (by decide) (by omega) (by omega) k4.1 ?_
      refine r_si3 (pc' := 26) dX3_fitting_23 rfl qX3_answering lX3_23 rfl rfl rfl (Nat.zero_le _) (Nat.zero_le _) (a_ans hB hl k4.2.2 ?_)
      refine r_istore (pc' := 28) dX3_fitting_26 rfl rfl ?_
      refine r_aload_n (pc' := 29) dX3_fitting_28 rfl rfl ?_
      refine r_getr (pc' := 32) dX3_fitting_29 rfl fX3_15 z160 rfl ?_
      refine r_iload (pc' := 34) dX3_fitting_32 rfl rfl ?_
      refine r_baload (pc' := 35) dX3_fitting_34 rfl z162 (by decide) (by omega) (by omega) k4.2.1 ?_
      refine r_if_eq (tgt := 43) (pc' := 38) dX3_fitting_35 rfl rfl (b01_R _) (fun c35 => ?_) (fun c35 => ?_)
      · refine r_iload_n (pc' := 44) dX3_fitting_43 rfl rfl ?_
        refine r_iload (pc' := 46) dX3_fitting_44 rfl rfl ?_
        refine r_iconst (pc' := 47) dX3_fitting_46 rfl ?_
        refine r_ixor (pc' := 48) dX3_fitting_47 rfl ?_
        refine r_iand (pc' := 49) dX3_fitting_48 rfl ?_
        refine r_istore_n (pc' := 50) dX3_fitting_49 rfl rfl ?_
        refine r_iinc (pc' := 53) dX3_fitting_50 rfl rfl rfl ?_
        refine r_goto (tgt := 5) dX3_fitting_53 rfl ?_
        first | (rw [if_pos (b01_ne c35)] at h; exact ih (i + 1) _ _ (by omega) (ansN_lt hU _ _) h) | (rw [e]; rw [if_neg (by rw [b01_eq c35]; decide)] at h; exact ih (i + 1) _ _ (by omega) (difN_lt hl) h)
      · refine r_iload (pc' := 40) dX3_fitting_38 rfl rfl ?_
        refine r_goto (tgt := 49) dX3_fitting_40 rfl ?_
        refine r_istore_n (pc' := 50) dX3_fitting_49 rfl rfl ?_
        refine r_iinc (pc' := 53) dX3_fitting_50 rfl rfl rfl ?_
        refine r_goto (tgt := 5) dX3_fitting_53 rfl ?_
        first | (rw [if_pos (b01_ne c35)] at h; exact ih (i + 1) _ _ (by omega) (ansN_lt hU _ _) h) | (rw [e]; rw [if_neg (by rw [b01_eq c35]; decide)] at h; exact ih (i + 1) _ _ (by omega) (difN_lt hl) h)
theorem a_fit {X : CX} {d : Nat} {g : Mem} {K : Int → Mem → Prop} {u : PV} {v : LV} (hB : CB g u v) {n : Nat} {a : Nat → Nat} {r : Nat → Bool} (hK : LK g n a r) {s : Nat} (hs : s < 128) (h : K ((fitF u a r n 0 s : Nat) : Int) g) : EI X (d + 2) mX3_fitting [vr 160, vr 10, vi (s : Int)] Z0 g K := by
  show AJ X (d + 2) mX3_fitting 0 0 (QI Z0 K) 0 0 0 [some (vr 160), some (vr 10), some (vi (s : Int)), none, none, none] [] Z0 g
  refine r_iload_n (pc' := 1) dX3_fitting_0 rfl rfl ?_
  refine r_istore_n (pc' := 2) dX3_fitting_1 rfl rfl ?_
  refine r_iconst (pc' := 3) dX3_fitting_2 rfl ?_
  refine r_istore (pc' := 5) dX3_fitting_3 rfl rfl ?_
  exact l_fit hB hK n 0 s none (by omega) hs h
theorem cnF_mono {c c' : Nat → Bool} : ∀ (k p acc acc' : Nat), acc ≤ acc' → (∀ q, c q = true → c' q = true) → cnF c k p acc ≤ cnF c' k p acc'
  | 0, _, _, _, h, _ => h
  | k + 1, p, acc, acc', h, hc => by
    unfold cnF
    refine cnF_mono k (p + 1) _ _ ?_ hc
    cases h1 : c p with
    | true => rw [hc p h1]; simp; omega
    | false => simp; split <;> omega
theorem orF_bit {c : Nat → Bool} : ∀ (k p acc i : Nat), (orF c (fun f => 2 ^ f) k p acc).testBit i = (acc.testBit i || (decide (p ≤ i ∧ i < p + k) && c i))
  | 0, p, acc, i => by unfold orF; rw [decide_eq_false (by omega), Bool.false_and, Bool.or_false]
  | k + 1, p, acc, i => by
    unfold orF
    rw [orF_bit k (p + 1)]
    by_cases hi : i = p
    · subst hi
      rw [decide_eq_false (by omega), decide_eq_true (by omega), Bool.false_and, Bool.or_false, Bool.true_and]
      cases hc : c i with
      | true => simp [Nat.testBit_or, Nat.testBit_two_pow_self]
      | false => simp
    · have e : (if c p = true then acc ||| 2 ^ p else acc).testBit i = acc.testBit i := by
        split
        · rw [Nat.testBit_or, Nat.testBit_two_pow_of_ne (Ne.symm hi), Bool.or_false]
        · rfl
      rw [e]
      congr 2
      simp only [decide_eq_decide]
      omega
theorem ansN_bit {u : PV} (s look i : Nat) : (ansN u s look).testBit i = (decide (i < Pf u) && (ansB u look i && s.testBit i)) := by
  unfold ansN
  rw [orF_bit, Nat.zero_testBit, Bool.false_or]
  simp
theorem ansN_pop (u : PV) (s look : Nat) : popN (ansN u s look) ≤ popN s := cnF_mono 7 0 0 0 (Nat.le_refl _) (fun q h => by
  rw [ansN_bit] at h
  simp only [Bool.and_eq_true] at h
  exact h.2.2)
theorem l_best {X : CX} {d : Nat} {g : Mem} {K : Int → Mem → Prop} {u : PV} {v : LV} (hB : CB g u v) {s : Nat} (hs : s < 128) : ∀ (k look least : Nat) (best : Int) (x y : Option VV), look + k = 20 → least ≤ 7 → R32 best → K (blF u s k look best least) g → AJ X (d + 2) mX3_bestLook 0 0 (QI Z0 K) 0 0 14 [some (vr 160), some (vr 10), some (vi (s : Int)), some (vi (popN s : Int)), some (vi best), some (vi (least : Int)), some (vi (look : Int)), x, y] [] Z0 g := by
  obtain ⟨hQ, hU, hC, hW⟩ := id hB
  obtain ⟨hc, ho, hf, hw, ht, hi, hy⟩ := id hC
  obtain ⟨w0, w1, w2, w3, w4, w5, w6, w7⟩ := id hW
  obtain ⟨p6, p7, p8, p9, p10, pk, pg, px, py⟩ := id hQ
  obtain ⟨u0, u1, u2, u3, u4, u5, u6, u7⟩ := id hU
  intro k
  induction k with
  | zero =>
    intro look least best x y hp hl hb h
    refine r_iload (pc' := 16) dX3_bestLook_14 rfl rfl ?_
    refine r_bipush (pc' := 18) dX3_bestLook_16 rfl (by decide) ?_
    refine r_icmp_gt (tgt := 65) (pc' := 21) dX3_bestLook_18 rfl rfl (by omega) (by omega) (fun c18 => ?_) (fun c18 => ?_)
    · refine r_iload (pc' := 67) dX3_bestLook_65 rfl rfl ?_
      refine r_reti dX3_bestLook_67 rfl (Or.inl rfl) ?_
      exact h
    · exact absurd c18 (by omega)
  | succ k ih =>
    intro look least best x y hp hl hb h
    have n1 := popN_le s
    have n2 := popN_le (ansN u s look)
    have n3 : popN (ansN u s look) ≤ popN s := ansN_pop u s look
    unfold blF at h
    refine r_iload (pc' := 16) dX3_bestLook_14 rfl rfl ?_
    refine r_bipush (pc' := 18) dX3_bestLook_16 rfl (by decide) ?_
    refine r_icmp_gt (tgt := 65) (pc' := 21) dX3_bestLook_18 rfl rfl (by omega) (by omega) (fun c18 => ?_) (fun c18 => ?_)
    · exact absurd c18 (by omega)
    · refine r_aload_n (pc' := 22) dX3_bestLook_21 rfl rfl ?_
      refine r_iload_n (pc' := 23) dX3_bestLook_22 rfl rfl ?_
      refine r_iload (pc' := 25) dX3_bestLook_23 rfl rfl ?_
      refine r_si3 (pc' := 28) dX3_bestLook_25 rfl qX3_answering lX3_23 rfl rfl rfl (Nat.zero_le _) (Nat.zero_le _) (a_ans hB hs (by omega) ?_)
      refine r_si1 (pc' := 31) dX3_bestLook_28 rfl qJ6_bitCount lX3_27 rfl rfl rfl (Nat.zero_le _) (Nat.zero_le _) (a_bitCount (ansN_lt hU _ _) ?_)
      refine r_istore (pc' := 33) dX3_bestLook_31 rfl rfl ?_
      refine r_iload (pc' := 35) dX3_bestLook_33 rfl rfl ?_
      refine r_iload_n (pc' := 36) dX3_bestLook_35 rfl rfl ?_
      refine r_iload (pc' := 38) dX3_bestLook_36 rfl rfl ?_
      refine r_isub (pc' := 39) dX3_bestLook_38 rfl ?_
      refine r_si2 (pc' := 42) dX3_bestLook_39 rfl qJ9_max lX3_33 rfl rfl rfl (Nat.zero_le _) (Nat.zero_le _) (a_max _ _ (by omega) (by omega) ?_)
      refine r_istore (pc' := 44) dX3_bestLook_42 rfl rfl ?_
      refine r_iload (pc' := 46) dX3_bestLook_44 rfl rfl ?_
      refine r_iload (pc' := 48) dX3_bestLook_46 rfl rfl ?_
      refine r_icmp_ge (tgt := 59) (pc' := 51) dX3_bestLook_48 rfl rfl (by omega) (by omega) (fun c48 => ?_) (fun c48 => ?_)
      · refine r_iinc (pc' := 62) dX3_bestLook_59 rfl rfl rfl ?_
        refine r_goto (tgt := 14) dX3_bestLook_62 rfl ?_
        first | (rw [if_pos (by omega)] at h; rw [show max (popN (ansN u s look) : Int) ((popN s : Int) - (popN (ansN u s look) : Int)) = ((max (popN (ansN u s look)) (popN s - popN (ansN u s look)) : Nat) : Int) by omega]; exact ih (look + 1) _ _ _ _ (by omega) (by omega) (by omega) h) | (rw [if_neg (by omega)] at h; exact ih (look + 1) _ _ _ _ (by omega) hl hb h)
      · refine r_iload (pc' := 53) dX3_bestLook_51 rfl rfl ?_
        refine r_istore (pc' := 55) dX3_bestLook_53 rfl rfl ?_
        refine r_iload (pc' := 57) dX3_bestLook_55 rfl rfl ?_
        refine r_istore (pc' := 59) dX3_bestLook_57 rfl rfl ?_
        refine r_iinc (pc' := 62) dX3_bestLook_59 rfl rfl rfl ?_
        refine r_goto (tgt := 14) dX3_bestLook_62 rfl ?_
        first | (rw [if_pos (by omega)] at h; rw [show max (popN (ansN u s look) : Int) ((popN s : Int) - (popN (ansN u s look) : Int)) = ((max (popN (ansN u s look)) (popN s - popN (ansN u s look)) : Nat) : Int) by omega]; exact ih (look + 1) _ _ _ _ (by omega) (by omega) (by omega) h) | (rw [if_neg (by omega)] at h; exact ih (look + 1) _ _ _ _ (by omega) hl hb h)
theorem a_best {X : CX} {d : Nat} {g : Mem} {K : Int → Mem → Prop} {u : PV} {v : LV} (hB : CB g u v) {s : Nat} (hs : s < 128) (h : K (blF u s 20 0 (-1) (popN s)) g) : EI X (d + 2) mX3_bestLook [vr 160, vr 10, vi (s : Int)] Z0 g K := by
  show AJ X (d + 2) mX3_bestLook 0 0 (QI Z0 K) 0 0 0 [some (vr 160), some (vr 10), some (vi (s : Int)), none, none, none, none, none, none] [] Z0 g
  refine r_iload_n (pc' := 1) dX3_bestLook_0 rfl rfl ?_
  refine r_si1 (pc' := 4) dX3_bestLook_1 rfl qJ6_bitCount lX3_27 rfl rfl rfl (Nat.zero_le _) (Nat.zero_le _) (a_bitCount hs ?_)
  refine r_istore_n (pc' := 5) dX3_bestLook_4 rfl rfl ?_
  refine r_iconst (pc' := 6) dX3_bestLook_5 rfl ?_
  refine r_istore (pc' := 8) dX3_bestLook_6 rfl rfl ?_
  refine r_iload_n (pc' := 9) dX3_bestLook_8 rfl rfl ?_
  refine r_istore (pc' := 11) dX3_bestLook_9 rfl rfl ?_
  refine r_iconst (pc' := 12) dX3_bestLook_11 rfl ?_
  refine r_istore (pc' := 14) dX3_bestLook_12 rfl rfl ?_
  exact l_best hB hs 20 0 (popN s) (-1) none none (by omega) (popN_le s) (by decide) h
theorem a_lookAdd {X : CX} {d : Nat} {g : Mem} {K : Mem → Prop}  {n : Nat} {a : Nat → Nat} {r : Nat → Bool} (hK : LK g n a r) (h6 : n < 6) {x : Nat} {y : Bool} (hx : x ≤ 19) (h : ∀ g' : Mem, LK g' (n + 1) (fun i => if i = n then x else a i) (fun i => if i = n then y else r i) → Fr [160, 161, 162] g g' → K g') : EV X (d) mX3_add [vr 160, vi (x : Int), vi (b01 y)] Z0 g K := by
  show AJ X (d) mX3_add 0 0 (QV Z0 K) 0 0 0 [some (vr 160), some (vi (x : Int)), some (vi (b01 y))] [] Z0 g
  obtain ⟨k1, k2, k3⟩ := id hK
  refine r_aload_n (pc' := 1) dX3_add_0 rfl rfl ?_
  refine r_getf (pc' := 4) (kI := 2) dX3_add_1 rfl fX3_19 z160 rfl rfl k1 ?_
  refine r_bipush (pc' := 6) dX3_add_4 rfl (by decide) ?_
  refine r_icmp_ge (tgt := 39) (pc' := 9) dX3_add_6 rfl rfl (by omega) (by omega) (fun c6 => ?_) (fun c6 => ?_)
  · exact absurd c6 (by omega)
  · refine r_aload_n (pc' := 10) dX3_add_9 rfl rfl ?_
    refine r_getr (pc' := 13) dX3_add_10 rfl fX3_9 z160 rfl ?_
    refine r_aload_n (pc' := 14) dX3_add_13 rfl rfl ?_
    refine r_getf (pc' := 17) (kI := 2) dX3_add_14 rfl fX3_19 z160 rfl rfl k1 ?_
    refine r_iload_n (pc' := 18) dX3_add_17 rfl rfl ?_
    refine r_iastore (pc' := 19) dX3_add_18 rfl z161 (by decide) (by omega) (by omega) rfl ?_
    refine r_aload_n (pc' := 20) dX3_add_19 rfl rfl ?_
    refine r_getr (pc' := 23) dX3_add_20 rfl fX3_15 z160 rfl ?_
    refine r_aload_n (pc' := 24) dX3_add_23 rfl rfl ?_
    refine r_getf (pc' := 27) (kI := 2) (x := (n : Int)) dX3_add_24 rfl fX3_19 z160 rfl rfl (by rw [mu_ne (by decide)]; exact k1) ?_
    refine r_iload_n (pc' := 28) dX3_add_27 rfl rfl ?_
    refine r_bastore (pc' := 29) dX3_add_28 rfl z162 (by decide) (by omega) (by omega) (b01_01 _) rfl ?_
    refine r_aload_n (pc' := 30) dX3_add_29 rfl rfl ?_
    refine r_dup (pc' := 31) dX3_add_30 rfl rfl ?_
    refine r_getf (pc' := 34) (kI := 2) (x := (n : Int)) dX3_add_31 rfl fX3_19 z160 rfl rfl (by rw [mu_ne (by decide), mu_ne (by decide)]; exact k1) ?_
    refine r_iconst (pc' := 35) dX3_add_34 rfl ?_
    refine r_iadd (pc' := 36) dX3_add_35 rfl ?_
    refine r_putf (pc' := 39) (kI := 2) dX3_add_36 rfl fX3_19 z160 rfl (Or.inl rfl) rfl rfl ?_
    refine r_retn dX3_add_39 rfl ?_
    refine h _ ⟨by rw [mu_at]; rfl, by omega, fun i hi => ?_⟩ (fun j hj => by simp only [List.mem_cons, List.not_mem_nil, or_false, not_or] at hj; rw [mu_ne hj.1, mu_ne hj.2.2, mu_ne hj.2.1])
    by_cases hin : i = n
    · subst hin
      rw [mu_ne (by decide), mu_ne (by decide), mu_at, mu_ne (by decide), mu_at]
      dsimp only
      rw [if_pos rfl, if_pos rfl]
      exact ⟨rfl, rfl, hx⟩
    · rw [mu_ne (by decide), mu_ne (by decide), mu_at' (by omega), mu_ne (by decide), mu_at' (by omega), mu_ne (by decide)]
      dsimp only
      rw [if_neg hin, if_neg hin]
      exact k3 i (by omega)
theorem a_bookAdd {X : CX} {d : Nat} {g : Mem} {K : Mem → Prop}  {n : Nat} {p : Nat → Nat} {f : Nat → Int} (hK : BK g n p f) (h6 : n < 20) {x : Nat} {y : Int} (hx : x ≤ 6) (hy : R32 y) (h : ∀ g' : Mem, BK g' (n + 1) (fun i => if i = n then x else p i) (fun i => if i = n then y else f i) → Fr [163, 164, 165] g g' → K g') : EV X (d) mX0_add [vr 163, vi (x : Int), vi y] Z0 g K := by
  show AJ X (d) mX0_add 0 0 (QV Z0 K) 0 0 0 [some (vr 163), some (vi (x : Int)), some (vi y)] [] Z0 g
  obtain ⟨k1, k2, k3⟩ := id hK
  refine r_aload_n (pc' := 1) dX0_add_0 rfl rfl ?_
  refine r_getf (pc' := 4) (kI := 2) dX0_add_1 rfl fX0_18 z163 rfl rfl k1 ?_
  refine r_bipush (pc' := 6) dX0_add_4 rfl (by decide) ?_
  refine r_icmp_ge (tgt := 39) (pc' := 9) dX0_add_6 rfl rfl (by omega) (by omega) (fun c6 => ?_) (fun c6 => ?_)
  · exact absurd c6 (by omega)
  · refine r_aload_n (pc' := 10) dX0_add_9 rfl rfl ?_
    refine r_getr (pc' := 13) dX0_add_10 rfl fX0_9 z163 rfl ?_
    refine r_aload_n (pc' := 14) dX0_add_13 rfl rfl ?_
    refine r_getf (pc' := 17) (kI := 2) dX0_add_14 rfl fX0_18 z163 rfl rfl k1 ?_
    refine r_iload_n (pc' := 18) dX0_add_17 rfl rfl ?_
    refine r_iastore (pc' := 19) dX0_add_18 rfl z164 (by decide) (by omega) (by omega) rfl ?_
    refine r_aload_n (pc' := 20) dX0_add_19 rfl rfl ?_
    refine r_getr (pc' := 23) dX0_add_20 rfl fX0_15 z163 rfl ?_
    refine r_aload_n (pc' := 24) dX0_add_23 rfl rfl ?_
    refine r_getf (pc' := 27) (kI := 2) (x := (n : Int)) dX0_add_24 rfl fX0_18 z163 rfl rfl (by rw [mu_ne (by decide)]; exact k1) ?_
    refine r_iload_n (pc' := 28) dX0_add_27 rfl rfl ?_
    refine r_iastore (pc' := 29) dX0_add_28 rfl z165 (by decide) (by omega) (by omega) rfl ?_
    refine r_aload_n (pc' := 30) dX0_add_29 rfl rfl ?_
    refine r_dup (pc' := 31) dX0_add_30 rfl rfl ?_
    refine r_getf (pc' := 34) (kI := 2) (x := (n : Int)) dX0_add_31 rfl fX0_18 z163 rfl rfl (by rw [mu_ne (by decide), mu_ne (by decide)]; exact k1) ?_
    refine r_iconst (pc' := 35) dX0_add_34 rfl ?_
    refine r_iadd (pc' := 36) dX0_add_35 rfl ?_
    refine r_putf (pc' := 39) (kI := 2) dX0_add_36 rfl fX0_18 z163 rfl (Or.inl rfl) rfl rfl ?_
    refine r_retn dX0_add_39 rfl ?_
    refine h _ ⟨by rw [mu_at]; rfl, by omega, fun i hi => ?_⟩ (fun j hj => by simp only [List.mem_cons, List.not_mem_nil, or_false, not_or] at hj; rw [mu_ne hj.1, mu_ne hj.2.2, mu_ne hj.2.1])
    by_cases hin : i = n
    · subst hin
      rw [mu_ne (by decide), mu_ne (by decide), mu_at, mu_ne (by decide), mu_at]
      dsimp only
      rw [if_pos rfl, if_pos rfl]
      exact ⟨rfl, rfl, hx, hy⟩
    · rw [mu_ne (by decide), mu_ne (by decide), mu_at' (by omega), mu_ne (by decide), mu_at' (by omega), mu_ne (by decide)]
      dsimp only
      rw [if_neg hin, if_neg hin]
      exact k3 i (by omega)
def atN (v : LV) (p : Nat) : Int := if p < Ln v then (Lo v p : Int) else -1
def wrF (v : LV) (p : Nat → Nat) (f : Nat → Int) : Nat → Nat → Int
  | 0, _ => -1
  | k + 1, i => if atN v (p i) = f i then wrF v p f k (i + 1) else (i : Int)
theorem atN_R {F : Nat} {v : LV} (h : LW F v) (p : Nat) : R32 (atN v p) := by
  unfold atN
  split
  · have := h.2.2.1 p (by assumption)
    have := h.1
    omega
  · decide
theorem l_wrong {X : CX} {d : Nat} {g : Mem} {K : Int → Mem → Prop} {u : PV} {v : LV} (hB : CB g u v)  {n : Nat} {p : Nat → Nat} {f : Nat → Int} (hK : BK g n p f) : ∀ (k i : Nat), i + k = n → K (wrF v p f k i) g → AJ X (d + 1) mX0_firstWrong 0 0 (QI Z0 K) 0 0 2 [some (vr 163), some (vr 17), some (vi (i : Int))] [] Z0 g := by
  obtain ⟨hQ, hU, hC, hW⟩ := id hB
  obtain ⟨hc, ho, hf_, hw, ht, hi, hy⟩ := id hC
  obtain ⟨w0, w1, w2, w3, w4, w5, w6, w7⟩ := id hW
  obtain ⟨p6, p7, p8, p9, p10, pk, pg, px, py⟩ := id hQ
  obtain ⟨u0, u1, u2, u3, u4, u5, u6, u7⟩ := id hU
  intro k
  induction k with
  | zero =>
    intro i hp h
    obtain ⟨k1, k2, k3⟩ := id hK
    refine r_iload_n (pc' := 3) dX0_firstWrong_2 rfl rfl ?_
    refine r_aload_n (pc' := 4) dX0_firstWrong_3 rfl rfl ?_
    refine r_getf (pc' := 7) (kI := 2) dX0_firstWrong_4 rfl fX0_18 z163 rfl rfl k1 ?_
    refine r_icmp_ge (tgt := 37) (pc' := 10) dX0_firstWrong_7 rfl rfl (by omega) (by omega) (fun c7 => ?_) (fun c7 => ?_)
    · refine r_iconst (pc' := 38) dX0_firstWrong_37 rfl ?_
      refine r_reti dX0_firstWrong_38 rfl (Or.inl rfl) ?_
      exact h
    · exact absurd c7 (by omega)
  | succ k ih =>
    intro i hp h
    obtain ⟨k1, k2, k3⟩ := id hK
    obtain ⟨k4, k5, k6, k7⟩ := k3 i (by omega)
    have hr := atN_R hW (p i)
    have ea : (if 0 ≤ (p i : Int) ∧ (p i : Int) < Ln v then (Lo v (p i : Int).toNat : Int) else -1) = atN v (p i) := by
      unfold atN
      by_cases hq : p i < Ln v
      · rw [if_pos ⟨by omega, by omega⟩, if_pos hq]; rfl
      · rw [if_neg (by omega), if_neg hq]
    unfold wrF at h
    refine r_iload_n (pc' := 3) dX0_firstWrong_2 rfl rfl ?_
    refine r_aload_n (pc' := 4) dX0_firstWrong_3 rfl rfl ?_
    refine r_getf (pc' := 7) (kI := 2) dX0_firstWrong_4 rfl fX0_18 z163 rfl rfl k1 ?_
    refine r_icmp_ge (tgt := 37) (pc' := 10) dX0_firstWrong_7 rfl rfl (by omega) (by omega) (fun c7 => ?_) (fun c7 => ?_)
    · exact absurd c7 (by omega)
    · refine r_aload_n (pc' := 11) dX0_firstWrong_10 rfl rfl ?_
      refine r_aload_n (pc' := 12) dX0_firstWrong_11 rfl rfl ?_
      refine r_getr (pc' := 15) dX0_firstWrong_12 rfl fX0_9 z163 rfl ?_
      refine r_iload_n (pc' := 16) dX0_firstWrong_15 rfl rfl ?_
      refine r_iaload (pc' := 17) dX0_firstWrong_16 rfl z164 (by decide) (by omega) (by omega) k4 ?_
      refine r_vi1 (pc' := 20) dX0_firstWrong_17 rfl qX2_flagAt lX0_22 isL17.1 rfl rfl rfl rfl (Nat.zero_le _) (Nat.zero_le _) (a_flagAt isL17 hC hW (p i : Int) (by omega) ?_)
      rw [ea]
      refine r_aload_n (pc' := 21) dX0_firstWrong_20 rfl rfl ?_
      refine r_getr (pc' := 24) dX0_firstWrong_21 rfl fX0_15 z163 rfl ?_
      refine r_iload_n (pc' := 25) dX0_firstWrong_24 rfl rfl ?_
      refine r_iaload (pc' := 26) dX0_firstWrong_25 rfl z165 (by decide) (by omega) (by omega) k5 ?_
      refine r_icmp_eq (tgt := 31) (pc' := 29) dX0_firstWrong_26 rfl rfl hr k7 (fun c26 => ?_) (fun c26 => ?_)
      · refine r_iinc (pc' := 34) dX0_firstWrong_31 rfl rfl rfl ?_
        refine r_goto (tgt := 2) dX0_firstWrong_34 rfl ?_
        rw [if_pos c26] at h
        exact ih (i + 1) (by omega) h
      · refine r_iload_n (pc' := 30) dX0_firstWrong_29 rfl rfl ?_
        refine r_reti dX0_firstWrong_30 rfl (Or.inl rfl) ?_
        rw [if_neg c26] at h
        exact h
theorem a_wrong {X : CX} {d : Nat} {g : Mem} {K : Int → Mem → Prop} {u : PV} {v : LV} (hB : CB g u v) {n : Nat} {p : Nat → Nat} {f : Nat → Int} (hK : BK g n p f) (h : K (wrF v p f n 0) g) : EI X (d + 1) mX0_firstWrong [vr 163, vr 17] Z0 g K := by
  show AJ X (d + 1) mX0_firstWrong 0 0 (QI Z0 K) 0 0 0 [some (vr 163), some (vr 17), none] [] Z0 g
  refine r_iconst (pc' := 1) dX0_firstWrong_0 rfl ?_
  refine r_istore_n (pc' := 2) dX0_firstWrong_1 rfl rfl ?_
  exact l_wrong hB hK n 0 (by omega) h
