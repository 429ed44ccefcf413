theorem lm_cross {X : CX} {d : Nat} {g : Mem} {K : Int → Mem → Prop} {u : PV} {v : LV} (hB : MB g u v)  : ∀ (k p acc : Nat) (z : Option VV), p + k = Ln v → acc + 7 * k ≤ 53 → K ((crF (Lo v) (Ln v) k p acc : Nat) : Int) g → AJ X (d) mX11_crossed 0 0 (QI Z0 K) 0 0 4 [some (vr 166), some (vi (acc : Int)), some (vi (p : Int)), z] [] Z0 g := by
  obtain ⟨hQ, hU, hC, hW⟩ := id hB
  obtain ⟨hy, hi, hc, ht, ho, hf, hw_⟩ := id hC
  obtain ⟨w0, w1, w2, w3, w4, w5, w6, w7⟩ := id hW
  obtain ⟨p6, p7, p8, p9, p10, pk, pg, px, py⟩ := id hQ
  obtain ⟨u0, u1, u2, u3, u4, u5, u6, u7⟩ := id hU
  intro k
  induction k with
  | zero =>
    intro p acc z hp hb h
    refine r_iload_n (pc' := 5) dX11_crossed_4 rfl rfl ?_
    refine r_aload_n (pc' := 6) dX11_crossed_5 rfl rfl ?_
    refine r_getr (pc' := 9) dX11_crossed_6 rfl fX11_19 z166 rfl ?_
    refine r_iconst (pc' := 10) dX11_crossed_9 rfl ?_
    refine r_iaload (pc' := 11) dX11_crossed_10 rfl z170 (by decide) (by omega) (by omega) hc ?_
    refine r_icmp_ge (tgt := 67) (pc' := 14) dX11_crossed_11 rfl rfl (by omega) (by omega) (fun c11 => ?_) (fun c11 => ?_)
    · refine r_iload_n (pc' := 68) dX11_crossed_67 rfl rfl ?_
      refine r_reti dX11_crossed_68 rfl (Or.inl rfl) ?_
      exact h
    · exact absurd c11 (by omega)
  | succ k ih =>
    intro p acc z hp hb h
    unfold crF at h
    have hl := cnF_le (c := fun q => decide (Lo v q < Lo v p)) (Ln v - (p + 1)) (p + 1) acc
    have ih1 := fun y => ih (p + 1) _ y (by omega) (by omega) h
    refine r_iload_n (pc' := 5) dX11_crossed_4 rfl rfl ?_
    refine r_aload_n (pc' := 6) dX11_crossed_5 rfl rfl ?_
    refine r_getr (pc' := 9) dX11_crossed_6 rfl fX11_19 z166 rfl ?_
    refine r_iconst (pc' := 10) dX11_crossed_9 rfl ?_
    refine r_iaload (pc' := 11) dX11_crossed_10 rfl z170 (by decide) (by omega) (by omega) hc ?_
    refine r_icmp_ge (tgt := 67) (pc' := 14) dX11_crossed_11 rfl rfl (by omega) (by omega) (fun c11 => ?_) (fun c11 => ?_)
    · exact absurd c11 (by omega)
    · refine r_iload_n (pc' := 15) dX11_crossed_14 rfl rfl ?_
      refine r_iconst (pc' := 16) dX11_crossed_15 rfl ?_
      refine r_iadd (pc' := 17) dX11_crossed_16 rfl ?_
      refine r_istore_n (pc' := 18) dX11_crossed_17 rfl rfl ?_
      refine lm_cross2 hB (p := p) (by omega) (Ln v - (p + 1)) (p + 1) acc (by omega) (by omega) (fun y => ?_)
      refine r_iinc (pc' := 64) dX11_crossed_61 rfl rfl rfl ?_
      refine r_goto (tgt := 4) dX11_crossed_64 rfl ?_
      exact ih1 y
theorem m_crossed {X : CX} {d : Nat} {g : Mem} {K : Int → Mem → Prop} {u : PV} {v : LV} (hB : MB g u v) (h : K ((crF (Lo v) (Ln v) (Ln v) 0 0 : Nat) : Int) g) : EI X (d) mX11_crossed [vr 166] Z0 g K := by
  show AJ X (d) mX11_crossed 0 0 (QI Z0 K) 0 0 0 [some (vr 166), none, none, none] [] Z0 g
  obtain ⟨hQ, hU, hC, hW⟩ := id hB
  obtain ⟨hy, hi, hc, ht, ho, hf, hw_⟩ := id hC
  obtain ⟨w0, w1, w2, w3, w4, w5, w6, w7⟩ := id hW
  obtain ⟨p6, p7, p8, p9, p10, pk, pg, px, py⟩ := id hQ
  obtain ⟨u0, u1, u2, u3, u4, u5, u6, u7⟩ := id hU
  refine r_iconst (pc' := 1) dX11_crossed_0 rfl ?_
  refine r_istore_n (pc' := 2) dX11_crossed_1 rfl rfl ?_
  refine r_iconst (pc' := 3) dX11_crossed_2 rfl ?_
  refine r_istore_n (pc' := 4) dX11_crossed_3 rfl rfl ?_
  exact lm_cross hB (Ln v) 0 0 none (by omega) (by omega) h
theorem m_heavyAt {X : CX} {d : Nat} {g : Mem} {K : Int → Mem → Prop} {u : PV} {v : LV} (hB : MB g u v) {p : Nat} (hp : p < Ln v) (h : K (Ph u (Lo v p)) g) : EI X (d) mX11_heavyAt [vr 166, vi (p : Int)] Z0 g K := by
  show AJ X (d) mX11_heavyAt 0 0 (QI Z0 K) 0 0 0 [some (vr 166), some (vi (p : Int))] [] Z0 g
  obtain ⟨hQ, hU, hC, hW⟩ := id hB
  obtain ⟨hy, hi, hc, ht, ho, hf, hw_⟩ := id hC
  obtain ⟨w0, w1, w2, w3, w4, w5, w6, w7⟩ := id hW
  obtain ⟨p6, p7, p8, p9, p10, pk, pg, px, py⟩ := id hQ
  obtain ⟨u0, u1, u2, u3, u4, u5, u6, u7⟩ := id hU
  have q1 := ho p hp
  have q2 := w2 p hp
  have q3 := pg (Lo v p) q2
  refine r_aload_n (pc' := 1) dX11_heavyAt_0 rfl rfl ?_
  refine r_getr (pc' := 4) dX11_heavyAt_1 rfl fX11_13 z166 rfl ?_
  refine r_bipush (pc' := 6) dX11_heavyAt_4 rfl (by decide) ?_
  refine r_aload_n (pc' := 7) dX11_heavyAt_6 rfl rfl ?_
  refine r_getr (pc' := 10) dX11_heavyAt_7 rfl fX11_19 z166 rfl ?_
  refine r_iconst (pc' := 11) dX11_heavyAt_10 rfl ?_
  refine r_iload_n (pc' := 12) dX11_heavyAt_11 rfl rfl ?_
  refine r_iadd (pc' := 13) dX11_heavyAt_12 rfl ?_
  refine r_iaload (pc' := 14) dX11_heavyAt_13 rfl z170 (by decide) (by omega) (by omega) q1 ?_
  refine r_iadd (pc' := 15) dX11_heavyAt_14 rfl ?_
  refine r_iaload (pc' := 16) dX11_heavyAt_15 rfl z168 (by decide) (by omega) (by omega) q3 ?_
  refine r_reti dX11_heavyAt_16 rfl (Or.inl rfl) ?_
  exact h
def soB (u : PV) (f : Nat) (w k : Int) : Bool := if w = 0 then decide ((Pk u f : Int) = k) else decide ((Ph u f : Int) = k)
theorem m_isSo {X : CX} {d : Nat} {g : Mem} {K : Int → Mem → Prop} {u : PV} {v : LV} (hB : MB g u v) {f : Nat} (hf1 : f < Pf u) (w k : Int) (hw0 : R32 w) (hk0 : R32 k) (h : K (b01 (soB u f w k)) g) : EI X (d) mX11_isSo [vr 166, vi (f : Int), vi w, vi k] Z0 g K := by
  show AJ X (d) mX11_isSo 0 0 (QI Z0 K) 0 0 0 [some (vr 166), some (vi (f : Int)), some (vi w), some (vi k)] [] Z0 g
  obtain ⟨hQ, hU, hC, hW⟩ := id hB
  obtain ⟨hy, hi, hc, ht, ho, hf, hw_⟩ := id hC
  obtain ⟨w0, w1, w2, w3, w4, w5, w6, w7⟩ := id hW
  obtain ⟨p6, p7, p8, p9, p10, pk, pg, px, py⟩ := id hQ
  obtain ⟨u0, u1, u2, u3, u4, u5, u6, u7⟩ := id hU
  have q1 := pk f hf1
  have q2 := pg f hf1
  have q3 := u5 f hf1
  unfold soB at h
  refine r_aload_n (pc' := 1) dX11_isSo_0 rfl rfl ?_
  refine r_getr (pc' := 4) dX11_isSo_1 rfl fX11_13 z166 rfl ?_
  refine r_iload_n (pc' := 5) dX11_isSo_4 rfl rfl ?_
  refine r_if_ne (tgt := 12) (pc' := 8) dX11_isSo_5 rfl rfl (by omega) (fun c5 => ?_) (fun c5 => ?_)
  · refine r_bipush (pc' := 14) dX11_isSo_12 rfl (by decide) ?_
    refine r_iload_n (pc' := 15) dX11_isSo_14 rfl rfl ?_
    refine r_iadd (pc' := 16) dX11_isSo_15 rfl ?_
    refine r_iaload (pc' := 17) (x := (if w = 0 then (Pk u f : Int) else (Ph u f : Int))) dX11_isSo_16 rfl z168 (by decide) (by omega) (by omega) (by first | (rw [if_pos (by assumption)]; exact q1) | (rw [if_neg (by assumption)]; exact q2)) ?_
    refine r_iload_n (pc' := 18) dX11_isSo_17 rfl rfl ?_
    refine r_icmp_ne (tgt := 25) (pc' := 21) dX11_isSo_18 rfl rfl (by split <;> omega) (by omega) (fun c18 => ?_) (fun c18 => ?_)
    · refine r_iconst (pc' := 26) dX11_isSo_25 rfl ?_
      refine r_reti dX11_isSo_26 rfl (Or.inr ⟨rfl, by first | exact Or.inl rfl | exact Or.inr rfl | omega⟩) ?_
      by_cases e : w = 0
      · rw [if_pos e] at h c18
        first | (rw [decide_eq_true c18] at h; exact h) | (rw [decide_eq_false c18] at h; exact h)
      · rw [if_neg e] at h c18
        first | (rw [decide_eq_true c18] at h; exact h) | (rw [decide_eq_false c18] at h; exact h)
    · refine r_iconst (pc' := 22) dX11_isSo_21 rfl ?_
      refine r_goto (tgt := 26) dX11_isSo_22 rfl ?_
      refine r_reti dX11_isSo_26 rfl (Or.inr ⟨rfl, by first | exact Or.inl rfl | exact Or.inr rfl | omega⟩) ?_
      by_cases e : w = 0
      · rw [if_pos e] at h c18
        first | (rw [decide_eq_true c18] at h; exact h) | (rw [decide_eq_false c18] at h; exact h)
      · rw [if_neg e] at h c18
        first | (rw [decide_eq_true c18] at h; exact h) | (rw [decide_eq_false c18] at h; exact h)
  · refine r_iconst (pc' := 9) dX11_isSo_8 rfl ?_
    refine r_goto (tgt := 14) dX11_isSo_9 rfl ?_
    refine r_iload_n (pc' := 15) dX11_isSo_14 rfl rfl ?_
    refine r_iadd (pc' := 16) dX11_isSo_15 rfl ?_
    refine r_iaload (pc' := 17) (x := (if w = 0 then (Pk u f : Int) else (Ph u f : Int))) dX11_isSo_16 rfl z168 (by decide) (by omega) (by omega) (by first | (rw [if_pos (by assumption)]; exact q1) | (rw [if_neg (by assumption)]; exact q2)) ?_
    refine r_iload_n (pc' := 18) dX11_isSo_17 rfl rfl ?_
    refine r_icmp_ne (tgt := 25) (pc' := 21) dX11_isSo_18 rfl rfl (by split <;> omega) (by omega) (fun c18 => ?_) (fun c18 => ?_)
    · refine r_iconst (pc' := 26) dX11_isSo_25 rfl ?_
      refine r_reti dX11_isSo_26 rfl (Or.inr ⟨rfl, by first | exact Or.inl rfl | exact Or.inr rfl | omega⟩) ?_
      by_cases e : w = 0
      · rw [if_pos e] at h c18
        first | (rw [decide_eq_true c18] at h; exact h) | (rw [decide_eq_false c18] at h; exact h)
      · rw [if_neg e] at h c18
        first | (rw [decide_eq_true c18] at h; exact h) | (rw [decide_eq_false c18] at h; exact h)
    · refine r_iconst (pc' := 22) dX11_isSo_21 rfl ?_
      refine r_goto (tgt := 26) dX11_isSo_22 rfl ?_
      refine r_reti dX11_isSo_26 rfl (Or.inr ⟨rfl, by first | exact Or.inl rfl | exact Or.inr rfl | omega⟩) ?_
      by_cases e : w = 0
      · rw [if_pos e] at h c18
        first | (rw [decide_eq_true c18] at h; exact h) | (rw [decide_eq_false c18] at h; exact h)
      · rw [if_neg e] at h c18
        first | (rw [decide_eq_true c18] at h; exact h) | (rw [decide_eq_false c18] at h; exact h)
