theorem lm_fits0 {X : CX} {d : Nat} {g : Mem} {K : Int → Mem → Prop} {a b : Int} {n : Nat} (hn : n ≤ 4) (i : Nat) (hi : i ≤ 4) (h : K (b01 false) g) : AJ X (d + 1) mX11_fits 0 0 (QI Z0 K) 0 0 28 [some (vr 166), some (vi a), some (vi b), some (vi (n : Int)), some (vi 0), some (vi (i : Int))] [] Z0 g := by
  refine r_iload (pc' := 30) dX11_fits_28 rfl rfl ?_
  refine r_iload_n (pc' := 31) dX11_fits_30 rfl rfl ?_
  refine r_icmp_ge (tgt := 87) (pc' := 34) dX11_fits_31 rfl rfl (by omega) (by omega) (fun c31 => ?_) (fun c31 => ?_)
  · refine r_iload (pc' := 89) dX11_fits_87 rfl rfl ?_
    refine r_reti dX11_fits_89 rfl (Or.inr ⟨rfl, by first | exact Or.inl rfl | exact Or.inr rfl | omega⟩) ?_
    exact h
  · refine r_iload (pc' := 36) dX11_fits_34 rfl rfl ?_
    refine r_if_eq (tgt := 87) (pc' := 39) dX11_fits_36 rfl rfl (by decide) (fun c36 => ?_) (fun c36 => ?_)
    · refine r_iload (pc' := 89) dX11_fits_87 rfl rfl ?_
      refine r_reti dX11_fits_89 rfl (Or.inr ⟨rfl, by first | exact Or.inl rfl | exact Or.inr rfl | omega⟩) ?_
      exact h
    · exact absurd rfl c36
