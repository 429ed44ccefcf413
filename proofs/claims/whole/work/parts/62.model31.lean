theorem skF_end {T : Nat → Int} : ∀ (k p : Nat), skF T k p = p + k ∨ T (skF T k p) ≠ 32
  | 0, p => Or.inl rfl
  | k + 1, p => by
    unfold skF
    split
    · rcases skF_end (T := T) k (p + 1) with h | h
      · left; omega
      · right; exact h
    · rename_i h
      right; exact h
theorem skT_id {N : Nat} {T : Nat → Int} {p : Nat} (hp : p ≤ N) : skT N T (skT N T p) = skT N T p := by
  have h1 := skT_le (N := N) (T := T) hp
  rcases skF_end (T := T) (N - p) p with h | h
  · have e : skT N T p = N := by unfold skT; rw [h]; omega
    rw [e]
    unfold skT
    rw [Nat.sub_self]
    rfl
  · have e : T (skT N T p) ≠ 32 := h
    generalize skT N T p = r at e h1
    unfold skT
    cases hk : N - r with
    | zero => rfl
    | succ m =>
      unfold skF
      rw [if_neg e]
theorem skT_ge (N : Nat) (T : Nat → Int) (p : Nat) : p ≤ skT N T p := (skF_le T (N - p) p).1
theorem blm_f {f : Nat × Int} {k q : Nat} (h : f.1 ≠ 0) : blm f k q = f := if_neg h
theorem mrk_f {N : Nat} {T : Nat → Int} {m : Int} {p : Nat} {f : Nat × Int} (h : f.1 ≠ 0) : (mrkR N T m p f).2 = f := by
  unfold mrkR
  split
  · rfl
  · exact blm_f h
theorem num_f {N : Nat} {T : Nat → Int} {lo hi : Int} {p : Nat} {f : Nat × Int} (h : f.1 ≠ 0) : (numR N T lo hi p f).2.2 = f := by
  unfold numR nuS
  split
  · unfold nuR
    split
    · exact blm_f h
    · rfl
  · exact blm_f h
theorem num_ok {N : Nat} {T : Nat → Int} {lo hi : Int} {p : Nat} (h : (numR N T lo hi p (0, -1)).2.2.1 = 0) : (numR N T lo hi p (0, -1)).2.2 = (0, -1) := by
  unfold numR nuS at h ⊢
  split at h
  · rename_i h1
    rw [if_pos h1]
    unfold nuR at h ⊢
    split at h
    · exact absurd h (by show ¬ (2 : Nat) = 0; decide)
    · rename_i h2
      rw [if_neg h2]
  · exact absurd h (by show ¬ (1 : Nat) = 0; decide)
theorem num_ge {N : Nat} {T : Nat → Int} {lo hi : Int} {p : Nat} {f : Nat × Int} : p ≤ (numR N T lo hi p f).2.1 := by
  have h1 := skT_ge N T p
  unfold numR nuS
  split
  · have h2 := (nlF_le T (N - skT N T p) (skT N T p) 0 0).1
    unfold nuR
    split
    · show p ≤ (nlF T (N - skT N T p) (skT N T p) 0 0).1
      omega
    · show p ≤ (nlF T (N - skT N T p) (skT N T p) 0 0).1
      omega
  · exact h1
theorem mrk_ok {N : Nat} {T : Nat → Int} {p : Nat} (h : (mrkR N T 59 p (0, -1)).2.1 = 0) : hereT N T (skT N T p) = 59 ∧ mrkR N T 59 p (0, -1) = (skT N T p + 1, (0, -1)) := by
  unfold mrkR at h ⊢
  split at h
  · rename_i h1
    rw [if_pos h1]
    exact ⟨h1, rfl⟩
  · exact absurd h (by show ¬ (1 : Nat) = 0; decide)
theorem mrk_no {N : Nat} {T : Nat → Int} {p : Nat} (h : hereT N T (skT N T p) ≠ 59) : mrkR N T 59 p (0, -1) = (skT N T p, (1, (skT N T p : Int))) := by
  unfold mrkR
  rw [if_neg h]
  rfl
theorem mrk_yes {N : Nat} {T : Nat → Int} {p : Nat} (h : hereT N T (skT N T p) = 59) : mrkR N T 59 p (0, -1) = (skT N T p + 1, (0, -1)) := by
  unfold mrkR
  rw [if_pos h]
theorem mrk_00 {N : Nat} {T : Nat → Int} {p : Nat} {f : Nat × Int} (h : (mrkR N T 59 p f).2.1 = 0) : f.1 = 0 := by
  by_cases e : f.1 = 0
  · exact e
  · rw [mrk_f e] at h
    exact absurd h e
theorem kd_f {N : Nat} {T : Nat → Int} {f : Nat × Int} (h : f.1 ≠ 0) (k n : Nat) (W : Nat → Nat) (p : Nat) : kdF N T k n W p f = (n, W, p, f) := by
  cases k with
  | zero => rfl
  | succ k =>
    unfold kdF
    rw [if_neg (fun q => h q.1)]
theorem kd_c {N : Nat} {T : Nat → Int} {k n : Nat} {W : Nat → Nat} {p : Nat} (h : hereT N T p = 44) : kdF N T (k + 1) n W p (0, -1) = kdF N T k (n + 1) (fun i => if i = n then (numR N T 0 5 (p + 1) (0, -1)).1.toNat else W i) (skT N T (numR N T 0 5 (p + 1) (0, -1)).2.1) (numR N T 0 5 (p + 1) (0, -1)).2.2 := by
  rw [kdF, if_pos ⟨rfl, h⟩]
theorem kd_n {N : Nat} {T : Nat → Int} {k n : Nat} {W : Nat → Nat} {p : Nat} {f : Nat × Int} (h : hereT N T p ≠ 44) : kdF N T k n W p f = (n, W, p, f) := by
  cases k with
  | zero => rfl
  | succ k =>
    unfold kdF
    rw [if_neg (fun q => h q.2)]
theorem kd_ge {N : Nat} {T : Nat → Int} : ∀ (k n : Nat) (W : Nat → Nat) (p : Nat) (f : Nat × Int), p ≤ (kdF N T k n W p f).2.2.1
  | 0, _, _, _, _ => Nat.le_refl _
  | k + 1, n, W, p, f => by
    unfold kdF
    split
    · have h1 := kd_ge (N := N) (T := T) k (n + 1) (fun i => if i = n then (numR N T 0 5 (p + 1) f).1.toNat else W i) (skT N T (numR N T 0 5 (p + 1) f).2.1) (numR N T 0 5 (p + 1) f).2.2
      have h2 := skT_ge N T (numR N T 0 5 (p + 1) f).2.1
      have h3 := num_ge (N := N) (T := T) (lo := 0) (hi := 5) (p := p + 1) (f := f)
      omega
    · exact Nat.le_refl _
theorem kd_0 {N : Nat} {T : Nat → Int} : ∀ (k n : Nat) (W : Nat → Nat) (p : Nat) (f : Nat × Int), (kdF N T k n W p f).2.2.2.1 = 0 → (f = (0, -1) → (kdF N T k n W p f).2.2.2 = (0, -1))
  | 0, _, _, _, _, _, h => h
  | k + 1, n, W, p, f, h0, h => by
    subst h
    unfold kdF at h0 ⊢
    split at h0
    · rename_i h1
      rw [if_pos h1]
      by_cases e : (numR N T 0 5 (p + 1) (0, -1)).2.2.1 = 0
      · exact kd_0 k _ _ _ _ h0 (num_ok e)
      · rw [kd_f e] at h0
        exact absurd h0 e
    · rename_i h1
      rw [if_neg h1]
theorem rest_ge {N : Nat} {T : Nat → Int} {nm : Int} {u : PV} {p : Nat} {f : Nat × Int} : p ≤ (restR N T nm u p f).2.1 := by
  unfold restR
  split
  · exact num_ge
  · split
    · exact Nat.le_trans num_ge num_ge
    · split
      · show p ≤ (kdR N T p f).2.2.1
        unfold kdR
        exact Nat.le_trans (Nat.le_trans num_ge (skT_ge N T _)) (kd_ge _ _ _ _ _)
      · exact Nat.le_trans num_ge num_ge
theorem cl_1 {N : Nat} {T : Nat → Int} {u : PV} {p : Nat} {f : Nat × Int} (h1 : hereT N T p ≠ 121) (h2 : (hereT N T p ≠ 102 ∧ hereT N T p ≠ 119 ∧ hereT N T p ≠ 104) ∨ Pp u = 0) : clR N T u p f = (u, p, blm f 1 p) := by
  unfold clR
  rw [if_pos ⟨h1, h2⟩]
theorem cl_3 {N : Nat} {T : Nat → Int} {u : PV} {p : Nat} {f : Nat × Int} (h1 : hereT N T p = 121 ∨ ((hereT N T p = 102 ∨ hereT N T p = 119 ∨ hereT N T p = 104) ∧ Pp u ≠ 0)) (h2 : fulN u (hereT N T p) ≠ 0) : clR N T u p f = (u, p, blm f 3 p) := by
  unfold clR
  rw [if_neg (by omega), if_pos h2]
theorem cl_r {N : Nat} {T : Nat → Int} {u : PV} {p : Nat} {f : Nat × Int} (h1 : hereT N T p = 121 ∨ ((hereT N T p = 102 ∨ hereT N T p = 119 ∨ hereT N T p = 104) ∧ Pp u ≠ 0)) (h2 : fulN u (hereT N T p) = 0) : clR N T u p f = ((restR N T (hereT N T p) u (p + 1) f).1, mrkR N T 59 (restR N T (hereT N T p) u (p + 1) f).2.1 (restR N T (hereT N T p) u (p + 1) f).2.2) := by
  unfold clR
  rw [if_neg (by omega), if_neg (by omega)]
theorem cl_lt {N : Nat} {T : Nat → Int} {u : PV} {p : Nat} (h : (clR N T u p (0, -1)).2.2.1 = 0) : p < (clR N T u p (0, -1)).2.1 := by
  unfold clR at h ⊢
  split at h
  · exact absurd h (by show ¬ (1 : Nat) = 0; decide)
  · rename_i h1
    rw [if_neg h1]
    split at h
    · exact absurd h (by show ¬ (3 : Nat) = 0; decide)
    · rename_i h2
      rw [if_neg h2]
      have h3 := rest_ge (N := N) (T := T) (nm := hereT N T p) (u := u) (p := p + 1) (f := (0, -1))
      show p < (mrkR N T 59 (restR N T (hereT N T p) u (p + 1) (0, -1)).2.1 (restR N T (hereT N T p) u (p + 1) (0, -1)).2.2).1
      have h4 := skT_ge N T (restR N T (hereT N T p) u (p + 1) (0, -1)).2.1
      unfold mrkR
      split
      · show p < _ + 1
        omega
      · show p < skT N T _
        omega
theorem rest_0 {N : Nat} {T : Nat → Int} {nm : Int} {u : PV} {p : Nat} (h : (restR N T nm u p (0, -1)).2.2.1 = 0) : (restR N T nm u p (0, -1)).2.2 = (0, -1) := by
  have two : ∀ lo hi lo' hi', (numR N T lo' hi' (numR N T lo hi p (0, -1)).2.1 (numR N T lo hi p (0, -1)).2.2).2.2.1 = 0 → (numR N T lo' hi' (numR N T lo hi p (0, -1)).2.1 (numR N T lo hi p (0, -1)).2.2).2.2 = (0, -1) := by
    intro lo hi lo' hi' h
    by_cases e : (numR N T lo hi p (0, -1)).2.2.1 = 0
    · rw [num_ok e] at h ⊢
      exact num_ok h
    · rw [num_f e] at h
      exact absurd h e
  unfold restR at h ⊢
  split at h
  · rename_i h1
    rw [if_pos h1]
    exact num_ok h
  · rename_i h1
    rw [if_neg h1]
    split at h
    · rename_i h2
      rw [if_pos h2]
      exact two _ _ _ _ h
    · rename_i h2
      rw [if_neg h2]
      split at h
      · rename_i h3
        rw [if_pos h3]
        show (kdR N T p (0, -1)).2.2.2 = _
        have h : (kdR N T p (0, -1)).2.2.2.1 = 0 := h
        unfold kdR at h ⊢
        by_cases e : (numR N T 0 5 p (0, -1)).2.2.1 = 0
        · exact kd_0 _ _ _ _ _ h (num_ok e)
        · rw [kd_f e] at h
          exact absurd h e
      · rename_i h3
        rw [if_neg h3]
        exact two _ _ _ _ h
theorem cl_0 {N : Nat} {T : Nat → Int} {u : PV} {p : Nat} (h : (clR N T u p (0, -1)).2.2.1 = 0) : (clR N T u p (0, -1)).2.2 = (0, -1) := by
  unfold clR at h ⊢
  split at h
  · exact absurd h (by show ¬ (1 : Nat) = 0; decide)
  · rename_i h1
    rw [if_neg h1]
    split at h
    · exact absurd h (by show ¬ (3 : Nat) = 0; decide)
    · rename_i h2
      rw [if_neg h2]
      have h : (mrkR N T 59 (restR N T (hereT N T p) u (p + 1) (0, -1)).2.1 (restR N T (hereT N T p) u (p + 1) (0, -1)).2.2).2.1 = 0 := h
      show (mrkR N T 59 (restR N T (hereT N T p) u (p + 1) (0, -1)).2.1 (restR N T (hereT N T p) u (p + 1) (0, -1)).2.2).2 = (0, -1)
      have e := rest_0 (mrk_00 h)
      rw [e] at h ⊢
      rw [(mrk_ok h).2]
/-- frame of the reader: draft, pos, wrong -/
def FrD (g g' : Mem) : Prop := (∀ j, j ≠ 166 → j ≠ 169 → g' j = g j) ∧ ∀ k : Int, k ≠ 14 → k ≠ 16 → g' 166 k = g 166 k
theorem FrD.rf (g : Mem) : FrD g g := ⟨fun _ _ _ => rfl, fun _ _ _ => rfl⟩
theorem FrD.tr {g g' g'' : Mem} (h : FrD g g') (h' : FrD g' g'') : FrD g g'' := ⟨fun j a b => (h'.1 j a b).trans (h.1 j a b), fun k a b => (h'.2 k a b).trans (h.2 k a b)⟩
theorem FrP.d {g g' : Mem} (h : FrP g g') : FrD g g' := ⟨fun j a _ => h.1 j a, h.2⟩
theorem FrD.dr (g : Mem) (k x : Int) : FrD g (mu g 169 k x) := ⟨fun j _ b => mu_ne b, fun k _ _ => congrFun (mu_ne (by decide)) k⟩
theorem MRd.dr {g : Mem} {N : Nat} {T : Nat → Int} {p : Nat} (h : MRd g N T p) (k x : Int) : MRd (mu g 169 k x) N T p := by
  obtain ⟨h1, h2, h3, h4, h5⟩ := h
  exact ⟨by rw [mu_ne (by decide)]; exact h1, h2, fun k hk => by rw [mu_ne (by decide)]; exact h3 k hk, by rw [mu_ne (by decide)]; exact h4, h5⟩
/-- the draft holds u, no more words -/
def DM (g : Mem) (u : PV) : Prop := PM g 169 u ∧ ∀ x k : Nat, Pw u ≤ x → x < 6 → k < 4 → g 169 (19 + 4 * x + k) = 9
def DW (g : Mem) (u : PV) (n : Nat) (W : Nat → Nat) : Prop := PM g 169 u ∧ ∀ x k : Nat, Pw u ≤ x → x < 6 → k < 4 → g 169 (19 + 4 * x + k) = if x = Pw u ∧ k < n then (W k : Int) else 9
theorem DM.fr {g g' : Mem} {u : PV} (h : DM g u) (e : g' 169 = g 169) : DM g' u := ⟨h.1.fr e, fun x k a b c => by rw [e]; exact h.2 x k a b c⟩
theorem DW.fr {g g' : Mem} {u : PV} {n : Nat} {W : Nat → Nat} (h : DW g u n W) (e : g' 169 = g 169) : DW g' u n W := ⟨h.1.fr e, fun x k a b c => by rw [e]; exact h.2 x k a b c⟩
def RdK (N : Nat) (T : Nat → Int) (K : Int → Mem → Prop) (g : Mem) (r : PV × Nat × (Nat × Int)) : Prop := (r.2.2.1 = 0 → ∀ g' : Mem, MRd g' N T r.2.1 → DM g' r.1 → FrD g g' → K 1 g') ∧ (r.2.2.1 ≠ 0 → ∀ q : Nat, (q : Int) = r.2.2.2 → ∀ g' : Mem, MRd g' N T q → g' 166 16 = (r.2.2.1 : Int) → FrD g g' → K 0 g')
theorem RdK.fr {N : Nat} {T : Nat → Int} {K : Int → Mem → Prop} {g g1 : Mem} {r : PV × Nat × (Nat × Int)} (h : RdK N T K g r) (f : FrD g g1) : RdK N T K g1 r := ⟨fun a g' b c e => h.1 a g' b c (f.tr e), fun a q b g' c e z => h.2 a q b g' c e (f.tr z)⟩
theorem m_num {X : CX} {d : Nat} {g : Mem} {K : Int → Mem → Prop} {N : Nat} {T : Nat → Int} {p : Nat} (hR : MRd g N T p) {pl lo hi : Int} (hp0 : 0 ≤ pl) (hp1 : pl < 53) (hlo : R32 lo) (hhi : R32 hi) (h : ∀ (b : Bool) (g' : Mem), (b = true → (numR N T lo hi p (0, -1)).2.2.1 = 0 ∧ MRd g' N T (numR N T lo hi p (0, -1)).2.1 ∧ g' 169 = mu g 169 pl (numR N T lo hi p (0, -1)).1 169) → (b = false → (numR N T lo hi p (0, -1)).2.2.1 ≠ 0 ∧ ∃ q : Nat, (q : Int) = (numR N T lo hi p (0, -1)).2.2.2 ∧ MRd g' N T q ∧ g' 166 16 = ((numR N T lo hi p (0, -1)).2.2.1 : Int)) → FrD g g' → K (b01 b) g') : EI X (d + 2) mX11_number [vr 166, vi pl, vi lo, vi hi] Z0 g K := by
  refine m_number hR hp0 hp1 hlo hhi (fun h0 g1 hR1 fr1 => ?_) (fun h0 q hq g1 hR1 hw fr1 => ?_)
  · exact h true _ (fun _ => ⟨h0, hR1.dr _ _, by rw [mu_row, mu_row, fr1.1 169 (by decide)]⟩) (fun e => absurd e (by decide)) (fr1.d.tr (FrD.dr _ _ _))
  · exact h false _ (fun e => absurd e (by decide)) (fun _ => ⟨h0, q, hq, hR1, hw⟩) fr1.d
theorem m_mrk {X : CX} {d : Nat} {g : Mem} {K : Int → Mem → Prop} {N : Nat} {T : Nat → Int} {p : Nat} (hR : MRd g N T p) (h : ∀ (b : Bool) (g' : Mem), (b = true → hereT N T (skT N T p) = 59 ∧ MRd g' N T (skT N T p + 1)) → (b = false → hereT N T (skT N T p) ≠ 59 ∧ MRd g' N T (skT N T p) ∧ g' 166 16 = 1) → g' 169 = g 169 → FrD g g' → K (b01 b) g') : EI X (d + 1) mX11_ends [vr 166] Z0 g K := by
  refine m_ends hR (fun h0 g1 hR1 fr1 => ?_) (fun h0 g1 hR1 hw fr1 => ?_)
  · exact h true _ (fun _ => ⟨h0, hR1⟩) (fun e => absurd e (by decide)) (fr1.1 169 (by decide)) fr1.d
  · exact h false _ (fun e => absurd e (by decide)) (fun _ => ⟨h0, hR1, hw⟩) (fr1.1 169 (by decide)) fr1.d
