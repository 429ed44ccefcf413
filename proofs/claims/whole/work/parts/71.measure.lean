def LL (n t v : Nat) : Prop := So n t (ordF n v)
def isDv (n v t : Nat) : Prop := isDr n (ordF n v) t
def nbF (n v k : Nat) : Nat := numF n (flipN (ordF n v) k)
def Inv (n s : Nat) (g : Mem) : Prop := ∀ v, v < fcF n → (∃ t, t ≤ s ∧ isDv n v t ∧ nibG g v = t) ∨ (¬ LL n s v ∧ nibG g v = 15)
def Mid (n s : Nat) (g0 g : Mem) : Prop := ∀ w, w < fcF n → (LL n s w → nibG g w = nibG g0 w) ∧ (¬ LL n s w → nibG g w = 15 ∨ (nibG g w = s + 1 ∧ LL n (s + 1) w))
def Fl (n s : Nat) (g : Mem) (b : Bool) : Prop := (b = false → ∀ w, w < fcF n → ¬ LL n s w → nibG g w = 15) ∧ (b = true → ∃ w, w < fcF n ∧ ¬ LL n s w)
def FrT (g g' : Mem) : Prop := ∀ j, j ≠ 178 → j ≠ 179 → j ≠ 180 → j ≠ 181 → g' j = g j
theorem FrT.tr {g g' g'' : Mem} (h : FrT g g') (h' : FrT g' g'') : FrT g g'' := fun j a b c d => (h' j a b c d).trans (h j a b c d)
theorem nib_fr {g g' : Mem} (e : g' 178 = g 178) (v : Nat) : nibG g' v = nibG g v := by unfold nibG; rw [e]
theorem Mid.fr {n s : Nat} {g0 g g' : Mem} (h : Mid n s g0 g) (e : g' 178 = g 178) : Mid n s g0 g' := fun w hw => by rw [nib_fr e]; exact h w hw
theorem Fl.fr {n s : Nat} {g g' : Mem} {b : Bool} (h : Fl n s g b) (e : g' 178 = g 178) : Fl n s g' b := ⟨fun q w a b => by rw [nib_fr e]; exact h.1 q w a b, h.2⟩
theorem nb_ord {n : Nat} (hn : n ≤ 7) {r : Nat → Nat} (hr : Pm n r) : ∀ p, p < n → ordF n (numF n r) p = r p := fun p hp => (ord_num hn hr p (by omega)).2 hp
theorem LL14 {n : Nat} (hn : n ≤ 7) (v : Nat) : LL n 14 v := So_14 hn (ord_Pm hn v)
theorem Mid_in {n s : Nat} {g0 g : Mem} (hs : s ≤ 14) (hI : Inv n s g0) (hM : Mid n s g0 g) {w : Nat} (hw : w < fcF n) (h : nibG g w = 15) : ¬ LL n s w := by
  intro hl
  rcases hI w hw with ⟨t, a, b, c⟩ | ⟨a, _⟩
  · have := (hM w hw).1 hl
    omega
  · exact a hl
theorem Mid_set {n s v k : Nat} {g0 g g' : Mem} (hn : n ≤ 7) (hs : s ≤ 14) (hI : Inv n s g0) (hM : Mid n s g0 g) (hd : isDv n v s) (h1 : 2 ≤ k) (h2 : k ≤ n) (h15 : nibG g (nbF n v k) = 15) (hg : ∀ w, w < 5040 → nibG g' w = if w = nbF n v k then s + 1 else nibG g w) : Mid n s g0 g' ∧ Fl n s g' true ∧ s ≤ 13 ∧ (∀ w, w < fcF n → nibG g w ≠ 15 → nibG g' w ≠ 15) ∧ nibG g' (nbF n v k) ≠ 15 := by
  have hE := (K_6 n (by omega)).2
  have hto : nbF n v k < fcF n := num_lt _ _
  have hno := Mid_in hs hI hM hto h15
  have h13 : s ≤ 13 := by
    by_cases q : s ≤ 13
    · exact q
    · exfalso
      apply hno
      rw [show s = 14 by omega]
      exact LL14 hn _
  have hyes : LL n (s + 1) (nbF n v k) := by
    refine So_congr (s + 1) (r := flipN (ordF n v) k) (fun p hp => (nb_ord hn (Pm_flip h2 (ord_Pm hn v)) p hp).symm) ?_
    refine So_k h1 h2 ?_
    rw [flip2]
    exact hd.1
  refine ⟨fun w hw => ?_, ⟨fun q => absurd q (by decide), fun _ => ⟨_, hto, hno⟩⟩, h13, fun w hw q => ?_, ?_⟩
  · rw [hg w (by omega)]
    by_cases e : w = nbF n v k
    · rw [if_pos e]
      subst e
      exact ⟨fun q => absurd q hno, fun _ => Or.inr ⟨rfl, hyes⟩⟩
    · rw [if_neg e]
      exact hM w hw
  · rw [hg w (by omega)]
    split
    · omega
    · exact q
  · rw [hg _ (by omega), if_pos rfl]
    omega
theorem Inv_next {n s : Nat} {g0 g : Mem} (hn : n ≤ 7) (hI : Inv n s g0) (hM : Mid n s g0 g) (hp : ∀ v, v < fcF n → nibG g0 v = s → ∀ k, 2 ≤ k → k ≤ n → nibG g (nbF n v k) ≠ 15) : Inv n (s + 1) g := by
  intro w hw
  by_cases hl : LL n s w
  · rcases hI w hw with ⟨t, a, b, c⟩ | ⟨a, _⟩
    · exact Or.inl ⟨t, by omega, b, by rw [(hM w hw).1 hl]; exact c⟩
    · exact absurd hl a
  · have hm := (hM w hw).2 hl
    by_cases hl1 : LL n (s + 1) w
    · left
      refine ⟨s + 1, Nat.le_refl _, ⟨hl1, fun t' ht q => hl (So_le q (by omega))⟩, ?_⟩
      rcases hl1 with q | ⟨k, k1, k2, k3⟩
      · exact absurd q hl
      · have hP := Pm_flip k2 (ord_Pm hn w)
        have hv : numF n (flipN (ordF n w) k) < fcF n := num_lt _ _
        have ho := nb_ord hn hP
        have hLv : LL n s (numF n (flipN (ordF n w) k)) := So_congr s (fun p hp => (ho p hp).symm) k3
        have hs0 : nibG g0 (numF n (flipN (ordF n w) k)) = s := by
          rcases hI _ hv with ⟨t, a, b, c⟩ | ⟨a, _⟩
          · have hDv : isDv n (numF n (flipN (ordF n w) k)) s := ⟨hLv, fun t' ht q => hl (So_le (So_k k1 k2 (So_congr t' ho q)) (by omega))⟩
            rw [c]
            exact isDr_uniq b hDv
          · exact absurd hLv a
        have h9 := hp _ hv hs0 k k1 k2
        have e : nbF n (numF n (flipN (ordF n w) k)) k = w := by
          unfold nbF
          have e1 : numF n (flipN (ordF n (numF n (flipN (ordF n w) k))) k) = numF n (flipN (flipN (ordF n w) k) k) := num_congr (fun p q hp hq => by rw [flip_c k2 ho p hp, flip_c k2 ho q hq]) n (Nat.le_refl _)
          rw [e1, flip2]
          exact num_ord hn hw
        rw [e] at h9
        rcases hm with q | ⟨q, _⟩
        · exact absurd q h9
        · exact q
    · right
      refine ⟨hl1, ?_⟩
      rcases hm with q | ⟨_, q⟩
      · exact q
      · exact absurd q hl1
theorem Inv_end {n s : Nat} {g : Mem} (hn : n ≤ 7) (hs : s ≤ 14) (hI : Inv n (s + 1) g) (hF : Fl n s g false) : ∀ v, v < fcF n → ∃ t, isDv n v t ∧ nibG g v = t := by
  have h1 : ∀ w, w < fcF n → LL n (s + 1) w → LL n s w := by
    intro w hw hl
    by_cases q : LL n s w
    · exact q
    · have h15 := hF.1 rfl w hw q
      exfalso
      rcases hI w hw with ⟨t, a, b, c⟩ | ⟨a, _⟩
      · exact b.2 14 (by omega) (LL14 hn w)
      · exact a hl
  have h2 : ∀ j w, w < fcF n → LL n (s + j) w → LL n s w := by
    intro j
    induction j with
    | zero => exact fun w _ h => h
    | succ j ih =>
      intro w hw hl
      rcases hl with q | ⟨k, k1, k2, k3⟩
      · exact ih w hw q
      · have hP := Pm_flip k2 (ord_Pm hn w)
        have ho := nb_ord hn hP
        have h3 := ih (numF n (flipN (ordF n w) k)) (num_lt _ _) (So_congr _ (fun p hp => (ho p hp).symm) k3)
        exact h1 w hw (So_k k1 k2 (So_congr s ho h3))
  intro v hv
  have hl : LL n s v := h2 (14 - s) v hv (by rw [show s + (14 - s) = 14 by omega]; exact LL14 hn v)
  rcases hI v hv with ⟨t, a, b, c⟩ | ⟨a, _⟩
  · exact ⟨t, b, c⟩
  · exact absurd (So_s hl) a
theorem num_id (n : Nat) {r : Nat → Nat} (h : Idn n r) : numF n r = 0 := by
  have : ∀ p, p ≤ n → nvF r n p = 0 := by
    intro p
    induction p with
    | zero => exact fun _ => rfl
    | succ p ih =>
      intro hp
      show nvF r n p * (n - p) + lsN r n p = 0
      rw [ih (by omega), Nat.zero_mul, Nat.zero_add]
      exact (cnF_eq _ _ _).mpr (fun q a b => decide_eq_false (by rw [h q (by omega), h p (by omega)]; omega))
  exact this n (Nat.le_refl _)
theorem Inv_0 {n : Nat} {g : Mem} (hn : n ≤ 7) (h : ∀ w, w < 5040 → nibG g w = if w = 0 then 0 else 15) : Inv n 0 g := by
  have hE := (K_6 n (by omega)).2
  intro v hv
  by_cases e : v = 0
  · subst e
    left
    refine ⟨0, Nat.le_refl _, ⟨?_, fun t' ht => absurd ht (by omega)⟩, by rw [h 0 (by decide)]; rfl⟩
    have hid : Pm n (fun p => p) := ⟨fun p hp => hp, fun p q _ _ e => e⟩
    have := nb_ord hn hid
    rw [num_id n (fun p _ => rfl)] at this
    exact this
  · right
    refine ⟨fun q => ?_, by rw [h v (by omega), if_neg e]⟩
    have := num_ord hn hv
    rw [num_id n q] at this
    exact e this.symm
def FTn (g : Mem) (n : Nat) : Prop := g 166 20 = (n : Int) ∧ ∀ v, v < fcF n → ∃ t, isDv n v t ∧ nibG g v = t
def FT (g : Mem) : Prop := g 166 20 = -1 ∨ ∃ m, m ≤ 7 ∧ FTn g m
def FrS (g g' : Mem) : Prop := (∀ j, j ≠ 166 → j ≠ 178 → j ≠ 179 → j ≠ 180 → j ≠ 181 → g' j = g j) ∧ ∀ k : Int, k ≠ 20 → g' 166 k = g 166 k
theorem FT.fr {g g' : Mem} (h : FT g) (e1 : g' 178 = g 178) (e2 : g' 166 20 = g 166 20) : FT g' := by
  rcases h with h | ⟨m, a, b, c⟩
  · exact Or.inl (e2.trans h)
  · exact Or.inr ⟨m, a, e2.trans b, fun v hv => by rw [nib_fr e1]; exact c v hv⟩
theorem lm_mesI {X : CX} {d : Nat} {K : Mem → Prop} {n s v : Nat} (hn : n ≤ 7) (hs : s ≤ 14) (hd : isDv n v s) {g0 : Mem} (hI : Inv n s g0) : ∀ (j k : Nat) (b : Bool) (g : Mem) (y : Option VV), 2 ≤ k → k + j = max 2 (n + 1) → Mid n s g0 g → Fl n s g b → (∀ p : Nat, p < n → g 180 p = (ordF n v p : Int)) → (∀ k', 2 ≤ k' → k' < k → nibG g (nbF n v k') ≠ 15) → (∀ (g' : Mem) (b' : Bool) (y z : Option VV), Mid n s g0 g' → Fl n s g' b' → (∀ k', 2 ≤ k' → k' ≤ n → nibG g' (nbF n v k') ≠ 15) → (∀ w, w < fcF n → nibG g w ≠ 15 → nibG g' w ≠ 15) → FrT g g' → AJ X (d + 2) mX11_measures 0 0 (QV Z0 K) 0 0 164 [some (vr 166), some (vi (n : Int)), some (vi ((fcF n : Nat) : Int)), some (vi (b01 b')), some (vi (s : Int)), some (vi (v : Int)), y, z] [] Z0 g') → AJ X (d + 2) mX11_measures 0 0 (QV Z0 K) 0 0 105 [some (vr 166), some (vi (n : Int)), some (vi ((fcF n : Nat) : Int)), some (vi (b01 b)), some (vi (s : Int)), some (vi (v : Int)), some (vi (k : Int)), y] [] Z0 g := by
  intro j
  induction j with
  | zero =>
    intro k b g y h2 hj hM hF ho hp h
    refine r_iload (pc' := 107) dX11_measures_105 rfl rfl ?_
    refine r_iload_n (pc' := 108) dX11_measures_107 rfl rfl ?_
    refine r_icmp_gt (tgt := 164) (pc' := 111) dX11_measures_108 rfl rfl (by omega) (by omega) (fun c108 => ?_) (fun c108 => ?_)
    · exact h g b _ _ hM hF (fun k1 a c => hp k1 a (by omega)) (fun w _ q => q) (fun _ _ _ _ _ => rfl)
    · exact absurd c108 (by omega)
  | succ j ih =>
    intro k b g y h2 hj hM hF ho hp h
    have hkn : k ≤ n := by omega
    have hE := (K_6 n (by omega)).2
    have hto : nbF n v k < 5040 := by have : nbF n v k < fcF n := num_lt _ _; omega
    have hP := Pm_flip hkn (ord_Pm hn v)
    refine r_iload (pc' := 107) dX11_measures_105 rfl rfl ?_
    refine r_iload_n (pc' := 108) dX11_measures_107 rfl rfl ?_
    refine r_icmp_gt (tgt := 164) (pc' := 111) dX11_measures_108 rfl rfl (by omega) (by omega) (fun c108 => ?_) (fun c108 => ?_)
    · exact absurd c108 (by omega)
    · refine r_aload_n (pc' := 112) dX11_measures_111 rfl rfl ?_
      refine r_getr (pc' := 115) dX11_measures_112 rfl fX11_58 z166 rfl ?_
      refine r_aload_n (pc' := 116) dX11_measures_115 rfl rfl ?_
      refine r_getr (pc' := 119) dX11_measures_116 rfl fX11_61 z166 rfl ?_
      refine r_iload_n (pc' := 120) dX11_measures_119 rfl rfl ?_
      refine r_iload (pc' := 122) dX11_measures_120 rfl rfl ?_
      refine r_sv4 (pc' := 125) dX11_measures_122 rfl qX11_turns lX11_204 rfl rfl rfl (Nat.zero_le _) (Nat.zero_le _) (m_turns hn hkn ho (fun g1 h1 f1 => ?_))
      refine r_aload_n (pc' := 126) dX11_measures_125 rfl rfl ?_
      refine r_getr (pc' := 129) dX11_measures_126 rfl fX11_61 z166 rfl ?_
      refine r_iload_n (pc' := 130) dX11_measures_129 rfl rfl ?_
      refine r_si2 (pc' := 133) dX11_measures_130 rfl qX11_numberOf lX11_208 rfl rfl rfl (Nat.zero_le _) (Nat.zero_le _) (m_numb (o := flipN (ordF n v) k) z181 hn h1 (fun p q => by have := hP.1 p q; omega) ?_)
      rw [show numF n (flipN (ordF n v) k) = nbF n v k from rfl]
      refine r_istore (pc' := 135) dX11_measures_133 rfl rfl ?_
      refine r_aload_n (pc' := 136) dX11_measures_135 rfl rfl ?_
      refine r_iload (pc' := 138) dX11_measures_136 rfl rfl ?_
      refine r_vi1 (pc' := 141) dX11_measures_138 rfl qX11_farAt lX11_197 z166 rfl rfl rfl rfl (Nat.zero_le _) (Nat.zero_le _) (m_farAt hto ?_)
      refine r_bipush (pc' := 143) dX11_measures_141 rfl (by decide) ?_
      refine r_icmp_ne (tgt := 158) (pc' := 146) dX11_measures_143 rfl rfl (by have := nibG_lt g1 (nbF n v k); omega) (by decide) (fun c143 => ?_) (fun c143 => ?_)
      · have cne := c143
        refine r_iinc (pc' := 161) dX11_measures_158 rfl rfl rfl ?_
        refine r_goto (tgt := 105) dX11_measures_161 rfl ?_
        first
          | (have cq := cne
             exact ih (k + 1) b g1 _ (by omega) (by omega) (hM.fr (f1 178 (by decide))) (hF.fr (f1 178 (by decide))) (fun p q => by rw [f1 180 (by decide)]; exact ho p q) (fun k' a c => by
               by_cases e : k' = k
               · subst e
                 exact fun q => cne (by omega)
               · rw [nib_fr (f1 178 (by decide))]
                 exact hp k' a (by omega)) (fun g' b' y z a1 a2 a3 a4 a5 => h g' b' y z a1 a2 a3 (fun w hw q => a4 w hw (by rw [nib_fr (f1 178 (by decide))]; exact q)) (FrT.tr (fun j _ _ _ x => f1 j x) a5)))
          | (obtain ⟨q1, q2, q3, q4, q5⟩ := Mid_set (k := k) hn hs hI (hM.fr (f1 178 (by decide))) hd h2 hkn (by omega) h3
             exact ih (k + 1) true g2 _ (by omega) (by omega) q1 q2 (fun p q => by rw [f3 180 (by decide), f1 180 (by decide)]; exact ho p q) (fun k' a c => by
               by_cases e : k' = k
               · subst e
                 exact q5
               · exact q4 _ (num_lt _ _) (by rw [nib_fr (f1 178 (by decide))]; exact hp k' a (by omega))) (fun g' b' y z a1 a2 a3 a4 a5 => h g' b' y z a1 a2 a3 (fun w hw q => a4 w hw (q4 w hw (by rw [nib_fr (f1 178 (by decide))]; exact q))) (FrT.tr (fun j x _ _ x2 => (f3 j x).trans (f1 j x2)) a5)))
      · refine r_aload_n (pc' := 147) dX11_measures_146 rfl rfl ?_
        refine r_iload (pc' := 149) dX11_measures_147 rfl rfl ?_
        refine r_iload (pc' := 151) dX11_measures_149 rfl rfl ?_
        refine r_iconst (pc' := 152) dX11_measures_151 rfl ?_
        refine r_iadd (pc' := 153) dX11_measures_152 rfl ?_
        refine r_vv2 (pc' := 156) dX11_measures_153 rfl qX11_isFar lX11_193 z166 rfl rfl rfl rfl (Nat.zero_le _) (Nat.zero_le _) (m_isFar (v := nbF n v k) (s := s + 1) hto (by omega) (fun g2 h3 f3 => ?_))
        refine r_iconst (pc' := 157) dX11_measures_156 rfl ?_
        refine r_istore_n (pc' := 158) dX11_measures_157 rfl rfl ?_
        refine r_iinc (pc' := 161) dX11_measures_158 rfl rfl rfl ?_
        refine r_goto (tgt := 105) dX11_measures_161 rfl ?_
        first
          | (have cq := cne
             exact ih (k + 1) b g1 _ (by omega) (by omega) (hM.fr (f1 178 (by decide))) (hF.fr (f1 178 (by decide))) (fun p q => by rw [f1 180 (by decide)]; exact ho p q) (fun k' a c => by
               by_cases e : k' = k
               · subst e
                 exact fun q => cne (by omega)
               · rw [nib_fr (f1 178 (by decide))]
                 exact hp k' a (by omega)) (fun g' b' y z a1 a2 a3 a4 a5 => h g' b' y z a1 a2 a3 (fun w hw q => a4 w hw (by rw [nib_fr (f1 178 (by decide))]; exact q)) (FrT.tr (fun j _ _ _ x => f1 j x) a5)))
          | (obtain ⟨q1, q2, q3, q4, q5⟩ := Mid_set (k := k) hn hs hI (hM.fr (f1 178 (by decide))) hd h2 hkn (by omega) h3
             exact ih (k + 1) true g2 _ (by omega) (by omega) q1 q2 (fun p q => by rw [f3 180 (by decide), f1 180 (by decide)]; exact ho p q) (fun k' a c => by
               by_cases e : k' = k
               · subst e
                 exact q5
               · exact q4 _ (num_lt _ _) (by rw [nib_fr (f1 178 (by decide))]; exact hp k' a (by omega))) (fun g' b' y z a1 a2 a3 a4 a5 => h g' b' y z a1 a2 a3 (fun w hw q => a4 w hw (q4 w hw (by rw [nib_fr (f1 178 (by decide))]; exact q))) (FrT.tr (fun j x _ _ x2 => (f3 j x).trans (f1 j x2)) a5)))
theorem lm_mesO {X : CX} {d : Nat} {K : Mem → Prop} {n s : Nat} (hn : n ≤ 7) (hs : s ≤ 14) {g0 : Mem} (hI : Inv n s g0) : ∀ (j v : Nat) (b : Bool) (g : Mem) (y z : Option VV), v + j = fcF n → Mid n s g0 g → Fl n s g b → (∀ v', v' < v → nibG g0 v' = s → ∀ k, 2 ≤ k → k ≤ n → nibG g (nbF n v' k) ≠ 15) → (∀ (g' : Mem) (b' : Bool) (x y z : Option VV), Mid n s g0 g' → Fl n s g' b' → (∀ v', v' < fcF n → nibG g0 v' = s → ∀ k, 2 ≤ k → k ≤ n → nibG g' (nbF n v' k) ≠ 15) → FrT g g' → AJ X (d + 2) mX11_measures 0 0 (QV Z0 K) 0 0 170 [some (vr 166), some (vi (n : Int)), some (vi ((fcF n : Nat) : Int)), some (vi (b01 b')), some (vi (s : Int)), x, y, z] [] Z0 g') → AJ X (d + 2) mX11_measures 0 0 (QV Z0 K) 0 0 74 [some (vr 166), some (vi (n : Int)), some (vi ((fcF n : Nat) : Int)), some (vi (b01 b)), some (vi (s : Int)), some (vi (v : Int)), y, z] [] Z0 g := by
  intro j
  induction j with
  | zero =>
    intro v b g y z hj hM hF hp h
    have hE := (K_6 n (by omega)).2
    refine r_iload (pc' := 76) dX11_measures_74 rfl rfl ?_
    refine r_iload_n (pc' := 77) dX11_measures_76 rfl rfl ?_
    refine r_icmp_ge (tgt := 170) (pc' := 80) dX11_measures_77 rfl rfl (by omega) (by omega) (fun c77 => ?_) (fun c77 => ?_)
    · exact h g b _ _ _ hM hF (fun v1 a => hp v1 (by omega)) (fun _ _ _ _ _ => rfl)
    · exact absurd c77 (by omega)
  | succ j ih =>
    intro v b g y z hj hM hF hp h
    have hE := (K_6 n (by omega)).2
    have hv : v < fcF n := by omega
    have heq : nibG g v = s ↔ nibG g0 v = s := by
      by_cases hl : LL n s v
      · rw [(hM v hv).1 hl]
      · have h1 := (hM v hv).2 hl
        rcases hI v hv with ⟨t, a, c, e⟩ | ⟨_, a⟩
        · exact absurd (So_le c.1 a) hl
        · omega
    refine r_iload (pc' := 76) dX11_measures_74 rfl rfl ?_
    refine r_iload_n (pc' := 77) dX11_measures_76 rfl rfl ?_
    refine r_icmp_ge (tgt := 170) (pc' := 80) dX11_measures_77 rfl rfl (by omega) (by omega) (fun c77 => ?_) (fun c77 => ?_)
    · exact absurd c77 (by omega)
    · refine r_aload_n (pc' := 81) dX11_measures_80 rfl rfl ?_
      refine r_iload (pc' := 83) dX11_measures_81 rfl rfl ?_
      refine r_vi1 (pc' := 86) dX11_measures_83 rfl qX11_farAt lX11_197 z166 rfl rfl rfl rfl (Nat.zero_le _) (Nat.zero_le _) (m_farAt (by omega) ?_)
      refine r_iload (pc' := 88) dX11_measures_86 rfl rfl ?_
      refine r_icmp_ne (tgt := 164) (pc' := 91) dX11_measures_88 rfl rfl (by have := nibG_lt g v; omega) (by omega) (fun c88 => ?_) (fun c88 => ?_)
      · refine r_iinc (pc' := 167) dX11_measures_164 rfl rfl rfl ?_
        refine r_goto (tgt := 74) dX11_measures_167 rfl ?_
        exact ih (v + 1) b g _ _ (by omega) hM hF (fun v' a c => by
          by_cases e : v' = v
          · subst e
            exact absurd (heq.mpr c) (by omega)
          · exact hp v' (by omega) c) h
      · refine r_aload_n (pc' := 92) dX11_measures_91 rfl rfl ?_
        refine r_iload (pc' := 94) dX11_measures_92 rfl rfl ?_
        refine r_iload_n (pc' := 95) dX11_measures_94 rfl rfl ?_
        refine r_aload_n (pc' := 96) dX11_measures_95 rfl rfl ?_
        refine r_getr (pc' := 99) dX11_measures_96 rfl fX11_58 z166 rfl ?_
        refine r_vv3 (pc' := 102) dX11_measures_99 rfl qX11_orderOf lX11_200 z166 rfl rfl rfl rfl (Nat.zero_le _) (Nat.zero_le _) (m_ord hn (by omega) (fun g1 h1 f1 => ?_))
        refine r_iconst (pc' := 103) dX11_measures_102 rfl ?_
        refine r_istore (pc' := 105) dX11_measures_103 rfl rfl ?_
        have hd : isDv n v s := by
          rcases hI v hv with ⟨t, a, c, e⟩ | ⟨_, a⟩
          · have : t = s := by
              have := heq.mp (by omega)
              omega
            subst this
            exact c
          · have := heq.mp (by omega)
            omega
        refine lm_mesI hn hs hd hI (max 2 (n + 1) - 2) 2 b g1 _ (by omega) (by omega) (hM.fr (f1 178 (by decide) (by decide))) (hF.fr (f1 178 (by decide) (by decide))) h1 (fun k' a c => by omega) (fun g2 b2 y z a1 a2 a3 a4 a5 => ?_)
        refine r_iinc (pc' := 167) dX11_measures_164 rfl rfl rfl ?_
        refine r_goto (tgt := 74) dX11_measures_167 rfl ?_
        exact ih (v + 1) b2 g2 _ _ (by omega) a1 a2 (fun v' a c => by
          by_cases e : v' = v
          · subst e
            exact a3
          · exact fun k x y => a4 _ (num_lt _ _) (by rw [nib_fr (f1 178 (by decide) (by decide))]; exact hp v' (by omega) c k x y)) (fun g' b' x y z c1 c2 c3 c4 => h g' b' x y z c1 c2 c3 (FrT.tr (FrT.tr (fun j _ p q _ => f1 j p q) a5) c4))
theorem lm_mesL {X : CX} {d : Nat} {K : Mem → Prop} {n : Nat} (hn : n ≤ 7) : ∀ (j s : Nat) (g : Mem) (x y z : Option VV), s + j = 14 → Inv n s g → (∀ g' : Mem, (∀ v, v < fcF n → ∃ t, isDv n v t ∧ nibG g' v = t) → FrT g g' → K (mu g' 166 20 (n : Int))) → AJ X (d + 2) mX11_measures 0 0 (QV Z0 K) 0 0 65 [some (vr 166), some (vi (n : Int)), some (vi ((fcF n : Nat) : Int)), some (vi 1), some (vi (s : Int)), x, y, z] [] Z0 g := by
  intro j
  induction j with
  | zero =>
    intro s g x y z hj hI h
    refine r_iload_n (pc' := 66) dX11_measures_65 rfl rfl ?_
    refine r_if_eq (tgt := 176) (pc' := 69) dX11_measures_66 rfl rfl (by decide) (fun c66 => ?_) (fun c66 => ?_)
    · exact absurd c66 (by decide)
    · refine r_iconst (pc' := 70) dX11_measures_69 rfl ?_
      refine r_istore_n (pc' := 71) dX11_measures_70 rfl rfl ?_
      refine r_iconst (pc' := 72) dX11_measures_71 rfl ?_
      refine r_istore (pc' := 74) dX11_measures_72 rfl rfl ?_
      refine lm_mesO (g0 := g) hn (by omega) hI (fcF n) 0 false g _ _ (by omega) (fun w hw => ⟨fun _ => rfl, fun q => Or.inl (by rcases hI w hw with ⟨t, a, c, e⟩ | ⟨_, a⟩; exact absurd (So_le c.1 a) q; exact a)⟩) ⟨fun _ w hw q => by rcases hI w hw with ⟨t, a, c, e⟩ | ⟨_, a⟩; exact absurd (So_le c.1 a) q; exact a, fun q => absurd q (by decide)⟩ (fun v' a => absurd a (by omega)) (fun g1 b1 x y z a1 a2 a3 a4 => ?_)
      cases b1 with
      | false =>
        refine r_iinc (pc' := 173) dX11_measures_170 rfl rfl rfl ?_
        refine r_goto (tgt := 65) dX11_measures_173 rfl ?_
        refine r_iload_n (pc' := 66) dX11_measures_65 rfl rfl ?_
        refine r_if_eq (tgt := 176) (pc' := 69) dX11_measures_66 rfl rfl (by decide) (fun c66 => ?_) (fun c66 => ?_)
        · refine r_aload_n (pc' := 177) dX11_measures_176 rfl rfl ?_
          refine r_iload_n (pc' := 178) dX11_measures_177 rfl rfl ?_
          refine r_putf (pc' := 181) (kI := 20) dX11_measures_178 rfl fX11_52 z166 rfl (Or.inl rfl) rfl rfl ?_
          refine r_retn dX11_measures_181 rfl ?_
          exact h g1 (Inv_end hn (by omega) (Inv_next hn hI a1 a3) a2) a4
        · exact absurd rfl c66
      | true =>
        obtain ⟨w, w1, w2⟩ := a2.2 rfl
        exfalso
        apply w2
        rw [show s = 14 by omega]
        exact LL14 hn w
  | succ j ih =>
    intro s g x y z hj hI h
    refine r_iload_n (pc' := 66) dX11_measures_65 rfl rfl ?_
    refine r_if_eq (tgt := 176) (pc' := 69) dX11_measures_66 rfl rfl (by decide) (fun c66 => ?_) (fun c66 => ?_)
    · exact absurd c66 (by decide)
    · refine r_iconst (pc' := 70) dX11_measures_69 rfl ?_
      refine r_istore_n (pc' := 71) dX11_measures_70 rfl rfl ?_
      refine r_iconst (pc' := 72) dX11_measures_71 rfl ?_
      refine r_istore (pc' := 74) dX11_measures_72 rfl rfl ?_
      refine lm_mesO (g0 := g) hn (by omega) hI (fcF n) 0 false g _ _ (by omega) (fun w hw => ⟨fun _ => rfl, fun q => Or.inl (by rcases hI w hw with ⟨t, a, c, e⟩ | ⟨_, a⟩; exact absurd (So_le c.1 a) q; exact a)⟩) ⟨fun _ w hw q => by rcases hI w hw with ⟨t, a, c, e⟩ | ⟨_, a⟩; exact absurd (So_le c.1 a) q; exact a, fun q => absurd q (by decide)⟩ (fun v' a => absurd a (by omega)) (fun g1 b1 x y z a1 a2 a3 a4 => ?_)
      cases b1 with
      | false =>
        refine r_iinc (pc' := 173) dX11_measures_170 rfl rfl rfl ?_
        refine r_goto (tgt := 65) dX11_measures_173 rfl ?_
        refine r_iload_n (pc' := 66) dX11_measures_65 rfl rfl ?_
        refine r_if_eq (tgt := 176) (pc' := 69) dX11_measures_66 rfl rfl (by decide) (fun c66 => ?_) (fun c66 => ?_)
        · refine r_aload_n (pc' := 177) dX11_measures_176 rfl rfl ?_
          refine r_iload_n (pc' := 178) dX11_measures_177 rfl rfl ?_
          refine r_putf (pc' := 181) (kI := 20) dX11_measures_178 rfl fX11_52 z166 rfl (Or.inl rfl) rfl rfl ?_
          refine r_retn dX11_measures_181 rfl ?_
          exact h g1 (Inv_end hn (by omega) (Inv_next hn hI a1 a3) a2) a4
        · exact absurd rfl c66
      | true =>
        refine r_iinc (pc' := 173) dX11_measures_170 rfl rfl rfl ?_
        refine r_goto (tgt := 65) dX11_measures_173 rfl ?_
        exact ih (s + 1) g1 _ _ _ (by omega) (Inv_next hn hI a1 a3) (fun g' c1 c2 => h g' c1 (FrT.tr a4 c2))
