/-- sorted; sorted by at most t turnings -/
def Idn (n : Nat) (r : Nat → Nat) : Prop := ∀ p, p < n → r p = p
def So (n : Nat) : Nat → (Nat → Nat) → Prop
  | 0, r => Idn n r
  | t + 1, r => So n t r ∨ ∃ k, 2 ≤ k ∧ k ≤ n ∧ So n t (flipN r k)
theorem So_s {n t : Nat} {r : Nat → Nat} (h : So n t r) : So n (t + 1) r := Or.inl h
theorem So_mono {n : Nat} {r : Nat → Nat} {t : Nat} (h : So n t r) : ∀ j, So n (t + j) r
  | 0 => h
  | j + 1 => So_s (So_mono h j)
theorem So_le {n : Nat} {r : Nat → Nat} {t t' : Nat} (h : So n t r) (hl : t ≤ t') : So n t' r := by
  have := So_mono h (t' - t)
  rw [show t + (t' - t) = t' by omega] at this
  exact this
theorem So_k {n t k : Nat} {r : Nat → Nat} (h1 : 2 ≤ k) (h2 : k ≤ n) (h : So n t (flipN r k)) : So n (t + 1) r := Or.inr ⟨k, h1, h2, h⟩
theorem flip_c {n k : Nat} {r r' : Nat → Nat} (hk : k ≤ n) (h : ∀ p, p < n → r p = r' p) : ∀ p, p < n → flipN r k p = flipN r' k p := by
  intro p hp
  unfold flipN
  split
  · exact h _ (by omega)
  · exact h p hp
theorem So_congr {n : Nat} : ∀ (t : Nat) {r r' : Nat → Nat}, (∀ p, p < n → r p = r' p) → So n t r → So n t r'
  | 0, r, r', h, hs => fun p hp => (h p hp).symm.trans (hs p hp)
  | t + 1, r, r', h, hs => by
    rcases hs with hs | ⟨k, h1, h2, h3⟩
    · exact Or.inl (So_congr t h hs)
    · exact Or.inr ⟨k, h1, h2, So_congr t (flip_c h2 h) h3⟩
theorem flip2 (r : Nat → Nat) (k : Nat) : flipN (flipN r k) k = r := by
  funext p
  unfold flipN
  by_cases h : p < k
  · rw [if_pos h, if_pos (by omega)]
    congr 1
    omega
  · rw [if_neg h, if_neg h]
def Pm (n : Nat) (r : Nat → Nat) : Prop := (∀ p, p < n → r p < n) ∧ ∀ p q, p < n → q < n → r p = r q → p = q
theorem Pm_flip {n k : Nat} {r : Nat → Nat} (hk : k ≤ n) (h : Pm n r) : Pm n (flipN r k) := by
  refine ⟨fun p hp => ?_, fun p q hp hq e => ?_⟩
  · unfold flipN
    split
    · exact h.1 _ (by omega)
    · exact h.1 p hp
  · unfold flipN at e
    by_cases a : p < k
    · by_cases b : q < k
      · rw [if_pos a, if_pos b] at e
        have := h.2 _ _ (by omega) (by omega) e
        omega
      · rw [if_pos a, if_neg b] at e
        have := h.2 _ _ (by omega) (by omega) e
        omega
    · by_cases b : q < k
      · rw [if_neg a, if_pos b] at e
        have := h.2 _ _ (by omega) (by omega) e
        omega
      · rw [if_neg a, if_neg b] at e
        exact h.2 _ _ hp hq e
theorem Pm_sur {n : Nat} {r : Nat → Nat} (h : Pm n r) {m : Nat} (hm : m < n) : ∃ j, j < n ∧ r j = m := by
  by_cases hc : ∃ j, j < n ∧ r j = m
  · exact hc
  · exfalso
    have h0 : ((List.range n).map r).Nodup := by
      rw [List.nodup_iff_pairwise_ne, List.pairwise_map]
      refine List.Pairwise.imp_of_mem ?_ (List.nodup_iff_pairwise_ne.mp List.nodup_range)
      intro a b ha hb hab e
      exact hab (h.2 a b (List.mem_range.mp ha) (List.mem_range.mp hb) e)
    have h1 : (m :: (List.range n).map r).Nodup := by
      rw [List.nodup_cons]
      refine ⟨fun q => ?_, h0⟩
      obtain ⟨j, a, b⟩ := List.mem_map.mp q
      exact hc ⟨j, List.mem_range.mp a, b⟩
    have h2 : (m :: (List.range n).map r) ⊆ List.range n := by
      intro y hy
      rw [List.mem_range]
      rcases List.mem_cons.mp hy with e | hy
      · omega
      · obtain ⟨j, a, b⟩ := List.mem_map.mp hy
        rw [← b]
        exact h.1 j (List.mem_range.mp a)
    have h3 := h1.length_le_of_subset h2
    rw [List.length_cons, List.length_map, List.length_range] at h3
    omega
theorem So_ex {n : Nat} : ∀ (m : Nat), m ≤ n → ∀ r, Pm n r → (∀ p, m ≤ p → p < n → r p = p) → So n (2 * m) r
  | 0, _, r, _, h => fun p hp => h p (by omega) hp
  | m + 1, hm, r, hr, h => by
    obtain ⟨j, hj, e⟩ := Pm_sur hr (m := m) (by omega)
    have hjm : j ≤ m := by
      by_cases q : j ≤ m
      · exact q
      · have := h j (by omega) hj
        omega
    by_cases e1 : j = m
    · subst e1
      exact So_le (So_ex j (by omega) r hr (fun p a b => by
        by_cases z : p = j
        · rw [z]; exact e
        · exact h p (by omega) b)) (by omega)
    · have key : ∀ r1, Pm n r1 → r1 0 = m → (∀ p, m + 1 ≤ p → p < n → r1 p = p) → So n (2 * m + 1) r1 := by
        intro r1 hr1 h0 h1
        refine So_k (k := m + 1) (by omega) (by omega) (So_ex m (by omega) _ (Pm_flip (by omega) hr1) (fun p a b => ?_))
        unfold flipN
        by_cases z : p = m
        · rw [if_pos (by omega), show m + 1 - 1 - p = 0 by omega, h0, z]
        · rw [if_neg (by omega)]
          exact h1 p (by omega) b
      by_cases e2 : j = 0
      · subst e2
        exact So_le (key r hr e h) (by omega)
      · have h5 := key (flipN r (j + 1)) (Pm_flip (by omega) hr) (by unfold flipN; rw [if_pos (by omega), show j + 1 - 1 - 0 = j by omega]; exact e) (fun p a b => by unfold flipN; rw [if_neg (by omega)]; exact h p (by omega) b)
        exact So_le (So_k (k := j + 1) (by omega) (by omega) h5) (by omega)
theorem So_14 {n : Nat} (hn : n ≤ 7) {r : Nat → Nat} (h : Pm n r) : So n 14 r := So_le (So_ex n (Nat.le_refl _) r h (fun p a b => by omega)) (by omega)
theorem So_step {n : Nat} : ∀ (t : Nat) {r : Nat → Nat}, So n t r → ¬ Idn n r → ∃ k, 2 ≤ k ∧ k ≤ n ∧ 1 ≤ t ∧ So n (t - 1) (flipN r k)
  | 0, r, h, hn => absurd h hn
  | t + 1, r, h, hn => by
    rcases h with h | ⟨k, h1, h2, h3⟩
    · obtain ⟨k, a, b, c, e⟩ := So_step t h hn
      exact ⟨k, a, b, by omega, So_le e (by omega)⟩
    · exact ⟨k, h1, h2, by omega, h3⟩
-- gaps
theorem gapN_sy (a b : Nat) : gapN a b = gapN b a := by
  unfold gapN
  by_cases h : a = b + 1 ∨ b = a + 1
  · rw [if_pos h, if_pos (by omega)]
  · rw [if_neg h, if_neg (by omega)]
def smI (f : Nat → Int) : Nat → Nat → Int
  | 0, _ => 0
  | k + 1, p => f p + smI f k (p + 1)
theorem gaps_sm (r : Nat → Nat) : ∀ (k p : Nat) (acc : Int), gapsF r k p acc = acc + smI (fun p => gapN (r (p - 1)) (r p)) k p
  | 0, _, acc => by
    show acc = acc + 0
    omega
  | k + 1, p, acc => by
    show gapsF r k (p + 1) (acc + gapN (r (p - 1)) (r p)) = acc + (gapN (r (p - 1)) (r p) + smI (fun p => gapN (r (p - 1)) (r p)) k (p + 1))
    rw [gaps_sm r k]
    omega
theorem sm_add (f : Nat → Int) : ∀ (a b p : Nat), smI f (a + b) p = smI f a p + smI f b (p + a)
  | 0, b, p => by
    rw [Nat.zero_add, Nat.add_zero]
    show _ = 0 + _
    omega
  | a + 1, b, p => by
    rw [show a + 1 + b = (a + b) + 1 by omega]
    show f p + smI f (a + b) (p + 1) = (f p + smI f a (p + 1)) + smI f b (p + (a + 1))
    rw [sm_add f a b (p + 1), show p + 1 + a = p + (a + 1) by omega]
    omega
theorem sm_congr {f f' : Nat → Int} : ∀ (k p q : Nat), (∀ i, i < k → f (p + i) = f' (q + i)) → smI f k p = smI f' k q
  | 0, _, _, _ => rfl
  | k + 1, p, q, h => by
    show f p + smI f k (p + 1) = f' q + smI f' k (q + 1)
    have h0 := h 0 (by omega)
    rw [Nat.add_zero, Nat.add_zero] at h0
    rw [h0, sm_congr k (p + 1) (q + 1) (fun i hi => by
      have := h (i + 1) (by omega)
      rw [show p + 1 + i = p + (i + 1) by omega, show q + 1 + i = q + (i + 1) by omega]
      exact this)]
theorem sm_rev (f : Nat → Int) : ∀ (m p : Nat), smI f m p = smI (fun i => f (p + (m - 1 - i))) m 0
  | 0, _ => rfl
  | m + 1, p => by
    rw [sm_add f m 1 p, sm_rev f m p]
    show _ + (f (p + m) + 0) = f (p + (m + 1 - 1 - 0)) + smI (fun i => f (p + (m + 1 - 1 - i))) m 1
    rw [show m + 1 - 1 - 0 = m by omega, sm_congr (f := fun i => f (p + (m - 1 - i))) (f' := fun i => f (p + (m + 1 - 1 - i))) m 0 1 (fun i hi => by
      congr 2
      omega)]
    omega
theorem sm_z {f : Nat → Int} : ∀ (k p : Nat), (∀ i, i < k → f (p + i) = 0) → smI f k p = 0
  | 0, _, _ => rfl
  | k + 1, p, h => by
    show f p + smI f k (p + 1) = 0
    have h0 := h 0 (by omega)
    rw [Nat.add_zero] at h0
    rw [h0, sm_z k (p + 1) (fun i hi => by
      have := h (i + 1) (by omega)
      rw [show p + 1 + i = p + (i + 1) by omega]
      exact this)]
    rfl
def Gp (n : Nat) (r : Nat → Nat) : Int := gapsF r n 1 0
theorem Gp_flip {n k : Nat} {r : Nat → Nat} (h1 : 2 ≤ k) (h2 : k ≤ n) : Gp n (flipN r k) = gthen r (Gp n r) k := by
  unfold Gp gthen
  rw [gaps_sm, gaps_sm]
  obtain ⟨m, rfl⟩ : ∃ m, k = m + 1 := ⟨k - 1, by omega⟩
  obtain ⟨j, rfl⟩ : ∃ j, n = (m + 1) + j := ⟨n - (m + 1), by omega⟩
  rw [sm_add _ (m + 1) j 1, sm_add _ m 1 1, sm_add _ (m + 1) j 1, sm_add _ m 1 1]
  have e1 : smI (fun p => gapN (flipN r (m + 1) (p - 1)) (flipN r (m + 1) p)) m 1 = smI (fun p => gapN (r (p - 1)) (r p)) m 1 := by
    rw [sm_rev (fun p => gapN (r (p - 1)) (r p)) m 1]
    refine sm_congr m 1 0 (fun i hi => ?_)
    unfold flipN
    rw [if_pos (by omega), if_pos (by omega), gapN_sy]
    congr 2 <;> omega
  have e2 : smI (fun p => gapN (flipN r (m + 1) (p - 1)) (flipN r (m + 1) p)) j (1 + (m + 1)) = smI (fun p => gapN (r (p - 1)) (r p)) j (1 + (m + 1)) := by
    refine sm_congr j _ _ (fun i hi => ?_)
    unfold flipN
    rw [if_neg (by omega), if_neg (by omega)]
  have e3 : smI (fun p => gapN (flipN r (m + 1) (p - 1)) (flipN r (m + 1) p)) 1 (1 + m) = gapN (r 0) (r (m + 1)) := by
    show gapN (flipN r (m + 1) (1 + m - 1)) (flipN r (m + 1) (1 + m)) + 0 = _
    unfold flipN
    rw [if_pos (by omega), if_neg (by omega), show m + 1 - 1 - (1 + m - 1) = 0 by omega, show 1 + m = m + 1 by omega]
    omega
  have e4 : smI (fun p => gapN (r (p - 1)) (r p)) 1 (1 + m) = gapN (r (m + 1 - 1)) (r (m + 1)) := by
    show gapN (r (1 + m - 1)) (r (1 + m)) + 0 = _
    rw [show 1 + m - 1 = m + 1 - 1 by omega, show 1 + m = m + 1 by omega]
    omega
  rw [e1, e2, e3, e4]
  omega
theorem sm_0 {f : Nat → Int} (h0 : ∀ i, 0 ≤ f i) : ∀ (k p : Nat), 0 ≤ smI f k p ∧ (smI f k p = 0 → ∀ i, i < k → f (p + i) = 0)
  | 0, _ => ⟨Int.le_refl _, fun _ i hi => absurd hi (by omega)⟩
  | k + 1, p => by
    have h1 := sm_0 h0 k (p + 1)
    have h2 := h0 p
    refine ⟨by show 0 ≤ f p + smI f k (p + 1); omega, fun h i hi => ?_⟩
    have h : f p + smI f k (p + 1) = 0 := h
    by_cases e : i = 0
    · subst e
      rw [Nat.add_zero]
      omega
    · have := h1.2 (by omega) (i - 1) (by omega)
      rw [show p + 1 + (i - 1) = p + i by omega] at this
      exact this
theorem Gp_0 {n : Nat} {r : Nat → Nat} (hr : Pm n r) (hn : r n = n) : Gp n r = 0 ↔ Idn n r := by
  unfold Gp
  rw [gaps_sm]
  constructor
  · intro h
    have h1 := (sm_0 (f := fun p => gapN (r (p - 1)) (r p)) (fun i => (gapN_b _ _).1) n 1).2 (by omega)
    have h2 : ∀ i, i ≤ n → ∀ j, j ≤ i → r (n - j) = n - j := by
      intro i
      induction i with
      | zero =>
        intro _ j hj
        rw [show j = 0 by omega]
        exact hn
      | succ i ih =>
        intro hi j hj
        have h3 := ih (by omega)
        by_cases hji : j ≤ i
        · exact h3 j hji
        · rw [show j = i + 1 by omega]
          have h4 : gapN (r (1 + (n - i - 1) - 1)) (r (1 + (n - i - 1))) = 0 := h1 (n - i - 1) (by omega)
          rw [show 1 + (n - i - 1) - 1 = n - (i + 1) by omega, show 1 + (n - i - 1) = n - i by omega, h3 i (by omega)] at h4
          have hb := hr.1 (n - (i + 1)) (by omega)
          unfold gapN at h4
          by_cases q : r (n - (i + 1)) = n - i + 1 ∨ n - i = r (n - (i + 1)) + 1
          · rcases q with q | q
            · exfalso
              by_cases z : i ≤ 1
              · omega
              · have h5 := h3 (i - 1) (by omega)
                have := hr.2 (n - (i + 1)) (n - (i - 1)) (by omega) (by omega) (by omega)
                omega
            · omega
          · rw [if_neg q] at h4
            exact absurd h4 (by decide)
    intro p hp
    have := h2 n (Nat.le_refl _) (n - p) (by omega)
    rw [show n - (n - p) = p by omega] at this
    exact this
  · intro h
    rw [sm_z n 1 (fun i hi => by
      show gapN (r (1 + i - 1)) (r (1 + i)) = 0
      have a := h i hi
      have b : r (1 + i) = 1 + i := by
        by_cases z : 1 + i < n
        · exact h _ z
        · rw [show 1 + i = n by omega]
          exact hn
      rw [show 1 + i - 1 = i by omega, a, b]
      unfold gapN
      rw [if_pos (by omega)])]
    rfl
theorem Gp_nn (n : Nat) (r : Nat → Nat) : 0 ≤ Gp n r := (gapsF_b r n 1 0).1
theorem flip_n {n k : Nat} {r : Nat → Nat} (hk : k ≤ n) (h : r n = n) : flipN r k n = n := by
  unfold flipN
  rw [if_neg (by omega)]
  exact h
theorem Gp_So {n : Nat} : ∀ (t : Nat) {r : Nat → Nat}, Pm n r → r n = n → So n t r → Gp n r ≤ t
  | 0, r, hr, hn, h => by
    rw [(Gp_0 hr hn).mpr h]
    exact Int.le_refl _
  | t + 1, r, hr, hn, h => by
    rcases h with h | ⟨k, h1, h2, h3⟩
    · have := Gp_So t hr hn h
      omega
    · have := Gp_So t (Pm_flip h2 hr) (flip_n h2 hn) h3
      rw [Gp_flip h1 h2] at this
      unfold gthen at this
      have a := gapN_b (r (k - 1)) (r k)
      have b := gapN_b (r 0) (r k)
      omega
/-- x is the least turning behind which l more suffice, or -1 -/
def FW (n l : Nat) (r : Nat → Nat) (x : Int) : Prop := (x = -1 ∧ ∀ k, 2 ≤ k → k ≤ n → ¬ So n l (flipN r k)) ∨ ∃ k : Nat, x = (k : Int) ∧ 2 ≤ k ∧ k ≤ n ∧ So n l (flipN r k) ∧ ∀ k', 2 ≤ k' → k' < k → ¬ So n l (flipN r k')
theorem FW_uniq {n l : Nat} {r : Nat → Nat} {x y : Int} (hx : FW n l r x) (hy : FW n l r y) : x = y := by
  rcases hx with ⟨a, b⟩ | ⟨k, a, b, c, e, f⟩
  · rcases hy with ⟨a', b'⟩ | ⟨k', a', b', c', e', f'⟩
    · omega
    · exact absurd e' (b k' b' c')
  · rcases hy with ⟨a', b'⟩ | ⟨k', a', b', c', e', f'⟩
    · exact absurd e (b' k b c)
    · rcases Nat.lt_trichotomy k k' with h | h | h
      · exact absurd e (f' k b h)
      · omega
      · exact absurd e' (f k' b' h)
theorem fwin_FW {n l : Nat} {sub : (Nat → Nat) → Int → Int} {r : Nat → Nat} {gaps left : Int} (hc : ∀ k, 2 ≤ k → k ≤ n → ((gthen r gaps k = 0 ∨ (gthen r gaps k < left ∧ sub (flipN r k) (gthen r gaps k) ≠ -1)) ↔ So n l (flipN r k))) : ∀ (j k : Nat), 2 ≤ k → (j + k = n + 1 ∨ (j = 0 ∧ n < k)) → (∀ k', 2 ≤ k' → k' < k → ¬ So n l (flipN r k')) → FW n l r (fwin sub r gaps left j k)
  | 0, k, h2, hj, hp => Or.inl ⟨rfl, fun k' a b => hp k' a (by omega)⟩
  | j + 1, k, h2, hj, hp => by
    have hk := hc k h2 (by omega)
    unfold fwin
    by_cases a : gthen r gaps k = 0
    · rw [if_pos a]
      exact Or.inr ⟨k, rfl, h2, by omega, hk.mp (Or.inl a), hp⟩
    · rw [if_neg a]
      by_cases b : gthen r gaps k < left ∧ sub (flipN r k) (gthen r gaps k) ≠ -1
      · rw [if_pos b]
        exact Or.inr ⟨k, rfl, h2, by omega, hk.mp (Or.inr b), hp⟩
      · rw [if_neg b]
        refine fwin_FW hc j (k + 1) (by omega) (by omega) (fun k' x y => ?_)
        by_cases z : k' = k
        · rw [z]
          intro q
          rcases hk.mpr q with q | q
          · exact a q
          · exact b q
        · exact hp k' x (by omega)
theorem fwR_FW {n : Nat} : ∀ (l : Nat) {r : Nat → Nat}, Pm n r → r n = n → FW n l r (fwR n (l + 1) r (Gp n r))
  | l, r, hr, hn => by
    show FW n l r (fwin (fwR n l) r (Gp n r) ((l + 1 : Nat) : Int) (n - 1) 2)
    refine fwin_FW (fun k h1 h2 => ?_) (n - 1) 2 (by omega) (by omega) (fun k' a b => by omega)
    have hr' := Pm_flip h2 hr
    have hn' := flip_n h2 hn
    rw [← Gp_flip h1 h2]
    have h0 := Gp_0 hr' hn'
    constructor
    · rintro (q | ⟨q1, q2⟩)
      · exact So_le (t := 0) (h0.mp q) (by omega)
      · cases l with
        | zero => exact absurd rfl q2
        | succ l =>
          rcases fwR_FW l hr' hn' with ⟨a, _⟩ | ⟨k', a, b, c, e, _⟩
          · exact absurd a q2
          · exact So_k b c e
    · intro hs
      by_cases hid : Idn n (flipN r k)
      · exact Or.inl (h0.mpr hid)
      · right
        have hle := Gp_So l hr' hn' hs
        refine ⟨by omega, ?_⟩
        obtain ⟨k', a, b, c, e⟩ := So_step l hs hid
        cases l with
        | zero => omega
        | succ l =>
          rcases fwR_FW l hr' hn' with ⟨_, z⟩ | ⟨k2, z, y, _⟩
          · exact absurd e (z k' a b)
          · omega
/-- t is the least -/
def isDr (n : Nat) (r : Nat → Nat) (t : Nat) : Prop := So n t r ∧ ∀ t', t' < t → ¬ So n t' r
theorem isDr_uniq {n : Nat} {r : Nat → Nat} {t t' : Nat} (h : isDr n r t) (h' : isDr n r t') : t = t' := by
  rcases Nat.lt_trichotomy t t' with q | q | q
  · exact absurd h.1 (h'.2 t q)
  · exact q
  · exact absurd h'.1 (h.2 t' q)
theorem fsF_D {n : Nat} {r : Nat → Nat} (hr : Pm n r) (hn : r n = n) (hid : ¬ Idn n r) (h14 : So n 14 r) : ∀ (k t : Nat), t + k = 15 → 1 ≤ t → (∀ t', t' < t → ¬ So n t' r) → ∃ x : Nat, fsF n r (Gp n r) k t = (x : Int) ∧ 1 ≤ x ∧ isDr n r x
  | 0, t, h1, h2, hp => absurd h14 (hp 14 (by omega))
  | k + 1, t, h1, h2, hp => by
    obtain ⟨m, rfl⟩ : ∃ m, t = m + 1 := ⟨t - 1, by omega⟩
    unfold fsF
    have hf := fwR_FW m hr hn
    by_cases q : fwR n (m + 1) r (Gp n r) = -1
    · rw [if_pos q]
      refine fsF_D hr hn hid h14 k (m + 1 + 1) (by omega) (by omega) (fun t' ht hs => ?_)
      by_cases z : t' = m + 1
      · subst z
        obtain ⟨k', a, b, c, e⟩ := So_step _ hs hid
        rcases hf with ⟨_, y⟩ | ⟨k2, y, yy, _⟩
        · exact y k' a b e
        · omega
      · exact hp t' (by omega) hs
    · rw [if_neg q]
      rcases hf with ⟨y, _⟩ | ⟨k2, y, y1, y2, y3, _⟩
      · exact absurd y q
      · exact ⟨m + 1, rfl, by omega, So_k y1 y2 y3, hp⟩
theorem few_D {n : Nat} (h7 : n ≤ 7) {r : Nat → Nat} (hr : Pm n r) (hn : r n = n) : ∃ x : Nat, fewN n r = (x : Int) ∧ isDr n r x := by
  have h0 := Gp_0 hr hn
  unfold fewN
  by_cases q : gapsF r n 1 0 = 0
  · rw [if_pos q]
    exact ⟨0, rfl, h0.mp q, fun t' ht => absurd ht (by omega)⟩
  · rw [if_neg q]
    have hg := Gp_nn n r
    have h14 := So_14 h7 hr
    have hle := Gp_So 14 hr hn h14
    have e : Gp n r = gapsF r n 1 0 := rfl
    obtain ⟨x, a, _, b⟩ := fsF_D hr hn (fun z => q (h0.mpr z)) h14 (15 - (gapsF r n 1 0).toNat) (gapsF r n 1 0).toNat (by omega) (by omega) (fun t' ht hs => by
      have := Gp_So t' hr hn hs
      omega)
    exact ⟨x, a, b⟩
theorem ft_FW {n : Nat} (h7 : n ≤ 7) {r : Nat → Nat} (hr : Pm n r) (hn : r n = n) {x : Nat} (hx : isDr n r x) : ftN n r = -1 ∧ x = 0 ∨ 1 ≤ x ∧ FW n (x - 1) r (ftN n r) := by
  obtain ⟨y, a, b⟩ := few_D h7 hr hn
  have e := isDr_uniq hx b
  subst e
  unfold ftN
  rw [a]
  by_cases q : x = 0
  · left
    subst q
    exact ⟨if_neg (by decide), rfl⟩
  · right
    rw [if_pos (by omega), show ((x : Int)).toNat = (x - 1) + 1 by omega]
    exact ⟨by omega, fwR_FW (x - 1) hr hn⟩
