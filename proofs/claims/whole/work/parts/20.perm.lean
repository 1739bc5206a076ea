/-! Rows of the numbers below n, their order, the next one. -/
section GPA
def gp_pm (n : Nat) (p : Nat → Nat) : Prop := (∀ i, i < n → p i < n) ∧ ∀ i j, i < n → j < n → p i = p j → i = j
def gp_eq (n : Nat) (p q : Nat → Nat) : Prop := ∀ i, i < n → p i = q i
def gp_lt (n : Nat) (p q : Nat → Nat) : Prop := ∃ k, k < n ∧ (∀ i, i < k → p i = q i) ∧ p k < q k
theorem gp_sur : ∀ (n : Nat) (p : Nat → Nat), gp_pm n p → ∀ y, y < n → ∃ x, x < n ∧ p x = y
  | 0, _, _, y, hy => absurd hy (Nat.not_lt_zero y)
  | n + 1, p, ⟨h1, h2⟩, y, hy => by
    have ha : p n < n + 1 := h1 n (Nat.lt_succ_self n)
    by_cases e : p n = n
    · have hp : gp_pm n p := by
        refine ⟨fun i hi => ?_, fun i j hi hj q => h2 i j (by omega) (by omega) q⟩
        have := h1 i (by omega)
        have : p i ≠ n := fun q => by
          have := h2 i n (by omega) (by omega) (q.trans e.symm)
          omega
        omega
      by_cases ey : y = n
      · exact ⟨n, by omega, e.trans ey.symm⟩
      · obtain ⟨x, hx, q⟩ := gp_sur n p hp y (by omega)
        exact ⟨x, by omega, q⟩
    · have hp : gp_pm n (fun i => if p i = n then p n else p i) := by
        refine ⟨fun i hi => ?_, fun i j hi hj q => ?_⟩
        · show (if p i = n then p n else p i) < n
          split
          · omega
          · have := h1 i (by omega)
            omega
        · have q' : (if p i = n then p n else p i) = (if p j = n then p n else p j) := q
          by_cases a : p i = n <;> by_cases b : p j = n
          · exact h2 i j (by omega) (by omega) (a.trans b.symm)
          · rw [if_pos a, if_neg b] at q'
            have := h2 n j (by omega) (by omega) q'
            omega
          · rw [if_neg a, if_pos b] at q'
            have := h2 i n (by omega) (by omega) q'
            omega
          · rw [if_neg a, if_neg b] at q'
            exact h2 i j (by omega) (by omega) q'
      have key : ∀ z, z < n → ∃ x, x < n ∧ (if p x = n then p n else p x) = z := gp_sur n _ hp
      by_cases ey : y = n
      · obtain ⟨x, hx, q⟩ := key (p n) (by omega)
        by_cases a : p x = n
        · exact ⟨x, by omega, a.trans ey.symm⟩
        · rw [if_neg a] at q
          have := h2 x n (by omega) (by omega) q
          omega
      · obtain ⟨x, hx, q⟩ := key y (by omega)
        by_cases a : p x = n
        · rw [if_pos a] at q
          exact ⟨n, by omega, q⟩
        · rw [if_neg a] at q
          exact ⟨x, by omega, q⟩
theorem gp_inv {n : Nat} {p : Nat → Nat} (h : gp_pm n p) : ∃ q, gp_pm n q ∧ (∀ i, i < n → q (p i) = i) ∧ ∀ i, i < n → p (q i) = i := by
  have hs : ∀ y, ∃ x, y < n → x < n ∧ p x = y := by
    intro y
    by_cases hy : y < n
    · obtain ⟨x, h1, h2⟩ := gp_sur n p h y hy
      exact ⟨x, fun _ => ⟨h1, h2⟩⟩
    · exact ⟨0, fun q => absurd q hy⟩
  obtain ⟨q, hq⟩ := Classical.axiomOfChoice hs
  refine ⟨q, ⟨fun i hi => (hq i hi).1, fun i j hi hj e => ?_⟩, fun i hi => ?_, fun i hi => (hq i hi).2⟩
  · rw [← (hq i hi).2, ← (hq j hj).2, e]
  · exact h.2 _ _ (hq (p i) (h.1 i hi)).1 hi (hq (p i) (h.1 i hi)).2
theorem gp_comp {n : Nat} {p q : Nat → Nat} (h : gp_pm n p) (k : gp_pm n q) : gp_pm n (fun i => p (q i)) :=
  ⟨fun i hi => h.1 _ (k.1 i hi), fun i j hi hj e => k.2 i j hi hj (h.2 _ _ (k.1 i hi) (k.1 j hj) e)⟩
theorem gp_id (n : Nat) : gp_pm n (fun i => i) := ⟨fun _ h => h, fun _ _ _ _ h => h⟩
theorem gp_pm_eq {n : Nat} {p q : Nat → Nat} (e : gp_eq n p q) (h : gp_pm n p) : gp_pm n q :=
  ⟨fun i hi => by rw [← e i hi]; exact h.1 i hi, fun i j hi hj k => h.2 i j hi hj (by rw [e i hi, e j hj]; exact k)⟩
theorem gp_first : ∀ (n : Nat) (p q : Nat → Nat), gp_eq n p q ∨ ∃ k, k < n ∧ (∀ i, i < k → p i = q i) ∧ p k ≠ q k
  | 0, _, _ => Or.inl (fun i hi => absurd hi (Nat.not_lt_zero i))
  | n + 1, p, q => by
    rcases gp_first n p q with h | ⟨k, h1, h2, h3⟩
    · by_cases e : p n = q n
      · refine Or.inl (fun i hi => ?_)
        by_cases ei : i = n
        · rw [ei]; exact e
        · exact h i (by omega)
      · exact Or.inr ⟨n, by omega, h, e⟩
    · exact Or.inr ⟨k, by omega, h2, h3⟩
theorem gp_tri (n : Nat) (p q : Nat → Nat) : gp_lt n p q ∨ gp_eq n p q ∨ gp_lt n q p := by
  rcases gp_first n p q with h | ⟨k, h1, h2, h3⟩
  · exact Or.inr (Or.inl h)
  · rcases Nat.lt_or_gt_of_ne h3 with h | h
    · exact Or.inl ⟨k, h1, h2, h⟩
    · exact Or.inr (Or.inr ⟨k, h1, fun i hi => (h2 i hi).symm, h⟩)
theorem gp_irr {n : Nat} {p q : Nat → Nat} (e : gp_eq n p q) (h : gp_lt n p q) : False := by
  obtain ⟨k, h1, h2, h3⟩ := h
  have := e k h1
  omega
theorem gp_asym {n : Nat} {p q : Nat → Nat} (h : gp_lt n p q) (k : gp_lt n q p) : False := by
  obtain ⟨a, h1, h2, h3⟩ := h
  obtain ⟨b, k1, k2, k3⟩ := k
  rcases Nat.lt_trichotomy a b with e | e | e
  · have := k2 a e; omega
  · subst e; omega
  · have := h2 b e; omega
theorem gp_trans {n : Nat} {p q r : Nat → Nat} (h : gp_lt n p q) (k : gp_lt n q r) : gp_lt n p r := by
  obtain ⟨a, h1, h2, h3⟩ := h
  obtain ⟨b, k1, k2, k3⟩ := k
  rcases Nat.lt_trichotomy a b with e | e | e
  · exact ⟨a, h1, fun i hi => (h2 i hi).trans (k2 i (by omega)), by rw [← k2 a e]; exact h3⟩
  · subst e
    exact ⟨a, h1, fun i hi => (h2 i hi).trans (k2 i hi), Nat.lt_trans h3 k3⟩
  · exact ⟨b, k1, fun i hi => (h2 i (by omega)).trans (k2 i hi), by rw [h2 b e]; exact k3⟩
theorem gp_lt_l {n : Nat} {p p' q : Nat → Nat} (e : gp_eq n p p') (h : gp_lt n p q) : gp_lt n p' q := by
  obtain ⟨a, h1, h2, h3⟩ := h
  exact ⟨a, h1, fun i hi => by rw [← e i (by omega)]; exact h2 i hi, by rw [← e a h1]; exact h3⟩
theorem gp_lt_r {n : Nat} {p q q' : Nat → Nat} (e : gp_eq n q q') (h : gp_lt n p q) : gp_lt n p q' := by
  obtain ⟨a, h1, h2, h3⟩ := h
  exact ⟨a, h1, fun i hi => by rw [← e i (by omega)]; exact h2 i hi, by rw [← e a h1]; exact h3⟩
/-- falling from behind i on -/
theorem gp_fall {n i : Nat} {r : Nat → Nat} (h : ∀ k, i < k → k + 1 < n → r (k + 1) < r k) : ∀ m k, i < k → k < m → m < n → r m < r k
  | 0, k, _, h2, _ => absurd h2 (Nat.not_lt_zero k)
  | m + 1, k, h1, h2, h3 => by
    have h4 := h m (by omega) h3
    by_cases e : k = m
    · subst e; exact h4
    · have := gp_fall h m k h1 (by omega) (by omega)
      omega
theorem gp_rise {n i : Nat} {r : Nat → Nat} (h : ∀ k, i < k → k + 1 < n → r k < r (k + 1)) : ∀ m k, i < k → k < m → m < n → r k < r m
  | 0, k, _, h2, _ => absurd h2 (Nat.not_lt_zero k)
  | m + 1, k, h1, h2, h3 => by
    have h4 := h m (by omega) h3
    by_cases e : k = m
    · subst e; exact h4
    · have := gp_rise h m k h1 (by omega) (by omega)
      omega
/-- where two rows part, the one's number stands later in the other -/
theorem gp_later {n k : Nat} {r q : Nat → Nat} (hr : gp_pm n r) (hq : gp_pm n q) (hk : k < n) (e : ∀ i, i < k → r i = q i) : ∃ m, k ≤ m ∧ m < n ∧ r m = q k := by
  obtain ⟨m, h1, h2⟩ := gp_sur n r hr (q k) (hq.1 k hk)
  refine ⟨m, ?_, h1, h2⟩
  rcases Nat.lt_or_ge m k with h | h
  · have := hq.2 m k (by omega) hk ((e m h).symm.trans h2)
    omega
  · exact h
/-- the last row -/
theorem gp_last {n : Nat} {r q : Nat → Nat} (hr : gp_pm n r) (hq : gp_pm n q) (h : ∀ k, k + 1 < n → r (k + 1) < r k) : ¬ gp_lt n r q := by
  rintro ⟨k, h1, h2, h3⟩
  obtain ⟨m, a, b, c⟩ := gp_later hr hq h1 h2
  by_cases e : k = m
  · subst e; omega
  · have := gp_fall (r := fun x => r (x - 1)) (n := n + 1) (i := 0) (fun x hx hx2 => by
      have := h (x - 1) (by omega)
      rw [show x - 1 + 1 = x by omega] at this
      exact this) (m + 1) (k + 1) (by omega) (by omega) (by omega)
    simp only [Nat.add_sub_cancel] at this
    omega
/-- r' is r with i and j changed and what stands behind i turned round -/
def gp_nx (n i j : Nat) (r r' : Nat → Nat) : Prop :=
  i + 1 < n ∧ r i < r (i + 1) ∧ (∀ k, i < k → k + 1 < n → r (k + 1) < r k) ∧ i < j ∧ j < n ∧ r i < r j ∧ (∀ k, j < k → k < n → r k < r i) ∧
  (∀ k, k < i → r' k = r k) ∧ r' i = r j ∧ ∀ k, i < k → k < n → r' k = (if n + i - k = j then r i else r (n + i - k))
theorem gp_nx_pm {n i j : Nat} {r r' : Nat → Nat} (hr : gp_pm n r) (h : gp_nx n i j r r') : gp_pm n r' := by
  obtain ⟨h1, h2, h3, h4, h5, h6, h7, h8, h9, h10⟩ := h
  let s : Nat → Nat := fun k => if k < i then k else if k = i then j else if n + i - k = j then i else n + i - k
  have hs : gp_pm n s := by
    refine ⟨fun k hk => ?_, fun a b ha hb e => ?_⟩
    · show (if k < i then k else if k = i then j else if n + i - k = j then i else n + i - k) < n
      split
      · omega
      · split
        · omega
        · split <;> omega
    · have e' : (if a < i then a else if a = i then j else if n + i - a = j then i else n + i - a) = (if b < i then b else if b = i then j else if n + i - b = j then i else n + i - b) := e
      split at e' <;> split at e' <;> (try split at e') <;> (try split at e') <;> (try split at e') <;> (try split at e') <;> omega
  refine gp_pm_eq (fun k hk => ?_) (gp_comp hr hs)
  show r (if k < i then k else if k = i then j else if n + i - k = j then i else n + i - k) = r' k
  by_cases a : k < i
  · rw [if_pos a, h8 k a]
  · rw [if_neg a]
    by_cases b : k = i
    · rw [if_pos b, b, h9]
    · rw [if_neg b, h10 k (by omega) hk]
      split <;> rfl
theorem gp_nx_lt {n i j : Nat} {r r' : Nat → Nat} (h : gp_nx n i j r r') : gp_lt n r r' := by
  obtain ⟨h1, h2, h3, h4, h5, h6, h7, h8, h9, h10⟩ := h
  exact ⟨i, by omega, fun k hk => (h8 k hk).symm, by rw [h9]; exact h6⟩
theorem gp_nx_rise {n i j : Nat} {r r' : Nat → Nat} (h : gp_nx n i j r r') : ∀ k, i < k → k + 1 < n → r' k < r' (k + 1) := by
  obtain ⟨h1, h2, h3, h4, h5, h6, h7, h8, h9, h10⟩ := h
  intro k hk hk2
  rw [h10 k hk (by omega), h10 (k + 1) (by omega) hk2]
  have hf := gp_fall h3
  by_cases a : n + i - k = j
  · rw [if_pos a, if_neg (by omega)]
    have h11 : n + i - (k + 1) < j := by omega
    have := hf j (n + i - (k + 1)) (by omega) h11 h5
    omega
  · rw [if_neg a]
    by_cases b : n + i - (k + 1) = j
    · rw [if_pos b]
      exact h7 _ (by omega) (by omega)
    · rw [if_neg b]
      exact hf _ _ (by omega) (by omega) (by omega)
/-- nothing stands between a row and the next -/
theorem gp_nx_next {n i j : Nat} {r r' q : Nat → Nat} (hr : gp_pm n r) (hq : gp_pm n q) (h : gp_nx n i j r r') (a : gp_lt n r q) (b : gp_lt n q r') : False := by
  have hr' := gp_nx_pm hr h
  have hri := gp_rise (gp_nx_rise h)
  obtain ⟨h1, h2, h3, h4, h5, h6, h7, h8, h9, h10⟩ := h
  have hf := gp_fall h3
  obtain ⟨k, a1, a2, a3⟩ := a
  obtain ⟨k', b1, b2, b3⟩ := b
  rcases Nat.lt_trichotomy k i with e | e | e
  · rcases Nat.lt_trichotomy k' k with e' | e' | e'
    · have := a2 k' e'; have := h8 k' (by omega); omega
    · subst e'; have := h8 k' e; omega
    · have := b2 k e'; have := h8 k e; omega
  · subst e
    obtain ⟨m, c1, c2, c3⟩ := gp_later hr hq a1 a2
    have hm : k < m := by
      rcases Nat.lt_or_ge k m with z | z
      · exact z
      · have : m = k := by omega
        subst this; omega
    have hmj : m ≤ j := by
      rcases Nat.lt_or_ge j m with z | z
      · have := h7 m z c2; omega
      · exact z
    have hge : r j ≤ q k := by
      rw [← c3]
      by_cases z : m = j
      · rw [z]; exact Nat.le_refl _
      · exact Nat.le_of_lt (hf j m hm (by omega) h5)
    rcases Nat.lt_trichotomy k' k with e' | e' | e'
    · have := a2 k' e'; have := h8 k' e'; omega
    · subst e'; omega
    · obtain ⟨m', d1, d2, d3⟩ := gp_later hr' hq b1 (fun x hx => (b2 x hx).symm)
      by_cases z : k' = m'
      · subst z; omega
      · have := hri m' k' e' (by omega) d2
        omega
  · obtain ⟨m, c1, c2, c3⟩ := gp_later hr hq a1 a2
    by_cases z : k = m
    · subst z; omega
    · have := hf m k e (by omega) c2
      omega
end GPA
