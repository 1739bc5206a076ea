/-! The same colours, told in order. -/
section GF
theorem gS_ind : ∀ {n k : Nat}, k ≤ n → gS (fun i => if i < k then 1 else 0) n = k
  | 0, k, h => by
    have : k = 0 := by omega
    rw [this]; rfl
  | n + 1, k, h => by
    simp only [gS]
    by_cases e : k = n + 1
    · subst e
      have := gS_ind (n := n) (k := n) (Nat.le_refl n)
      have e2 : gS (fun i => if i < n + 1 then 1 else 0) n = gS (fun i => if i < n then 1 else 0) n := gS_eq (fun i hi => by rw [if_pos (by omega), if_pos hi])
      rw [e2, this, if_pos (Nat.lt_succ_self n)]
    · rw [gS_ind (n := n) (by omega), if_neg (by omega), Nat.add_zero]
theorem gS_cum {a : Nat → Nat} {x n : Nat} : gS (fun i => if a i ≤ x then 1 else 0) n = gS (fun y => gS (fun i => if a i = y then 1 else 0) n) (x + 1) := by
  rw [← gS_comm]
  apply gS_eq
  intro i _
  by_cases e : a i ≤ x
  · rw [if_pos e]
    have : gS (fun y => if a i = y then 1 else 0) (x + 1) = gS (fun y => if y = a i then 1 else 0) (x + 1) := gS_eq (fun y _ => by
      by_cases q : a i = y
      · rw [if_pos q, if_pos q.symm]
      · rw [if_neg q, if_neg (fun z => q z.symm)])
    rw [this, gS_one (by omega)]
  · rw [if_neg e]
    have : gS (fun y => if a i = y then 1 else 0) (x + 1) = gS (fun _ => 0) (x + 1) := gS_eq (fun y hy => if_neg (by omega))
    rw [this]
    have z : ∀ k, gS (fun _ => 0) k = 0 := by
      intro k
      induction k with
      | zero => rfl
      | succ k ih => simp only [gS, ih]
    exact (z _).symm
theorem g_rise_half {a b : Nat → Nat} {n p : Nat} (hp : p < n) (ha : ∀ i j, i < j → j < n → a i ≤ a j) (hb : ∀ i j, i < j → j < n → b i ≤ b j) (h4 : ∀ i, i < n → a i < 4) (e : ∀ x, x < 4 → gS (fun i => if a i = x then 1 else 0) n = gS (fun i => if b i = x then 1 else 0) n) : ¬ a p < b p := by
  intro hlt
  have c1 := gS_cum (a := a) (x := a p) (n := n)
  have c2 := gS_cum (a := b) (x := a p) (n := n)
  have h5 := h4 p hp
  have c3 : gS (fun y => gS (fun i => if a i = y then 1 else 0) n) (a p + 1) = gS (fun y => gS (fun i => if b i = y then 1 else 0) n) (a p + 1) := gS_eq (fun y hy => e y (by omega))
  have d1 := gS_mono (f := fun i => if i < p + 1 then 1 else 0) (g := fun i => if a i ≤ a p then 1 else 0) (k := n) (fun i hi => by
    by_cases q : i < p + 1
    · rw [if_pos q]
      have : a i ≤ a p := by
        by_cases z : i = p
        · rw [z]; exact Nat.le_refl _
        · exact ha i p (by omega) hp
      rw [if_pos this]
      exact Nat.le_refl _
    · rw [if_neg q]; exact Nat.zero_le _)
  rw [gS_ind (by omega)] at d1
  have d2 := gS_mono (f := fun i => if b i ≤ a p then 1 else 0) (g := fun i => if i < p then 1 else 0) (k := n) (fun i hi => by
    by_cases q : i < p
    · rw [if_pos q]; split <;> omega
    · rw [if_neg q]
      have : ¬ b i ≤ a p := by
        by_cases z : i = p
        · rw [z]; omega
        · have := hb p i (by omega) hi
          omega
      rw [if_neg this]
      exact Nat.le_refl _)
  rw [gS_ind (by omega)] at d2
  omega
theorem gSame {n n' : Nat} {cc nb cc' nb' r r' : Nat → Nat} (h : gOk n cc nb) (h' : gOk n' cc' nb') (hr : gRi n cc r) (hr' : gRi n' cc' r') : (∀ x, x < 4 → gNc cc n x = gNc cc' n' x) ↔ n = n' ∧ ∀ p, p < n → cc (r p) = cc' (r' p) := by
  have k1 : ∀ x, gNc cc n x = gS (fun i => if cc (r i) = x then 1 else 0) n := fun x => by
    rw [gNc_S h.1]; exact (gS_perm n r (fun i => if cc i = x then 1 else 0) hr.1).symm
  have k2 : ∀ x, gNc cc' n' x = gS (fun i => if cc' (r' i) = x then 1 else 0) n' := fun x => by
    rw [gNc_S h'.1]; exact (gS_perm n' r' (fun i => if cc' i = x then 1 else 0) hr'.1).symm
  constructor
  · intro e
    have enn := gNc_n h h' e
    subst enn
    refine ⟨rfl, fun p hp => ?_⟩
    have e' : ∀ x, x < 4 → gS (fun i => if cc (r i) = x then 1 else 0) n = gS (fun i => if cc' (r' i) = x then 1 else 0) n := fun x hx => by rw [← k1, ← k2]; exact e x hx
    have a := g_rise_half (a := fun i => cc (r i)) (b := fun i => cc' (r' i)) hp hr.2 hr'.2 (fun i hi => (h.2 _ (hr.1.1 i hi)).1) e'
    have b := g_rise_half (a := fun i => cc' (r' i)) (b := fun i => cc (r i)) hp hr'.2 hr.2 (fun i hi => (h'.2 _ (hr'.1.1 i hi)).1) (fun x hx => (e' x hx).symm)
    try dsimp only at a b
    omega
  · rintro ⟨rfl, e⟩ x _
    rw [k1, k2]
    exact gS_eq (fun i hi => by rw [e i hi])
end GF
