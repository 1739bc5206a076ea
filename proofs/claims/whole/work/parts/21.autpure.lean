/-! Laying a graph onto itself: what is so whatever the machine. -/
section GA
/-- a graph: vertices below n, colours, masks of neighbours -/
def gOk (n : Nat) (cc nb : Nat → Nat) : Prop := n ≤ 7 ∧ ∀ i, i < n → cc i < 4 ∧ nb i < 2 ^ n ∧ (nb i).testBit i = false ∧ ∀ j, j < n → (nb i).testBit j = (nb j).testBit i
/-- f lays the graph onto itself -/
def gAu (n : Nat) (cc nb : Nat → Nat) (f : Nat → Nat) : Prop := gp_pm n f ∧ (∀ i, i < n → cc (f i) = cc i) ∧ ∀ i j, i < n → j < n → (nb (f i)).testBit (f j) = (nb i).testBit j
theorem gAu_id (n : Nat) (cc nb : Nat → Nat) : gAu n cc nb (fun i => i) := ⟨gp_id n, fun _ _ => rfl, fun _ _ _ _ => rfl⟩
theorem gAu_comp {n : Nat} {cc nb f g : Nat → Nat} (hf : gAu n cc nb f) (hg : gAu n cc nb g) : gAu n cc nb (fun i => f (g i)) :=
  ⟨gp_comp hf.1 hg.1, fun i hi => (hf.2.1 _ (hg.1.1 i hi)).trans (hg.2.1 i hi), fun i j hi hj => (hf.2.2 _ _ (hg.1.1 i hi) (hg.1.1 j hj)).trans (hg.2.2 i j hi hj)⟩
theorem gAu_inv {n : Nat} {cc nb f g : Nat → Nat} (hf : gAu n cc nb f) (hg : gp_pm n g) (e : ∀ i, i < n → f (g i) = i) : gAu n cc nb g := by
  refine ⟨hg, fun i hi => ?_, fun i j hi hj => ?_⟩
  · rw [← hf.2.1 _ (hg.1 i hi), e i hi]
  · rw [← hf.2.2 _ _ (hg.1 i hi) (hg.1 j hj), e i hi, e j hj]
theorem gS_eq {f g : Nat → Nat} : ∀ {k : Nat}, (∀ i, i < k → f i = g i) → gS f k = gS g k
  | 0, _ => rfl
  | k + 1, h => by
    simp only [gS]
    rw [gS_eq (fun i hi => h i (by omega)), h k (Nat.lt_succ_self k)]
theorem gS_swap {g : Nat → Nat} {a v : Nat} : ∀ {k : Nat}, a < k → gS (fun y => if y = a then v else g y) k + g a = gS g k + v
  | 0, h => absurd h (Nat.not_lt_zero a)
  | k + 1, h => by
    simp only [gS]
    by_cases e : a = k
    · subst e
      have : gS (fun y => if y = a then v else g y) a = gS g a := gS_eq (fun i hi => if_neg (by omega))
      rw [this, if_pos rfl]
      omega
    · have := gS_swap (g := g) (a := a) (v := v) (k := k) (by omega)
      rw [if_neg (fun q => e q.symm)]
      omega
theorem gS_perm : ∀ (n : Nat) (p g : Nat → Nat), gp_pm n p → gS (fun i => g (p i)) n = gS g n
  | 0, _, _, _ => rfl
  | n + 1, p, g, ⟨h1, h2⟩ => by
    have ha : p n < n + 1 := h1 n (Nat.lt_succ_self n)
    by_cases e : p n = n
    · have hp : gp_pm n p := by
        refine ⟨fun i hi => ?_, fun i j hi hj q => h2 i j (by omega) (by omega) q⟩
        have := h1 i (by omega)
        have : p i ≠ n := fun q => by
          have := h2 i n (by omega) (by omega) (q.trans e.symm)
          omega
        omega
      simp only [gS]
      rw [gS_perm n p g hp, e]
    · have hp : gp_pm n (fun i => if p i = n then p n else p i) := by
        refine ⟨fun i hi => ?_, fun i j hi hj q => ?_⟩
        · show (if p i = n then p n else p i) < n
          split
          · omega
          · have := h1 i (by omega)
            omega
        · have q' : (if p i = n then p n else p i) = (if p j = n then p n else p j) := q
          by_cases a : p i = n <;> by_cases b : p j = n
          · exact h2 i j (by omega) (by omega) (a.trans b.symm)
          · rw [if_pos a, if_neg b] at q'
            have := h2 n j (by omega) (by omega) q'
            omega
          · rw [if_neg a, if_pos b] at q'
            have := h2 i n (by omega) (by omega) q'
            omega
          · rw [if_neg a, if_neg b] at q'
            exact h2 i j (by omega) (by omega) q'
      have k1 : gS (fun i => g (p i)) n = gS (fun i => (fun y => if y = p n then g n else g y) ((fun i => if p i = n then p n else p i) i)) n := by
        apply gS_eq
        intro i hi
        show g (p i) = if (if p i = n then p n else p i) = p n then g n else g (if p i = n then p n else p i)
        by_cases a : p i = n
        · rw [if_pos a, if_pos rfl, a]
        · rw [if_neg a, if_neg (fun q => by have := h2 i n (by omega) (by omega) q; omega)]
      have k2 := gS_perm n (fun i => if p i = n then p n else p i) (fun y => if y = p n then g n else g y) hp
      have k3 := gS_swap (g := g) (a := p n) (v := g n) (k := n) (by omega)
      simp only [gS]
      rw [k1, k2]
      omega
/-- bits, counted below n -/
theorem gPop_S (x : Nat) : ∀ k, gPop k x = gS (fun i => if x.testBit i then 1 else 0) k
  | 0 => rfl
  | k + 1 => by simp only [gPop, gS, gPop_S x k]
theorem gS_more {f : Nat → Nat} {n : Nat} : ∀ {k : Nat}, n ≤ k → (∀ i, n ≤ i → i < k → f i = 0) → gS f k = gS f n
  | 0, h, _ => by
    obtain rfl : n = 0 := by omega
    rfl
  | k + 1, h, hz => by
    by_cases e : n = k + 1
    · rw [e]
    · simp only [gS]
      rw [gS_more (by omega) (fun i h1 h2 => hz i h1 (by omega)), hz k (by omega) (by omega)]
      rfl
theorem gpc_S {x n : Nat} (hx : x < 2 ^ n) (hn : n ≤ 7) : gpc x = gS (fun i => if x.testBit i then 1 else 0) n := by
  unfold gpc
  rw [gPop_S, gS_more hn]
  intro i h1 h2
  have h3 : 2 ^ n ≤ 2 ^ i := Nat.pow_le_pow_right (by decide) h1
  rw [Nat.testBit_lt_two_pow (by omega)]
  rfl
theorem gAu_deg {n : Nat} {cc nb f : Nat → Nat} (hg : gOk n cc nb) (hf : gAu n cc nb f) {u : Nat} (hu : u < n) : gpc (nb (f u)) = gpc (nb u) := by
  rw [gpc_S (hg.2 _ (hf.1.1 u hu)).2.1 hg.1, gpc_S (hg.2 u hu).2.1 hg.1, ← gS_perm n f _ hf.1]
  apply gS_eq
  intro i hi
  show (if (nb (f u)).testBit (f i) then 1 else 0) = _
  rw [hf.2.2 u i hu hi]
/-- v comes to w under one that keeps the set -/
noncomputable def gCa (n : Nat) (cc nb : Nat → Nat) (set v w : Nat) : Bool := @decide (∃ f, gAu n cc nb f ∧ (∀ i, i < n → set.testBit i = true → f i = i) ∧ f v = w) (Classical.propDecidable _)
theorem gCa_iff {n : Nat} {cc nb : Nat → Nat} {set v w : Nat} : gCa n cc nb set v w = true ↔ ∃ f, gAu n cc nb f ∧ (∀ i, i < n → set.testBit i = true → f i = i) ∧ f v = w := by
  unfold gCa
  exact @decide_eq_true_iff _ (Classical.propDecidable _)
/-- a part of a laying: on the set laid, as t says -/
def gPa (n : Nat) (cc nb t : Nat → Nat) (laid : Nat) : Prop :=
  (∀ i, i < n → laid.testBit i = true → t i < n ∧ cc (t i) = cc i) ∧ (∀ i j, i < n → j < n → laid.testBit i = true → laid.testBit j = true → (t i = t j → i = j) ∧ (nb (t i)).testBit (t j) = (nb i).testBit j)
/-- it can be gone on with -/
def gEx (n : Nat) (cc nb t : Nat → Nat) (laid : Nat) : Prop := ∃ f, gAu n cc nb f ∧ ∀ i, i < n → laid.testBit i = true → f i = t i
/-- what 'fits' asks -/
def gFi (n : Nat) (cc nb t : Nat → Nat) (u x laid : Nat) : Prop := cc u = cc x ∧ gpc (nb u) = gpc (nb x) ∧ ∀ i, i < n → laid.testBit i = true → (nb u).testBit i = (nb x).testBit (t i)
theorem gFi_of {n : Nat} {cc nb t f : Nat → Nat} {u laid : Nat} (hg : gOk n cc nb) (hf : gAu n cc nb f) (ht : ∀ i, i < n → laid.testBit i = true → f i = t i) (hu : u < n) : gFi n cc nb t u (f u) laid :=
  ⟨(hf.2.1 u hu).symm, (gAu_deg hg hf hu).symm, fun i hi hl => by rw [← ht i hi hl, hf.2.2 u i hu hi]⟩
theorem g_or_bit {laid u i : Nat} : (laid ||| 2 ^ u).testBit i = true ↔ laid.testBit i = true ∨ i = u := by
  rw [Nat.testBit_or, Nat.testBit_two_pow, Bool.or_eq_true, decide_eq_true_iff]
  constructor
  · rintro (h | h)
    · exact Or.inl h
    · exact Or.inr h.symm
  · rintro (h | h)
    · exact Or.inl h
    · exact Or.inr h.symm
/-- one vertex more -/
theorem gPa_add {n : Nat} {cc nb t : Nat → Nat} {u x laid : Nat} (hg : gOk n cc nb) (h : gPa n cc nb t laid) (hu : u < n) (hx : x < n) (hl : laid.testBit u = false) (hnt : ∀ i, i < n → laid.testBit i = true → t i ≠ x) (hfi : gFi n cc nb t u x laid) :
    gPa n cc nb (fun i => if i = u then x else t i) (laid ||| 2 ^ u) := by
  have hne : ∀ i, laid.testBit i = true → i ≠ u := fun i h e => by rw [e, hl] at h; cases h
  refine ⟨fun i hi hb => ?_, fun i j hi hj hb hb' => ?_⟩
  · rcases g_or_bit.mp hb with h1 | h1
    · simp only [if_neg (hne i h1)]
      exact h.1 i hi h1
    · subst h1
      simp only [if_pos]
      exact ⟨hx, hfi.1.symm⟩
  · rcases g_or_bit.mp hb with h1 | h1 <;> rcases g_or_bit.mp hb' with h2 | h2
    · simp only [if_neg (hne i h1), if_neg (hne j h2)]
      exact h.2 i j hi hj h1 h2
    · subst h2
      simp only [if_neg (hne i h1), if_pos]
      refine ⟨fun q => absurd q (hnt i hi h1), ?_⟩
      rw [(hg.2 (t i) (h.1 i hi h1).1).2.2.2 x hx, ← hfi.2.2 i hi h1, (hg.2 j hu).2.2.2 i hi]
    · subst h1
      simp only [if_neg (hne j h2), if_pos]
      exact ⟨fun q => absurd q.symm (hnt j hj h2), (hfi.2.2 j hj h2).symm⟩
    · subst h1; subst h2
      simp only [if_pos]
      exact ⟨fun _ => trivial, by rw [(hg.2 x hx).2.2.1, (hg.2 j hu).2.2.1]⟩
/-- all laid -/
theorem gPa_all {n : Nat} {cc nb t : Nat → Nat} {laid : Nat} (h : gPa n cc nb t laid) (hl : ∀ i, i < n → laid.testBit i = true) : gAu n cc nb t :=
  ⟨⟨fun i hi => (h.1 i hi (hl i hi)).1, fun i j hi hj e => (h.2 i j hi hj (hl i hi) (hl j hj)).1 e⟩, fun i hi => (h.1 i hi (hl i hi)).2, fun i j hi hj => (h.2 i j hi hj (hl i hi) (hl j hj)).2⟩
end GA
