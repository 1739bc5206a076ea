/-! The first numbering: what is so whatever the machine. -/
section GD
def gBt (nb t : Nat → Nat) (v : Nat) : Nat → Nat
  | 0 => 0
  | k + 1 => 2 * gBt nb t v k + (if (nb v).testBit (t k) then 1 else 0)
def gCo (nb t : Nat → Nat) : Nat → Nat
  | 0 => 0
  | k + 1 => gCo nb t k * 2 ^ k + gBt nb t (t k) k
def gTr : Nat → Nat
  | 0 => 0
  | k + 1 => gTr k + k
def gTd (k : Nat) : Nat → Nat
  | 0 => 0
  | j + 1 => gTd k j + (k + j)
theorem gTr_add (k : Nat) : ∀ j, gTr (k + j) = gTr k + gTd k j
  | 0 => rfl
  | j + 1 => by
    show gTr (k + j) + (k + j) = _
    rw [gTr_add k j, gTd, Nat.add_assoc]
theorem gBt_lt (nb t : Nat → Nat) (v : Nat) : ∀ k, gBt nb t v k < 2 ^ k
  | 0 => by simp [gBt]
  | k + 1 => by
    have := gBt_lt nb t v k
    rw [gBt, Nat.pow_succ]
    split <;> omega
theorem gCo_lt (nb t : Nat → Nat) : ∀ k, gCo nb t k < 2 ^ gTr k
  | 0 => by simp [gCo, gTr]
  | k + 1 => by
    have h1 := gCo_lt nb t k
    have h2 := gBt_lt nb t (t k) k
    rw [gCo, gTr, Nat.pow_add]
    have : (gCo nb t k + 1) * 2 ^ k ≤ 2 ^ gTr k * 2 ^ k := Nat.mul_le_mul_right _ h1
    rw [Nat.add_mul, Nat.one_mul] at this
    omega
theorem gBt_eq {nb t t' : Nat → Nat} {v : Nat} : ∀ {k : Nat}, (∀ i, i < k → t i = t' i) → gBt nb t v k = gBt nb t' v k
  | 0, _ => rfl
  | k + 1, h => by rw [gBt, gBt, gBt_eq (fun i hi => h i (by omega)), h k (Nat.lt_succ_self k)]
theorem gCo_eq {nb t t' : Nat → Nat} : ∀ {k : Nat}, (∀ i, i < k → t i = t' i) → gCo nb t k = gCo nb t' k
  | 0, _ => rfl
  | k + 1, h => by rw [gCo, gCo, gCo_eq (fun i hi => h i (by omega)), h k (Nat.lt_succ_self k), gBt_eq (fun i hi => h i (by omega))]
/-- the beginning of a code -/
theorem gCo_beg (nb t : Nat → Nat) (k : Nat) : ∀ j, gCo nb t k * 2 ^ gTd k j ≤ gCo nb t (k + j) ∧ gCo nb t (k + j) < (gCo nb t k + 1) * 2 ^ gTd k j
  | 0 => by simp [gTd]
  | j + 1 => by
    obtain ⟨h1, h2⟩ := gCo_beg nb t k j
    have h3 := gBt_lt nb t (t (k + j)) (k + j)
    have e : gCo nb t (k + (j + 1)) = gCo nb t (k + j) * 2 ^ (k + j) + gBt nb t (t (k + j)) (k + j) := rfl
    rw [e, gTd, Nat.pow_add, ← Nat.mul_assoc, ← Nat.mul_assoc]
    have h4 := Nat.mul_le_mul_right (2 ^ (k + j)) h1
    have h5 := Nat.mul_le_mul_right (2 ^ (k + j)) (Nat.succ_le_of_lt h2)
    rw [Nat.succ_mul] at h5
    omega
theorem gCo_less {nb t t' : Nat → Nat} {k n : Nat} (hk : k ≤ n) (h : gCo nb t k < gCo nb t' k) : gCo nb t n < gCo nb t' n := by
  obtain ⟨j, rfl⟩ : ∃ j, n = k + j := ⟨n - k, by omega⟩
  have h1 := (gCo_beg nb t k j).2
  have h2 := (gCo_beg nb t' k j).1
  have h3 : (gCo nb t k + 1) * 2 ^ gTd k j ≤ gCo nb t' k * 2 ^ gTd k j := Nat.mul_le_mul_right _ h
  omega
/-- a row whose colours rise -/
def gRi (n : Nat) (cc r : Nat → Nat) : Prop := gp_pm n r ∧ ∀ i j, i < j → j < n → cc (r i) ≤ cc (r j)
def gSx (n : Nat) (cc t : Nat → Nat) (k : Nat) (r : Nat → Nat) : Prop := gRi n cc r ∧ ∀ i, i < k → r i = t i
def gLe (n : Nat) (nb r r' : Nat → Nat) : Prop := gCo nb r n < gCo nb r' n ∨ gCo nb r n = gCo nb r' n ∧ ¬ gp_lt n r' r
def gMin (n : Nat) (nb : Nat → Nat) (P : (Nat → Nat) → Prop) (r : Nat → Nat) : Prop := P r ∧ ∀ r', P r' → gLe n nb r r'
theorem gp_min {P : (Nat → Nat) → Prop} (h : ∃ t, P t) : ∀ k, ∃ t, P t ∧ ∀ t', P t' → ¬ gp_lt k t' t
  | 0 => by
    obtain ⟨t, ht⟩ := h
    exact ⟨t, ht, fun t' _ ⟨j, hj, _⟩ => absurd hj (Nat.not_lt_zero j)⟩
  | k + 1 => by
    obtain ⟨t, h1, h2⟩ := gp_min h k
    obtain ⟨x, ⟨t'', h3, h4, h5⟩, h6⟩ := gLeast (fun x => ∃ t'', P t'' ∧ gp_eq k t'' t ∧ t'' k = x) ⟨t k, t, h1, fun _ _ => rfl, rfl⟩
    refine ⟨t'', h3, fun t' h7 ⟨j, j1, j2, j3⟩ => ?_⟩
    by_cases e : j = k
    · subst e
      exact h6 (t' j) (by omega) ⟨t', h7, fun i hi => (j2 i hi).trans (h4 i hi), rfl⟩
    · exact h2 t' h7 ⟨j, by omega, fun i hi => (j2 i hi).trans (h4 i (by omega)), by rw [← h4 j (by omega)]; exact j3⟩
theorem gMin_ex {n : Nat} {nb : Nat → Nat} {P : (Nat → Nat) → Prop} (h : ∃ t, P t) : ∃ r, gMin n nb P r := by
  obtain ⟨t0, h0⟩ := h
  obtain ⟨c, ⟨t1, h1, h2⟩, h3⟩ := gLeast (fun c => ∃ t, P t ∧ gCo nb t n = c) ⟨_, t0, h0, rfl⟩
  obtain ⟨r, ⟨r1, r2⟩, r3⟩ := gp_min (P := fun t => P t ∧ gCo nb t n = c) ⟨t1, h1, h2⟩ n
  refine ⟨r, r1, fun r' hr' => ?_⟩
  rcases Nat.lt_trichotomy (gCo nb r' n) c with e | e | e
  · exact absurd ⟨r', hr', rfl⟩ (h3 _ e)
  · exact Or.inr ⟨r2.trans e.symm, r3 r' ⟨hr', e⟩⟩
  · exact Or.inl (by rw [r2]; exact e)
/-- a beginning that can be gone on with -/
def gVp (n : Nat) (cc t : Nat → Nat) (k : Nat) : Prop := k ≤ n ∧ (∀ i, i < k → t i < n) ∧ (∀ i j, i < k → j < k → t i = t j → i = j) ∧ (∀ i j, i < j → j < k → cc (t i) ≤ cc (t j)) ∧ ∀ v, v < n → (∀ i, i < k → t i ≠ v) → ∀ i, i < k → cc (t i) ≤ cc v
def gUd (t : Nat → Nat) (k v : Nat) : Nat → Nat := fun i => if i = k then v else t i
theorem gUd_s (t : Nat → Nat) (k v : Nat) : gUd t k v k = v := if_pos rfl
theorem gUd_n {t : Nat → Nat} {k v i : Nat} (h : i ≠ k) : gUd t k v i = t i := if_neg h
theorem gVp_0 (n : Nat) (cc t : Nat → Nat) : gVp n cc t 0 := ⟨Nat.zero_le _, fun i hi => absurd hi (Nat.not_lt_zero i), fun i _ hi => absurd hi (Nat.not_lt_zero i), fun _ j _ hj => absurd hj (Nat.not_lt_zero j), fun _ _ _ i hi => absurd hi (Nat.not_lt_zero i)⟩
theorem gVp_add {n : Nat} {cc t : Nat → Nat} {k v : Nat} (h : gVp n cc t k) (hk : k < n) (hv : v < n) (hn : ∀ i, i < k → t i ≠ v) (hm : ∀ w, w < n → (∀ i, i < k → t i ≠ w) → cc v ≤ cc w) : gVp n cc (gUd t k v) (k + 1) := by
  obtain ⟨h1, h2, h3, h4, h5⟩ := h
  have a : ∀ i, i < k + 1 → i = k ∧ gUd t k v i = v ∨ i < k ∧ gUd t k v i = t i := by
    intro i hi
    by_cases e : i = k
    · exact Or.inl ⟨e, by rw [e]; exact gUd_s t k v⟩
    · exact Or.inr ⟨by omega, gUd_n e⟩
  refine ⟨hk, fun i hi => ?_, fun i j hi hj e => ?_, fun i j hi hj => ?_, fun w hw hnw i hi => ?_⟩
  · rcases a i hi with ⟨q1, q2⟩ | ⟨q1, q2⟩ <;> rw [q2]
    · exact hv
    · exact h2 i q1
  · rcases a i hi with ⟨q1, q2⟩ | ⟨q1, q2⟩ <;> rcases a j hj with ⟨z1, z2⟩ | ⟨z1, z2⟩ <;> rw [q2, z2] at e
    · omega
    · exact absurd e.symm (hn j z1)
    · exact absurd e (hn i q1)
    · exact h3 i j q1 z1 e
  · rcases a i (by omega) with ⟨q1, q2⟩ | ⟨q1, q2⟩ <;> rcases a j hj with ⟨z1, z2⟩ | ⟨z1, z2⟩ <;> rw [q2, z2]
    · exact Nat.le_refl _
    · omega
    · exact h5 v hv hn i q1
    · exact h4 i j hi z1
  · have hnw' : ∀ i, i < k → t i ≠ w := fun i hi q => hnw i (by omega) ((gUd_n (by omega)).trans q)
    rcases a i hi with ⟨q1, q2⟩ | ⟨q1, q2⟩ <;> rw [q2]
    · exact hm w hw hnw'
    · exact h5 w hw hnw' i q1
/-- fewer than n numbers leave one out -/
theorem gp_left {k n : Nat} {t : Nat → Nat} (hk : k < n) : ∃ v, v < n ∧ ∀ i, i < k → t i ≠ v := by
  apply Classical.byContradiction
  intro q
  have hs : ∀ v, ∃ i, v < n → i < k ∧ t i = v := by
    intro v
    by_cases hv : v < n
    · have : ∃ i, i < k ∧ t i = v := Classical.byContradiction (fun z => q ⟨v, hv, fun i hi e => z ⟨i, hi, e⟩⟩)
      obtain ⟨i, h1, h2⟩ := this
      exact ⟨i, fun _ => ⟨h1, h2⟩⟩
    · exact ⟨0, fun z => absurd z hv⟩
  obtain ⟨p, hp⟩ := Classical.axiomOfChoice hs
  have hpm : gp_pm n p := ⟨fun i hi => by have := (hp i hi).1; omega, fun i j hi hj e => by rw [← (hp i hi).2, ← (hp j hj).2, e]⟩
  obtain ⟨x, h1, h2⟩ := gp_sur n p hpm k hk
  have := (hp x h1).1
  omega
/-- a vertex with the least colour of those left -/
theorem gVp_pick {n : Nat} {cc t : Nat → Nat} {k : Nat} (hk : k < n) : ∃ v, v < n ∧ (∀ i, i < k → t i ≠ v) ∧ ∀ w, w < n → (∀ i, i < k → t i ≠ w) → cc v ≤ cc w := by
  obtain ⟨v, h1, h2⟩ := gp_left (t := t) hk
  obtain ⟨c, ⟨u, u1, u2, u3⟩, h3⟩ := gLeast (fun c => ∃ u, u < n ∧ (∀ i, i < k → t i ≠ u) ∧ cc u = c) ⟨_, v, h1, h2, rfl⟩
  refine ⟨u, u1, u2, fun w hw hnw => ?_⟩
  rcases Nat.lt_or_ge (cc w) (cc u) with e | e
  · exact absurd ⟨w, hw, hnw, rfl⟩ (h3 (cc w) (by omega))
  · exact e
theorem gVp_ex {n : Nat} {cc : Nat → Nat} : ∀ (j k : Nat) (t : Nat → Nat), k + j = n → gVp n cc t k → ∃ r, gSx n cc t k r
  | 0, k, t, hk, h => by
    obtain rfl : k = n := by omega
    exact ⟨t, ⟨⟨h.2.1, h.2.2.1⟩, h.2.2.2.1⟩, fun _ _ => rfl⟩
  | j + 1, k, t, hk, h => by
    obtain ⟨v, h1, h2, h3⟩ := gVp_pick (n := n) (cc := cc) (t := t) (k := k) (by omega)
    obtain ⟨r, h4, h5⟩ := gVp_ex j (k + 1) (gUd t k v) (by omega) (gVp_add h (by omega) h1 h2 h3)
    exact ⟨r, h4, fun i hi => (h5 i (by omega)).trans (gUd_n (by omega))⟩
/-- two vertices changed -/
def gSw (u v x : Nat) : Nat := if x = u then v else if x = v then u else x
theorem gSw_u (u v : Nat) : gSw u v u = v := if_pos rfl
theorem gSw_v (u v : Nat) : gSw u v v = u := by
  unfold gSw
  split
  · rename_i e; exact e
  · exact if_pos rfl
theorem gSw_n {u v x : Nat} (h1 : x ≠ u) (h2 : x ≠ v) : gSw u v x = x := by
  unfold gSw
  rw [if_neg h1, if_neg h2]
theorem gSw_3 (u v x : Nat) : x = u ∧ gSw u v x = v ∨ x = v ∧ gSw u v x = u ∨ x ≠ u ∧ x ≠ v ∧ gSw u v x = x := by
  by_cases e : x = u
  · exact Or.inl ⟨e, by rw [e]; exact gSw_u u v⟩
  · by_cases e2 : x = v
    · exact Or.inr (Or.inl ⟨e2, by rw [e2]; exact gSw_v u v⟩)
    · exact Or.inr (Or.inr ⟨e, e2, gSw_n e e2⟩)
theorem gSw_pm {n u v : Nat} (hu : u < n) (hv : v < n) : gp_pm n (gSw u v) := by
  refine ⟨fun i hi => ?_, fun i j hi hj e => ?_⟩
  · rcases gSw_3 u v i with ⟨_, q⟩ | ⟨_, q⟩ | ⟨_, _, q⟩ <;> omega
  · rcases gSw_3 u v i with ⟨_, q⟩ | ⟨_, q⟩ | ⟨_, _, q⟩ <;> rcases gSw_3 u v j with ⟨_, z⟩ | ⟨_, z⟩ | ⟨_, _, z⟩ <;> omega
theorem gSx_sw {n : Nat} {cc t r : Nat → Nat} {k u : Nat} (hr : gSx n cc t k r) (hk : k < n) (hu : u < n) (hnu : ∀ i, i < k → t i ≠ u) (hcu : cc u = cc (r k)) : gSx n cc t k (fun i => gSw u (r k) (r i)) := by
  have hc : ∀ x, cc (gSw u (r k) x) = cc x := by
    intro x
    rcases gSw_3 u (r k) x with ⟨e, q⟩ | ⟨e, q⟩ | ⟨_, _, q⟩ <;> rw [q]
    · rw [e]; exact hcu.symm
    · rw [e]; exact hcu
  refine ⟨⟨gp_comp (gSw_pm hu (hr.1.1.1 k hk)) hr.1.1, fun i j hi hj => ?_⟩, fun i hi => ?_⟩
  · dsimp only
    rw [hc, hc]
    exact hr.1.2 i j hi hj
  · dsimp only
    rw [gSw_n, hr.2 i hi]
    · rw [hr.2 i hi]; exact hnu i hi
    · intro e
      have := hr.1.1.2 i k (by omega) hk e
      omega
/-- the least row's next vertex has the least bits -/
theorem gMin_bits {n : Nat} {cc nb t r : Nat → Nat} {k u : Nat} (h : gMin n nb (gSx n cc t k) r) (hk : k < n) (hu : u < n) (hnu : ∀ i, i < k → t i ≠ u) (hcu : cc u = cc (r k)) : gBt nb t (r k) k ≤ gBt nb t u k := by
  rcases Nat.lt_or_ge (gBt nb t u k) (gBt nb t (r k) k) with e | e
  · exfalso
    have h1 := gSx_sw h.1 hk hu hnu hcu
    have h2 := h.2 _ h1
    have h3 : gCo nb (fun i => gSw u (r k) (r i)) (k + 1) < gCo nb r (k + 1) := by
      rw [gCo, gCo, gCo_eq (t := fun i => gSw u (r k) (r i)) (t' := t) h1.2, gCo_eq (t := r) (t' := t) h.1.2, gSw_v, gBt_eq (t := fun i => gSw u (r k) (r i)) (t' := t) h1.2, gBt_eq (t := r) (t' := t) h.1.2]
      omega
    have h4 := gCo_less (nb := nb) hk h3
    rcases h2 with h2 | h2 <;> omega
  · exact e
theorem gCo_au {n : Nat} {nb s r : Nat → Nat} (hr : ∀ i, i < n → r i < n) (h : ∀ x y, x < n → y < n → (nb (s x)).testBit (s y) = (nb x).testBit y) : ∀ k, k ≤ n → gCo nb (fun i => s (r i)) k = gCo nb r k := by
  have hb : ∀ v, v < n → ∀ k, k ≤ n → gBt nb (fun i => s (r i)) (s v) k = gBt nb r v k := by
    intro v hv k
    induction k with
    | zero => intro _; rfl
    | succ k ih =>
      intro hk
      rw [gBt, gBt, ih (by omega), h v (r k) hv (hr k (by omega))]
  intro k
  induction k with
  | zero => intro _; rfl
  | succ k ih =>
    intro hk
    rw [gCo, gCo, ih (by omega), hb (r k) (hr k (by omega)) k (by omega)]
/-- the least row's next vertex has no lesser twin -/
theorem gMin_twin {n : Nat} {cc nb t r : Nat → Nat} {k u : Nat} (hg : gOk n cc nb) (h : gMin n nb (gSx n cc t k) r) (hk : k < n) (hu : u < n) (hnu : ∀ i, i < k → t i ≠ u) (hcu : cc u = cc (r k)) (hlt : u < r k) : ¬ ∀ i, i < 7 → i ≠ u → i ≠ r k → (nb u).testBit i = (nb (r k)).testBit i := by
  intro tw
  have hn := hg.1
  have hv := h.1.1.1.1 k hk
  have h1 := gSx_sw h.1 hk hu hnu hcu
  have h2 := h.2 _ h1
  have sy : ∀ x y, x < n → y < n → (nb x).testBit y = (nb y).testBit x := fun x y hx hy => (hg.2 x hx).2.2.2 y hy
  have nl : ∀ x, x < n → (nb x).testBit x = false := fun x hx => (hg.2 x hx).2.2.1
  have h3 : gCo nb (fun i => gSw u (r k) (r i)) n = gCo nb r n := by
    refine gCo_au (s := gSw u (r k)) h.1.1.1.1 (fun x y hx hy => ?_) n (Nat.le_refl n)
    rcases gSw_3 u (r k) x with ⟨e, q⟩ | ⟨e, q⟩ | ⟨e, e', q⟩ <;> rcases gSw_3 u (r k) y with ⟨z, w⟩ | ⟨z, w⟩ | ⟨z, z', w⟩ <;> rw [q, w]
    · rw [e, z, nl _ hu, nl _ hv]
    · rw [e, z, sy _ _ hv hu]
    · rw [e, tw y (by omega) z z']
    · rw [e, z, sy _ _ hv hu]
    · rw [e, z, nl _ hu, nl _ hv]
    · rw [e, tw y (by omega) z z']
    · rw [z, sy x _ hx hv, ← tw x (by omega) e e', sy _ x hu hx]
    · rw [z, sy x _ hx hu, tw x (by omega) e e', sy _ x hv hx]
  rcases h2 with h2 | ⟨_, h2⟩
  · omega
  · apply h2
    refine ⟨k, hk, fun i hi => ?_, ?_⟩
    · rw [h1.2 i hi, h.1.2 i hi]
    · dsimp only
      rw [gSw_v]
      exact hlt
/-- the least row's next vertex has the least colour of those left -/
theorem gSx_col {n : Nat} {cc t r : Nat → Nat} {k : Nat} (hr : gSx n cc t k r) (hk : k < n) : (∀ i, i < k → t i ≠ r k) ∧ ∀ w, w < n → (∀ i, i < k → t i ≠ w) → cc (r k) ≤ cc w := by
  refine ⟨fun i hi e => ?_, fun w hw hnw => ?_⟩
  · rw [← hr.2 i hi] at e
    have := hr.1.1.2 i k (by omega) hk e
    omega
  · obtain ⟨j, h1, h2⟩ := gp_sur n r hr.1.1 w hw
    rcases Nat.lt_trichotomy j k with e | e | e
    · exact absurd ((hr.2 j e).symm.trans h2) (hnw j e)
    · rw [← h2, e]; exact Nat.le_refl _
    · rw [← h2]; exact hr.1.2 k j e h1
theorem gSx_in {n : Nat} {cc t r : Nat → Nat} {k v : Nat} : gSx n cc (gUd t k v) (k + 1) r ↔ gSx n cc t k r ∧ r k = v := by
  constructor
  · rintro ⟨h1, h2⟩
    exact ⟨⟨h1, fun i hi => (h2 i (by omega)).trans (gUd_n (by omega))⟩, (h2 k (Nat.lt_succ_self k)).trans (gUd_s t k v)⟩
  · rintro ⟨⟨h1, h2⟩, h3⟩
    refine ⟨h1, fun i hi => ?_⟩
    by_cases e : i = k
    · rw [e, gUd_s]; exact h3
    · rw [gUd_n e]; exact h2 i (by omega)
/-- the first numbering -/
def gFn (n : Nat) (cc nb r : Nat → Nat) : Prop := gMin n nb (gRi n cc) r
theorem gFn_ex (n : Nat) (cc nb : Nat → Nat) : ∃ r, gFn n cc nb r := by
  obtain ⟨r, hr⟩ := gVp_ex (n := n) (cc := cc) n 0 (fun _ => 0) (by omega) (gVp_0 n cc _)
  exact gMin_ex ⟨r, hr.1⟩
theorem gFn_one {n : Nat} {cc nb r r' : Nat → Nat} (h : gFn n cc nb r) (h' : gFn n cc nb r') : gp_eq n r r' := by
  have h1 := h.2 r' h'.1
  have h2 := h'.2 r h.1
  rcases gp_tri n r r' with e | e | e
  · rcases h2 with h2 | ⟨h2, h3⟩
    · rcases h1 with h1 | ⟨h1, _⟩ <;> omega
    · exact absurd e h3
  · exact e
  · rcases h1 with h1 | ⟨h1, h3⟩
    · rcases h2 with h2 | ⟨h2, _⟩ <;> omega
    · exact absurd e h3
theorem gFn_co {n : Nat} {cc nb r r' : Nat → Nat} (h : gFn n cc nb r) (h' : gFn n cc nb r') : gCo nb r n = gCo nb r' n := gCo_eq (gFn_one h h')
end GD
