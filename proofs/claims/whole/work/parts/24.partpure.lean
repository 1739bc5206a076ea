/-! The cells: what is so whatever the machine. -/
section GB
def gAll (P : Nat → Bool) : Nat → Bool
  | 0 => true
  | k + 1 => gAll P k && P k
theorem gAll_iff {P : Nat → Bool} : ∀ {k : Nat}, gAll P k = true ↔ ∀ i, i < k → P i = true
  | 0 => ⟨fun _ i hi => absurd hi (Nat.not_lt_zero i), fun _ => rfl⟩
  | k + 1 => by
    rw [gAll, Bool.and_eq_true, gAll_iff]
    constructor
    · rintro ⟨h1, h2⟩ i hi
      by_cases e : i = k
      · rw [e]; exact h2
      · exact h1 i (by omega)
    · intro h
      exact ⟨fun i hi => h i (by omega), h k (Nat.lt_succ_self k)⟩
theorem gAll_f {P : Nat → Bool} {k i : Nat} (hi : i < k) (h : P i = false) : gAll P k = false := by
  cases e : gAll P k with
  | false => rfl
  | true => rw [gAll_iff.mp e i hi] at h; cases h
def gC0 (n : Nat) (cc : Nat → Nat) (v : Nat) : Nat := gMk (fun w => cc w == cc v) n
def gAg (n : Nat) (nb C : Nat → Nat) (v w : Nat) : Bool := gAll (fun u => gpc (nb v &&& C u) == gpc (nb w &&& C u)) n
def gRf (n : Nat) (nb C : Nat → Nat) (v : Nat) : Nat := gMk (fun w => (C v).testBit w && gAg n nb C v w) n
def gIt (n : Nat) (cc nb : Nat → Nat) : Nat → Nat → Nat
  | 0 => gC0 n cc
  | k + 1 => gRf n nb (gIt n cc nb k)
theorem gAg_iff {n : Nat} {nb C : Nat → Nat} {v w : Nat} : gAg n nb C v w = true ↔ ∀ u, u < n → gpc (nb v &&& C u) = gpc (nb w &&& C u) := by
  unfold gAg
  rw [gAll_iff]
  exact ⟨fun h u hu => by simpa using h u hu, fun h u hu => by simpa using h u hu⟩
/-- masks that are the parts of a parting -/
def gPt (n : Nat) (C : Nat → Nat) : Prop := (∀ v, v < n → C v < 2 ^ n) ∧ ∀ v w, v < n → w < n → ((C v).testBit w = true ↔ C v = C w)
theorem gPt_self {n : Nat} {C : Nat → Nat} (h : gPt n C) {v : Nat} (hv : v < n) : (C v).testBit v = true := (h.2 v v hv hv).mpr rfl
theorem gMk_same {P P' : Nat → Bool} {n : Nat} : gMk P n = gMk P' n ↔ ∀ v, v < n → P v = P' v := by
  constructor
  · intro h v hv
    have := congrArg (fun z => Nat.testBit z v) h
    simp only [gMk_bit, hv, decide_true, Bool.true_and] at this
    exact this
  · exact gMk_eq
theorem gPt_0 (n : Nat) (cc : Nat → Nat) : gPt n (gC0 n cc) := by
  refine ⟨fun v _ => gMk_lt _ n, fun v w hv hw => ?_⟩
  unfold gC0
  rw [gMk_bit, gMk_same]
  simp only [hw, decide_true, Bool.true_and, beq_iff_eq]
  constructor
  · intro e u _
    rw [e]
  · intro h
    have := h w hw
    simp only [beq_self_eq_true] at this
    exact beq_iff_eq.mp this
theorem gRf_bit {n : Nat} {nb C : Nat → Nat} {v w : Nat} (hw : w < n) : (gRf n nb C v).testBit w = true ↔ (C v).testBit w = true ∧ gAg n nb C v w = true := by
  unfold gRf
  rw [gMk_bit]
  simp only [hw, decide_true, Bool.true_and, Bool.and_eq_true]
theorem gPt_s {n : Nat} {nb C : Nat → Nat} (h : gPt n C) : gPt n (gRf n nb C) := by
  refine ⟨fun v _ => gMk_lt _ n, fun v w hv hw => ?_⟩
  rw [gRf_bit hw]
  constructor
  · rintro ⟨h1, h2⟩
    unfold gRf
    rw [gMk_same]
    intro u hu
    rw [(h.2 v w hv hw).mp h1]
    congr 1
    rw [gAg_iff] at h2
    apply Bool.eq_iff_iff.mpr
    rw [gAg_iff, gAg_iff]
    exact ⟨fun a x hx => (h2 x hx).symm.trans (a x hx), fun a x hx => (h2 x hx).trans (a x hx)⟩
  · intro e
    have : (gRf n nb C w).testBit w = true := (gRf_bit hw).mpr ⟨gPt_self h hw, gAg_iff.mpr (fun _ _ => rfl)⟩
    rw [← e] at this
    exact (gRf_bit hw).mp this
theorem gPt_it (n : Nat) (cc nb : Nat → Nat) : ∀ k, gPt n (gIt n cc nb k)
  | 0 => gPt_0 n cc
  | k + 1 => gPt_s (gPt_it n cc nb k)
theorem g2p {n x : Nat} (hn : n ≤ 7) (hx : x < 2 ^ n) : x < 128 := Nat.lt_of_lt_of_le hx (Nat.pow_le_pow_right (by decide) hn)
theorem gIt_lt {n : Nat} {cc nb : Nat → Nat} {k v : Nat} (hn : n ≤ 7) (hv : v < n) : gIt n cc nb k v < 128 := g2p hn ((gPt_it n cc nb k).1 v hv)
/-- the least of its part -/
def gRp (C : Nat → Nat) (v : Nat) : Bool := gAll (fun w => !(C v).testBit w) v
theorem gRp_iff {C : Nat → Nat} {v : Nat} : gRp C v = true ↔ ∀ w, w < v → (C v).testBit w = false := by
  unfold gRp
  rw [gAll_iff]
  exact ⟨fun h w hw => by simpa using h w hw, fun h w hw => by simpa using h w hw⟩
theorem gS_mono {f g : Nat → Nat} : ∀ {k : Nat}, (∀ i, i < k → f i ≤ g i) → gS f k ≤ gS g k
  | 0, _ => Nat.le_refl _
  | k + 1, h => by
    have := gS_mono (f := f) (g := g) (k := k) (fun i hi => h i (by omega))
    have := h k (Nat.lt_succ_self k)
    simp only [gS]
    omega
theorem gS_lt {f g : Nat → Nat} {j : Nat} : ∀ {k : Nat}, (∀ i, i < k → f i ≤ g i) → j < k → f j < g j → gS f k < gS g k
  | 0, _, h, _ => absurd h (Nat.not_lt_zero j)
  | k + 1, h, hj, hlt => by
    simp only [gS]
    by_cases e : j = k
    · subst e
      have := gS_mono (f := f) (g := g) (k := j) (fun i hi => h i (by omega))
      omega
    · have := gS_lt (f := f) (g := g) (j := j) (k := k) (fun i hi => h i (by omega)) (by omega) hlt
      have := h k (Nat.lt_succ_self k)
      omega
def gCn (n : Nat) (C : Nat → Nat) : Nat := gS (fun v => if gRp C v then 1 else 0) n
theorem gLeast (P : Nat → Prop) : (∃ k, P k) → ∃ k, P k ∧ ∀ j, j < k → ¬ P j := by
  rintro ⟨k, hk⟩
  induction k using Nat.strongRecOn with
  | ind k ih =>
    by_cases e : ∃ j, j < k ∧ P j
    · obtain ⟨j, h1, h2⟩ := e
      exact ih j h1 h2
    · exact ⟨k, hk, fun j hj hp => e ⟨j, hj, hp⟩⟩
/-- each vertex has the least of its part -/
theorem gRp_ex {n : Nat} {C : Nat → Nat} (h : gPt n C) {v : Nat} (hv : v < n) : ∃ m, m < n ∧ m ≤ v ∧ C m = C v ∧ gRp C m = true := by
  obtain ⟨m, h1, h2⟩ := gLeast (fun w => (C v).testBit w = true) ⟨v, gPt_self h hv⟩
  have hm : m ≤ v := by
    rcases Nat.lt_or_ge v m with e | e
    · exact absurd (gPt_self h hv) (h2 v e)
    · exact e
  have e := (h.2 v m hv (by omega)).mp h1
  refine ⟨m, by omega, hm, e.symm, gRp_iff.mpr (fun w hw => ?_)⟩
  rw [← e]
  exact Bool.eq_false_iff.mpr (h2 w hw)
theorem gRp_one {n : Nat} {C : Nat → Nat} (h : gPt n C) {v w : Nat} (hv : v < n) (hw : w < n) (e : C v = C w) (h1 : gRp C v = true) (h2 : gRp C w = true) : v = w := by
  rcases Nat.lt_trichotomy v w with q | q | q
  · have := gRp_iff.mp h2 v q
    rw [← e, gPt_self h hv] at this; cases this
  · exact q
  · have := gRp_iff.mp h1 w q
    rw [e, gPt_self h hw] at this; cases this
theorem gCn_lt {n : Nat} {nb C : Nat → Nat} (h : gPt n C) {v : Nat} (hv : v < n) (hne : gRf n nb C v ≠ C v) : gCn n C < gCn n (gRf n nb C) := by
  have h' := gPt_s (nb := nb) h
  have sub : ∀ i, i < n → gRp C i = true → gRp (gRf n nb C) i = true := by
    intro i hi e
    rw [gRp_iff] at e ⊢
    intro w hw
    have := e w hw
    cases q : (gRf n nb C i).testBit w with
    | false => rfl
    | true => rw [((gRf_bit (by omega)).mp q).1] at this; cases this
  obtain ⟨w, hw, hwb, hwn⟩ : ∃ w, w < n ∧ (C v).testBit w = true ∧ (gRf n nb C v).testBit w = false := by
    apply Classical.byContradiction
    intro q
    apply hne
    apply Nat.eq_of_testBit_eq
    intro i
    by_cases hi : i < n
    · cases e : (gRf n nb C v).testBit i with
      | true => exact ((gRf_bit hi).mp e).1.symm
      | false =>
        cases e2 : (C v).testBit i with
        | false => rfl
        | true => exact absurd ⟨i, hi, e2, e⟩ q
    · have : 2 ^ n ≤ 2 ^ i := Nat.pow_le_pow_right (by decide) (by omega)
      rw [Nat.testBit_lt_two_pow (Nat.lt_of_lt_of_le (h'.1 v hv) this), Nat.testBit_lt_two_pow (Nat.lt_of_lt_of_le (h.1 v hv) this)]
  have evw := (h.2 v w hv hw).mp hwb
  obtain ⟨m, m1, m2, m3, m4⟩ := gRp_ex h hv
  obtain ⟨x, x1, x2, x3⟩ : ∃ x, x < n ∧ C x = C m ∧ gRf n nb C x ≠ gRf n nb C m := by
    by_cases e : gRf n nb C v = gRf n nb C m
    · refine ⟨w, hw, by rw [← evw, m3], fun q => ?_⟩
      have := (h'.2 v w hv hw).mpr (e.trans q.symm)
      rw [hwn] at this; cases this
    · exact ⟨v, hv, m3.symm, e⟩
  obtain ⟨y, y1, y2, y3, y4⟩ := gRp_ex h' x1
  have ey : C y = C x := by
    have : (gRf n nb C y).testBit x = true := (h'.2 y x y1 x1).mpr y3
    exact (h.2 y x y1 x1).mp ((gRf_bit x1).mp this).1
  have hyn : gRp C y = false := by
    cases q : gRp C y with
    | false => rfl
    | true =>
      have := gRp_one h y1 m1 (ey.trans x2) q m4
      rw [this] at y3
      exact absurd y3.symm x3
  refine gS_lt (j := y) (fun i hi => ?_) y1 ?_
  · cases q : gRp C i with
    | false => simp
    | true => simp [sub i hi q]
  · simp [hyn, y4]
theorem gCn_le (n : Nat) (C : Nat → Nat) : gCn n C ≤ n := by
  have := gS_mono (f := fun v => if gRp C v then 1 else 0) (g := fun _ => 1) (k := n) (fun i _ => by split <;> omega)
  have e : ∀ k, gS (fun _ => 1) k = k := by
    intro k
    induction k with
    | zero => rfl
    | succ k ih => simp only [gS, ih]
  rw [e] at this
  exact this
theorem gRf_eq {n : Nat} {nb C D : Nat → Nat} (h : ∀ v, v < n → C v = D v) : ∀ v, v < n → gRf n nb C v = gRf n nb D v := by
  intro v hv
  unfold gRf
  apply gMk_eq
  intro w hw
  rw [h v hv]
  congr 1
  apply Bool.eq_iff_iff.mpr
  rw [gAg_iff, gAg_iff]
  exact ⟨fun a x hx => by rw [← h x hx]; exact a x hx, fun a x hx => by rw [h x hx]; exact a x hx⟩
/-- once nothing is parted, nothing ever is -/
theorem gIt_st {n : Nat} {cc nb : Nat → Nat} {j : Nat} (h : ∀ v, v < n → gIt n cc nb (j + 1) v = gIt n cc nb j v) : ∀ k v, v < n → gIt n cc nb (j + k) v = gIt n cc nb j v
  | 0, _, _ => rfl
  | k + 1, v, hv => (gRf_eq (fun v hv => gIt_st h k v hv) v hv).trans (h v hv)
theorem gIt_end (n : Nat) (cc nb : Nat → Nat) : ∃ j, j ≤ n ∧ ∀ v, v < n → gIt n cc nb (j + 1) v = gIt n cc nb j v := by
  apply Classical.byContradiction
  intro q
  have step : ∀ j, j ≤ n → gCn n (gIt n cc nb j) < gCn n (gIt n cc nb (j + 1)) := by
    intro j hj
    have : ¬ ∀ v, v < n → gIt n cc nb (j + 1) v = gIt n cc nb j v := fun e => q ⟨j, hj, e⟩
    obtain ⟨v, hv⟩ := Classical.not_forall.mp this
    obtain ⟨h1, h2⟩ := Classical.not_imp.mp hv
    exact gCn_lt (gPt_it n cc nb j) h1 h2
  have : ∀ j, j ≤ n + 1 → j ≤ gCn n (gIt n cc nb j) := by
    intro j
    induction j with
    | zero => intro _; exact Nat.zero_le _
    | succ j ih =>
      intro hj
      have := step j (by omega)
      have := ih (by omega)
      omega
  have := this (n + 1) (Nat.le_refl _)
  have := gCn_le n (gIt n cc nb (n + 1))
  omega
/-- the cells -/
def gCe (n : Nat) (cc nb : Nat → Nat) : Nat → Nat := gIt n cc nb n
theorem gIt_ce {n : Nat} {cc nb : Nat → Nat} {j : Nat} (h : ∀ v, v < n → gIt n cc nb (j + 1) v = gIt n cc nb j v) : ∀ v, v < n → gIt n cc nb j v = gCe n cc nb v := by
  intro v hv
  obtain ⟨i, hi, hst⟩ := gIt_end n cc nb
  have a := gIt_st hst (n - i) v hv
  rw [show i + (n - i) = n by omega] at a
  unfold gCe
  rw [a]
  rcases Nat.le_total i j with e | e
  · have := gIt_st hst (j - i) v hv
    rw [show i + (j - i) = j by omega] at this
    exact this
  · have := gIt_st h (i - j) v hv
    rw [show j + (i - j) = i by omega] at this
    exact this.symm
theorem gCe_pt (n : Nat) (cc nb : Nat → Nat) : gPt n (gCe n cc nb) := gPt_it n cc nb n
end GB
