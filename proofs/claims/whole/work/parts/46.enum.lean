/-! All rows in their order: counting them. -/
section GE
def gVl (r : Nat → Nat) : Nat → Nat
  | 0 => 0
  | k + 1 => gVl r k * 8 + r k
theorem gVl_lt {r : Nat → Nat} : ∀ {k : Nat}, (∀ i, i < k → r i < 8) → gVl r k < 8 ^ k
  | 0, _ => by simp [gVl]
  | k + 1, h => by
    have h1 := gVl_lt (k := k) (fun i hi => h i (by omega))
    have h2 := h k (Nat.lt_succ_self k)
    rw [gVl, Nat.pow_succ]
    omega
theorem gVl_eq {r r' : Nat → Nat} : ∀ {k : Nat}, gp_eq k r r' → gVl r k = gVl r' k
  | 0, _ => rfl
  | k + 1, h => by rw [gVl, gVl, gVl_eq (fun i hi => h i (by omega)), h k (Nat.lt_succ_self k)]
theorem gVl_less {n : Nat} {r r' : Nat → Nat} (hr : ∀ i, i < n → r i < 8) (h : gp_lt n r r') : gVl r n < gVl r' n := by
  obtain ⟨k, h1, h2, h3⟩ := h
  have key : ∀ j, k + 1 + j ≤ n → gVl r (k + 1 + j) < gVl r' (k + 1 + j) := by
    intro j
    induction j with
    | zero =>
      intro _
      rw [Nat.add_zero, gVl, gVl, gVl_eq h2]
      omega
    | succ j ih =>
      intro hj
      have a := ih (by omega)
      have b := hr (k + 1 + j) (by omega)
      show gVl r (k + 1 + j) * 8 + r (k + 1 + j) < gVl r' (k + 1 + j) * 8 + r' (k + 1 + j)
      omega
  have := key (n - (k + 1)) (by omega)
  rw [show k + 1 + (n - (k + 1)) = n by omega] at this
  exact this
theorem gp_8 {n : Nat} {r : Nat → Nat} (hn : n ≤ 7) (hr : gp_pm n r) : ∀ i, i < n → r i < 8 := fun i hi => by have := hr.1 i hi; omega
theorem gVl_inj {n : Nat} {r r' : Nat → Nat} (hn : n ≤ 7) (hr : gp_pm n r) (hr' : gp_pm n r') (e : gVl r n = gVl r' n) : gp_eq n r r' := by
  rcases gp_tri n r r' with q | q | q
  · have := gVl_less (gp_8 hn hr) q; omega
  · exact q
  · have := gVl_less (gp_8 hn hr') q; omega
theorem gp_nx_iff {n i j : Nat} {r r' q : Nat → Nat} (hr : gp_pm n r) (hq : gp_pm n q) (h : gp_nx n i j r r') : gp_lt n q r' ↔ gp_lt n q r ∨ gp_eq n q r := by
  constructor
  · intro a
    rcases gp_tri n q r with b | b | b
    · exact Or.inl b
    · exact Or.inr b
    · exact absurd a (fun a => gp_nx_next hr hq h b a)
  · rintro (a | a)
    · exact gp_trans a (gp_nx_lt h)
    · exact gp_lt_l (fun k hk => (a k hk).symm) (gp_nx_lt h)
theorem gp_id_first {n : Nat} {q : Nat → Nat} (hq : gp_pm n q) : ¬ gp_lt n q (fun i => i) := by
  rintro ⟨k, h1, h2, h3⟩
  have h3' : q k < k := h3
  have := h2 (q k) h3'
  have := hq.2 (q k) k (by omega) h1 this
  omega
/-- one for what holds -/
noncomputable def gOne (A : Nat → Prop) (m : Nat) : Nat := @ite _ (A m) (Classical.propDecidable _) 1 0
theorem gOne_t {A : Nat → Prop} {m : Nat} (h : A m) : gOne A m = 1 := by unfold gOne; exact if_pos h
theorem gOne_f {A : Nat → Prop} {m : Nat} (h : ¬ A m) : gOne A m = 0 := by unfold gOne; exact if_neg h
theorem gOne_le (A : Nat → Prop) (m : Nat) : gOne A m ≤ 1 := by
  by_cases h : A m
  · rw [gOne_t h]; exact Nat.le_refl _
  · rw [gOne_f h]; exact Nat.zero_le _
theorem gS_inj : ∀ {N M : Nat} {A B : Nat → Prop} {g : Nat → Nat}, (∀ m, m < N → A m → B (g m) ∧ g m < M) → (∀ m m', m < N → m' < N → A m → A m' → g m = g m' → m = m') → gS (gOne A) N ≤ gS (gOne B) M
  | 0, _, _, _, _, _, _ => Nat.zero_le _
  | N + 1, M, A, B, g, h1, h2 => by
    have ih := fun B' h => gS_inj (N := N) (M := M) (A := A) (B := B') (g := g) h (fun m m' a b => h2 m m' (by omega) (by omega))
    rw [gS]
    by_cases hA : A N
    · obtain ⟨b1, b2⟩ := h1 N (Nat.lt_succ_self N) hA
      have := ih (fun y => B y ∧ y ≠ g N) (fun m hm hAm => ⟨⟨(h1 m (by omega) hAm).1, fun q => by have := h2 m N (by omega) (Nat.lt_succ_self N) hAm hA q; omega⟩, (h1 m (by omega) hAm).2⟩)
      have sw := gS_swap (g := gOne B) (a := g N) (v := 0) (k := M) b2
      have e : gS (gOne (fun y => B y ∧ y ≠ g N)) M = gS (fun y => if y = g N then 0 else gOne B y) M := gS_eq (fun i _ => by
        by_cases q : i = g N
        · rw [if_pos q, gOne_f (fun z => z.2 q)]
        · rw [if_neg q]
          by_cases b : B i
          · rw [gOne_t b, gOne_t ⟨b, q⟩]
          · rw [gOne_f b, gOne_f (fun z => b z.1)])
      rw [gOne_t b1, ← e] at sw
      rw [gOne_t hA]
      omega
    · rw [gOne_f hA]
      exact ih B (fun m hm hAm => h1 m (by omega) hAm)
/-- there is a row with this value that P likes -/
def gHas (n : Nat) (P : (Nat → Nat) → Prop) (m : Nat) : Prop := ∃ r, gp_pm n r ∧ gVl r n = m ∧ P r
/-- how many rows P likes -/
noncomputable def gCt (n : Nat) (P : (Nat → Nat) → Prop) : Nat := gS (gOne (gHas n P)) (8 ^ n)
def gRsp (n : Nat) (P : (Nat → Nat) → Prop) : Prop := ∀ r r', gp_eq n r r' → P r → P r'
theorem gHas_at {n : Nat} {P : (Nat → Nat) → Prop} {r : Nat → Nat} (hn : n ≤ 7) (hP : gRsp n P) (hr : gp_pm n r) : gHas n P (gVl r n) ↔ P r := by
  constructor
  · rintro ⟨q, q1, q2, q3⟩
    exact hP q r (gVl_inj hn q1 hr q2) q3
  · intro h
    exact ⟨r, hr, rfl, h⟩
theorem gCt_le {n : Nat} {P Q : (Nat → Nat) → Prop} (hn : n ≤ 7) (φ : (Nat → Nat) → Nat → Nat) (h1 : ∀ r, gp_pm n r → P r → gp_pm n (φ r) ∧ Q (φ r)) (h2 : ∀ r r', gp_pm n r → gp_pm n r' → gp_eq n (φ r) (φ r') → gp_eq n r r') : gCt n P ≤ gCt n Q := by
  have hs : ∀ m, ∃ r, gHas n P m → gp_pm n r ∧ gVl r n = m ∧ P r := by
    intro m
    by_cases q : gHas n P m
    · obtain ⟨r, hr⟩ := q
      exact ⟨r, fun _ => hr⟩
    · exact ⟨fun _ => 0, fun z => absurd z q⟩
  obtain ⟨c, hc⟩ := Classical.axiomOfChoice hs
  refine gS_inj (g := fun m => gVl (φ (c m)) n) (fun m hm hA => ?_) (fun m m' hm hm' hA hA' e => ?_)
  · obtain ⟨a1, a2, a3⟩ := hc m hA
    obtain ⟨b1, b2⟩ := h1 _ a1 a3
    exact ⟨⟨_, b1, rfl, b2⟩, gVl_lt (gp_8 hn b1)⟩
  · obtain ⟨a1, a2, a3⟩ := hc m hA
    obtain ⟨a1', a2', a3'⟩ := hc m' hA'
    have := h2 _ _ a1 a1' (gVl_inj hn (h1 _ a1 a3).1 (h1 _ a1' a3').1 e)
    rw [← a2, ← a2']
    exact gVl_eq this
theorem gS_comm (f : Nat → Nat → Nat) (k : Nat) : ∀ n, gS (fun i => gS (f i) k) n = gS (fun j => gS (fun i => f i j) n) k
  | 0 => by
    show 0 = _
    have : ∀ k, gS (fun _ => 0) k = 0 := by
      intro k
      induction k with
      | zero => rfl
      | succ k ih => simp only [gS, ih]
    exact (this k).symm
  | n + 1 => by
    show gS (fun i => gS (f i) k) n + gS (f n) k = gS (fun j => gS (fun i => f i j) n + f n j) k
    rw [gS_comm f k n, ← gS_add]
theorem gS_one {n w : Nat} (hw : w < n) : gS (fun i => if i = w then 1 else 0) n = 1 := by
  have z : ∀ k, gS (fun _ => 0) k = 0 := by
    intro k
    induction k with
    | zero => rfl
    | succ k ih => simp only [gS, ih]
  have := gS_swap (g := fun _ => 0) (a := w) (v := 1) (k := n) hw
  rw [z] at this
  omega
/-- counting by the place of k -/
theorem gCt_split {n k : Nat} {P : (Nat → Nat) → Prop} (hn : n ≤ 7) (hP : gRsp n P) (hk : k < n) : gCt n P = gS (fun w => gCt n (fun r => P r ∧ r k = w)) n := by
  unfold gCt
  rw [← gS_comm]
  apply gS_eq
  intro m _
  by_cases q : gHas n P m
  · rw [gOne_t q]
    obtain ⟨r, r1, r2, r3⟩ := q
    have : gS (fun w => gOne (gHas n (fun r => P r ∧ r k = w)) m) n = gS (fun i => if i = r k then 1 else 0) n := gS_eq (fun i _ => by
      by_cases z : i = r k
      · rw [if_pos z, gOne_t ⟨r, r1, r2, r3, z.symm⟩]
      · rw [if_neg z]
        apply gOne_f
        rintro ⟨s, s1, s2, s3, s4⟩
        have := gVl_inj hn s1 r1 (s2.trans r2.symm) k hk
        omega)
    rw [this, gS_one (r1.1 k hk)]
  · rw [gOne_f q]
    have : gS (fun w => gOne (gHas n (fun r => P r ∧ r k = w)) m) n = gS (fun _ => 0) n := gS_eq (fun i _ => gOne_f (fun ⟨s, s1, s2, s3, _⟩ => q ⟨s, s1, s2, s3⟩))
    rw [this]
    have z : ∀ k, gS (fun _ => 0) k = 0 := by
      intro k
      induction k with
      | zero => rfl
      | succ k ih => simp only [gS, ih]
    exact (z n).symm
theorem gCt_pos {n : Nat} {P : (Nat → Nat) → Prop} (hn : n ≤ 7) : 0 < gCt n P ↔ ∃ r, gp_pm n r ∧ P r := by
  constructor
  · intro h
    apply Classical.byContradiction
    intro q
    have : gCt n P = gS (fun _ => 0) (8 ^ n) := gS_eq (fun i _ => gOne_f (fun ⟨s, s1, s2, s3⟩ => q ⟨s, s1, s3⟩))
    have z : ∀ k, gS (fun _ => 0) k = 0 := by
      intro k
      induction k with
      | zero => rfl
      | succ k ih => simp only [gS, ih]
    rw [z] at this
    omega
  · rintro ⟨r, r1, r2⟩
    have hl : gVl r n < 8 ^ n := gVl_lt (gp_8 hn r1)
    have := gS_mono (f := fun i => if i = gVl r n then 1 else 0) (g := gOne (gHas n P)) (k := 8 ^ n) (fun i _ => by
      by_cases z : i = gVl r n
      · rw [if_pos z, z, gOne_t ⟨r, r1, rfl, r2⟩]; exact Nat.le_refl _
      · rw [if_neg z]; exact Nat.zero_le _)
    rw [gS_one hl] at this
    exact this
theorem gCt_bd {n : Nat} {P : (Nat → Nat) → Prop} (k : Nat) : gS (gOne (gHas n P)) k ≤ k := by
  have := gS_le (f := gOne (gHas n P)) (b := 1) (fun i => gOne_le _ i) k
  omega
/-- the automorphisms that keep a set -/
def gAs (n : Nat) (cc nb : Nat → Nat) (s : Nat) (r : Nat → Nat) : Prop := gAu n cc nb r ∧ ∀ i, i < n → s.testBit i = true → r i = i
theorem gAu_eq {n : Nat} {cc nb r r' : Nat → Nat} (e : gp_eq n r r') (h : gAu n cc nb r) : gAu n cc nb r' :=
  ⟨gp_pm_eq e h.1, fun i hi => by rw [← e i hi]; exact h.2.1 i hi, fun i j hi hj => by rw [← e i hi, ← e j hj]; exact h.2.2 i j hi hj⟩
theorem gAs_rsp {n : Nat} {cc nb : Nat → Nat} {s : Nat} : gRsp n (gAs n cc nb s) := fun _ _ e h => ⟨gAu_eq e h.1, fun i hi hb => by rw [← e i hi]; exact h.2 i hi hb⟩
theorem gAs_w {n : Nat} {cc nb : Nat → Nat} {s k w : Nat} (hn : n ≤ 7) (hk : k < n) (hw : gCa n cc nb s k w = true) : gCt n (fun r => gAs n cc nb s r ∧ r k = w) = gCt n (gAs n cc nb (s ||| 2 ^ k)) := by
  obtain ⟨f, f1, f2, f3⟩ := gCa_iff.mp hw
  obtain ⟨q, q1, q2, q3⟩ := gp_inv f1.1
  have qa := gAu_inv f1 q1 q3
  apply Nat.le_antisymm
  · refine gCt_le hn (fun r i => q (r i)) (fun r hr ⟨h1, h2⟩ => ⟨gp_comp q1 hr, gAu_comp qa h1.1, fun i hi hb => ?_⟩) (fun r r' hr hr' e i hi => ?_)
    · dsimp only
      rcases g_or_bit.mp hb with hb | hb
      · rw [h1.2 i hi hb]
        have := q2 i hi
        rw [f2 i hi hb] at this
        exact this
      · rw [hb, h2, ← f3]; exact q2 k hk
    · have := e i hi
      exact q1.2 _ _ (hr.1 i hi) (hr'.1 i hi) this
  · refine gCt_le hn (fun r i => f (r i)) (fun r hr h1 => ⟨gp_comp f1.1 hr, ⟨gAu_comp f1 h1.1, fun i hi hb => ?_⟩, ?_⟩) (fun r r' hr hr' e i hi => ?_)
    · dsimp only
      rw [h1.2 i hi (g_or_bit.mpr (Or.inl hb))]; exact f2 i hi hb
    · dsimp only
      rw [h1.2 k hk (g_or_bit.mpr (Or.inr rfl))]; exact f3
    · have := e i hi
      exact f1.1.2 _ _ (hr.1 i hi) (hr'.1 i hi) this
theorem gS_mul (f : Nat → Nat) (c : Nat) : ∀ k, gS (fun i => f i * c) k = gS f k * c
  | 0 => by simp [gS]
  | k + 1 => by simp only [gS, gS_mul f c k, Nat.add_mul]
/-- orbit times stabiliser -/
theorem gAs_orb {n : Nat} {cc nb : Nat → Nat} {s k : Nat} (hn : n ≤ 7) (hk : k < n) : gCt n (gAs n cc nb s) = gpc (gMk (gCa n cc nb s k) n) * gCt n (gAs n cc nb (s ||| 2 ^ k)) := by
  rw [gCt_split hn gAs_rsp hk, gpc_S (gMk_lt _ n) hn, ← gS_mul]
  apply gS_eq
  intro w hw
  rw [gMk_bit]
  have h1 : decide (w < n) = true := decide_eq_true hw
  rw [h1, Bool.true_and]
  cases q : gCa n cc nb s k w with
  | true => rw [if_pos rfl, Nat.one_mul]; exact gAs_w hn hk q
  | false =>
    rw [if_neg (by decide), Nat.zero_mul]
    apply Classical.byContradiction
    intro z
    obtain ⟨r, r1, r2, r3⟩ := (gCt_pos hn).mp (Nat.pos_of_ne_zero z)
    rw [gCa_iff.mpr ⟨r, r2.1, r2.2, r3⟩] at q
    cases q
theorem gFx_bit {s : Nat} : ∀ {k i : Nat}, i < k → (gFx s k).testBit i = true
  | 0, i, h => absurd h (Nat.not_lt_zero i)
  | k + 1, i, h => by
    rw [gFx, g_or_bit]
    by_cases q : i = k
    · exact Or.inr q
    · exact Or.inl (gFx_bit (by omega))
theorem gNu_ct {n : Nat} {cc nb : Nat → Nat} {s : Nat} (hn : n ≤ 7) : gCt n (gAs n cc nb s) = gNu n cc nb s n := by
  have key : ∀ k, k ≤ n → gCt n (gAs n cc nb s) = gNu n cc nb s k * gCt n (gAs n cc nb (gFx s k)) := by
    intro k
    induction k with
    | zero => intro _; rw [gNu, gFx, Nat.one_mul]
    | succ k ih =>
      intro hk
      rw [ih (by omega), gAs_orb (k := k) hn (by omega), gNu, gFx, Nat.mul_assoc]
  rw [key n (Nat.le_refl n)]
  have : gCt n (gAs n cc nb (gFx s n)) = 1 := by
    unfold gCt
    have hid : gp_pm n (fun i => i) := gp_id n
    have hl : gVl (fun i => i) n < 8 ^ n := gVl_lt (gp_8 hn hid)
    rw [← gS_one hl]
    apply gS_eq
    intro m _
    by_cases z : m = gVl (fun i => i) n
    · rw [if_pos z, gOne_t ⟨_, hid, z.symm, gAu_id n cc nb, fun _ _ _ => rfl⟩]
    · rw [if_neg z]
      apply gOne_f
      rintro ⟨r, r1, r2, r3⟩
      exact z (r2.symm.trans (gVl_eq (fun i hi => r3.2 i hi (gFx_bit hi))))
  rw [this, Nat.mul_one]
/-- nothing between a row and the next -/
theorem gS_nx {n i j : Nat} {r r' : Nat → Nat} {P : (Nat → Nat) → Prop} (hn : n ≤ 7) (hr : gp_pm n r) (h : gp_nx n i j r r') : gS (gOne (gHas n P)) (gVl r' n) = gS (gOne (gHas n P)) (gVl r n + 1) := by
  have hr' := gp_nx_pm hr h
  have hl := gVl_less (gp_8 hn hr) (gp_nx_lt h)
  refine gS_more (by omega) (fun m h1 h2 => gOne_f ?_)
  rintro ⟨q, q1, q2, _⟩
  have a : gp_lt n q r' := by
    rcases gp_tri n q r' with z | z | z
    · exact z
    · have := gVl_eq z; omega
    · have := gVl_less (gp_8 hn hr') z; omega
  rcases (gp_nx_iff hr q1 h).mp a with z | z
  · have := gVl_less (gp_8 hn q1) z; omega
  · have := gVl_eq z; omega
theorem gS_last {n : Nat} {r : Nat → Nat} {P : (Nat → Nat) → Prop} (hn : n ≤ 7) (hr : gp_pm n r) (h : ∀ k, k + 1 < n → r (k + 1) < r k) : gCt n P = gS (gOne (gHas n P)) (gVl r n + 1) := by
  have hl : gVl r n < 8 ^ n := gVl_lt (gp_8 hn hr)
  unfold gCt
  refine gS_more (by omega) (fun m h1 h2 => gOne_f ?_)
  rintro ⟨q, q1, q2, _⟩
  rcases gp_tri n q r with z | z | z
  · have := gVl_less (gp_8 hn q1) z; omega
  · have := gVl_eq z; omega
  · exact gp_last hr q1 h z
theorem gS_first {n : Nat} {P : (Nat → Nat) → Prop} (hn : n ≤ 7) : gS (gOne (gHas n P)) (gVl (fun i => i) n) = 0 := by
  have := gS_more (f := gOne (gHas n P)) (n := 0) (k := gVl (fun i => i) n) (Nat.zero_le _) (fun m _ h2 => gOne_f ?_)
  · exact this
  · rintro ⟨q, q1, q2, _⟩
    rcases gp_tri n q (fun i => i) with z | z | z
    · exact gp_id_first q1 z
    · have := gVl_eq z; omega
    · have := gVl_less (gp_8 hn (gp_id n)) z; omega
end GE
