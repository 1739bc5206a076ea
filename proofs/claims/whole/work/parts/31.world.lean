section BQ
/-- a number from an int, if it is one below N -/
def gI (N : Nat) (x : Int32) : Option Nat := if x < 0 then none else if nI N ≤ x then none else some x.toNatClampNeg
theorem gI_some {N j : Nat} (hN : N < 2 ^ 31) (hj : j < N) : gI N (nI j) = some j := by
  unfold gI
  rw [if_neg (nI_pos (by omega)), if_neg (nI_ge hj hN), nI_clamp (by omega)]
theorem gI_c {N : Nat} (hN : N < 2 ^ 31) (x : Int32) : (gI N x = none ∧ (x < 0 ∨ ¬ x < 0 ∧ nI N ≤ x)) ∨ ∃ j, j < N ∧ x = nI j ∧ gI N x = some j := by
  by_cases h0 : x < 0
  · exact Or.inl ⟨if_pos h0, Or.inl h0⟩
  · rcases pk_ix x hN with h | h | ⟨j, h1, h2⟩
    · exact absurd h h0
    · exact Or.inl ⟨by unfold gI; rw [if_neg h0, if_pos h], Or.inr ⟨h0, h⟩⟩
    · exact Or.inr ⟨j, h1, h2, by rw [h2]; exact gI_some hN h1⟩
theorem nI_all (x : Int32) : ∃ m, m < 2 ^ 32 ∧ x = nI m := by
  refine ⟨x.toBitVec.toNat, x.toBitVec.isLt, ?_⟩
  apply Int32.toBitVec_inj.1
  show x.toBitVec = BitVec.ofNat 32 x.toBitVec.toNat
  simp
theorem nI_0b {m : Nat} (hm : m < 2 ^ 32) : nI m = 0 ↔ m = 0 := by
  constructor
  · intro h
    have := congrArg (fun z => z.toBitVec.toNat) h
    simp only [pk_tn hm] at this
    exact this
  · intro h; rw [h]; rfl
theorem nI_inj32 {a b : Nat} (ha : a < 2 ^ 32) (hb : b < 2 ^ 32) (h : nI a = nI b) : a = b := by
  have := congrArg (fun z => z.toBitVec.toNat) h
  simp only [pk_tn ha, pk_tn hb] at this
  exact this
/-- the state: how many vertices, their colours, their neighbours -/
abbrev gSt : Type := (Nat → Nat) × (Nat → Nat → Nat) × (Nat → Nat → Nat)
def gPut (S : gSt) (g n : Nat) (cc nb : Nat → Nat) : gSt := (fun i => if i = g then n else S.1 i, fun i => if i = g then cc else S.2.1 i, fun i => if i = g then nb else S.2.2 i)
def gXn (m : Nat) (h : tm_Hp) : Prop := ∃ (x : Int32) (V P T : Nat → Int32), h m = tm_o 2 [.int x, .ref (m + 1), .ref (m + 2), .ref (m + 3)] ∧ h (m + 1) = tm_i 7 V ∧ h (m + 2) = tm_i 7 P ∧ h (m + 3) = tm_i 7 T
def gXs (h : tm_Hp) : Prop := ∃ (x : Int32) (c f : Nat → Int32), h 5 = tm_o 1 [.int x, .ref 12, .ref 13] ∧ h 12 = tm_i 7 c ∧ h 13 = tm_i 7 f
def gXl (h : tm_Hp) : Prop := h 22 = tm_o 3 [.ref 23] ∧ ∃ f, h 23 = tm_i 7 f
def gXo (h : tm_Hp) : Prop := h 0 = tm_o 0 [.ref 1, .ref 5, .ref 14, .ref 18, .ref 22, .ref 24] ∧ ∃ f, h 1 = tm_q 3 f ∧ ∀ i, i < 3 → f i = some (i + 2)
def gXg (S : gSt) (h : tm_Hp) : Prop := ∀ g, g < 3 → gG h (g + 2) (2 * g + 6) (2 * g + 7) (S.1 g) (S.2.1 g) (S.2.2 g)
/-- the class's part of the world -/
def gX (S : gSt) (h : tm_Hp) : Prop := gXo h ∧ gXg S h ∧ gXs h ∧ gXn 14 h ∧ gXn 18 h ∧ gXl h ∧ gPw 0 24 25 26 (fun _ => 0) h
variable {S : gSt} {h h' : tm_Hp}
theorem gXo.fr (x : gXo h) (e : ∀ k, k < 2 → h' k = h k) : gXo h' := by
  obtain ⟨a, f, b, c⟩ := x
  exact ⟨(e 0 (by decide)).trans a, f, (e 1 (by decide)).trans b, c⟩
theorem gXg.fr (x : gXg S h) (e : ∀ k, 2 ≤ k → k < 12 → k ≠ 5 → h' k = h k) : gXg S h' := fun g hg => (x g hg).fr (fun k hk => e k (by omega) (by omega) (by omega))
theorem gXs.fr (x : gXs h) (e : ∀ k, k = 5 ∨ k = 12 ∨ k = 13 → h' k = h k) : gXs h' := by
  obtain ⟨x, c, f, a1, a2, a3⟩ := x
  exact ⟨x, c, f, (e 5 (by omega)).trans a1, (e 12 (by omega)).trans a2, (e 13 (by omega)).trans a3⟩
theorem gXn.fr {m : Nat} (x : gXn m h) (e : ∀ k, m ≤ k → k < m + 4 → h' k = h k) : gXn m h' := by
  obtain ⟨x, V, P, T, a1, a2, a3, a4⟩ := x
  exact ⟨x, V, P, T, (e _ (by omega) (by omega)).trans a1, (e _ (by omega) (by omega)).trans a2, (e _ (by omega) (by omega)).trans a3, (e _ (by omega) (by omega)).trans a4⟩
theorem gXl.fr (x : gXl h) (e : ∀ k, k = 22 ∨ k = 23 → h' k = h k) : gXl h' := by
  obtain ⟨a, f, b⟩ := x
  exact ⟨(e 22 (by omega)).trans a, f, (e 23 (by omega)).trans b⟩
theorem gPw.fr {n : Nat} {C : Nat → Nat} (x : gPw n 24 25 26 C h) (e : ∀ k, k = 24 ∨ k = 25 ∨ k = 26 → h' k = h k) : gPw n 24 25 26 C h' := by
  obtain ⟨y1, y2, e1, e2, w1, w2, w3, w4, w5⟩ := x
  exact ⟨y1, y2, e1, e2, w1, (e 24 (by omega)).trans w2, (e y1 (by omega)).trans w3, (e y2 (by omega)).trans w4, w5⟩
theorem gX.fr (x : gX S h) (e : ∀ k, k < 27 → h' k = h k) : gX S h' :=
  ⟨x.1.fr (fun k hk => e k (by omega)), x.2.1.fr (fun k _ _ _ => e k (by omega)), x.2.2.1.fr (fun k _ => e k (by omega)), x.2.2.2.1.fr (fun k _ _ => e k (by omega)), x.2.2.2.2.1.fr (fun k _ _ => e k (by omega)), x.2.2.2.2.2.1.fr (fun k _ => e k (by omega)), x.2.2.2.2.2.2.fr (fun k _ => e k (by omega))⟩
theorem gXg.put {j n : Nat} {cc nb : Nat → Nat} (x : gXg S h) (hj : j < 3) (e : ∀ k, 2 ≤ k → k < 12 → k ≠ 5 → k ≠ j + 2 → k ≠ 2 * j + 6 → k ≠ 2 * j + 7 → h' k = h k) (y : gG h' (j + 2) (2 * j + 6) (2 * j + 7) n cc nb) : gXg (gPut S j n cc nb) h' := by
  intro g hg
  by_cases q : g = j
  · subst q
    show gG h' _ _ _ (if g = g then n else _) (if g = g then cc else _) (if g = g then nb else _)
    rw [if_pos rfl, if_pos rfl, if_pos rfl]
    exact y
  · show gG h' _ _ _ (if g = j then n else _) (if g = j then cc else _) (if g = j then nb else _)
    rw [if_neg q, if_neg q, if_neg q]
    exact (x g hg).fr (fun k hk => e k (by omega) (by omega) (by omega) (by omega) (by omega) (by omega))
theorem gX.put {j n : Nat} {cc nb : Nat → Nat} (x : gX S h) (hj : j < 3) (e : ∀ k, k ≠ j + 2 → k ≠ 2 * j + 6 → k ≠ 2 * j + 7 → h' k = h k) (y : gG h' (j + 2) (2 * j + 6) (2 * j + 7) n cc nb) : gX (gPut S j n cc nb) h' :=
  ⟨x.1.fr (fun k hk => e k (by omega) (by omega) (by omega)), x.2.1.put hj (fun k _ _ _ => e k) y, x.2.2.1.fr (fun k _ => e k (by omega) (by omega) (by omega)), x.2.2.2.1.fr (fun k _ _ => e k (by omega) (by omega) (by omega)), x.2.2.2.2.1.fr (fun k _ _ => e k (by omega) (by omega) (by omega)), x.2.2.2.2.2.1.fr (fun k _ => e k (by omega) (by omega) (by omega)), x.2.2.2.2.2.2.fr (fun k _ => e k (by omega) (by omega) (by omega))⟩
/-- an answer, or the number of an exception -/
abbrev gRs : Type := (Int32 ⊕ Nat) × gSt
def gOc : Int32 ⊕ Nat → tm_O
  | .inl v => .inl (some (.int v))
  | .inr k => .inr k
def gPo (h : tm_Hp) (q : gRs) : tm_O → tm_Hp → Prop := fun z h' => z = gOc q.1 ∧ gX q.2 h' ∧ ∀ k, 27 ≤ k → h' k = h k
theorem gPo.no {k : Nat} (x : gX S h) : gPo h (.inr k, S) (.inr k) h := ⟨rfl, x, fun _ _ => rfl⟩
theorem gPo.yes {v : Int32} (x : gX S h) : gPo h (.inl v, S) (.inl (some (.int v))) h := ⟨rfl, x, fun _ _ => rfl⟩
end BQ
section BR
variable {S : gSt} {h : tm_Hp} {p a b n : Nat} {d u0 u : Nat}
set_option maxRecDepth 20000 in
theorem c_N_graphOf_n {x : Int32} (hx : x < 0 ∨ ¬ x < 0 ∧ nI 3 ≤ x) : tm_C M_N_graphOf 6 1 [.ref 0, .int x] h (fun z k => z = .inr 0 ∧ k = h) := by
  refine tm_C.by (L := [some (.ref 0), some (.int x)]) rfl rfl rfl rfl rfl ?_
  rcases hx with hx | ⟨hx, hx2⟩
  · apply tm_run [] 80
    simp (disch := first | assumption | omega) only [↓reduceIte, tm_w_i, tm_w_0, Bool.false_eq_true, tm_gI_0, tm_gI_s, tm_gA_0, tm_gA_s, tm_fv_0, tm_fv_s, tm_p1_e, tm_pA_e, tm_pJ_e, tm_pV_i, tm_pV_r, tm_cI_e, tm_cZ_e, tm_cJ_e, tm_cQ_e, tm_cO_e, tm_rq_e, List.set_cons_zero, List.set_cons_succ, List.contains_cons, List.contains_nil, Nat.reduceBEq, Bool.or_false, Bool.false_or, Bool.or_true, Bool.true_or, Bool.or_self, cond_true, cond_false, true_and, and_true, or_true, true_or, true_implies, false_implies, not_true_eq_false, not_false_eq_true, List.length_cons, List.length_nil, Option.toList_some, Option.toList_none, List.cons_append, List.nil_append, ws_N_graphOf_0, ws_N_graphOf_1, ws_N_graphOf_4, ws_N_graphOf_5, ws_N_graphOf_6, ws_N_graphOf_9, ws_N_graphOf_19, ws_N_graphOf_20, ws_N_graphOf_23, ws_N_graphOf_24, ws_N_graphOf_25, tm_up_s, tm_up_n, tm_up_up, nI_leI, nI_ltI, nI_eq, nI_cl, nI_in', ix_1shl, ix_or, ix_xor, nI_1, bI_0, bI_1, bI_F, pk_us, pk_un, hx]
    exact th_N_graphOf_9 (by decide) (by decide) ⟨rfl, rfl⟩
  · have h3 : ¬ x < 3 := Int32.not_lt.mpr hx2
    apply tm_run [] 80
    simp (disch := first | assumption | omega) only [↓reduceIte, tm_w_i, tm_w_0, Bool.false_eq_true, tm_gI_0, tm_gI_s, tm_gA_0, tm_gA_s, tm_fv_0, tm_fv_s, tm_p1_e, tm_pA_e, tm_pJ_e, tm_pV_i, tm_pV_r, tm_cI_e, tm_cZ_e, tm_cJ_e, tm_cQ_e, tm_cO_e, tm_rq_e, List.set_cons_zero, List.set_cons_succ, List.contains_cons, List.contains_nil, Nat.reduceBEq, Bool.or_false, Bool.false_or, Bool.or_true, Bool.true_or, Bool.or_self, cond_true, cond_false, true_and, and_true, or_true, true_or, true_implies, false_implies, not_true_eq_false, not_false_eq_true, List.length_cons, List.length_nil, Option.toList_some, Option.toList_none, List.cons_append, List.nil_append, ws_N_graphOf_0, ws_N_graphOf_1, ws_N_graphOf_4, ws_N_graphOf_5, ws_N_graphOf_6, ws_N_graphOf_9, ws_N_graphOf_19, ws_N_graphOf_20, ws_N_graphOf_23, ws_N_graphOf_24, ws_N_graphOf_25, tm_up_s, tm_up_n, tm_up_up, nI_leI, nI_ltI, nI_eq, nI_cl, nI_in', ix_1shl, ix_or, ix_xor, nI_1, bI_0, bI_1, bI_F, pk_us, pk_un, hx, h3]
    exact th_N_graphOf_9 (by decide) (by decide) ⟨rfl, rfl⟩
set_option maxRecDepth 20000 in
theorem c_N_graphOf_s {j : Nat} (hX : gXo h) (hj : j < 3) : tm_C M_N_graphOf 6 1 [.ref 0, .int (nI j)] h (fun z k => z = .inl (some (.ref (j + 2))) ∧ k = h) := by
  refine tm_C.by (L := [some (.ref 0), some (.int (nI j))]) rfl rfl rfl rfl rfl ?_
  obtain ⟨h0, f, h1, h2⟩ := hX
  have hp : ¬ nI j < 0 := nI_pos (by omega)
  apply tm_run [] 80
  simp (disch := first | assumption | omega) only [↓reduceIte, tm_w_i, tm_w_0, Bool.false_eq_true, tm_gI_0, tm_gI_s, tm_gA_0, tm_gA_s, tm_fv_0, tm_fv_s, tm_p1_e, tm_pA_e, tm_pJ_e, tm_pV_i, tm_pV_r, tm_cI_e, tm_cZ_e, tm_cJ_e, tm_cQ_e, tm_cO_e, tm_rq_e, List.set_cons_zero, List.set_cons_succ, List.contains_cons, List.contains_nil, Nat.reduceBEq, Bool.or_false, Bool.false_or, Bool.or_true, Bool.true_or, Bool.or_self, cond_true, cond_false, true_and, and_true, or_true, true_or, true_implies, false_implies, not_true_eq_false, not_false_eq_true, List.length_cons, List.length_nil, Option.toList_some, Option.toList_none, List.cons_append, List.nil_append, ws_N_graphOf_0, ws_N_graphOf_1, ws_N_graphOf_4, ws_N_graphOf_5, ws_N_graphOf_6, ws_N_graphOf_9, ws_N_graphOf_19, ws_N_graphOf_20, ws_N_graphOf_23, ws_N_graphOf_24, ws_N_graphOf_25, tm_up_s, tm_up_n, tm_up_up, nI_leI, nI_ltI, nI_eq, nI_cl, nI_in', ix_1shl, ix_or, ix_xor, nI_1, bI_0, bI_1, bI_F, pk_us, pk_un, hp, i_3, hj, h0, h1, h2 j hj]
set_option maxRecDepth 20000 in
theorem c_N_needVertex_n {x : Int32} (hp : h p = tm_o 1 [.int (nI n), .ref a, .ref b]) (hx : x < 0 ∨ ¬ x < 0 ∧ nI n ≤ x) : tm_C M_N_needVertex 6 1 [.ref p, .int x] h (fun z k => z = .inr 0 ∧ k = h) := by
  refine tm_C.by (L := [some (.ref p), some (.int x)]) rfl rfl rfl rfl rfl ?_
  rcases hx with hx | ⟨hx, hx2⟩
  · apply tm_run [] 80
    simp (disch := first | assumption | omega) only [↓reduceIte, tm_w_i, tm_w_0, Bool.false_eq_true, tm_gI_0, tm_gI_s, tm_gA_0, tm_gA_s, tm_fv_0, tm_fv_s, tm_p1_e, tm_pA_e, tm_pJ_e, tm_pV_i, tm_pV_r, tm_cI_e, tm_cZ_e, tm_cJ_e, tm_cQ_e, tm_cO_e, tm_rq_e, List.set_cons_zero, List.set_cons_succ, List.contains_cons, List.contains_nil, Nat.reduceBEq, Bool.or_false, Bool.false_or, Bool.or_true, Bool.true_or, Bool.or_self, cond_true, cond_false, true_and, and_true, or_true, true_or, true_implies, false_implies, not_true_eq_false, not_false_eq_true, List.length_cons, List.length_nil, Option.toList_some, Option.toList_none, List.cons_append, List.nil_append, ws_N_needVertex_0, ws_N_needVertex_1, ws_N_needVertex_4, ws_N_needVertex_5, ws_N_needVertex_6, ws_N_needVertex_9, ws_N_needVertex_12, ws_N_needVertex_22, tm_up_s, tm_up_n, tm_up_up, nI_leI, nI_ltI, nI_eq, nI_cl, nI_in', ix_1shl, ix_or, ix_xor, nI_1, bI_0, bI_1, bI_F, pk_us, pk_un, hx]
    exact th_N_needVertex_12 (by decide) (by decide) ⟨rfl, rfl⟩
  · have h3 : ¬ x < nI n := Int32.not_lt.mpr hx2
    apply tm_run [] 80
    simp (disch := first | assumption | omega) only [↓reduceIte, tm_w_i, tm_w_0, Bool.false_eq_true, tm_gI_0, tm_gI_s, tm_gA_0, tm_gA_s, tm_fv_0, tm_fv_s, tm_p1_e, tm_pA_e, tm_pJ_e, tm_pV_i, tm_pV_r, tm_cI_e, tm_cZ_e, tm_cJ_e, tm_cQ_e, tm_cO_e, tm_rq_e, List.set_cons_zero, List.set_cons_succ, List.contains_cons, List.contains_nil, Nat.reduceBEq, Bool.or_false, Bool.false_or, Bool.or_true, Bool.true_or, Bool.or_self, cond_true, cond_false, true_and, and_true, or_true, true_or, true_implies, false_implies, not_true_eq_false, not_false_eq_true, List.length_cons, List.length_nil, Option.toList_some, Option.toList_none, List.cons_append, List.nil_append, ws_N_needVertex_0, ws_N_needVertex_1, ws_N_needVertex_4, ws_N_needVertex_5, ws_N_needVertex_6, ws_N_needVertex_9, ws_N_needVertex_12, ws_N_needVertex_22, tm_up_s, tm_up_n, tm_up_up, nI_leI, nI_ltI, nI_eq, nI_cl, nI_in', ix_1shl, ix_or, ix_xor, nI_1, bI_0, bI_1, bI_F, pk_us, pk_un, hx, h3, hp]
    exact th_N_needVertex_12 (by decide) (by decide) ⟨rfl, rfl⟩
set_option maxRecDepth 20000 in
theorem c_N_needVertex_s {v : Nat} (hp : h p = tm_o 1 [.int (nI n), .ref a, .ref b]) (hv : v < n) (hn : n ≤ 7) : tm_C M_N_needVertex 6 1 [.ref p, .int (nI v)] h (fun z k => z = .inl none ∧ k = h) := by
  refine tm_C.by (L := [some (.ref p), some (.int (nI v))]) rfl rfl rfl rfl rfl ?_
  have h0 : ¬ nI v < 0 := nI_pos (by omega)
  apply tm_run [] 80
  simp (disch := first | assumption | omega) only [↓reduceIte, tm_w_i, tm_w_0, Bool.false_eq_true, tm_gI_0, tm_gI_s, tm_gA_0, tm_gA_s, tm_fv_0, tm_fv_s, tm_p1_e, tm_pA_e, tm_pJ_e, tm_pV_i, tm_pV_r, tm_cI_e, tm_cZ_e, tm_cJ_e, tm_cQ_e, tm_cO_e, tm_rq_e, List.set_cons_zero, List.set_cons_succ, List.contains_cons, List.contains_nil, Nat.reduceBEq, Bool.or_false, Bool.false_or, Bool.or_true, Bool.true_or, Bool.or_self, cond_true, cond_false, true_and, and_true, or_true, true_or, true_implies, false_implies, not_true_eq_false, not_false_eq_true, List.length_cons, List.length_nil, Option.toList_some, Option.toList_none, List.cons_append, List.nil_append, ws_N_needVertex_0, ws_N_needVertex_1, ws_N_needVertex_4, ws_N_needVertex_5, ws_N_needVertex_6, ws_N_needVertex_9, ws_N_needVertex_12, ws_N_needVertex_22, tm_up_s, tm_up_n, tm_up_up, nI_leI, nI_ltI, nI_eq, nI_cl, nI_in', ix_1shl, ix_or, ix_xor, nI_1, bI_0, bI_1, bI_F, pk_us, pk_un, h0, hp, hv]
set_option maxRecDepth 20000 in
theorem c_N_needColour_n {x : Int32} (hx : x < 0 ∨ ¬ x < 0 ∧ nI 4 ≤ x) : tm_C M_N_needColour 6 1 [.int x] h (fun z k => z = .inr 1 ∧ k = h) := by
  refine tm_C.by (L := [some (.int x)]) rfl rfl rfl rfl rfl ?_
  rcases hx with hx | ⟨hx, hx2⟩
  · apply tm_run [] 80
    simp (disch := first | assumption | omega) only [↓reduceIte, tm_w_i, tm_w_0, Bool.false_eq_true, tm_gI_0, tm_gI_s, tm_gA_0, tm_gA_s, tm_fv_0, tm_fv_s, tm_p1_e, tm_pA_e, tm_pJ_e, tm_pV_i, tm_pV_r, tm_cI_e, tm_cZ_e, tm_cJ_e, tm_cQ_e, tm_cO_e, tm_rq_e, List.set_cons_zero, List.set_cons_succ, List.contains_cons, List.contains_nil, Nat.reduceBEq, Bool.or_false, Bool.false_or, Bool.or_true, Bool.true_or, Bool.or_self, cond_true, cond_false, true_and, and_true, or_true, true_or, true_implies, false_implies, not_true_eq_false, not_false_eq_true, List.length_cons, List.length_nil, Option.toList_some, Option.toList_none, List.cons_append, List.nil_append, ws_N_needColour_0, ws_N_needColour_1, ws_N_needColour_4, ws_N_needColour_5, ws_N_needColour_6, ws_N_needColour_9, ws_N_needColour_19, tm_up_s, tm_up_n, tm_up_up, nI_leI, nI_ltI, nI_eq, nI_cl, nI_in', ix_1shl, ix_or, ix_xor, nI_1, bI_0, bI_1, bI_F, pk_us, pk_un, hx]
    exact th_N_needColour_9 (by decide) (by decide) ⟨rfl, rfl⟩
  · have h3 : ¬ x < 4 := Int32.not_lt.mpr hx2
    apply tm_run [] 80
    simp (disch := first | assumption | omega) only [↓reduceIte, tm_w_i, tm_w_0, Bool.false_eq_true, tm_gI_0, tm_gI_s, tm_gA_0, tm_gA_s, tm_fv_0, tm_fv_s, tm_p1_e, tm_pA_e, tm_pJ_e, tm_pV_i, tm_pV_r, tm_cI_e, tm_cZ_e, tm_cJ_e, tm_cQ_e, tm_cO_e, tm_rq_e, List.set_cons_zero, List.set_cons_succ, List.contains_cons, List.contains_nil, Nat.reduceBEq, Bool.or_false, Bool.false_or, Bool.or_true, Bool.true_or, Bool.or_self, cond_true, cond_false, true_and, and_true, or_true, true_or, true_implies, false_implies, not_true_eq_false, not_false_eq_true, List.length_cons, List.length_nil, Option.toList_some, Option.toList_none, List.cons_append, List.nil_append, ws_N_needColour_0, ws_N_needColour_1, ws_N_needColour_4, ws_N_needColour_5, ws_N_needColour_6, ws_N_needColour_9, ws_N_needColour_19, tm_up_s, tm_up_n, tm_up_up, nI_leI, nI_ltI, nI_eq, nI_cl, nI_in', ix_1shl, ix_or, ix_xor, nI_1, bI_0, bI_1, bI_F, pk_us, pk_un, hx, h3]
    exact th_N_needColour_9 (by decide) (by decide) ⟨rfl, rfl⟩
set_option maxRecDepth 20000 in
theorem c_N_needColour_s {v : Nat} (hv : v < 4) : tm_C M_N_needColour 6 1 [.int (nI v)] h (fun z k => z = .inl none ∧ k = h) := by
  refine tm_C.by (L := [some (.int (nI v))]) rfl rfl rfl rfl rfl ?_
  have h0 : ¬ nI v < 0 := nI_pos (by omega)
  apply tm_run [] 80
  simp (disch := first | assumption | omega) only [↓reduceIte, tm_w_i, tm_w_0, Bool.false_eq_true, tm_gI_0, tm_gI_s, tm_gA_0, tm_gA_s, tm_fv_0, tm_fv_s, tm_p1_e, tm_pA_e, tm_pJ_e, tm_pV_i, tm_pV_r, tm_cI_e, tm_cZ_e, tm_cJ_e, tm_cQ_e, tm_cO_e, tm_rq_e, List.set_cons_zero, List.set_cons_succ, List.contains_cons, List.contains_nil, Nat.reduceBEq, Bool.or_false, Bool.false_or, Bool.or_true, Bool.true_or, Bool.or_self, cond_true, cond_false, true_and, and_true, or_true, true_or, true_implies, false_implies, not_true_eq_false, not_false_eq_true, List.length_cons, List.length_nil, Option.toList_some, Option.toList_none, List.cons_append, List.nil_append, ws_N_needColour_0, ws_N_needColour_1, ws_N_needColour_4, ws_N_needColour_5, ws_N_needColour_6, ws_N_needColour_9, ws_N_needColour_19, tm_up_s, tm_up_n, tm_up_up, nI_leI, nI_ltI, nI_eq, nI_cl, nI_in', ix_1shl, ix_or, ix_xor, nI_1, bI_0, bI_1, bI_F, pk_us, pk_un, h0, i_4, hv]
theorem gI_set {n : Nat} (hn : n ≤ 7) (x : Int32) : ((x.toUInt32 >>> ((nI n).toUInt32 &&& Int32.toUInt32 31)).toInt32 = 0 ∧ ∃ m, m < 2 ^ n ∧ x = nI m ∧ gI (2 ^ n) x = some m) ∨ (¬ (x.toUInt32 >>> ((nI n).toUInt32 &&& Int32.toUInt32 31)).toInt32 = 0 ∧ gI (2 ^ n) x = none) := by
  obtain ⟨m, h1, rfl⟩ := nI_all x
  have hp : 2 ^ n ≤ 2 ^ 7 := Nat.pow_le_pow_right (by decide) hn
  have hp0 : 0 < 2 ^ n := Nat.two_pow_pos n
  rw [ix_ushr h1 (by omega), nI_0b (Nat.lt_of_le_of_lt (Nat.div_le_self _ _) h1)]
  by_cases e : m < 2 ^ n
  · exact Or.inl ⟨Nat.div_eq_of_lt e, m, e, rfl, gI_some (by omega) e⟩
  · refine Or.inr ⟨fun q => ?_, ?_⟩
    · rcases Nat.div_eq_zero_iff.mp q with q | q <;> omega
    · rcases gI_c (N := 2 ^ n) (by omega) (nI m) with ⟨q, _⟩ | ⟨j, q1, q2, _⟩
      · exact q
      · have := nI_inj32 h1 (by omega) q2
        omega
set_option maxRecDepth 20000 in
theorem c_N_needSet_n {x : Int32} (hp : h p = tm_o 1 [.int (nI n), .ref a, .ref b]) (hx : ¬ (x.toUInt32 >>> ((nI n).toUInt32 &&& Int32.toUInt32 31)).toInt32 = 0) : tm_C M_N_needSet 6 1 [.ref p, .int x] h (fun z k => z = .inr 0 ∧ k = h) := by
  refine tm_C.by (L := [some (.ref p), some (.int x)]) rfl rfl rfl rfl rfl ?_
  apply tm_run [] 80
  simp (disch := first | assumption | omega) only [↓reduceIte, tm_w_i, tm_w_0, Bool.false_eq_true, tm_gI_0, tm_gI_s, tm_gA_0, tm_gA_s, tm_fv_0, tm_fv_s, tm_p1_e, tm_pA_e, tm_pJ_e, tm_pV_i, tm_pV_r, tm_cI_e, tm_cZ_e, tm_cJ_e, tm_cQ_e, tm_cO_e, tm_rq_e, List.set_cons_zero, List.set_cons_succ, List.contains_cons, List.contains_nil, Nat.reduceBEq, Bool.or_false, Bool.false_or, Bool.or_true, Bool.true_or, Bool.or_self, cond_true, cond_false, true_and, and_true, or_true, true_or, true_implies, false_implies, not_true_eq_false, not_false_eq_true, List.length_cons, List.length_nil, Option.toList_some, Option.toList_none, List.cons_append, List.nil_append, ws_N_needSet_0, ws_N_needSet_1, ws_N_needSet_2, ws_N_needSet_5, ws_N_needSet_6, ws_N_needSet_9, ws_N_needSet_19, tm_up_s, tm_up_n, tm_up_up, nI_leI, nI_ltI, nI_eq, nI_cl, nI_in', ix_1shl, ix_or, ix_xor, nI_1, bI_0, bI_1, bI_F, pk_us, pk_un, hx, hp]
  exact th_N_needSet_9 (by decide) (by decide) ⟨rfl, rfl⟩
set_option maxRecDepth 20000 in
theorem c_N_needSet_s {x : Int32} (hp : h p = tm_o 1 [.int (nI n), .ref a, .ref b]) (hx : (x.toUInt32 >>> ((nI n).toUInt32 &&& Int32.toUInt32 31)).toInt32 = 0) : tm_C M_N_needSet 6 1 [.ref p, .int x] h (fun z k => z = .inl none ∧ k = h) := by
  refine tm_C.by (L := [some (.ref p), some (.int x)]) rfl rfl rfl rfl rfl ?_
  apply tm_run [] 80
  simp (disch := first | assumption | omega) only [↓reduceIte, tm_w_i, tm_w_0, Bool.false_eq_true, tm_gI_0, tm_gI_s, tm_gA_0, tm_gA_s, tm_fv_0, tm_fv_s, tm_p1_e, tm_pA_e, tm_pJ_e, tm_pV_i, tm_pV_r, tm_cI_e, tm_cZ_e, tm_cJ_e, tm_cQ_e, tm_cO_e, tm_rq_e, List.set_cons_zero, List.set_cons_succ, List.contains_cons, List.contains_nil, Nat.reduceBEq, Bool.or_false, Bool.false_or, Bool.or_true, Bool.true_or, Bool.or_self, cond_true, cond_false, true_and, and_true, or_true, true_or, true_implies, false_implies, not_true_eq_false, not_false_eq_true, List.length_cons, List.length_nil, Option.toList_some, Option.toList_none, List.cons_append, List.nil_append, ws_N_needSet_0, ws_N_needSet_1, ws_N_needSet_2, ws_N_needSet_5, ws_N_needSet_6, ws_N_needSet_9, ws_N_needSet_19, tm_up_s, tm_up_n, tm_up_up, nI_leI, nI_ltI, nI_eq, nI_cl, nI_in', ix_1shl, ix_or, ix_xor, nI_1, bI_0, bI_1, bI_F, pk_us, pk_un, hx, hp]
theorem gX.cnt {j : Nat} (x : gX S h) (hj : j < 3) : S.1 j ≤ 7 ∧ h (j + 2) = tm_o 1 [.int (nI (S.1 j)), .ref (2 * j + 6), .ref (2 * j + 7)] := by
  obtain ⟨c, f, h1, _, _, _, _, h2⟩ := x.2.1 j hj
  exact ⟨h2.1, h1⟩
set_option maxRecDepth 20000 in
theorem c_N_graphWith_n1 {x v : Int32} (hX : gX S h) (hx : x < 0 ∨ ¬ x < 0 ∧ nI 3 ≤ x) : tm_C M_N_graphWith 7 2 [.ref 0, .int x, .int v] h (fun z k => z = .inr 0 ∧ k = h) := by
  refine tm_C.by (L := [some (.ref 0), some (.int x), some (.int v), none]) rfl rfl rfl rfl rfl ?_
  apply tm_run [] 80
  simp (disch := first | assumption | omega) only [↓reduceIte, tm_w_i, tm_w_0, Bool.false_eq_true, tm_gI_0, tm_gI_s, tm_gA_0, tm_gA_s, tm_fv_0, tm_fv_s, tm_p1_e, tm_pA_e, tm_pJ_e, tm_pV_i, tm_pV_r, tm_cI_e, tm_cZ_e, tm_cJ_e, tm_cQ_e, tm_cO_e, tm_rq_e, List.set_cons_zero, List.set_cons_succ, List.contains_cons, List.contains_nil, Nat.reduceBEq, Bool.or_false, Bool.false_or, Bool.or_true, Bool.true_or, Bool.or_self, cond_true, cond_false, true_and, and_true, or_true, true_or, true_implies, false_implies, not_true_eq_false, not_false_eq_true, List.length_cons, List.length_nil, Option.toList_some, Option.toList_none, List.cons_append, List.nil_append, ws_N_graphWith_0, ws_N_graphWith_1, ws_N_graphWith_2, ws_N_graphWith_5, ws_N_graphWith_6, ws_N_graphWith_7, ws_N_graphWith_8, ws_N_graphWith_11, ws_N_graphWith_12, tm_up_s, tm_up_n, tm_up_up, nI_leI, nI_ltI, nI_eq, nI_cl, nI_in', ix_1shl, ix_or, ix_xor, nI_1, bI_0, bI_1, bI_F, pk_us, pk_un]
  exact kc_N_graphWith_2 hX.1.1 (Nat.le_of_ble_eq_true rfl) (by omega) (by omega) (c_N_graphOf_n hx) (fun _ _ e => nomatch e.1) (fun k h1 e => tm_H_out (by decide +kernel) (by cases e.1; exact ⟨rfl, e.2⟩))
set_option maxRecDepth 20000 in
theorem c_N_graphWith_n2 {j : Nat} {v : Int32} (hX : gX S h) (hj : j < 3) (hv : v < 0 ∨ ¬ v < 0 ∧ nI (S.1 j) ≤ v) : tm_C M_N_graphWith 7 2 [.ref 0, .int (nI j), .int v] h (fun z k => z = .inr 0 ∧ k = h) := by
  refine tm_C.by (L := [some (.ref 0), some (.int (nI j)), some (.int v), none]) rfl rfl rfl rfl rfl ?_
  apply tm_run [] 80
  simp (disch := first | assumption | omega) only [↓reduceIte, tm_w_i, tm_w_0, Bool.false_eq_true, tm_gI_0, tm_gI_s, tm_gA_0, tm_gA_s, tm_fv_0, tm_fv_s, tm_p1_e, tm_pA_e, tm_pJ_e, tm_pV_i, tm_pV_r, tm_cI_e, tm_cZ_e, tm_cJ_e, tm_cQ_e, tm_cO_e, tm_rq_e, List.set_cons_zero, List.set_cons_succ, List.contains_cons, List.contains_nil, Nat.reduceBEq, Bool.or_false, Bool.false_or, Bool.or_true, Bool.true_or, Bool.or_self, cond_true, cond_false, true_and, and_true, or_true, true_or, true_implies, false_implies, not_true_eq_false, not_false_eq_true, List.length_cons, List.length_nil, Option.toList_some, Option.toList_none, List.cons_append, List.nil_append, ws_N_graphWith_0, ws_N_graphWith_1, ws_N_graphWith_2, ws_N_graphWith_5, ws_N_graphWith_6, ws_N_graphWith_7, ws_N_graphWith_8, ws_N_graphWith_11, ws_N_graphWith_12, tm_up_s, tm_up_n, tm_up_up, nI_leI, nI_ltI, nI_eq, nI_cl, nI_in', ix_1shl, ix_or, ix_xor, nI_1, bI_0, bI_1, bI_F, pk_us, pk_un]
  refine kd_N_graphWith_2 hX.1.1 (Nat.le_of_ble_eq_true rfl) (by omega) (by omega) (c_N_graphOf_s hX.1 hj) ?_
  apply tm_run [] 80
  simp (disch := first | assumption | omega) only [↓reduceIte, tm_w_i, tm_w_0, Bool.false_eq_true, tm_gI_0, tm_gI_s, tm_gA_0, tm_gA_s, tm_fv_0, tm_fv_s, tm_p1_e, tm_pA_e, tm_pJ_e, tm_pV_i, tm_pV_r, tm_cI_e, tm_cZ_e, tm_cJ_e, tm_cQ_e, tm_cO_e, tm_rq_e, List.set_cons_zero, List.set_cons_succ, List.contains_cons, List.contains_nil, Nat.reduceBEq, Bool.or_false, Bool.false_or, Bool.or_true, Bool.true_or, Bool.or_self, cond_true, cond_false, true_and, and_true, or_true, true_or, true_implies, false_implies, not_true_eq_false, not_false_eq_true, List.length_cons, List.length_nil, Option.toList_some, Option.toList_none, List.cons_append, List.nil_append, ws_N_graphWith_0, ws_N_graphWith_1, ws_N_graphWith_2, ws_N_graphWith_5, ws_N_graphWith_6, ws_N_graphWith_7, ws_N_graphWith_8, ws_N_graphWith_11, ws_N_graphWith_12, tm_up_s, tm_up_n, tm_up_up, nI_leI, nI_ltI, nI_eq, nI_cl, nI_in', ix_1shl, ix_or, ix_xor, nI_1, bI_0, bI_1, bI_F, pk_us, pk_un]
  exact kc_N_graphWith_8 (Nat.le_of_ble_eq_true rfl) (by omega) (by omega) (c_N_needVertex_n (hX.cnt hj).2 hv) (fun _ _ e => nomatch e.1) (fun k h1 e => tm_H_out (by decide +kernel) (by cases e.1; exact ⟨rfl, e.2⟩))
set_option maxRecDepth 20000 in
theorem c_N_graphWith_s {j v : Nat} (hX : gX S h) (hj : j < 3) (hv : v < S.1 j) : tm_C M_N_graphWith 7 2 [.ref 0, .int (nI j), .int (nI v)] h (fun z k => z = .inl (some (.ref (j + 2))) ∧ k = h) := by
  refine tm_C.by (L := [some (.ref 0), some (.int (nI j)), some (.int (nI v)), none]) rfl rfl rfl rfl rfl ?_
  apply tm_run [] 80
  simp (disch := first | assumption | omega) only [↓reduceIte, tm_w_i, tm_w_0, Bool.false_eq_true, tm_gI_0, tm_gI_s, tm_gA_0, tm_gA_s, tm_fv_0, tm_fv_s, tm_p1_e, tm_pA_e, tm_pJ_e, tm_pV_i, tm_pV_r, tm_cI_e, tm_cZ_e, tm_cJ_e, tm_cQ_e, tm_cO_e, tm_rq_e, List.set_cons_zero, List.set_cons_succ, List.contains_cons, List.contains_nil, Nat.reduceBEq, Bool.or_false, Bool.false_or, Bool.or_true, Bool.true_or, Bool.or_self, cond_true, cond_false, true_and, and_true, or_true, true_or, true_implies, false_implies, not_true_eq_false, not_false_eq_true, List.length_cons, List.length_nil, Option.toList_some, Option.toList_none, List.cons_append, List.nil_append, ws_N_graphWith_0, ws_N_graphWith_1, ws_N_graphWith_2, ws_N_graphWith_5, ws_N_graphWith_6, ws_N_graphWith_7, ws_N_graphWith_8, ws_N_graphWith_11, ws_N_graphWith_12, tm_up_s, tm_up_n, tm_up_up, nI_leI, nI_ltI, nI_eq, nI_cl, nI_in', ix_1shl, ix_or, ix_xor, nI_1, bI_0, bI_1, bI_F, pk_us, pk_un]
  refine kd_N_graphWith_2 hX.1.1 (Nat.le_of_ble_eq_true rfl) (by omega) (by omega) (c_N_graphOf_s hX.1 hj) ?_
  apply tm_run [] 80
  simp (disch := first | assumption | omega) only [↓reduceIte, tm_w_i, tm_w_0, Bool.false_eq_true, tm_gI_0, tm_gI_s, tm_gA_0, tm_gA_s, tm_fv_0, tm_fv_s, tm_p1_e, tm_pA_e, tm_pJ_e, tm_pV_i, tm_pV_r, tm_cI_e, tm_cZ_e, tm_cJ_e, tm_cQ_e, tm_cO_e, tm_rq_e, List.set_cons_zero, List.set_cons_succ, List.contains_cons, List.contains_nil, Nat.reduceBEq, Bool.or_false, Bool.false_or, Bool.or_true, Bool.true_or, Bool.or_self, cond_true, cond_false, true_and, and_true, or_true, true_or, true_implies, false_implies, not_true_eq_false, not_false_eq_true, List.length_cons, List.length_nil, Option.toList_some, Option.toList_none, List.cons_append, List.nil_append, ws_N_graphWith_0, ws_N_graphWith_1, ws_N_graphWith_2, ws_N_graphWith_5, ws_N_graphWith_6, ws_N_graphWith_7, ws_N_graphWith_8, ws_N_graphWith_11, ws_N_graphWith_12, tm_up_s, tm_up_n, tm_up_up, nI_leI, nI_ltI, nI_eq, nI_cl, nI_in', ix_1shl, ix_or, ix_xor, nI_1, bI_0, bI_1, bI_F, pk_us, pk_un]
  refine kd_N_graphWith_8 (Nat.le_of_ble_eq_true rfl) (by omega) (by omega) (c_N_needVertex_s (hX.cnt hj).2 hv (hX.cnt hj).1) ?_
  apply tm_run [] 80
  simp (disch := first | assumption | omega) only [↓reduceIte, tm_w_i, tm_w_0, Bool.false_eq_true, tm_gI_0, tm_gI_s, tm_gA_0, tm_gA_s, tm_fv_0, tm_fv_s, tm_p1_e, tm_pA_e, tm_pJ_e, tm_pV_i, tm_pV_r, tm_cI_e, tm_cZ_e, tm_cJ_e, tm_cQ_e, tm_cO_e, tm_rq_e, List.set_cons_zero, List.set_cons_succ, List.contains_cons, List.contains_nil, Nat.reduceBEq, Bool.or_false, Bool.false_or, Bool.or_true, Bool.true_or, Bool.or_self, cond_true, cond_false, true_and, and_true, or_true, true_or, true_implies, false_implies, not_true_eq_false, not_false_eq_true, List.length_cons, List.length_nil, Option.toList_some, Option.toList_none, List.cons_append, List.nil_append, ws_N_graphWith_0, ws_N_graphWith_1, ws_N_graphWith_2, ws_N_graphWith_5, ws_N_graphWith_6, ws_N_graphWith_7, ws_N_graphWith_8, ws_N_graphWith_11, ws_N_graphWith_12, tm_up_s, tm_up_n, tm_up_up, nI_leI, nI_ltI, nI_eq, nI_cl, nI_in', ix_1shl, ix_or, ix_xor, nI_1, bI_0, bI_1, bI_F, pk_us, pk_un]
end BR
