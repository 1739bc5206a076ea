section BX
variable {S : gSt} {h : tm_Hp}
theorem gNc_S {n x : Nat} {cc : Nat → Nat} (hn : n ≤ 7) : gNc cc n x = gS (fun i => if cc i = x then 1 else 0) n := by
  unfold gNc
  rw [gpc_S (gMk_lt _ n) hn]
  apply gS_eq
  intro i hi
  rw [gMk_bit]
  simp [hi]
theorem gNc_sum {cc : Nat → Nat} : ∀ {n : Nat}, (∀ i, i < n → cc i < 4) → gS (fun i => if cc i = 0 then 1 else 0) n + gS (fun i => if cc i = 1 then 1 else 0) n + gS (fun i => if cc i = 2 then 1 else 0) n + gS (fun i => if cc i = 3 then 1 else 0) n = n
  | 0, _ => rfl
  | n + 1, h => by
    have ih := gNc_sum (cc := cc) (n := n) (fun i hi => h i (by omega))
    have h4 := h n (Nat.lt_succ_self n)
    simp only [gS]
    have : cc n = 0 ∨ cc n = 1 ∨ cc n = 2 ∨ cc n = 3 := by omega
    rcases this with e | e | e | e <;> rw [e] <;> simp <;> omega
theorem gNc_n {n n' : Nat} {cc cc' nb nb' : Nat → Nat} (h : gOk n cc nb) (h' : gOk n' cc' nb') (e : ∀ x, x < 4 → gNc cc n x = gNc cc' n' x) : n = n' := by
  have a := gNc_sum (cc := cc) (n := n) (fun i hi => (h.2 i hi).1)
  have b := gNc_sum (cc := cc') (n := n') (fun i hi => (h'.2 i hi).1)
  have e0 := e 0 (by decide)
  have e1 := e 1 (by decide)
  have e2 := e 2 (by decide)
  have e3 := e 3 (by decide)
  rw [gNc_S h.1, gNc_S h'.1] at e0 e1 e2 e3
  omega
/-- the same but for the numbers -/
def gSaP (n : Nat) (cc nb : Nat → Nat) (n' : Nat) (cc' nb' : Nat → Nat) : Prop := (∀ x, x < 4 → gNc cc n x = gNc cc' n' x) ∧ gCo nb (gR n cc nb) n = gCo nb' (gR n' cc' nb') n'
noncomputable def gSa (n : Nat) (cc nb : Nat → Nat) (n' : Nat) (cc' nb' : Nat → Nat) : Bool := @decide (gSaP n cc nb n' cc' nb') (Classical.propDecidable _)
theorem gSa_iff {n n' : Nat} {cc nb cc' nb' : Nat → Nat} : gSa n cc nb n' cc' nb' = true ↔ gSaP n cc nb n' cc' nb' := by
  unfold gSa
  exact @decide_eq_true_iff _ (Classical.propDecidable _)
noncomputable def o_same (S : gSt) (g g' : Int32) : gRs := match gI 3 g with
  | none => (.inr 0, S)
  | some j => match gI 3 g' with
    | none => (.inr 0, S)
    | some i => (.inl (bI (gSa (S.1 j) (S.2.1 j) (S.2.2 j) (S.1 i) (S.2.1 i) (S.2.2 i))), S)
noncomputable def o_match (S : gSt) (g g' v : Int32) : gRs := match gI 3 g with
  | none => (.inr 0, S)
  | some j => match gI (S.1 j) v with
    | none => (.inr 0, S)
    | some v => match gI 3 g' with
      | none => (.inr 0, S)
      | some i => (.inl (bif gSa (S.1 j) (S.2.1 j) (S.2.2 j) (S.1 i) (S.2.1 i) (S.2.2 i) then nI (gR (S.1 i) (S.2.1 i) (S.2.2 i) (gIx (gR (S.1 j) (S.2.1 j) (S.2.2 j)) v (S.1 j))) else -1), S)
set_option maxRecDepth 20000 in
theorem c_N_alike {j i : Nat} (hX : gX S h) (hj : j < 3) (hi : i < 3) : tm_C M_N_alike 13 0 [.ref 0, .ref (j + 2), .ref (i + 2)] h (fun z hh => z = .inl (some (.int (bI (gSa (S.1 j) (S.2.1 j) (S.2.2 j) (S.1 i) (S.2.1 i) (S.2.2 i))))) ∧ gX S hh ∧ (∀ k, 27 ≤ k → hh k = h k) ∧ gNt (S.1 j) 14 15 16 17 (S.2.2 j) (gR (S.1 j) (S.2.1 j) (S.2.2 j)) hh ∧ gNt (S.1 i) 18 19 20 21 (S.2.2 i) (gR (S.1 i) (S.2.1 i) (S.2.2 i)) hh) := by
  refine tm_C.by (L := [some (.ref 0), some (.ref (j + 2)), some (.ref (i + 2))]) rfl rfl rfl rfl rfl ?_
  apply tm_run [] 80
  simp (disch := first | assumption | omega) only [↓reduceIte, tm_w_i, tm_w_0, Bool.false_eq_true, tm_gI_0, tm_gI_s, tm_gA_0, tm_gA_s, tm_fv_0, tm_fv_s, tm_p1_e, tm_pA_e, tm_pJ_e, tm_pV_i, tm_pV_r, tm_cI_e, tm_cZ_e, tm_cJ_e, tm_cQ_e, tm_cO_e, tm_rq_e, List.set_cons_zero, List.set_cons_succ, List.contains_cons, List.contains_nil, Nat.reduceBEq, Bool.or_false, Bool.false_or, Bool.or_true, Bool.true_or, Bool.or_self, cond_true, cond_false, true_and, and_true, or_true, true_or, true_implies, false_implies, not_true_eq_false, not_false_eq_true, List.length_cons, List.length_nil, Option.toList_some, Option.toList_none, List.cons_append, List.nil_append, ws_N_alike_0, ws_N_alike_1, ws_N_alike_4, ws_N_alike_5, ws_N_alike_8, ws_N_alike_9, ws_N_alike_12, ws_N_alike_13, ws_N_alike_16, ws_N_alike_17, ws_N_alike_18, ws_N_alike_21, ws_N_alike_24, ws_N_alike_25, ws_N_alike_28, ws_N_alike_31, ws_N_alike_32, ws_N_alike_35, ws_N_alike_38, ws_N_alike_41, ws_N_alike_42, ws_N_alike_45, ws_N_alike_46, tm_up_s, tm_up_n, tm_up_up, nI_leI, nI_ltI, nI_eq, nI_cl, nI_in', ix_1shl, ix_or, ix_xor, nI_1, bI_0, bI_1, bI_F, pk_us, pk_un, hX.1.1]
  obtain ⟨_, _, _, _, h1, _⟩ := hX.2.2.2.1
  refine kc_N_alike_5 h1 (Nat.le_of_ble_eq_true rfl) (by omega) (by omega) (c_U_findX (Or.inl rfl) hX hj) ?_ (fun k h1 ⟨e, _⟩ => nomatch e)
  rintro v0 h1 ⟨z1, z2, z3, z4⟩
  cases z1
  apply tm_run [] 80
  simp (disch := first | assumption | omega) only [↓reduceIte, tm_w_i, tm_w_0, Bool.false_eq_true, tm_gI_0, tm_gI_s, tm_gA_0, tm_gA_s, tm_fv_0, tm_fv_s, tm_p1_e, tm_pA_e, tm_pJ_e, tm_pV_i, tm_pV_r, tm_cI_e, tm_cZ_e, tm_cJ_e, tm_cQ_e, tm_cO_e, tm_rq_e, List.set_cons_zero, List.set_cons_succ, List.contains_cons, List.contains_nil, Nat.reduceBEq, Bool.or_false, Bool.false_or, Bool.or_true, Bool.true_or, Bool.or_self, cond_true, cond_false, true_and, and_true, or_true, true_or, true_implies, false_implies, not_true_eq_false, not_false_eq_true, List.length_cons, List.length_nil, Option.toList_some, Option.toList_none, List.cons_append, List.nil_append, ws_N_alike_0, ws_N_alike_1, ws_N_alike_4, ws_N_alike_5, ws_N_alike_8, ws_N_alike_9, ws_N_alike_12, ws_N_alike_13, ws_N_alike_16, ws_N_alike_17, ws_N_alike_18, ws_N_alike_21, ws_N_alike_24, ws_N_alike_25, ws_N_alike_28, ws_N_alike_31, ws_N_alike_32, ws_N_alike_35, ws_N_alike_38, ws_N_alike_41, ws_N_alike_42, ws_N_alike_45, ws_N_alike_46, tm_up_s, tm_up_n, tm_up_up, nI_leI, nI_ltI, nI_eq, nI_cl, nI_in', ix_1shl, ix_or, ix_xor, nI_1, bI_0, bI_1, bI_F, pk_us, pk_un, z3.1.1]
  obtain ⟨_, _, _, _, h2, _⟩ := z3.2.2.2.2.1
  refine kc_N_alike_13 h2 (Nat.le_of_ble_eq_true rfl) (by omega) (by omega) (c_U_findX (Or.inr rfl) z3 hi) ?_ (fun k h1 ⟨e, _⟩ => nomatch e)
  rintro v0 hh ⟨y1, y2, y3, y4⟩
  cases y1
  have z5 : gNt (S.1 j) 14 15 16 17 (S.2.2 j) (gR (S.1 j) (S.2.1 j) (S.2.2 j)) hh := by
    obtain ⟨V, P, T, q1, q2, q3, q4, q5⟩ := z4
    exact ⟨V, P, T, (y2 14 (by omega)).trans q1, (y2 15 (by omega)).trans q2, (y2 16 (by omega)).trans q3, (y2 17 (by omega)).trans q4, q5⟩
  have fr : ∀ k, 27 ≤ k → hh k = h k := fun k hk => (y2 k (by omega)).trans (z2 k (by omega))
  obtain ⟨c, f, a1, a2, a3, a4, a5, a6⟩ := y3.2.1 j hj
  obtain ⟨c', f', b1, b2, b3, b4, b5, b6⟩ := y3.2.1 i hi
  apply tm_run [] 80
  simp (disch := first | assumption | omega) only [↓reduceIte, tm_w_i, tm_w_0, Bool.false_eq_true, tm_gI_0, tm_gI_s, tm_gA_0, tm_gA_s, tm_fv_0, tm_fv_s, tm_p1_e, tm_pA_e, tm_pJ_e, tm_pV_i, tm_pV_r, tm_cI_e, tm_cZ_e, tm_cJ_e, tm_cQ_e, tm_cO_e, tm_rq_e, List.set_cons_zero, List.set_cons_succ, List.contains_cons, List.contains_nil, Nat.reduceBEq, Bool.or_false, Bool.false_or, Bool.or_true, Bool.true_or, Bool.or_self, cond_true, cond_false, true_and, and_true, or_true, true_or, true_implies, false_implies, not_true_eq_false, not_false_eq_true, List.length_cons, List.length_nil, Option.toList_some, Option.toList_none, List.cons_append, List.nil_append, ws_N_alike_0, ws_N_alike_1, ws_N_alike_4, ws_N_alike_5, ws_N_alike_8, ws_N_alike_9, ws_N_alike_12, ws_N_alike_13, ws_N_alike_16, ws_N_alike_17, ws_N_alike_18, ws_N_alike_21, ws_N_alike_24, ws_N_alike_25, ws_N_alike_28, ws_N_alike_31, ws_N_alike_32, ws_N_alike_35, ws_N_alike_38, ws_N_alike_41, ws_N_alike_42, ws_N_alike_45, ws_N_alike_46, tm_up_s, tm_up_n, tm_up_up, nI_leI, nI_ltI, nI_eq, nI_cl, nI_in', ix_1shl, ix_or, ix_xor, nI_1, bI_0, bI_1, bI_F, pk_us, pk_un]
  refine kc_N_alike_18 a1 (Nat.le_of_ble_eq_true rfl) (by omega) (by omega) (c_G_hasColoursOf a1 a2 a6.1 a4 b1 b2 b6.1 b4) ?_ (fun k h1 ⟨⟨_, _, e⟩, _⟩ => nomatch e)
  rintro v0 hh' ⟨⟨r, e1, e2⟩, e3⟩
  cases e2; cases e3
  have z5' := z5
  have y4' := y4
  obtain ⟨_, _, _, n1, _⟩ := z5'
  obtain ⟨_, _, _, n2, _⟩ := y4'
  have l1 := gCo_sm (nb := S.2.2 j) (t := gR (S.1 j) (S.2.1 j) (S.2.2 j)) a6.1
  have l2 := gCo_sm (nb := S.2.2 i) (t := gR (S.1 i) (S.2.1 i) (S.2.2 i)) b6.1
  have e8 : ¬ bI true = 0 := by decide
  have no : ¬ gSaP (S.1 j) (S.2.1 j) (S.2.2 j) (S.1 i) (S.2.1 i) (S.2.2 i) → gSa (S.1 j) (S.2.1 j) (S.2.2 j) (S.1 i) (S.2.1 i) (S.2.2 i) = false := fun q => Bool.eq_false_iff.mpr (fun z => q (gSa_iff.mp z))
  cases r with
  | false =>
    have := no (fun q => absurd (e1.mpr q.1) (by decide))
    apply tm_run [] 80
    simp (disch := first | assumption | omega) only [↓reduceIte, tm_w_i, tm_w_0, Bool.false_eq_true, tm_gI_0, tm_gI_s, tm_gA_0, tm_gA_s, tm_fv_0, tm_fv_s, tm_p1_e, tm_pA_e, tm_pJ_e, tm_pV_i, tm_pV_r, tm_cI_e, tm_cZ_e, tm_cJ_e, tm_cQ_e, tm_cO_e, tm_rq_e, List.set_cons_zero, List.set_cons_succ, List.contains_cons, List.contains_nil, Nat.reduceBEq, Bool.or_false, Bool.false_or, Bool.or_true, Bool.true_or, Bool.or_self, cond_true, cond_false, true_and, and_true, or_true, true_or, true_implies, false_implies, not_true_eq_false, not_false_eq_true, List.length_cons, List.length_nil, Option.toList_some, Option.toList_none, List.cons_append, List.nil_append, ws_N_alike_0, ws_N_alike_1, ws_N_alike_4, ws_N_alike_5, ws_N_alike_8, ws_N_alike_9, ws_N_alike_12, ws_N_alike_13, ws_N_alike_16, ws_N_alike_17, ws_N_alike_18, ws_N_alike_21, ws_N_alike_24, ws_N_alike_25, ws_N_alike_28, ws_N_alike_31, ws_N_alike_32, ws_N_alike_35, ws_N_alike_38, ws_N_alike_41, ws_N_alike_42, ws_N_alike_45, ws_N_alike_46, tm_up_s, tm_up_n, tm_up_up, nI_leI, nI_ltI, nI_eq, nI_cl, nI_in', ix_1shl, ix_or, ix_xor, nI_1, bI_0, bI_1, bI_F, pk_us, pk_un, bI_f]
    rw [this]
    exact ⟨rfl, y3, fr, z5, y4⟩
  | true =>
    apply tm_run [] 80
    simp (disch := first | assumption | omega) only [↓reduceIte, tm_w_i, tm_w_0, Bool.false_eq_true, tm_gI_0, tm_gI_s, tm_gA_0, tm_gA_s, tm_fv_0, tm_fv_s, tm_p1_e, tm_pA_e, tm_pJ_e, tm_pV_i, tm_pV_r, tm_cI_e, tm_cZ_e, tm_cJ_e, tm_cQ_e, tm_cO_e, tm_rq_e, List.set_cons_zero, List.set_cons_succ, List.contains_cons, List.contains_nil, Nat.reduceBEq, Bool.or_false, Bool.false_or, Bool.or_true, Bool.true_or, Bool.or_self, cond_true, cond_false, true_and, and_true, or_true, true_or, true_implies, false_implies, not_true_eq_false, not_false_eq_true, List.length_cons, List.length_nil, Option.toList_some, Option.toList_none, List.cons_append, List.nil_append, ws_N_alike_0, ws_N_alike_1, ws_N_alike_4, ws_N_alike_5, ws_N_alike_8, ws_N_alike_9, ws_N_alike_12, ws_N_alike_13, ws_N_alike_16, ws_N_alike_17, ws_N_alike_18, ws_N_alike_21, ws_N_alike_24, ws_N_alike_25, ws_N_alike_28, ws_N_alike_31, ws_N_alike_32, ws_N_alike_35, ws_N_alike_38, ws_N_alike_41, ws_N_alike_42, ws_N_alike_45, ws_N_alike_46, tm_up_s, tm_up_n, tm_up_up, nI_leI, nI_ltI, nI_eq, nI_cl, nI_in', ix_1shl, ix_or, ix_xor, nI_1, bI_0, bI_1, bI_F, pk_us, pk_un, e8, y3.1.1, n1, n2]
    refine ⟨fun q => ?_, fun q => ?_⟩
    · rw [no (fun z => q z.2)]
      exact ⟨rfl, y3, fr, z5, y4⟩
    · rw [gSa_iff.mpr ⟨e1.mp rfl, Classical.byContradiction q⟩]
      exact ⟨rfl, y3, fr, z5, y4⟩
set_option maxRecDepth 20000 in
theorem c_N_same {g g' : Int32} (hX : gX S h) : tm_C M_N_same 16 5 [.ref 0, .int g, .int g'] h (gPo h (o_same S g g')) := by
  refine tm_C.by (L := [some (.ref 0), some (.int g), some (.int g')]) rfl rfl rfl rfl rfl ?_
  apply tm_run [] 80
  simp (disch := first | assumption | omega) only [↓reduceIte, tm_w_i, tm_w_0, Bool.false_eq_true, tm_gI_0, tm_gI_s, tm_gA_0, tm_gA_s, tm_fv_0, tm_fv_s, tm_p1_e, tm_pA_e, tm_pJ_e, tm_pV_i, tm_pV_r, tm_cI_e, tm_cZ_e, tm_cJ_e, tm_cQ_e, tm_cO_e, tm_rq_e, List.set_cons_zero, List.set_cons_succ, List.contains_cons, List.contains_nil, Nat.reduceBEq, Bool.or_false, Bool.false_or, Bool.or_true, Bool.true_or, Bool.or_self, cond_true, cond_false, true_and, and_true, or_true, true_or, true_implies, false_implies, not_true_eq_false, not_false_eq_true, List.length_cons, List.length_nil, Option.toList_some, Option.toList_none, List.cons_append, List.nil_append, ws_N_same_0, ws_N_same_1, ws_N_same_2, ws_N_same_3, ws_N_same_6, ws_N_same_7, ws_N_same_8, ws_N_same_11, ws_N_same_14, tm_up_s, tm_up_n, tm_up_up, nI_leI, nI_ltI, nI_eq, nI_cl, nI_in', ix_1shl, ix_or, ix_xor, nI_1, bI_0, bI_1, bI_F, pk_us, pk_un]
  rcases gI_c (N := 3) (by decide) g with ⟨e, hg⟩ | ⟨j, hj, rfl, e⟩
  · simp only [o_same, e]
    exact kc_N_same_3 hX.1.1 (Nat.le_of_ble_eq_true rfl) (by omega) (by omega) (c_N_graphOf_n hg) (fun _ _ q => nomatch q.1) (fun k h1 q => tm_H_out (by decide +kernel) (by cases q.1; cases q.2; exact gPo.no hX))
  · refine kd_N_same_3 hX.1.1 (Nat.le_of_ble_eq_true rfl) (by omega) (by omega) (c_N_graphOf_s hX.1 hj) ?_
    apply tm_run [] 80
    simp (disch := first | assumption | omega) only [↓reduceIte, tm_w_i, tm_w_0, Bool.false_eq_true, tm_gI_0, tm_gI_s, tm_gA_0, tm_gA_s, tm_fv_0, tm_fv_s, tm_p1_e, tm_pA_e, tm_pJ_e, tm_pV_i, tm_pV_r, tm_cI_e, tm_cZ_e, tm_cJ_e, tm_cQ_e, tm_cO_e, tm_rq_e, List.set_cons_zero, List.set_cons_succ, List.contains_cons, List.contains_nil, Nat.reduceBEq, Bool.or_false, Bool.false_or, Bool.or_true, Bool.true_or, Bool.or_self, cond_true, cond_false, true_and, and_true, or_true, true_or, true_implies, false_implies, not_true_eq_false, not_false_eq_true, List.length_cons, List.length_nil, Option.toList_some, Option.toList_none, List.cons_append, List.nil_append, ws_N_same_0, ws_N_same_1, ws_N_same_2, ws_N_same_3, ws_N_same_6, ws_N_same_7, ws_N_same_8, ws_N_same_11, ws_N_same_14, tm_up_s, tm_up_n, tm_up_up, nI_leI, nI_ltI, nI_eq, nI_cl, nI_in', ix_1shl, ix_or, ix_xor, nI_1, bI_0, bI_1, bI_F, pk_us, pk_un]
    rcases gI_c (N := 3) (by decide) g' with ⟨e2, hg⟩ | ⟨i, hi, rfl, e2⟩
    · simp only [o_same, e, e2]
      exact kc_N_same_8 hX.1.1 (Nat.le_of_ble_eq_true rfl) (by omega) (by omega) (c_N_graphOf_n hg) (fun _ _ q => nomatch q.1) (fun k h1 q => tm_H_out (by decide +kernel) (by cases q.1; cases q.2; exact gPo.no hX))
    · simp only [o_same, e, e2]
      refine kd_N_same_8 hX.1.1 (Nat.le_of_ble_eq_true rfl) (by omega) (by omega) (c_N_graphOf_s hX.1 hi) ?_
      apply tm_run [] 80
      simp (disch := first | assumption | omega) only [↓reduceIte, tm_w_i, tm_w_0, Bool.false_eq_true, tm_gI_0, tm_gI_s, tm_gA_0, tm_gA_s, tm_fv_0, tm_fv_s, tm_p1_e, tm_pA_e, tm_pJ_e, tm_pV_i, tm_pV_r, tm_cI_e, tm_cZ_e, tm_cJ_e, tm_cQ_e, tm_cO_e, tm_rq_e, List.set_cons_zero, List.set_cons_succ, List.contains_cons, List.contains_nil, Nat.reduceBEq, Bool.or_false, Bool.false_or, Bool.or_true, Bool.true_or, Bool.or_self, cond_true, cond_false, true_and, and_true, or_true, true_or, true_implies, false_implies, not_true_eq_false, not_false_eq_true, List.length_cons, List.length_nil, Option.toList_some, Option.toList_none, List.cons_append, List.nil_append, ws_N_same_0, ws_N_same_1, ws_N_same_2, ws_N_same_3, ws_N_same_6, ws_N_same_7, ws_N_same_8, ws_N_same_11, ws_N_same_14, tm_up_s, tm_up_n, tm_up_up, nI_leI, nI_ltI, nI_eq, nI_cl, nI_in', ix_1shl, ix_or, ix_xor, nI_1, bI_0, bI_1, bI_F, pk_us, pk_un]
      refine kc_N_same_11 hX.1.1 (Nat.le_of_ble_eq_true rfl) (by omega) (by omega) (c_N_alike hX hj hi) ?_ (fun k h1 ⟨e, _⟩ => nomatch e)
      rintro v0 hh ⟨z1, z2, z3, _⟩
      cases z1
      apply tm_run [] 80
      simp (disch := first | assumption | omega) only [↓reduceIte, tm_w_i, tm_w_0, Bool.false_eq_true, tm_gI_0, tm_gI_s, tm_gA_0, tm_gA_s, tm_fv_0, tm_fv_s, tm_p1_e, tm_pA_e, tm_pJ_e, tm_pV_i, tm_pV_r, tm_cI_e, tm_cZ_e, tm_cJ_e, tm_cQ_e, tm_cO_e, tm_rq_e, List.set_cons_zero, List.set_cons_succ, List.contains_cons, List.contains_nil, Nat.reduceBEq, Bool.or_false, Bool.false_or, Bool.or_true, Bool.true_or, Bool.or_self, cond_true, cond_false, true_and, and_true, or_true, true_or, true_implies, false_implies, not_true_eq_false, not_false_eq_true, List.length_cons, List.length_nil, Option.toList_some, Option.toList_none, List.cons_append, List.nil_append, ws_N_same_0, ws_N_same_1, ws_N_same_2, ws_N_same_3, ws_N_same_6, ws_N_same_7, ws_N_same_8, ws_N_same_11, ws_N_same_14, tm_up_s, tm_up_n, tm_up_up, nI_leI, nI_ltI, nI_eq, nI_cl, nI_in', ix_1shl, ix_or, ix_xor, nI_1, bI_0, bI_1, bI_F, pk_us, pk_un]
      exact ⟨rfl, z2, z3⟩
set_option maxRecDepth 20000 in
theorem c_N_match {g g' v : Int32} (hX : gX S h) : tm_C M_N_match 16 5 [.ref 0, .int g, .int g', .int v] h (gPo h (o_match S g g' v)) := by
  refine tm_C.by (L := [some (.ref 0), some (.int g), some (.int g'), some (.int v)]) rfl rfl rfl rfl rfl ?_
  apply tm_run [] 80
  simp (disch := first | assumption | omega) only [↓reduceIte, tm_w_i, tm_w_0, Bool.false_eq_true, tm_gI_0, tm_gI_s, tm_gA_0, tm_gA_s, tm_fv_0, tm_fv_s, tm_p1_e, tm_pA_e, tm_pJ_e, tm_pV_i, tm_pV_r, tm_cI_e, tm_cZ_e, tm_cJ_e, tm_cQ_e, tm_cO_e, tm_rq_e, List.set_cons_zero, List.set_cons_succ, List.contains_cons, List.contains_nil, Nat.reduceBEq, Bool.or_false, Bool.false_or, Bool.or_true, Bool.true_or, Bool.or_self, cond_true, cond_false, true_and, and_true, or_true, true_or, true_implies, false_implies, not_true_eq_false, not_false_eq_true, List.length_cons, List.length_nil, Option.toList_some, Option.toList_none, List.cons_append, List.nil_append, ws_N_match_0, ws_N_match_1, ws_N_match_2, ws_N_match_3, ws_N_match_4, ws_N_match_7, ws_N_match_8, ws_N_match_9, ws_N_match_12, ws_N_match_15, ws_N_match_18, ws_N_match_19, ws_N_match_20, ws_N_match_21, ws_N_match_24, ws_N_match_27, ws_N_match_28, ws_N_match_31, ws_N_match_34, ws_N_match_35, ws_N_match_36, ws_N_match_37, tm_up_s, tm_up_n, tm_up_up, nI_leI, nI_ltI, nI_eq, nI_cl, nI_in', ix_1shl, ix_or, ix_xor, nI_1, bI_0, bI_1, bI_F, pk_us, pk_un]
  rcases gI_c (N := 3) (by decide) g with ⟨e, hg⟩ | ⟨j, hj, rfl, e⟩
  · simp only [o_match, e]
    exact kc_N_match_4 hX.1.1 (Nat.le_of_ble_eq_true rfl) (by omega) (by omega) (c_N_graphWith_n1 hX hg) (fun _ _ q => nomatch q.1) (fun k h1 q => tm_H_out (by decide +kernel) (by cases q.1; cases q.2; exact gPo.no hX))
  · obtain ⟨hn, hp⟩ := hX.cnt hj
    rcases gI_c (N := S.1 j) (by omega) v with ⟨e2, hv⟩ | ⟨v, hv, rfl, e2⟩
    · simp only [o_match, e, e2]
      exact kc_N_match_4 hX.1.1 (Nat.le_of_ble_eq_true rfl) (by omega) (by omega) (c_N_graphWith_n2 hX hj hv) (fun _ _ q => nomatch q.1) (fun k h1 q => tm_H_out (by decide +kernel) (by cases q.1; cases q.2; exact gPo.no hX))
    · refine kd_N_match_4 hX.1.1 (Nat.le_of_ble_eq_true rfl) (by omega) (by omega) (c_N_graphWith_s hX hj hv) ?_
      apply tm_run [] 80
      simp (disch := first | assumption | omega) only [↓reduceIte, tm_w_i, tm_w_0, Bool.false_eq_true, tm_gI_0, tm_gI_s, tm_gA_0, tm_gA_s, tm_fv_0, tm_fv_s, tm_p1_e, tm_pA_e, tm_pJ_e, tm_pV_i, tm_pV_r, tm_cI_e, tm_cZ_e, tm_cJ_e, tm_cQ_e, tm_cO_e, tm_rq_e, List.set_cons_zero, List.set_cons_succ, List.contains_cons, List.contains_nil, Nat.reduceBEq, Bool.or_false, Bool.false_or, Bool.or_true, Bool.true_or, Bool.or_self, cond_true, cond_false, true_and, and_true, or_true, true_or, true_implies, false_implies, not_true_eq_false, not_false_eq_true, List.length_cons, List.length_nil, Option.toList_some, Option.toList_none, List.cons_append, List.nil_append, ws_N_match_0, ws_N_match_1, ws_N_match_2, ws_N_match_3, ws_N_match_4, ws_N_match_7, ws_N_match_8, ws_N_match_9, ws_N_match_12, ws_N_match_15, ws_N_match_18, ws_N_match_19, ws_N_match_20, ws_N_match_21, ws_N_match_24, ws_N_match_27, ws_N_match_28, ws_N_match_31, ws_N_match_34, ws_N_match_35, ws_N_match_36, ws_N_match_37, tm_up_s, tm_up_n, tm_up_up, nI_leI, nI_ltI, nI_eq, nI_cl, nI_in', ix_1shl, ix_or, ix_xor, nI_1, bI_0, bI_1, bI_F, pk_us, pk_un]
      rcases gI_c (N := 3) (by decide) g' with ⟨e3, hg⟩ | ⟨i, hi, rfl, e3⟩
      · simp only [o_match, e, e2, e3]
        exact kc_N_match_9 hX.1.1 (Nat.le_of_ble_eq_true rfl) (by omega) (by omega) (c_N_graphOf_n hg) (fun _ _ q => nomatch q.1) (fun k h1 q => tm_H_out (by decide +kernel) (by cases q.1; cases q.2; exact gPo.no hX))
      · simp only [o_match, e, e2, e3]
        refine kd_N_match_9 hX.1.1 (Nat.le_of_ble_eq_true rfl) (by omega) (by omega) (c_N_graphOf_s hX.1 hi) ?_
        apply tm_run [] 80
        simp (disch := first | assumption | omega) only [↓reduceIte, tm_w_i, tm_w_0, Bool.false_eq_true, tm_gI_0, tm_gI_s, tm_gA_0, tm_gA_s, tm_fv_0, tm_fv_s, tm_p1_e, tm_pA_e, tm_pJ_e, tm_pV_i, tm_pV_r, tm_cI_e, tm_cZ_e, tm_cJ_e, tm_cQ_e, tm_cO_e, tm_rq_e, List.set_cons_zero, List.set_cons_succ, List.contains_cons, List.contains_nil, Nat.reduceBEq, Bool.or_false, Bool.false_or, Bool.or_true, Bool.true_or, Bool.or_self, cond_true, cond_false, true_and, and_true, or_true, true_or, true_implies, false_implies, not_true_eq_false, not_false_eq_true, List.length_cons, List.length_nil, Option.toList_some, Option.toList_none, List.cons_append, List.nil_append, ws_N_match_0, ws_N_match_1, ws_N_match_2, ws_N_match_3, ws_N_match_4, ws_N_match_7, ws_N_match_8, ws_N_match_9, ws_N_match_12, ws_N_match_15, ws_N_match_18, ws_N_match_19, ws_N_match_20, ws_N_match_21, ws_N_match_24, ws_N_match_27, ws_N_match_28, ws_N_match_31, ws_N_match_34, ws_N_match_35, ws_N_match_36, ws_N_match_37, tm_up_s, tm_up_n, tm_up_up, nI_leI, nI_ltI, nI_eq, nI_cl, nI_in', ix_1shl, ix_or, ix_xor, nI_1, bI_0, bI_1, bI_F, pk_us, pk_un]
        refine kc_N_match_12 hX.1.1 (Nat.le_of_ble_eq_true rfl) (by omega) (by omega) (c_N_alike hX hj hi) ?_ (fun k h1 ⟨e, _⟩ => nomatch e)
        rintro v0 hh ⟨z1, z2, z3, z4, z5⟩
        cases z1
        cases b1 : gSa (S.1 j) (S.2.1 j) (S.2.2 j) (S.1 i) (S.2.1 i) (S.2.2 i) with
        | false =>
          apply tm_run [] 80
          simp (disch := first | assumption | omega) only [↓reduceIte, tm_w_i, tm_w_0, Bool.false_eq_true, tm_gI_0, tm_gI_s, tm_gA_0, tm_gA_s, tm_fv_0, tm_fv_s, tm_p1_e, tm_pA_e, tm_pJ_e, tm_pV_i, tm_pV_r, tm_cI_e, tm_cZ_e, tm_cJ_e, tm_cQ_e, tm_cO_e, tm_rq_e, List.set_cons_zero, List.set_cons_succ, List.contains_cons, List.contains_nil, Nat.reduceBEq, Bool.or_false, Bool.false_or, Bool.or_true, Bool.true_or, Bool.or_self, cond_true, cond_false, true_and, and_true, or_true, true_or, true_implies, false_implies, not_true_eq_false, not_false_eq_true, List.length_cons, List.length_nil, Option.toList_some, Option.toList_none, List.cons_append, List.nil_append, ws_N_match_0, ws_N_match_1, ws_N_match_2, ws_N_match_3, ws_N_match_4, ws_N_match_7, ws_N_match_8, ws_N_match_9, ws_N_match_12, ws_N_match_15, ws_N_match_18, ws_N_match_19, ws_N_match_20, ws_N_match_21, ws_N_match_24, ws_N_match_27, ws_N_match_28, ws_N_match_31, ws_N_match_34, ws_N_match_35, ws_N_match_36, ws_N_match_37, tm_up_s, tm_up_n, tm_up_up, nI_leI, nI_ltI, nI_eq, nI_cl, nI_in', ix_1shl, ix_or, ix_xor, nI_1, bI_0, bI_1, bI_F, pk_us, pk_un, bI_f]
          exact ⟨rfl, z2, z3⟩
        | true =>
          have e8 : ¬ bI true = 0 := by decide
          have hs := gSa_iff.mp b1
          obtain ⟨_, _, _, _, _, _, _, ok1⟩ := z2.2.1 j hj
          obtain ⟨_, _, _, _, _, _, _, ok2⟩ := z2.2.1 i hi
          have enn := gNc_n ok1 ok2 hs.1
          obtain ⟨V, P, T, q1, q2, q3, q4, q5, q6⟩ := z4
          obtain ⟨V', P', T', p1, p2, p3, p4, p5, p6⟩ := z5
          obtain ⟨i1, i2⟩ := gIx_p (gR_fn (S.1 j) (S.2.1 j) (S.2.2 j)).1.1 hv
          have q7 := q6 _ i1
          rw [i2] at q7
          have p7 := p5 _ (show gIx (gR (S.1 j) (S.2.1 j) (S.2.2 j)) v (S.1 j) < S.1 i by omega)
          apply tm_run [] 80
          simp (disch := first | assumption | omega) only [↓reduceIte, tm_w_i, tm_w_0, Bool.false_eq_true, tm_gI_0, tm_gI_s, tm_gA_0, tm_gA_s, tm_fv_0, tm_fv_s, tm_p1_e, tm_pA_e, tm_pJ_e, tm_pV_i, tm_pV_r, tm_cI_e, tm_cZ_e, tm_cJ_e, tm_cQ_e, tm_cO_e, tm_rq_e, List.set_cons_zero, List.set_cons_succ, List.contains_cons, List.contains_nil, Nat.reduceBEq, Bool.or_false, Bool.false_or, Bool.or_true, Bool.true_or, Bool.or_self, cond_true, cond_false, true_and, and_true, or_true, true_or, true_implies, false_implies, not_true_eq_false, not_false_eq_true, List.length_cons, List.length_nil, Option.toList_some, Option.toList_none, List.cons_append, List.nil_append, ws_N_match_0, ws_N_match_1, ws_N_match_2, ws_N_match_3, ws_N_match_4, ws_N_match_7, ws_N_match_8, ws_N_match_9, ws_N_match_12, ws_N_match_15, ws_N_match_18, ws_N_match_19, ws_N_match_20, ws_N_match_21, ws_N_match_24, ws_N_match_27, ws_N_match_28, ws_N_match_31, ws_N_match_34, ws_N_match_35, ws_N_match_36, ws_N_match_37, tm_up_s, tm_up_n, tm_up_up, nI_leI, nI_ltI, nI_eq, nI_cl, nI_in', ix_1shl, ix_or, ix_xor, nI_1, bI_0, bI_1, bI_F, pk_us, pk_un, e8, z2.1.1, q1, q3, p1, p2, q7, p7]
          exact ⟨rfl, z2, z3⟩
end BX
