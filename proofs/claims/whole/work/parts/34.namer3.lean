section BV
noncomputable def gR (n : Nat) (cc nb : Nat → Nat) : Nat → Nat := Classical.choose (gFn_ex n cc nb)
theorem gR_fn (n : Nat) (cc nb : Nat → Nat) : gFn n cc nb (gR n cc nb) := Classical.choose_spec (gFn_ex n cc nb)
def gIx (r : Nat → Nat) (v : Nat) : Nat → Nat
  | 0 => 0
  | k + 1 => if r k = v then k else gIx r v k
theorem gIx_s {r : Nat → Nat} {v : Nat} : ∀ {k : Nat}, (∃ i, i < k ∧ r i = v) → gIx r v k < k ∧ r (gIx r v k) = v
  | 0, ⟨i, hi, _⟩ => absurd hi (Nat.not_lt_zero i)
  | k + 1, ⟨i, hi, e⟩ => by
    unfold gIx
    by_cases q : r k = v
    · rw [if_pos q]; exact ⟨Nat.lt_succ_self k, q⟩
    · rw [if_neg q]
      have : i ≠ k := fun z => q (by rw [← z]; exact e)
      obtain ⟨a, b⟩ := gIx_s (r := r) (v := v) (k := k) ⟨i, by omega, e⟩
      exact ⟨by omega, b⟩
theorem gIx_p {n : Nat} {r : Nat → Nat} {v : Nat} (hr : gp_pm n r) (hv : v < n) : gIx r v n < n ∧ r (gIx r v n) = v := gIx_s (gp_sur n r hr v hv)
theorem gIx_fix {n : Nat} {r : Nat → Nat} {v : Nat} (hr : gp_pm n r) (hv : v < n) : gIx r v n = v ↔ r v = v := by
  obtain ⟨h1, h2⟩ := gIx_p hr hv
  exact ⟨fun e => by rw [e] at h2; exact h2, fun e => hr.2 _ _ h1 hv (h2.trans e.symm)⟩
theorem gNt_R {n m vs ps tr : Nat} {cc nb r : Nat → Nat} {h : tm_Hp} (hr : gFn n cc nb r) (x : gNt n m vs ps tr nb r h) : gNt n m vs ps tr nb (gR n cc nb) h := by
  have e := gFn_one hr (gR_fn n cc nb)
  obtain ⟨V, P, T, h1, h2, h3, h4, h5, h6⟩ := x
  refine ⟨V, P, T, ?_, h2, h3, h4, fun i hi => by rw [h5 i hi, e i hi], fun i hi => by rw [← e i hi]; exact h6 i hi⟩
  rw [← gCo_eq e]; exact h1
variable {S : gSt} {h : tm_Hp}
theorem c_U_findX {m j : Nat} (hm : m = 14 ∨ m = 18) (hX : gX S h) (hj : j < 3) : tm_C M_U_find 12 0 [.ref m, .ref (j + 2)] h (fun z hh => z = .inl none ∧ (∀ k, k < m ∨ m + 4 ≤ k → hh k = h k) ∧ gX S hh ∧ gNt (S.1 j) m (m + 1) (m + 2) (m + 3) (S.2.2 j) (gR (S.1 j) (S.2.1 j) (S.2.2 j)) hh) := by
  have hx : gXn m h := by
    rcases hm with e | e <;> rw [e]
    · exact hX.2.2.2.1
    · exact hX.2.2.2.2.1
  obtain ⟨x, V, P, T, h1, h2, h3, h4⟩ := hx
  have hK : tm_K = 39 := rfl
  refine tm_C.mono ?_ (c_U_find (hX.2.1 j hj) h1 h2 h3 h4 (by omega) (by omega) (by omega) (by omega) (by omega) (by omega) (by omega) (by omega) (by omega) (by omega) (by omega) (by omega) (by omega) (by omega) (by omega) (by omega) (by omega) (by omega) (by omega) (by omega) (by omega))
  rintro z hh ⟨z1, z2, r, z3, z4⟩
  have fr : ∀ k, k < m ∨ m + 4 ≤ k → hh k = h k := fun k hk => z2 k (by omega) (by omega) (by omega) (by omega)
  have nt := gNt_R z3 z4
  have own : gXn m hh := by
    obtain ⟨V, P, T, q1, q2, q3, q4, _⟩ := nt
    exact ⟨_, V, P, T, q1, q2, q3, q4⟩
  refine ⟨z1, fr, ⟨hX.1.fr (fun k hk => fr k (by omega)), hX.2.1.fr (fun k _ _ _ => fr k (by omega)), hX.2.2.1.fr (fun k _ => fr k (by omega)), ?_, ?_, hX.2.2.2.2.2.1.fr (fun k _ => fr k (by omega)), hX.2.2.2.2.2.2.fr (fun k _ => fr k (by omega))⟩, nt⟩
  · rcases hm with e | e
    · rw [e] at own; exact own
    · exact hX.2.2.2.1.fr (fun k _ _ => fr k (by omega))
  · rcases hm with e | e
    · exact hX.2.2.2.2.1.fr (fun k _ _ => fr k (by omega))
    · rw [e] at own; exact own
noncomputable def o_name (S : gSt) (g : Int32) : gRs := match gI 3 g with
  | none => (.inr 0, S)
  | some j => (.inl (nI (gCo (S.2.2 j) (gR (S.1 j) (S.2.1 j) (S.2.2 j)) (S.1 j))), S)
noncomputable def o_place (S : gSt) (g v : Int32) : gRs := match gI 3 g with
  | none => (.inr 0, S)
  | some j => match gI (S.1 j) v with
    | none => (.inr 0, S)
    | some v => (.inl (nI (gIx (gR (S.1 j) (S.2.1 j) (S.2.2 j)) v (S.1 j))), S)
set_option maxRecDepth 20000 in
theorem c_N_name {g : Int32} (hX : gX S h) : tm_C M_N_name 16 5 [.ref 0, .int g] h (gPo h (o_name S g)) := by
  refine tm_C.by (L := [some (.ref 0), some (.int g)]) rfl rfl rfl rfl rfl ?_
  apply tm_run [] 80
  simp (disch := first | assumption | omega) only [↓reduceIte, tm_w_i, tm_w_0, Bool.false_eq_true, tm_gI_0, tm_gI_s, tm_gA_0, tm_gA_s, tm_fv_0, tm_fv_s, tm_p1_e, tm_pA_e, tm_pJ_e, tm_pV_i, tm_pV_r, tm_cI_e, tm_cZ_e, tm_cJ_e, tm_cQ_e, tm_cO_e, tm_rq_e, List.set_cons_zero, List.set_cons_succ, List.contains_cons, List.contains_nil, Nat.reduceBEq, Bool.or_false, Bool.false_or, Bool.or_true, Bool.true_or, Bool.or_self, cond_true, cond_false, true_and, and_true, or_true, true_or, true_implies, false_implies, not_true_eq_false, not_false_eq_true, List.length_cons, List.length_nil, Option.toList_some, Option.toList_none, List.cons_append, List.nil_append, ws_N_name_0, ws_N_name_1, ws_N_name_4, ws_N_name_5, ws_N_name_6, ws_N_name_9, ws_N_name_12, ws_N_name_13, ws_N_name_16, ws_N_name_19, tm_up_s, tm_up_n, tm_up_up, nI_leI, nI_ltI, nI_eq, nI_cl, nI_in', ix_1shl, ix_or, ix_xor, nI_1, bI_0, bI_1, bI_F, pk_us, pk_un, hX.1.1]
  rcases gI_c (N := 3) (by decide) g with ⟨e, hg⟩ | ⟨j, hj, rfl, e⟩
  · simp only [o_name, e]
    exact kc_N_name_6 hX.1.1 (Nat.le_of_ble_eq_true rfl) (by omega) (by omega) (c_N_graphOf_n hg) (fun _ _ q => nomatch q.1) (fun k h1 q => tm_H_out (by decide +kernel) (by cases q.1; cases q.2; exact gPo.no hX))
  · simp only [o_name, e]
    refine kd_N_name_6 hX.1.1 (Nat.le_of_ble_eq_true rfl) (by omega) (by omega) (c_N_graphOf_s hX.1 hj) ?_
    apply tm_run [] 80
    simp (disch := first | assumption | omega) only [↓reduceIte, tm_w_i, tm_w_0, Bool.false_eq_true, tm_gI_0, tm_gI_s, tm_gA_0, tm_gA_s, tm_fv_0, tm_fv_s, tm_p1_e, tm_pA_e, tm_pJ_e, tm_pV_i, tm_pV_r, tm_cI_e, tm_cZ_e, tm_cJ_e, tm_cQ_e, tm_cO_e, tm_rq_e, List.set_cons_zero, List.set_cons_succ, List.contains_cons, List.contains_nil, Nat.reduceBEq, Bool.or_false, Bool.false_or, Bool.or_true, Bool.true_or, Bool.or_self, cond_true, cond_false, true_and, and_true, or_true, true_or, true_implies, false_implies, not_true_eq_false, not_false_eq_true, List.length_cons, List.length_nil, Option.toList_some, Option.toList_none, List.cons_append, List.nil_append, ws_N_name_0, ws_N_name_1, ws_N_name_4, ws_N_name_5, ws_N_name_6, ws_N_name_9, ws_N_name_12, ws_N_name_13, ws_N_name_16, ws_N_name_19, tm_up_s, tm_up_n, tm_up_up, nI_leI, nI_ltI, nI_eq, nI_cl, nI_in', ix_1shl, ix_or, ix_xor, nI_1, bI_0, bI_1, bI_F, pk_us, pk_un]
    obtain ⟨x, V, P, T, h1, _⟩ := hX.2.2.2.1
    refine kc_N_name_9 h1 (Nat.le_of_ble_eq_true rfl) (by omega) (by omega) (c_U_findX (Or.inl rfl) hX hj) ?_ (fun k h1 ⟨e, _⟩ => nomatch e)
    rintro v0 hh ⟨z1, z2, z3, z4⟩
    cases z1
    obtain ⟨V, P, T, q1, _⟩ := z4
    apply tm_run [] 80
    simp (disch := first | assumption | omega) only [↓reduceIte, tm_w_i, tm_w_0, Bool.false_eq_true, tm_gI_0, tm_gI_s, tm_gA_0, tm_gA_s, tm_fv_0, tm_fv_s, tm_p1_e, tm_pA_e, tm_pJ_e, tm_pV_i, tm_pV_r, tm_cI_e, tm_cZ_e, tm_cJ_e, tm_cQ_e, tm_cO_e, tm_rq_e, List.set_cons_zero, List.set_cons_succ, List.contains_cons, List.contains_nil, Nat.reduceBEq, Bool.or_false, Bool.false_or, Bool.or_true, Bool.true_or, Bool.or_self, cond_true, cond_false, true_and, and_true, or_true, true_or, true_implies, false_implies, not_true_eq_false, not_false_eq_true, List.length_cons, List.length_nil, Option.toList_some, Option.toList_none, List.cons_append, List.nil_append, ws_N_name_0, ws_N_name_1, ws_N_name_4, ws_N_name_5, ws_N_name_6, ws_N_name_9, ws_N_name_12, ws_N_name_13, ws_N_name_16, ws_N_name_19, tm_up_s, tm_up_n, tm_up_up, nI_leI, nI_ltI, nI_eq, nI_cl, nI_in', ix_1shl, ix_or, ix_xor, nI_1, bI_0, bI_1, bI_F, pk_us, pk_un, z3.1.1, q1]
    exact ⟨rfl, z3, fun k hk => z2 k (by omega)⟩
set_option maxRecDepth 20000 in
theorem c_N_place {g v : Int32} (hX : gX S h) : tm_C M_N_place 16 5 [.ref 0, .int g, .int v] h (gPo h (o_place S g v)) := by
  refine tm_C.by (L := [some (.ref 0), some (.int g), some (.int v)]) rfl rfl rfl rfl rfl ?_
  apply tm_run [] 80
  simp (disch := first | assumption | omega) only [↓reduceIte, tm_w_i, tm_w_0, Bool.false_eq_true, tm_gI_0, tm_gI_s, tm_gA_0, tm_gA_s, tm_fv_0, tm_fv_s, tm_p1_e, tm_pA_e, tm_pJ_e, tm_pV_i, tm_pV_r, tm_cI_e, tm_cZ_e, tm_cJ_e, tm_cQ_e, tm_cO_e, tm_rq_e, List.set_cons_zero, List.set_cons_succ, List.contains_cons, List.contains_nil, Nat.reduceBEq, Bool.or_false, Bool.false_or, Bool.or_true, Bool.true_or, Bool.or_self, cond_true, cond_false, true_and, and_true, or_true, true_or, true_implies, false_implies, not_true_eq_false, not_false_eq_true, List.length_cons, List.length_nil, Option.toList_some, Option.toList_none, List.cons_append, List.nil_append, ws_N_place_0, ws_N_place_1, ws_N_place_4, ws_N_place_5, ws_N_place_6, ws_N_place_7, ws_N_place_10, ws_N_place_13, ws_N_place_14, ws_N_place_17, ws_N_place_20, ws_N_place_21, ws_N_place_22, tm_up_s, tm_up_n, tm_up_up, nI_leI, nI_ltI, nI_eq, nI_cl, nI_in', ix_1shl, ix_or, ix_xor, nI_1, bI_0, bI_1, bI_F, pk_us, pk_un, hX.1.1]
  rcases gI_c (N := 3) (by decide) g with ⟨e, hg⟩ | ⟨j, hj, rfl, e⟩
  · simp only [o_place, e]
    exact kc_N_place_7 hX.1.1 (Nat.le_of_ble_eq_true rfl) (by omega) (by omega) (c_N_graphWith_n1 hX hg) (fun _ _ q => nomatch q.1) (fun k h1 q => tm_H_out (by decide +kernel) (by cases q.1; cases q.2; exact gPo.no hX))
  · obtain ⟨hn, hp⟩ := hX.cnt hj
    rcases gI_c (N := S.1 j) (by omega) v with ⟨e2, hv⟩ | ⟨v, hv, rfl, e2⟩
    · simp only [o_place, e, e2]
      exact kc_N_place_7 hX.1.1 (Nat.le_of_ble_eq_true rfl) (by omega) (by omega) (c_N_graphWith_n2 hX hj hv) (fun _ _ q => nomatch q.1) (fun k h1 q => tm_H_out (by decide +kernel) (by cases q.1; cases q.2; exact gPo.no hX))
    · simp only [o_place, e, e2]
      refine kd_N_place_7 hX.1.1 (Nat.le_of_ble_eq_true rfl) (by omega) (by omega) (c_N_graphWith_s hX hj hv) ?_
      apply tm_run [] 80
      simp (disch := first | assumption | omega) only [↓reduceIte, tm_w_i, tm_w_0, Bool.false_eq_true, tm_gI_0, tm_gI_s, tm_gA_0, tm_gA_s, tm_fv_0, tm_fv_s, tm_p1_e, tm_pA_e, tm_pJ_e, tm_pV_i, tm_pV_r, tm_cI_e, tm_cZ_e, tm_cJ_e, tm_cQ_e, tm_cO_e, tm_rq_e, List.set_cons_zero, List.set_cons_succ, List.contains_cons, List.contains_nil, Nat.reduceBEq, Bool.or_false, Bool.false_or, Bool.or_true, Bool.true_or, Bool.or_self, cond_true, cond_false, true_and, and_true, or_true, true_or, true_implies, false_implies, not_true_eq_false, not_false_eq_true, List.length_cons, List.length_nil, Option.toList_some, Option.toList_none, List.cons_append, List.nil_append, ws_N_place_0, ws_N_place_1, ws_N_place_4, ws_N_place_5, ws_N_place_6, ws_N_place_7, ws_N_place_10, ws_N_place_13, ws_N_place_14, ws_N_place_17, ws_N_place_20, ws_N_place_21, ws_N_place_22, tm_up_s, tm_up_n, tm_up_up, nI_leI, nI_ltI, nI_eq, nI_cl, nI_in', ix_1shl, ix_or, ix_xor, nI_1, bI_0, bI_1, bI_F, pk_us, pk_un]
      obtain ⟨x, V, P, T, h1, _⟩ := hX.2.2.2.1
      refine kc_N_place_10 h1 (Nat.le_of_ble_eq_true rfl) (by omega) (by omega) (c_U_findX (Or.inl rfl) hX hj) ?_ (fun k h1 ⟨e, _⟩ => nomatch e)
      rintro v0 hh ⟨z1, z2, z3, z4⟩
      cases z1
      obtain ⟨V, P, T, q1, q2, q3, q4, q5, q6⟩ := z4
      obtain ⟨i1, i2⟩ := gIx_p (gR_fn (S.1 j) (S.2.1 j) (S.2.2 j)).1.1 hv
      have q7 := q6 _ i1
      rw [i2] at q7
      apply tm_run [] 80
      simp (disch := first | assumption | omega) only [↓reduceIte, tm_w_i, tm_w_0, Bool.false_eq_true, tm_gI_0, tm_gI_s, tm_gA_0, tm_gA_s, tm_fv_0, tm_fv_s, tm_p1_e, tm_pA_e, tm_pJ_e, tm_pV_i, tm_pV_r, tm_cI_e, tm_cZ_e, tm_cJ_e, tm_cQ_e, tm_cO_e, tm_rq_e, List.set_cons_zero, List.set_cons_succ, List.contains_cons, List.contains_nil, Nat.reduceBEq, Bool.or_false, Bool.false_or, Bool.or_true, Bool.true_or, Bool.or_self, cond_true, cond_false, true_and, and_true, or_true, true_or, true_implies, false_implies, not_true_eq_false, not_false_eq_true, List.length_cons, List.length_nil, Option.toList_some, Option.toList_none, List.cons_append, List.nil_append, ws_N_place_0, ws_N_place_1, ws_N_place_4, ws_N_place_5, ws_N_place_6, ws_N_place_7, ws_N_place_10, ws_N_place_13, ws_N_place_14, ws_N_place_17, ws_N_place_20, ws_N_place_21, ws_N_place_22, tm_up_s, tm_up_n, tm_up_up, nI_leI, nI_ltI, nI_eq, nI_cl, nI_in', ix_1shl, ix_or, ix_xor, nI_1, bI_0, bI_1, bI_F, pk_us, pk_un, z3.1.1, q1, q3, q7]
      exact ⟨rfl, z3, fun k hk => z2 k (by omega)⟩
noncomputable def gMv (n : Nat) (cc nb : Nat → Nat) : Nat := gS (fun v => if gR n cc nb v = v then 0 else 1) n
noncomputable def o_settle (S : gSt) (g : Int32) : gRs := match gI 3 g with
  | none => (.inr 0, S)
  | some j => (.inl (nI (gMv (S.1 j) (S.2.1 j) (S.2.2 j))), gPut S j (S.1 j) (fun i => S.2.1 j (gR (S.1 j) (S.2.1 j) (S.2.2 j) i)) (gOr (S.2.2 j) (gR (S.1 j) (S.2.1 j) (S.2.2 j)) (S.1 j)))
set_option maxRecDepth 20000 in
theorem c_N_settle {g : Int32} (hX : gX S h) : tm_C M_N_settle 16 5 [.ref 0, .int g] h (gPo h (o_settle S g)) := by
  refine tm_C.by (L := [some (.ref 0), some (.int g), none, none, none]) rfl rfl rfl rfl rfl ?_
  apply tm_run [42] 80
  simp (disch := first | assumption | omega) only [↓reduceIte, tm_w_i, tm_w_0, Bool.false_eq_true, tm_gI_0, tm_gI_s, tm_gA_0, tm_gA_s, tm_fv_0, tm_fv_s, tm_p1_e, tm_pA_e, tm_pJ_e, tm_pV_i, tm_pV_r, tm_cI_e, tm_cZ_e, tm_cJ_e, tm_cQ_e, tm_cO_e, tm_rq_e, List.set_cons_zero, List.set_cons_succ, List.contains_cons, List.contains_nil, Nat.reduceBEq, Bool.or_false, Bool.false_or, Bool.or_true, Bool.true_or, Bool.or_self, cond_true, cond_false, true_and, and_true, or_true, true_or, true_implies, false_implies, not_true_eq_false, not_false_eq_true, List.length_cons, List.length_nil, Option.toList_some, Option.toList_none, List.cons_append, List.nil_append, ws_N_settle_0, ws_N_settle_1, ws_N_settle_2, ws_N_settle_5, ws_N_settle_6, ws_N_settle_7, ws_N_settle_10, ws_N_settle_11, ws_N_settle_14, ws_N_settle_15, ws_N_settle_18, ws_N_settle_19, ws_N_settle_22, ws_N_settle_23, ws_N_settle_24, ws_N_settle_27, ws_N_settle_28, ws_N_settle_31, ws_N_settle_34, ws_N_settle_37, ws_N_settle_38, ws_N_settle_39, ws_N_settle_40, ws_N_settle_42, ws_N_settle_44, ws_N_settle_45, ws_N_settle_48, ws_N_settle_51, ws_N_settle_52, ws_N_settle_55, ws_N_settle_58, ws_N_settle_60, ws_N_settle_61, ws_N_settle_63, ws_N_settle_66, ws_N_settle_69, ws_N_settle_72, ws_N_settle_75, ws_N_settle_76, tm_up_s, tm_up_n, tm_up_up, nI_leI, nI_ltI, nI_eq, nI_cl, nI_in', ix_1shl, ix_or, ix_xor, nI_1, bI_0, bI_1, bI_F, pk_us, pk_un, hX.1.1]
  rcases gI_c (N := 3) (by decide) g with ⟨e, hg⟩ | ⟨j, hj, rfl, e⟩
  · simp only [o_settle, e]
    exact kc_N_settle_2 hX.1.1 (Nat.le_of_ble_eq_true rfl) (by omega) (by omega) (c_N_graphOf_n hg) (fun _ _ q => nomatch q.1) (fun k h1 q => tm_H_out (by decide +kernel) (by cases q.1; cases q.2; exact gPo.no hX))
  · simp only [o_settle, e]
    obtain ⟨hn, hp⟩ := hX.cnt hj
    refine kd_N_settle_2 hX.1.1 (Nat.le_of_ble_eq_true rfl) (by omega) (by omega) (c_N_graphOf_s hX.1 hj) ?_
    apply tm_run [42] 80
    simp (disch := first | assumption | omega) only [↓reduceIte, tm_w_i, tm_w_0, Bool.false_eq_true, tm_gI_0, tm_gI_s, tm_gA_0, tm_gA_s, tm_fv_0, tm_fv_s, tm_p1_e, tm_pA_e, tm_pJ_e, tm_pV_i, tm_pV_r, tm_cI_e, tm_cZ_e, tm_cJ_e, tm_cQ_e, tm_cO_e, tm_rq_e, List.set_cons_zero, List.set_cons_succ, List.contains_cons, List.contains_nil, Nat.reduceBEq, Bool.or_false, Bool.false_or, Bool.or_true, Bool.true_or, Bool.or_self, cond_true, cond_false, true_and, and_true, or_true, true_or, true_implies, false_implies, not_true_eq_false, not_false_eq_true, List.length_cons, List.length_nil, Option.toList_some, Option.toList_none, List.cons_append, List.nil_append, ws_N_settle_0, ws_N_settle_1, ws_N_settle_2, ws_N_settle_5, ws_N_settle_6, ws_N_settle_7, ws_N_settle_10, ws_N_settle_11, ws_N_settle_14, ws_N_settle_15, ws_N_settle_18, ws_N_settle_19, ws_N_settle_22, ws_N_settle_23, ws_N_settle_24, ws_N_settle_27, ws_N_settle_28, ws_N_settle_31, ws_N_settle_34, ws_N_settle_37, ws_N_settle_38, ws_N_settle_39, ws_N_settle_40, ws_N_settle_42, ws_N_settle_44, ws_N_settle_45, ws_N_settle_48, ws_N_settle_51, ws_N_settle_52, ws_N_settle_55, ws_N_settle_58, ws_N_settle_60, ws_N_settle_61, ws_N_settle_63, ws_N_settle_66, ws_N_settle_69, ws_N_settle_72, ws_N_settle_75, ws_N_settle_76, tm_up_s, tm_up_n, tm_up_up, nI_leI, nI_ltI, nI_eq, nI_cl, nI_in', ix_1shl, ix_or, ix_xor, nI_1, bI_0, bI_1, bI_F, pk_us, pk_un, hX.1.1]
    obtain ⟨x, V, P, T, h1, _⟩ := hX.2.2.2.1
    refine kc_N_settle_11 h1 (Nat.le_of_ble_eq_true rfl) (by omega) (by omega) (c_U_findX (Or.inl rfl) hX hj) ?_ (fun k h1 ⟨e, _⟩ => nomatch e)
    rintro v0 hh ⟨z1, z2, z3, z4⟩
    cases z1
    obtain ⟨V, P, T, q1, q2, q3, q4, q5, q6⟩ := z4
    have hr := (gR_fn (S.1 j) (S.2.1 j) (S.2.2 j)).1.1
    generalize hrr : gR (S.1 j) (S.2.1 j) (S.2.2 j) = r at *
    have hK : tm_K = 39 := rfl
    obtain ⟨xs, cs, fs, s1, s2, s3⟩ := z3.2.2.1
    obtain ⟨xs, hxs, rfl⟩ := nI_all xs
    obtain ⟨cf, f, k1, k2, k3, k4, k5, k6⟩ := z3.2.1 j hj
    apply tm_run [42] 80
    simp (disch := first | assumption | omega) only [↓reduceIte, tm_w_i, tm_w_0, Bool.false_eq_true, tm_gI_0, tm_gI_s, tm_gA_0, tm_gA_s, tm_fv_0, tm_fv_s, tm_p1_e, tm_pA_e, tm_pJ_e, tm_pV_i, tm_pV_r, tm_cI_e, tm_cZ_e, tm_cJ_e, tm_cQ_e, tm_cO_e, tm_rq_e, List.set_cons_zero, List.set_cons_succ, List.contains_cons, List.contains_nil, Nat.reduceBEq, Bool.or_false, Bool.false_or, Bool.or_true, Bool.true_or, Bool.or_self, cond_true, cond_false, true_and, and_true, or_true, true_or, true_implies, false_implies, not_true_eq_false, not_false_eq_true, List.length_cons, List.length_nil, Option.toList_some, Option.toList_none, List.cons_append, List.nil_append, ws_N_settle_0, ws_N_settle_1, ws_N_settle_2, ws_N_settle_5, ws_N_settle_6, ws_N_settle_7, ws_N_settle_10, ws_N_settle_11, ws_N_settle_14, ws_N_settle_15, ws_N_settle_18, ws_N_settle_19, ws_N_settle_22, ws_N_settle_23, ws_N_settle_24, ws_N_settle_27, ws_N_settle_28, ws_N_settle_31, ws_N_settle_34, ws_N_settle_37, ws_N_settle_38, ws_N_settle_39, ws_N_settle_40, ws_N_settle_42, ws_N_settle_44, ws_N_settle_45, ws_N_settle_48, ws_N_settle_51, ws_N_settle_52, ws_N_settle_55, ws_N_settle_58, ws_N_settle_60, ws_N_settle_61, ws_N_settle_63, ws_N_settle_66, ws_N_settle_69, ws_N_settle_72, ws_N_settle_75, ws_N_settle_76, tm_up_s, tm_up_n, tm_up_up, nI_leI, nI_ltI, nI_eq, nI_cl, nI_in', ix_1shl, ix_or, ix_xor, nI_1, bI_0, bI_1, bI_F, pk_us, pk_un, z3.1.1]
    refine kd_N_settle_19 s1 (Nat.le_of_ble_eq_true rfl) (by omega) (by omega) (c_G_become s1 s2 s3 k1 k2 k3 hn (by decide) (by decide) (by omega) (by decide) (by decide) (by omega) (by omega) (by decide) (by omega) (by omega) (by omega) (by omega) (by omega) (by omega)) ?_
    generalize hh2 : tm_up (tm_up (tm_up hh 5 (tm_o 1 [.int (nI (S.1 j)), .ref 12, .ref 13])) 12 (tm_i 7 (gPr cf cs (S.1 j)))) 13 (tm_i 7 (gPr f fs (S.1 j))) = H2
    have g1 : ∀ k, k ≠ 5 → k ≠ 12 → k ≠ 13 → H2 k = hh k := fun k a1 a2 a3 => by rw [← hh2, tm_up_n a3, tm_up_n a2, tm_up_n a1]
    have g2 : H2 5 = tm_o 1 [.int (nI (S.1 j)), .ref 12, .ref 13] := by rw [← hh2, tm_up_n (by decide), tm_up_n (by decide), tm_up_s]
    have g3 : H2 12 = tm_i 7 (gPr cf cs (S.1 j)) := by rw [← hh2, tm_up_n (by decide), tm_up_s]
    have g4 : H2 13 = tm_i 7 (gPr f fs (S.1 j)) := by rw [← hh2, tm_up_s]
    have o0 := (g1 0 (by decide) (by decide) (by decide)).trans z3.1.1
    have o1 := (g1 14 (by decide) (by decide) (by decide)).trans q1
    have m1 := (g1 (j + 2) (by omega) (by omega) (by omega)).trans k1
    have m2 := (g1 (2 * j + 6) (by omega) (by omega) (by omega)).trans k2
    have m3 := (g1 (2 * j + 7) (by omega) (by omega) (by omega)).trans k3
    apply tm_run [42] 80
    simp (disch := first | assumption | omega) only [↓reduceIte, tm_w_i, tm_w_0, Bool.false_eq_true, tm_gI_0, tm_gI_s, tm_gA_0, tm_gA_s, tm_fv_0, tm_fv_s, tm_p1_e, tm_pA_e, tm_pJ_e, tm_pV_i, tm_pV_r, tm_cI_e, tm_cZ_e, tm_cJ_e, tm_cQ_e, tm_cO_e, tm_rq_e, List.set_cons_zero, List.set_cons_succ, List.contains_cons, List.contains_nil, Nat.reduceBEq, Bool.or_false, Bool.false_or, Bool.or_true, Bool.true_or, Bool.or_self, cond_true, cond_false, true_and, and_true, or_true, true_or, true_implies, false_implies, not_true_eq_false, not_false_eq_true, List.length_cons, List.length_nil, Option.toList_some, Option.toList_none, List.cons_append, List.nil_append, ws_N_settle_0, ws_N_settle_1, ws_N_settle_2, ws_N_settle_5, ws_N_settle_6, ws_N_settle_7, ws_N_settle_10, ws_N_settle_11, ws_N_settle_14, ws_N_settle_15, ws_N_settle_18, ws_N_settle_19, ws_N_settle_22, ws_N_settle_23, ws_N_settle_24, ws_N_settle_27, ws_N_settle_28, ws_N_settle_31, ws_N_settle_34, ws_N_settle_37, ws_N_settle_38, ws_N_settle_39, ws_N_settle_40, ws_N_settle_42, ws_N_settle_44, ws_N_settle_45, ws_N_settle_48, ws_N_settle_51, ws_N_settle_52, ws_N_settle_55, ws_N_settle_58, ws_N_settle_60, ws_N_settle_61, ws_N_settle_63, ws_N_settle_66, ws_N_settle_69, ws_N_settle_72, ws_N_settle_75, ws_N_settle_76, tm_up_s, tm_up_n, tm_up_up, nI_leI, nI_ltI, nI_eq, nI_cl, nI_in', ix_1shl, ix_or, ix_xor, nI_1, bI_0, bI_1, bI_F, pk_us, pk_un, o0, o1]
    refine kd_N_settle_34 m1 (Nat.le_of_ble_eq_true rfl) (by omega) (by omega) (c_G_becomeInOrder (q := r) (nb := S.2.2 j) m1 m2 m3 g2 g3 g4 ((g1 15 (by decide) (by decide) (by decide)).trans q2) hn (by omega) (by omega) (fun i hi => ⟨q5 i hi, hr.1 i hi⟩) (fun i hi => ⟨(gPr_in hi).trans (k5 i hi).1, (k5 i hi).2⟩) (by omega) (by omega) (by omega) (by omega) (by omega) (by omega) (by omega) (by omega) (by omega) (by omega) (by omega)) ?_
    generalize hh3 : tm_up (tm_up H2 (2 * j + 6) (tm_i 7 (gPr (fun i => gPr cf cs (S.1 j) (r i)) cf (S.1 j)))) (2 * j + 7) (tm_i 7 (gPr (fun i => nI (gOr (S.2.2 j) r (S.1 j) i)) f (S.1 j))) = H3
    have d1 : ∀ k, k ≠ 2 * j + 6 → k ≠ 2 * j + 7 → H3 k = H2 k := fun k a1 a2 => by rw [← hh3, tm_up_n a2, tm_up_n a1]
    have d2 : H3 (2 * j + 6) = tm_i 7 (gPr (fun i => gPr cf cs (S.1 j) (r i)) cf (S.1 j)) := by rw [← hh3, tm_up_n (by omega), tm_up_s]
    have d3 : H3 (2 * j + 7) = tm_i 7 (gPr (fun i => nI (gOr (S.2.2 j) r (S.1 j) i)) f (S.1 j)) := by rw [← hh3, tm_up_s]
    have d4 := (d1 0 (by omega) (by omega)).trans o0
    have d5 := (d1 14 (by omega) (by omega)).trans o1
    have d6 := (d1 16 (by omega) (by omega)).trans ((g1 16 (by decide) (by decide) (by decide)).trans q3)
    have d7 := (d1 (j + 2) (by omega) (by omega)).trans m1
    have all : ∀ k, k ≠ 5 → k ≠ 12 → k ≠ 13 → k ≠ 2 * j + 6 → k ≠ 2 * j + 7 → H3 k = hh k := fun k a1 a2 a3 a4 a5 => (d1 k a4 a5).trans (g1 k a1 a2 a3)
    have fx : gX (gPut S j (S.1 j) (fun i => S.2.1 j (r i)) (gOr (S.2.2 j) r (S.1 j))) H3 := by
      have ok := gOk_or k6 hr
      refine ⟨z3.1.fr (fun k hk => all k (by omega) (by omega) (by omega) (by omega) (by omega)), z3.2.1.put hj (fun k b1 b2 b3 b4 b5 b6 => all k (by omega) (by omega) (by omega) (by omega) (by omega)) ⟨_, _, d7, d2, d3, fun i hi => ?_, fun i hi => ⟨gPr_in hi, g2p hn (ok.2 i hi).2.1⟩, ok⟩, ⟨_, _, _, (d1 5 (by omega) (by omega)).trans g2, (d1 12 (by omega) (by omega)).trans g3, (d1 13 (by omega) (by omega)).trans g4⟩, z3.2.2.2.1.fr (fun k _ _ => all k (by omega) (by omega) (by omega) (by omega) (by omega)), z3.2.2.2.2.1.fr (fun k _ _ => all k (by omega) (by omega) (by omega) (by omega) (by omega)), z3.2.2.2.2.2.1.fr (fun k _ => all k (by omega) (by omega) (by omega) (by omega) (by omega)), z3.2.2.2.2.2.2.fr (fun k _ => all k (by omega) (by omega) (by omega) (by omega) (by omega))⟩
      rw [gPr_in hi]
      dsimp only
      rw [gPr_in (hr.1 i hi)]
      exact k4 _ (hr.1 i hi)
    have fr : ∀ k, 27 ≤ k → H3 k = h k := fun k hk => (all k (by omega) (by omega) (by omega) (by omega) (by omega)).trans (z2 k (by omega))
    apply tm_run [42] 80
    simp (disch := first | assumption | omega) only [↓reduceIte, tm_w_i, tm_w_0, Bool.false_eq_true, tm_gI_0, tm_gI_s, tm_gA_0, tm_gA_s, tm_fv_0, tm_fv_s, tm_p1_e, tm_pA_e, tm_pJ_e, tm_pV_i, tm_pV_r, tm_cI_e, tm_cZ_e, tm_cJ_e, tm_cQ_e, tm_cO_e, tm_rq_e, List.set_cons_zero, List.set_cons_succ, List.contains_cons, List.contains_nil, Nat.reduceBEq, Bool.or_false, Bool.false_or, Bool.or_true, Bool.true_or, Bool.or_self, cond_true, cond_false, true_and, and_true, or_true, true_or, true_implies, false_implies, not_true_eq_false, not_false_eq_true, List.length_cons, List.length_nil, Option.toList_some, Option.toList_none, List.cons_append, List.nil_append, ws_N_settle_0, ws_N_settle_1, ws_N_settle_2, ws_N_settle_5, ws_N_settle_6, ws_N_settle_7, ws_N_settle_10, ws_N_settle_11, ws_N_settle_14, ws_N_settle_15, ws_N_settle_18, ws_N_settle_19, ws_N_settle_22, ws_N_settle_23, ws_N_settle_24, ws_N_settle_27, ws_N_settle_28, ws_N_settle_31, ws_N_settle_34, ws_N_settle_37, ws_N_settle_38, ws_N_settle_39, ws_N_settle_40, ws_N_settle_42, ws_N_settle_44, ws_N_settle_45, ws_N_settle_48, ws_N_settle_51, ws_N_settle_52, ws_N_settle_55, ws_N_settle_58, ws_N_settle_60, ws_N_settle_61, ws_N_settle_63, ws_N_settle_66, ws_N_settle_69, ws_N_settle_72, ws_N_settle_75, ws_N_settle_76, tm_up_s, tm_up_n, tm_up_up, nI_leI, nI_ltI, nI_eq, nI_cl, nI_in', ix_1shl, ix_or, ix_xor, nI_1, bI_0, bI_1, bI_F, pk_us, pk_un]
    have key : ∀ l v, v + l = S.1 j → tm_T M_N_settle 16 5 (gPo h (.inl (nI (gMv (S.1 j) (S.2.1 j) (S.2.2 j))), gPut S j (S.1 j) (fun i => S.2.1 j (r i)) (gOr (S.2.2 j) r (S.1 j)))) 1 42 [some (.ref 0), some (.int (nI j)), some (.ref (j + 2)), some (.int (nI (gS (fun v => if r v = v then 0 else 1) v))), some (.int (nI v))] [] H3 := by
      intro l
      induction l with
      | zero =>
        intro v hv
        obtain rfl : v = S.1 j := by omega
        apply tm_run [42] 80
        simp (disch := first | assumption | omega) only [↓reduceIte, tm_w_i, tm_w_0, Bool.false_eq_true, tm_gI_0, tm_gI_s, tm_gA_0, tm_gA_s, tm_fv_0, tm_fv_s, tm_p1_e, tm_pA_e, tm_pJ_e, tm_pV_i, tm_pV_r, tm_cI_e, tm_cZ_e, tm_cJ_e, tm_cQ_e, tm_cO_e, tm_rq_e, List.set_cons_zero, List.set_cons_succ, List.contains_cons, List.contains_nil, Nat.reduceBEq, Bool.or_false, Bool.false_or, Bool.or_true, Bool.true_or, Bool.or_self, cond_true, cond_false, true_and, and_true, or_true, true_or, true_implies, false_implies, not_true_eq_false, not_false_eq_true, List.length_cons, List.length_nil, Option.toList_some, Option.toList_none, List.cons_append, List.nil_append, ws_N_settle_0, ws_N_settle_1, ws_N_settle_2, ws_N_settle_5, ws_N_settle_6, ws_N_settle_7, ws_N_settle_10, ws_N_settle_11, ws_N_settle_14, ws_N_settle_15, ws_N_settle_18, ws_N_settle_19, ws_N_settle_22, ws_N_settle_23, ws_N_settle_24, ws_N_settle_27, ws_N_settle_28, ws_N_settle_31, ws_N_settle_34, ws_N_settle_37, ws_N_settle_38, ws_N_settle_39, ws_N_settle_40, ws_N_settle_42, ws_N_settle_44, ws_N_settle_45, ws_N_settle_48, ws_N_settle_51, ws_N_settle_52, ws_N_settle_55, ws_N_settle_58, ws_N_settle_60, ws_N_settle_61, ws_N_settle_63, ws_N_settle_66, ws_N_settle_69, ws_N_settle_72, ws_N_settle_75, ws_N_settle_76, tm_up_s, tm_up_n, tm_up_up, nI_leI, nI_ltI, nI_eq, nI_cl, nI_in', ix_1shl, ix_or, ix_xor, nI_1, bI_0, bI_1, bI_F, pk_us, pk_un, d7, Nat.le_refl]
        refine ⟨?_, fx, fr⟩
        unfold gMv
        rw [hrr]
        rfl
      | succ l ih =>
        intro v hv
        have hlt : ¬ S.1 j ≤ v := by omega
        have hvn : v < S.1 j := by omega
        obtain ⟨i1, i2⟩ := gIx_p hr hvn
        have q7 := q6 _ i1
        rw [i2] at q7
        have := ih (v + 1) (by omega)
        rw [gS] at this
        apply tm_run [42] 80
        simp (disch := first | assumption | omega) only [↓reduceIte, tm_w_i, tm_w_0, Bool.false_eq_true, tm_gI_0, tm_gI_s, tm_gA_0, tm_gA_s, tm_fv_0, tm_fv_s, tm_p1_e, tm_pA_e, tm_pJ_e, tm_pV_i, tm_pV_r, tm_cI_e, tm_cZ_e, tm_cJ_e, tm_cQ_e, tm_cO_e, tm_rq_e, List.set_cons_zero, List.set_cons_succ, List.contains_cons, List.contains_nil, Nat.reduceBEq, Bool.or_false, Bool.false_or, Bool.or_true, Bool.true_or, Bool.or_self, cond_true, cond_false, true_and, and_true, or_true, true_or, true_implies, false_implies, not_true_eq_false, not_false_eq_true, List.length_cons, List.length_nil, Option.toList_some, Option.toList_none, List.cons_append, List.nil_append, ws_N_settle_0, ws_N_settle_1, ws_N_settle_2, ws_N_settle_5, ws_N_settle_6, ws_N_settle_7, ws_N_settle_10, ws_N_settle_11, ws_N_settle_14, ws_N_settle_15, ws_N_settle_18, ws_N_settle_19, ws_N_settle_22, ws_N_settle_23, ws_N_settle_24, ws_N_settle_27, ws_N_settle_28, ws_N_settle_31, ws_N_settle_34, ws_N_settle_37, ws_N_settle_38, ws_N_settle_39, ws_N_settle_40, ws_N_settle_42, ws_N_settle_44, ws_N_settle_45, ws_N_settle_48, ws_N_settle_51, ws_N_settle_52, ws_N_settle_55, ws_N_settle_58, ws_N_settle_60, ws_N_settle_61, ws_N_settle_63, ws_N_settle_66, ws_N_settle_69, ws_N_settle_72, ws_N_settle_75, ws_N_settle_76, tm_up_s, tm_up_n, tm_up_up, nI_leI, nI_ltI, nI_eq, nI_cl, nI_in', ix_1shl, ix_or, ix_xor, nI_1, bI_0, bI_1, bI_F, pk_us, pk_un, d7, hlt, d4, d5, d6, q7, gIx_fix hr hvn]
        refine ⟨fun a => ?_, fun a => ?_⟩
        · rw [if_pos a] at this; exact this
        · rw [if_neg a] at this; exact this
    exact key (S.1 j) 0 (by omega)
end BV
