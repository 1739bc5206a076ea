section BW
variable {S : gSt} {h : tm_Hp}
/-- a call of Laying in the world -/
theorem gX.lay {v : Int32} {z : tm_O} {hh : tm_Hp} (hX : gX S h) (q : gYp h 23 v z hh) : z = .inl (some (.int v)) ∧ gX S hh ∧ ∀ k, k ≠ 23 → hh k = h k := by
  obtain ⟨z1, g', rfl⟩ := q
  have fr : ∀ k, k ≠ 23 → tm_up h 23 (tm_i 7 g') k = h k := fun k hk => tm_up_n hk
  refine ⟨z1, ⟨hX.1.fr (fun k hk => fr k (by omega)), hX.2.1.fr (fun k _ _ _ => fr k (by omega)), hX.2.2.1.fr (fun k _ => fr k (by omega)), hX.2.2.2.1.fr (fun k _ _ => fr k (by omega)), hX.2.2.2.2.1.fr (fun k _ _ => fr k (by omega)), ⟨(fr 22 (by decide)).trans hX.2.2.2.2.2.1.1, g', tm_up_s _ _ _⟩, hX.2.2.2.2.2.2.fr (fun k _ => fr k (by omega))⟩, fr⟩
noncomputable def o_fixing (S : gSt) (g s : Int32) : gRs := match gI 3 g with
  | none => (.inr 0, S)
  | some j => match gI (2 ^ S.1 j) s with
    | none => (.inr 0, S)
    | some s => (.inl (nI (gNu (S.1 j) (S.2.1 j) (S.2.2 j) s (S.1 j))), S)
noncomputable def o_automorphisms (S : gSt) (g : Int32) : gRs := match gI 3 g with
  | none => (.inr 0, S)
  | some j => (.inl (nI (gNu (S.1 j) (S.2.1 j) (S.2.2 j) 0 (S.1 j))), S)
noncomputable def o_orbit (S : gSt) (g v : Int32) : gRs := match gI 3 g with
  | none => (.inr 0, S)
  | some j => match gI (S.1 j) v with
    | none => (.inr 0, S)
    | some v => (.inl (nI (gMk (gCa (S.1 j) (S.2.1 j) (S.2.2 j) 0 v) (S.1 j))), S)
/-- how many are the least of their set -/
def gLs2 (C : Nat → Nat) (n : Nat) : Nat := gS (fun v => if C v % 2 ^ v == 0 then 1 else 0) n
noncomputable def o_orbits (S : gSt) (g : Int32) : gRs := match gI 3 g with
  | none => (.inr 0, S)
  | some j => (.inl (nI (gLs2 (fun v => gMk (gCa (S.1 j) (S.2.1 j) (S.2.2 j) 0 v) (S.1 j)) (S.1 j))), S)
def o_cell (S : gSt) (g v : Int32) : gRs := match gI 3 g with
  | none => (.inr 0, S)
  | some j => match gI (S.1 j) v with
    | none => (.inr 0, S)
    | some v => (.inl (nI (gCe (S.1 j) (S.2.1 j) (S.2.2 j) v)), S)
def o_cells (S : gSt) (g : Int32) : gRs := match gI 3 g with
  | none => (.inr 0, S)
  | some j => (.inl (nI (gLs2 (gCe (S.1 j) (S.2.1 j) (S.2.2 j)) (S.1 j))), S)
noncomputable def o_moves (S : gSt) (g v w s : Int32) : gRs := match gI 3 g with
  | none => (.inr 0, S)
  | some j => match gI (S.1 j) v with
    | none => (.inr 0, S)
    | some v => match gI (S.1 j) w with
      | none => (.inr 0, S)
      | some w => match gI (2 ^ S.1 j) s with
        | none => (.inr 0, S)
        | some s => (.inl (bI (gCa (S.1 j) (S.2.1 j) (S.2.2 j) s v w)), S)
set_option maxRecDepth 20000 in
theorem c_N_automorphisms {g : Int32} (hX : gX S h) : tm_C M_N_automorphisms 16 5 [.ref 0, .int g] h (gPo h (o_automorphisms S g)) := by
  refine tm_C.by (L := [some (.ref 0), some (.int g)]) rfl rfl rfl rfl rfl ?_
  apply tm_run [] 80
  simp (disch := first | assumption | omega) only [↓reduceIte, tm_w_i, tm_w_0, Bool.false_eq_true, tm_gI_0, tm_gI_s, tm_gA_0, tm_gA_s, tm_fv_0, tm_fv_s, tm_p1_e, tm_pA_e, tm_pJ_e, tm_pV_i, tm_pV_r, tm_cI_e, tm_cZ_e, tm_cJ_e, tm_cQ_e, tm_cO_e, tm_rq_e, List.set_cons_zero, List.set_cons_succ, List.contains_cons, List.contains_nil, Nat.reduceBEq, Bool.or_false, Bool.false_or, Bool.or_true, Bool.true_or, Bool.or_self, cond_true, cond_false, true_and, and_true, or_true, true_or, true_implies, false_implies, not_true_eq_false, not_false_eq_true, List.length_cons, List.length_nil, Option.toList_some, Option.toList_none, List.cons_append, List.nil_append, ws_N_automorphisms_0, ws_N_automorphisms_1, ws_N_automorphisms_4, ws_N_automorphisms_5, ws_N_automorphisms_6, ws_N_automorphisms_9, ws_N_automorphisms_10, ws_N_automorphisms_13, tm_up_s, tm_up_n, tm_up_up, nI_leI, nI_ltI, nI_eq, nI_cl, nI_in', ix_1shl, ix_or, ix_xor, nI_1, bI_0, bI_1, bI_F, pk_us, pk_un, hX.1.1]
  rcases gI_c (N := 3) (by decide) g with ⟨e, hg⟩ | ⟨j, hj, rfl, e⟩
  · simp only [o_automorphisms, e]
    exact kc_N_automorphisms_6 hX.1.1 (Nat.le_of_ble_eq_true rfl) (by omega) (by omega) (c_N_graphOf_n hg) (fun _ _ q => nomatch q.1) (fun k h1 q => tm_H_out (by decide +kernel) (by cases q.1; cases q.2; exact gPo.no hX))
  · simp only [o_automorphisms, e]
    have hK : tm_K = 39 := rfl
    obtain ⟨l1, f, l2⟩ := hX.2.2.2.2.2.1
    refine kd_N_automorphisms_6 hX.1.1 (Nat.le_of_ble_eq_true rfl) (by omega) (by omega) (c_N_graphOf_s hX.1 hj) ?_
    apply tm_run [] 80
    simp (disch := first | assumption | omega) only [↓reduceIte, tm_w_i, tm_w_0, Bool.false_eq_true, tm_gI_0, tm_gI_s, tm_gA_0, tm_gA_s, tm_fv_0, tm_fv_s, tm_p1_e, tm_pA_e, tm_pJ_e, tm_pV_i, tm_pV_r, tm_cI_e, tm_cZ_e, tm_cJ_e, tm_cQ_e, tm_cO_e, tm_rq_e, List.set_cons_zero, List.set_cons_succ, List.contains_cons, List.contains_nil, Nat.reduceBEq, Bool.or_false, Bool.false_or, Bool.or_true, Bool.true_or, Bool.or_self, cond_true, cond_false, true_and, and_true, or_true, true_or, true_implies, false_implies, not_true_eq_false, not_false_eq_true, List.length_cons, List.length_nil, Option.toList_some, Option.toList_none, List.cons_append, List.nil_append, ws_N_automorphisms_0, ws_N_automorphisms_1, ws_N_automorphisms_4, ws_N_automorphisms_5, ws_N_automorphisms_6, ws_N_automorphisms_9, ws_N_automorphisms_10, ws_N_automorphisms_13, tm_up_s, tm_up_n, tm_up_up, nI_leI, nI_ltI, nI_eq, nI_cl, nI_in', ix_1shl, ix_or, ix_xor, nI_1, bI_0, bI_1, bI_F, pk_us, pk_un, i_0]
    refine kc_N_automorphisms_10 l1 (Nat.le_of_ble_eq_true rfl) (by omega) (by omega) (c_Y_number (hX.2.1 j hj) (by omega) (by omega) (by omega) (by omega) (by omega) l1 l2 (by omega)) ?_ (fun k h1 ⟨e, _⟩ => nomatch e)
    intro v0 hh q
    obtain ⟨z1, z2, z3⟩ := hX.lay q
    cases z1
    apply tm_run [] 80
    simp (disch := first | assumption | omega) only [↓reduceIte, tm_w_i, tm_w_0, Bool.false_eq_true, tm_gI_0, tm_gI_s, tm_gA_0, tm_gA_s, tm_fv_0, tm_fv_s, tm_p1_e, tm_pA_e, tm_pJ_e, tm_pV_i, tm_pV_r, tm_cI_e, tm_cZ_e, tm_cJ_e, tm_cQ_e, tm_cO_e, tm_rq_e, List.set_cons_zero, List.set_cons_succ, List.contains_cons, List.contains_nil, Nat.reduceBEq, Bool.or_false, Bool.false_or, Bool.or_true, Bool.true_or, Bool.or_self, cond_true, cond_false, true_and, and_true, or_true, true_or, true_implies, false_implies, not_true_eq_false, not_false_eq_true, List.length_cons, List.length_nil, Option.toList_some, Option.toList_none, List.cons_append, List.nil_append, ws_N_automorphisms_0, ws_N_automorphisms_1, ws_N_automorphisms_4, ws_N_automorphisms_5, ws_N_automorphisms_6, ws_N_automorphisms_9, ws_N_automorphisms_10, ws_N_automorphisms_13, tm_up_s, tm_up_n, tm_up_up, nI_leI, nI_ltI, nI_eq, nI_cl, nI_in', ix_1shl, ix_or, ix_xor, nI_1, bI_0, bI_1, bI_F, pk_us, pk_un]
    exact ⟨rfl, z2, fun k hk => z3 k (by omega)⟩
set_option maxRecDepth 20000 in
theorem c_N_fixing {g s : Int32} (hX : gX S h) : tm_C M_N_fixing 16 5 [.ref 0, .int g, .int s] h (gPo h (o_fixing S g s)) := by
  refine tm_C.by (L := [some (.ref 0), some (.int g), some (.int s), none]) rfl rfl rfl rfl rfl ?_
  apply tm_run [] 80
  simp (disch := first | assumption | omega) only [↓reduceIte, tm_w_i, tm_w_0, Bool.false_eq_true, tm_gI_0, tm_gI_s, tm_gA_0, tm_gA_s, tm_fv_0, tm_fv_s, tm_p1_e, tm_pA_e, tm_pJ_e, tm_pV_i, tm_pV_r, tm_cI_e, tm_cZ_e, tm_cJ_e, tm_cQ_e, tm_cO_e, tm_rq_e, List.set_cons_zero, List.set_cons_succ, List.contains_cons, List.contains_nil, Nat.reduceBEq, Bool.or_false, Bool.false_or, Bool.or_true, Bool.true_or, Bool.or_self, cond_true, cond_false, true_and, and_true, or_true, true_or, true_implies, false_implies, not_true_eq_false, not_false_eq_true, List.length_cons, List.length_nil, Option.toList_some, Option.toList_none, List.cons_append, List.nil_append, ws_N_fixing_0, ws_N_fixing_1, ws_N_fixing_2, ws_N_fixing_5, ws_N_fixing_6, ws_N_fixing_7, ws_N_fixing_8, ws_N_fixing_11, ws_N_fixing_12, ws_N_fixing_15, ws_N_fixing_16, ws_N_fixing_17, ws_N_fixing_20, tm_up_s, tm_up_n, tm_up_up, nI_leI, nI_ltI, nI_eq, nI_cl, nI_in', ix_1shl, ix_or, ix_xor, nI_1, bI_0, bI_1, bI_F, pk_us, pk_un, hX.1.1]
  rcases gI_c (N := 3) (by decide) g with ⟨e, hg⟩ | ⟨j, hj, rfl, e⟩
  · simp only [o_fixing, e]
    exact kc_N_fixing_2 hX.1.1 (Nat.le_of_ble_eq_true rfl) (by omega) (by omega) (c_N_graphOf_n hg) (fun _ _ q => nomatch q.1) (fun k h1 q => tm_H_out (by decide +kernel) (by cases q.1; cases q.2; exact gPo.no hX))
  · obtain ⟨hn, hp⟩ := hX.cnt hj
    refine kd_N_fixing_2 hX.1.1 (Nat.le_of_ble_eq_true rfl) (by omega) (by omega) (c_N_graphOf_s hX.1 hj) ?_
    apply tm_run [] 80
    simp (disch := first | assumption | omega) only [↓reduceIte, tm_w_i, tm_w_0, Bool.false_eq_true, tm_gI_0, tm_gI_s, tm_gA_0, tm_gA_s, tm_fv_0, tm_fv_s, tm_p1_e, tm_pA_e, tm_pJ_e, tm_pV_i, tm_pV_r, tm_cI_e, tm_cZ_e, tm_cJ_e, tm_cQ_e, tm_cO_e, tm_rq_e, List.set_cons_zero, List.set_cons_succ, List.contains_cons, List.contains_nil, Nat.reduceBEq, Bool.or_false, Bool.false_or, Bool.or_true, Bool.true_or, Bool.or_self, cond_true, cond_false, true_and, and_true, or_true, true_or, true_implies, false_implies, not_true_eq_false, not_false_eq_true, List.length_cons, List.length_nil, Option.toList_some, Option.toList_none, List.cons_append, List.nil_append, ws_N_fixing_0, ws_N_fixing_1, ws_N_fixing_2, ws_N_fixing_5, ws_N_fixing_6, ws_N_fixing_7, ws_N_fixing_8, ws_N_fixing_11, ws_N_fixing_12, ws_N_fixing_15, ws_N_fixing_16, ws_N_fixing_17, ws_N_fixing_20, tm_up_s, tm_up_n, tm_up_up, nI_leI, nI_ltI, nI_eq, nI_cl, nI_in', ix_1shl, ix_or, ix_xor, nI_1, bI_0, bI_1, bI_F, pk_us, pk_un]
    rcases gI_set hn s with ⟨hs, m, hm, rfl, e2⟩ | ⟨hs, e2⟩
    · simp only [o_fixing, e, e2]
      have hK : tm_K = 39 := rfl
      obtain ⟨l1, f, l2⟩ := hX.2.2.2.2.2.1
      refine kd_N_fixing_8 (Nat.le_of_ble_eq_true rfl) (by omega) (by omega) (c_N_needSet_s hp hs) ?_
      apply tm_run [] 80
      simp (disch := first | assumption | omega) only [↓reduceIte, tm_w_i, tm_w_0, Bool.false_eq_true, tm_gI_0, tm_gI_s, tm_gA_0, tm_gA_s, tm_fv_0, tm_fv_s, tm_p1_e, tm_pA_e, tm_pJ_e, tm_pV_i, tm_pV_r, tm_cI_e, tm_cZ_e, tm_cJ_e, tm_cQ_e, tm_cO_e, tm_rq_e, List.set_cons_zero, List.set_cons_succ, List.contains_cons, List.contains_nil, Nat.reduceBEq, Bool.or_false, Bool.false_or, Bool.or_true, Bool.true_or, Bool.or_self, cond_true, cond_false, true_and, and_true, or_true, true_or, true_implies, false_implies, not_true_eq_false, not_false_eq_true, List.length_cons, List.length_nil, Option.toList_some, Option.toList_none, List.cons_append, List.nil_append, ws_N_fixing_0, ws_N_fixing_1, ws_N_fixing_2, ws_N_fixing_5, ws_N_fixing_6, ws_N_fixing_7, ws_N_fixing_8, ws_N_fixing_11, ws_N_fixing_12, ws_N_fixing_15, ws_N_fixing_16, ws_N_fixing_17, ws_N_fixing_20, tm_up_s, tm_up_n, tm_up_up, nI_leI, nI_ltI, nI_eq, nI_cl, nI_in', ix_1shl, ix_or, ix_xor, nI_1, bI_0, bI_1, bI_F, pk_us, pk_un, hX.1.1]
      refine kc_N_fixing_17 l1 (Nat.le_of_ble_eq_true rfl) (by omega) (by omega) (c_Y_number (hX.2.1 j hj) (by omega) (by omega) (by omega) (by omega) (by omega) l1 l2 (g2p hn hm)) ?_ (fun k h1 ⟨e, _⟩ => nomatch e)
      intro v0 hh q
      obtain ⟨z1, z2, z3⟩ := hX.lay q
      cases z1
      apply tm_run [] 80
      simp (disch := first | assumption | omega) only [↓reduceIte, tm_w_i, tm_w_0, Bool.false_eq_true, tm_gI_0, tm_gI_s, tm_gA_0, tm_gA_s, tm_fv_0, tm_fv_s, tm_p1_e, tm_pA_e, tm_pJ_e, tm_pV_i, tm_pV_r, tm_cI_e, tm_cZ_e, tm_cJ_e, tm_cQ_e, tm_cO_e, tm_rq_e, List.set_cons_zero, List.set_cons_succ, List.contains_cons, List.contains_nil, Nat.reduceBEq, Bool.or_false, Bool.false_or, Bool.or_true, Bool.true_or, Bool.or_self, cond_true, cond_false, true_and, and_true, or_true, true_or, true_implies, false_implies, not_true_eq_false, not_false_eq_true, List.length_cons, List.length_nil, Option.toList_some, Option.toList_none, List.cons_append, List.nil_append, ws_N_fixing_0, ws_N_fixing_1, ws_N_fixing_2, ws_N_fixing_5, ws_N_fixing_6, ws_N_fixing_7, ws_N_fixing_8, ws_N_fixing_11, ws_N_fixing_12, ws_N_fixing_15, ws_N_fixing_16, ws_N_fixing_17, ws_N_fixing_20, tm_up_s, tm_up_n, tm_up_up, nI_leI, nI_ltI, nI_eq, nI_cl, nI_in', ix_1shl, ix_or, ix_xor, nI_1, bI_0, bI_1, bI_F, pk_us, pk_un]
      exact ⟨rfl, z2, fun k hk => z3 k (by omega)⟩
    · simp only [o_fixing, e, e2]
      exact kc_N_fixing_8 (Nat.le_of_ble_eq_true rfl) (by omega) (by omega) (c_N_needSet_n hp hs) (fun _ _ q => nomatch q.1) (fun k h1 q => tm_H_out (by decide +kernel) (by cases q.1; cases q.2; exact gPo.no hX))
set_option maxRecDepth 20000 in
theorem c_N_orbit {g v : Int32} (hX : gX S h) : tm_C M_N_orbit 16 5 [.ref 0, .int g, .int v] h (gPo h (o_orbit S g v)) := by
  refine tm_C.by (L := [some (.ref 0), some (.int g), some (.int v)]) rfl rfl rfl rfl rfl ?_
  apply tm_run [] 80
  simp (disch := first | assumption | omega) only [↓reduceIte, tm_w_i, tm_w_0, Bool.false_eq_true, tm_gI_0, tm_gI_s, tm_gA_0, tm_gA_s, tm_fv_0, tm_fv_s, tm_p1_e, tm_pA_e, tm_pJ_e, tm_pV_i, tm_pV_r, tm_cI_e, tm_cZ_e, tm_cJ_e, tm_cQ_e, tm_cO_e, tm_rq_e, List.set_cons_zero, List.set_cons_succ, List.contains_cons, List.contains_nil, Nat.reduceBEq, Bool.or_false, Bool.false_or, Bool.or_true, Bool.true_or, Bool.or_self, cond_true, cond_false, true_and, and_true, or_true, true_or, true_implies, false_implies, not_true_eq_false, not_false_eq_true, List.length_cons, List.length_nil, Option.toList_some, Option.toList_none, List.cons_append, List.nil_append, ws_N_orbit_0, ws_N_orbit_1, ws_N_orbit_4, ws_N_orbit_5, ws_N_orbit_6, ws_N_orbit_7, ws_N_orbit_10, ws_N_orbit_11, ws_N_orbit_12, ws_N_orbit_15, tm_up_s, tm_up_n, tm_up_up, nI_leI, nI_ltI, nI_eq, nI_cl, nI_in', ix_1shl, ix_or, ix_xor, nI_1, bI_0, bI_1, bI_F, pk_us, pk_un, hX.1.1]
  rcases gI_c (N := 3) (by decide) g with ⟨e, hg⟩ | ⟨j, hj, rfl, e⟩
  · simp only [o_orbit, e]
    exact kc_N_orbit_7 hX.1.1 (Nat.le_of_ble_eq_true rfl) (by omega) (by omega) (c_N_graphWith_n1 hX hg) (fun _ _ q => nomatch q.1) (fun k h1 q => tm_H_out (by decide +kernel) (by cases q.1; cases q.2; exact gPo.no hX))
  · obtain ⟨hn, hp⟩ := hX.cnt hj
    rcases gI_c (N := S.1 j) (by omega) v with ⟨e2, hv⟩ | ⟨v, hv, rfl, e2⟩
    · simp only [o_orbit, e, e2]
      exact kc_N_orbit_7 hX.1.1 (Nat.le_of_ble_eq_true rfl) (by omega) (by omega) (c_N_graphWith_n2 hX hj hv) (fun _ _ q => nomatch q.1) (fun k h1 q => tm_H_out (by decide +kernel) (by cases q.1; cases q.2; exact gPo.no hX))
    · simp only [o_orbit, e, e2]
      have hK : tm_K = 39 := rfl
      obtain ⟨l1, f, l2⟩ := hX.2.2.2.2.2.1
      refine kd_N_orbit_7 hX.1.1 (Nat.le_of_ble_eq_true rfl) (by omega) (by omega) (c_N_graphWith_s hX hj hv) ?_
      apply tm_run [] 80
      simp (disch := first | assumption | omega) only [↓reduceIte, tm_w_i, tm_w_0, Bool.false_eq_true, tm_gI_0, tm_gI_s, tm_gA_0, tm_gA_s, tm_fv_0, tm_fv_s, tm_p1_e, tm_pA_e, tm_pJ_e, tm_pV_i, tm_pV_r, tm_cI_e, tm_cZ_e, tm_cJ_e, tm_cQ_e, tm_cO_e, tm_rq_e, List.set_cons_zero, List.set_cons_succ, List.contains_cons, List.contains_nil, Nat.reduceBEq, Bool.or_false, Bool.false_or, Bool.or_true, Bool.true_or, Bool.or_self, cond_true, cond_false, true_and, and_true, or_true, true_or, true_implies, false_implies, not_true_eq_false, not_false_eq_true, List.length_cons, List.length_nil, Option.toList_some, Option.toList_none, List.cons_append, List.nil_append, ws_N_orbit_0, ws_N_orbit_1, ws_N_orbit_4, ws_N_orbit_5, ws_N_orbit_6, ws_N_orbit_7, ws_N_orbit_10, ws_N_orbit_11, ws_N_orbit_12, ws_N_orbit_15, tm_up_s, tm_up_n, tm_up_up, nI_leI, nI_ltI, nI_eq, nI_cl, nI_in', ix_1shl, ix_or, ix_xor, nI_1, bI_0, bI_1, bI_F, pk_us, pk_un, i_0]
      refine kc_N_orbit_12 l1 (Nat.le_of_ble_eq_true rfl) (by omega) (by omega) (c_Y_reach (hX.2.1 j hj) (by omega) (by omega) (by omega) (by omega) (by omega) l1 l2 hv (by omega)) ?_ (fun k h1 ⟨e, _⟩ => nomatch e)
      intro v0 hh q
      obtain ⟨z1, z2, z3⟩ := hX.lay q
      cases z1
      apply tm_run [] 80
      simp (disch := first | assumption | omega) only [↓reduceIte, tm_w_i, tm_w_0, Bool.false_eq_true, tm_gI_0, tm_gI_s, tm_gA_0, tm_gA_s, tm_fv_0, tm_fv_s, tm_p1_e, tm_pA_e, tm_pJ_e, tm_pV_i, tm_pV_r, tm_cI_e, tm_cZ_e, tm_cJ_e, tm_cQ_e, tm_cO_e, tm_rq_e, List.set_cons_zero, List.set_cons_succ, List.contains_cons, List.contains_nil, Nat.reduceBEq, Bool.or_false, Bool.false_or, Bool.or_true, Bool.true_or, Bool.or_self, cond_true, cond_false, true_and, and_true, or_true, true_or, true_implies, false_implies, not_true_eq_false, not_false_eq_true, List.length_cons, List.length_nil, Option.toList_some, Option.toList_none, List.cons_append, List.nil_append, ws_N_orbit_0, ws_N_orbit_1, ws_N_orbit_4, ws_N_orbit_5, ws_N_orbit_6, ws_N_orbit_7, ws_N_orbit_10, ws_N_orbit_11, ws_N_orbit_12, ws_N_orbit_15, tm_up_s, tm_up_n, tm_up_up, nI_leI, nI_ltI, nI_eq, nI_cl, nI_in', ix_1shl, ix_or, ix_xor, nI_1, bI_0, bI_1, bI_F, pk_us, pk_un]
      exact ⟨rfl, z2, fun k hk => z3 k (by omega)⟩
set_option maxRecDepth 20000 in
theorem c_N_moves {g v w s : Int32} (hX : gX S h) : tm_C M_N_moves 16 5 [.ref 0, .int g, .int v, .int w, .int s] h (gPo h (o_moves S g v w s)) := by
  refine tm_C.by (L := [some (.ref 0), some (.int g), some (.int v), some (.int w), some (.int s), none]) rfl rfl rfl rfl rfl ?_
  apply tm_run [] 80
  simp (disch := first | assumption | omega) only [↓reduceIte, tm_w_i, tm_w_0, Bool.false_eq_true, tm_gI_0, tm_gI_s, tm_gA_0, tm_gA_s, tm_fv_0, tm_fv_s, tm_p1_e, tm_pA_e, tm_pJ_e, tm_pV_i, tm_pV_r, tm_cI_e, tm_cZ_e, tm_cJ_e, tm_cQ_e, tm_cO_e, tm_rq_e, List.set_cons_zero, List.set_cons_succ, List.contains_cons, List.contains_nil, Nat.reduceBEq, Bool.or_false, Bool.false_or, Bool.or_true, Bool.true_or, Bool.or_self, cond_true, cond_false, true_and, and_true, or_true, true_or, true_implies, false_implies, not_true_eq_false, not_false_eq_true, List.length_cons, List.length_nil, Option.toList_some, Option.toList_none, List.cons_append, List.nil_append, ws_N_moves_0, ws_N_moves_1, ws_N_moves_2, ws_N_moves_3, ws_N_moves_6, ws_N_moves_8, ws_N_moves_10, ws_N_moves_11, ws_N_moves_14, ws_N_moves_16, ws_N_moves_18, ws_N_moves_21, ws_N_moves_22, ws_N_moves_25, ws_N_moves_27, ws_N_moves_28, ws_N_moves_29, ws_N_moves_31, ws_N_moves_34, tm_up_s, tm_up_n, tm_up_up, nI_leI, nI_ltI, nI_eq, nI_cl, nI_in', ix_1shl, ix_or, ix_xor, nI_1, bI_0, bI_1, bI_F, pk_us, pk_un]
  rcases gI_c (N := 3) (by decide) g with ⟨e, hg⟩ | ⟨j, hj, rfl, e⟩
  · simp only [o_moves, e]
    exact kc_N_moves_3 hX.1.1 (Nat.le_of_ble_eq_true rfl) (by omega) (by omega) (c_N_graphWith_n1 hX hg) (fun _ _ q => nomatch q.1) (fun k h1 q => tm_H_out (by decide +kernel) (by cases q.1; cases q.2; exact gPo.no hX))
  · obtain ⟨hn, hp⟩ := hX.cnt hj
    rcases gI_c (N := S.1 j) (by omega) v with ⟨e2, hv⟩ | ⟨v, hv, rfl, e2⟩
    · simp only [o_moves, e, e2]
      exact kc_N_moves_3 hX.1.1 (Nat.le_of_ble_eq_true rfl) (by omega) (by omega) (c_N_graphWith_n2 hX hj hv) (fun _ _ q => nomatch q.1) (fun k h1 q => tm_H_out (by decide +kernel) (by cases q.1; cases q.2; exact gPo.no hX))
    · refine kd_N_moves_3 hX.1.1 (Nat.le_of_ble_eq_true rfl) (by omega) (by omega) (c_N_graphWith_s hX hj hv) ?_
      apply tm_run [] 80
      simp (disch := first | assumption | omega) only [↓reduceIte, tm_w_i, tm_w_0, Bool.false_eq_true, tm_gI_0, tm_gI_s, tm_gA_0, tm_gA_s, tm_fv_0, tm_fv_s, tm_p1_e, tm_pA_e, tm_pJ_e, tm_pV_i, tm_pV_r, tm_cI_e, tm_cZ_e, tm_cJ_e, tm_cQ_e, tm_cO_e, tm_rq_e, List.set_cons_zero, List.set_cons_succ, List.contains_cons, List.contains_nil, Nat.reduceBEq, Bool.or_false, Bool.false_or, Bool.or_true, Bool.true_or, Bool.or_self, cond_true, cond_false, true_and, and_true, or_true, true_or, true_implies, false_implies, not_true_eq_false, not_false_eq_true, List.length_cons, List.length_nil, Option.toList_some, Option.toList_none, List.cons_append, List.nil_append, ws_N_moves_0, ws_N_moves_1, ws_N_moves_2, ws_N_moves_3, ws_N_moves_6, ws_N_moves_8, ws_N_moves_10, ws_N_moves_11, ws_N_moves_14, ws_N_moves_16, ws_N_moves_18, ws_N_moves_21, ws_N_moves_22, ws_N_moves_25, ws_N_moves_27, ws_N_moves_28, ws_N_moves_29, ws_N_moves_31, ws_N_moves_34, tm_up_s, tm_up_n, tm_up_up, nI_leI, nI_ltI, nI_eq, nI_cl, nI_in', ix_1shl, ix_or, ix_xor, nI_1, bI_0, bI_1, bI_F, pk_us, pk_un]
      rcases gI_c (N := S.1 j) (by omega) w with ⟨e3, hw⟩ | ⟨w, hw, rfl, e3⟩
      · simp only [o_moves, e, e2, e3]
        exact kc_N_moves_11 (Nat.le_of_ble_eq_true rfl) (by omega) (by omega) (c_N_needVertex_n hp hw) (fun _ _ q => nomatch q.1) (fun k h1 q => tm_H_out (by decide +kernel) (by cases q.1; cases q.2; exact gPo.no hX))
      · refine kd_N_moves_11 (Nat.le_of_ble_eq_true rfl) (by omega) (by omega) (c_N_needVertex_s hp hw hn) ?_
        apply tm_run [] 80
        simp (disch := first | assumption | omega) only [↓reduceIte, tm_w_i, tm_w_0, Bool.false_eq_true, tm_gI_0, tm_gI_s, tm_gA_0, tm_gA_s, tm_fv_0, tm_fv_s, tm_p1_e, tm_pA_e, tm_pJ_e, tm_pV_i, tm_pV_r, tm_cI_e, tm_cZ_e, tm_cJ_e, tm_cQ_e, tm_cO_e, tm_rq_e, List.set_cons_zero, List.set_cons_succ, List.contains_cons, List.contains_nil, Nat.reduceBEq, Bool.or_false, Bool.false_or, Bool.or_true, Bool.true_or, Bool.or_self, cond_true, cond_false, true_and, and_true, or_true, true_or, true_implies, false_implies, not_true_eq_false, not_false_eq_true, List.length_cons, List.length_nil, Option.toList_some, Option.toList_none, List.cons_append, List.nil_append, ws_N_moves_0, ws_N_moves_1, ws_N_moves_2, ws_N_moves_3, ws_N_moves_6, ws_N_moves_8, ws_N_moves_10, ws_N_moves_11, ws_N_moves_14, ws_N_moves_16, ws_N_moves_18, ws_N_moves_21, ws_N_moves_22, ws_N_moves_25, ws_N_moves_27, ws_N_moves_28, ws_N_moves_29, ws_N_moves_31, ws_N_moves_34, tm_up_s, tm_up_n, tm_up_up, nI_leI, nI_ltI, nI_eq, nI_cl, nI_in', ix_1shl, ix_or, ix_xor, nI_1, bI_0, bI_1, bI_F, pk_us, pk_un]
        rcases gI_set hn s with ⟨hs, m, hm, rfl, e4⟩ | ⟨hs, e4⟩
        · simp only [o_moves, e, e2, e3, e4]
          have hK : tm_K = 39 := rfl
          obtain ⟨l1, f, l2⟩ := hX.2.2.2.2.2.1
          refine kd_N_moves_18 (Nat.le_of_ble_eq_true rfl) (by omega) (by omega) (c_N_needSet_s hp hs) ?_
          apply tm_run [] 80
          simp (disch := first | assumption | omega) only [↓reduceIte, tm_w_i, tm_w_0, Bool.false_eq_true, tm_gI_0, tm_gI_s, tm_gA_0, tm_gA_s, tm_fv_0, tm_fv_s, tm_p1_e, tm_pA_e, tm_pJ_e, tm_pV_i, tm_pV_r, tm_cI_e, tm_cZ_e, tm_cJ_e, tm_cQ_e, tm_cO_e, tm_rq_e, List.set_cons_zero, List.set_cons_succ, List.contains_cons, List.contains_nil, Nat.reduceBEq, Bool.or_false, Bool.false_or, Bool.or_true, Bool.true_or, Bool.or_self, cond_true, cond_false, true_and, and_true, or_true, true_or, true_implies, false_implies, not_true_eq_false, not_false_eq_true, List.length_cons, List.length_nil, Option.toList_some, Option.toList_none, List.cons_append, List.nil_append, ws_N_moves_0, ws_N_moves_1, ws_N_moves_2, ws_N_moves_3, ws_N_moves_6, ws_N_moves_8, ws_N_moves_10, ws_N_moves_11, ws_N_moves_14, ws_N_moves_16, ws_N_moves_18, ws_N_moves_21, ws_N_moves_22, ws_N_moves_25, ws_N_moves_27, ws_N_moves_28, ws_N_moves_29, ws_N_moves_31, ws_N_moves_34, tm_up_s, tm_up_n, tm_up_up, nI_leI, nI_ltI, nI_eq, nI_cl, nI_in', ix_1shl, ix_or, ix_xor, nI_1, bI_0, bI_1, bI_F, pk_us, pk_un, hX.1.1]
          refine kc_N_moves_31 l1 (Nat.le_of_ble_eq_true rfl) (by omega) (by omega) (c_Y_carries (hX.2.1 j hj) (by omega) (by omega) (by omega) (by omega) (by omega) l1 l2 hv hw (g2p hn hm)) ?_ (fun k h1 ⟨e, _⟩ => nomatch e)
          intro v0 hh q
          obtain ⟨z1, z2, z3⟩ := hX.lay q
          cases z1
          apply tm_run [] 80
          simp (disch := first | assumption | omega) only [↓reduceIte, tm_w_i, tm_w_0, Bool.false_eq_true, tm_gI_0, tm_gI_s, tm_gA_0, tm_gA_s, tm_fv_0, tm_fv_s, tm_p1_e, tm_pA_e, tm_pJ_e, tm_pV_i, tm_pV_r, tm_cI_e, tm_cZ_e, tm_cJ_e, tm_cQ_e, tm_cO_e, tm_rq_e, List.set_cons_zero, List.set_cons_succ, List.contains_cons, List.contains_nil, Nat.reduceBEq, Bool.or_false, Bool.false_or, Bool.or_true, Bool.true_or, Bool.or_self, cond_true, cond_false, true_and, and_true, or_true, true_or, true_implies, false_implies, not_true_eq_false, not_false_eq_true, List.length_cons, List.length_nil, Option.toList_some, Option.toList_none, List.cons_append, List.nil_append, ws_N_moves_0, ws_N_moves_1, ws_N_moves_2, ws_N_moves_3, ws_N_moves_6, ws_N_moves_8, ws_N_moves_10, ws_N_moves_11, ws_N_moves_14, ws_N_moves_16, ws_N_moves_18, ws_N_moves_21, ws_N_moves_22, ws_N_moves_25, ws_N_moves_27, ws_N_moves_28, ws_N_moves_29, ws_N_moves_31, ws_N_moves_34, tm_up_s, tm_up_n, tm_up_up, nI_leI, nI_ltI, nI_eq, nI_cl, nI_in', ix_1shl, ix_or, ix_xor, nI_1, bI_0, bI_1, bI_F, pk_us, pk_un]
          exact ⟨rfl, z2, fun k hk => z3 k (by omega)⟩
        · simp only [o_moves, e, e2, e3, e4]
          exact kc_N_moves_18 (Nat.le_of_ble_eq_true rfl) (by omega) (by omega) (c_N_needSet_n hp hs) (fun _ _ q => nomatch q.1) (fun k h1 q => tm_H_out (by decide +kernel) (by cases q.1; cases q.2; exact gPo.no hX))
theorem g_mod {x v : Nat} : x % 2 ^ v = 0 ↔ ∀ w, w < v → x.testBit w = false := by
  constructor
  · intro e w hw
    have := Nat.testBit_mod_two_pow x v w
    rw [e, Nat.zero_testBit] at this
    simpa [hw] using this.symm
  · intro e
    apply Nat.eq_of_testBit_eq
    intro i
    rw [Nat.testBit_mod_two_pow, Nat.zero_testBit]
    by_cases hi : i < v
    · rw [e i hi]; simp
    · simp [hi]
theorem gCa_sym {n : Nat} {cc nb : Nat → Nat} {v w : Nat} (hv : v < n) (h : gCa n cc nb 0 v w = true) : gCa n cc nb 0 w v = true := by
  obtain ⟨f, h1, _, h3⟩ := gCa_iff.mp h
  obtain ⟨q, q1, q2, q3⟩ := gp_inv h1.1
  exact gCa_iff.mpr ⟨q, gAu_inv h1 q1 q3, (fun i _ hb => by rw [Nat.zero_testBit] at hb; cases hb), by rw [← h3]; exact q2 v hv⟩
theorem gCa_tr {n : Nat} {cc nb : Nat → Nat} {u v w : Nat} (h : gCa n cc nb 0 u v = true) (h' : gCa n cc nb 0 v w = true) : gCa n cc nb 0 u w = true := by
  obtain ⟨f, h1, _, h3⟩ := gCa_iff.mp h
  obtain ⟨f', h1', _, h3'⟩ := gCa_iff.mp h'
  exact gCa_iff.mpr ⟨fun i => f' (f i), gAu_comp h1' h1, (fun i _ hb => by rw [Nat.zero_testBit] at hb; cases hb), by dsimp only; rw [h3, h3']⟩
theorem gOrb_least {n : Nat} {cc nb : Nat → Nat} {v : Nat} (hv : v < n) : (gMk (gCa n cc nb 0 v) n % 2 ^ v == 0) = true ↔ ∀ w, w < v → gCa n cc nb 0 w v = false := by
  rw [beq_iff_eq, g_mod]
  constructor
  · intro e w hw
    have := e w hw
    rw [gMk_bit] at this
    have h1 : decide (w < n) = true := decide_eq_true (by omega)
    rw [h1, Bool.true_and] at this
    cases q : gCa n cc nb 0 w v with
    | false => rfl
    | true => rw [gCa_sym (by omega) q] at this; cases this
  · intro e w hw
    rw [gMk_bit]
    have h1 : decide (w < n) = true := decide_eq_true (by omega)
    rw [h1, Bool.true_and]
    cases q : gCa n cc nb 0 v w with
    | false => rfl
    | true => have := e w hw; rw [gCa_sym hv q] at this; cases this
set_option maxRecDepth 20000 in
theorem c_N_orbits {g : Int32} (hX : gX S h) : tm_C M_N_orbits 16 5 [.ref 0, .int g] h (gPo h (o_orbits S g)) := by
  refine tm_C.by (L := [some (.ref 0), some (.int g), none, none, none, none]) rfl rfl rfl rfl rfl ?_
  apply tm_run [14] 80
  simp (disch := first | assumption | omega) only [↓reduceIte, tm_w_i, tm_w_0, Bool.false_eq_true, tm_gI_0, tm_gI_s, tm_gA_0, tm_gA_s, tm_fv_0, tm_fv_s, tm_p1_e, tm_pA_e, tm_pJ_e, tm_pV_i, tm_pV_r, tm_cI_e, tm_cZ_e, tm_cJ_e, tm_cQ_e, tm_cO_e, tm_rq_e, List.set_cons_zero, List.set_cons_succ, List.contains_cons, List.contains_nil, Nat.reduceBEq, Bool.or_false, Bool.false_or, Bool.or_true, Bool.true_or, Bool.or_self, cond_true, cond_false, true_and, and_true, or_true, true_or, true_implies, false_implies, not_true_eq_false, not_false_eq_true, List.length_cons, List.length_nil, Option.toList_some, Option.toList_none, List.cons_append, List.nil_append, ws_N_orbits_0, ws_N_orbits_1, ws_N_orbits_2, ws_N_orbits_5, ws_N_orbits_6, ws_N_orbits_7, ws_N_orbits_8, ws_N_orbits_9, ws_N_orbits_11, ws_N_orbits_12, ws_N_orbits_14, ws_N_orbits_16, ws_N_orbits_17, ws_N_orbits_20, ws_N_orbits_23, ws_N_orbits_25, ws_N_orbits_27, ws_N_orbits_30, ws_N_orbits_33, ws_N_orbits_36, ws_N_orbits_38, ws_N_orbits_39, ws_N_orbits_42, ws_N_orbits_43, ws_N_orbits_45, ws_N_orbits_46, ws_N_orbits_49, ws_N_orbits_50, ws_N_orbits_52, ws_N_orbits_55, ws_N_orbits_58, ws_N_orbits_59, tm_up_s, tm_up_n, tm_up_up, nI_leI, nI_ltI, nI_eq, nI_cl, nI_in', ix_1shl, ix_or, ix_xor, nI_1, bI_0, bI_1, bI_F, pk_us, pk_un]
  rcases gI_c (N := 3) (by decide) g with ⟨e, hg⟩ | ⟨j, hj, rfl, e⟩
  · simp only [o_orbits, e]
    exact kc_N_orbits_2 hX.1.1 (Nat.le_of_ble_eq_true rfl) (by omega) (by omega) (c_N_graphOf_n hg) (fun _ _ q => nomatch q.1) (fun k h1 q => tm_H_out (by decide +kernel) (by cases q.1; cases q.2; exact gPo.no hX))
  · simp only [o_orbits, e]
    obtain ⟨hn, hp⟩ := hX.cnt hj
    have hK : tm_K = 39 := rfl
    refine kd_N_orbits_2 hX.1.1 (Nat.le_of_ble_eq_true rfl) (by omega) (by omega) (c_N_graphOf_s hX.1 hj) ?_
    apply tm_run [14] 80
    simp (disch := first | assumption | omega) only [↓reduceIte, tm_w_i, tm_w_0, Bool.false_eq_true, tm_gI_0, tm_gI_s, tm_gA_0, tm_gA_s, tm_fv_0, tm_fv_s, tm_p1_e, tm_pA_e, tm_pJ_e, tm_pV_i, tm_pV_r, tm_cI_e, tm_cZ_e, tm_cJ_e, tm_cQ_e, tm_cO_e, tm_rq_e, List.set_cons_zero, List.set_cons_succ, List.contains_cons, List.contains_nil, Nat.reduceBEq, Bool.or_false, Bool.false_or, Bool.or_true, Bool.true_or, Bool.or_self, cond_true, cond_false, true_and, and_true, or_true, true_or, true_implies, false_implies, not_true_eq_false, not_false_eq_true, List.length_cons, List.length_nil, Option.toList_some, Option.toList_none, List.cons_append, List.nil_append, ws_N_orbits_0, ws_N_orbits_1, ws_N_orbits_2, ws_N_orbits_5, ws_N_orbits_6, ws_N_orbits_7, ws_N_orbits_8, ws_N_orbits_9, ws_N_orbits_11, ws_N_orbits_12, ws_N_orbits_14, ws_N_orbits_16, ws_N_orbits_17, ws_N_orbits_20, ws_N_orbits_23, ws_N_orbits_25, ws_N_orbits_27, ws_N_orbits_30, ws_N_orbits_33, ws_N_orbits_36, ws_N_orbits_38, ws_N_orbits_39, ws_N_orbits_42, ws_N_orbits_43, ws_N_orbits_45, ws_N_orbits_46, ws_N_orbits_49, ws_N_orbits_50, ws_N_orbits_52, ws_N_orbits_55, ws_N_orbits_58, ws_N_orbits_59, tm_up_s, tm_up_n, tm_up_up, nI_leI, nI_ltI, nI_eq, nI_cl, nI_in', ix_1shl, ix_or, ix_xor, nI_1, bI_0, bI_1, bI_F, pk_us, pk_un, i_0]
    generalize hnn : S.1 j = n at *
    generalize hcc : S.2.1 j = cc at *
    generalize hnb : S.2.2 j = nb at *
    have key : ∀ (l v s : Nat) (hh : tm_Hp), v + l = n → gX S hh → (∀ k, 27 ≤ k → hh k = h k) → s < 128 → (∀ x, x < n → (s.testBit x = true ↔ ∃ w, w < v ∧ gCa n cc nb 0 w x = true)) →
        tm_T M_N_orbits 16 5 (gPo h (.inl (nI (gLs2 (fun v => gMk (gCa n cc nb 0 v) n) n)), S)) 1 14 [some (.ref 0), some (.int (nI j)), some (.ref (j + 2)), some (.int (nI (gLs2 (fun v => gMk (gCa n cc nb 0 v) n) v))), some (.int (nI s)), some (.int (nI v))] [] hh := by
      intro l
      induction l with
      | zero =>
        intro v s hh hv hX' fr hs hb
        obtain rfl : v = n := by omega
        have hp' := (hX'.cnt hj).2
        rw [hnn] at hp'
        apply tm_run [14] 80
        simp (disch := first | assumption | omega) only [↓reduceIte, tm_w_i, tm_w_0, Bool.false_eq_true, tm_gI_0, tm_gI_s, tm_gA_0, tm_gA_s, tm_fv_0, tm_fv_s, tm_p1_e, tm_pA_e, tm_pJ_e, tm_pV_i, tm_pV_r, tm_cI_e, tm_cZ_e, tm_cJ_e, tm_cQ_e, tm_cO_e, tm_rq_e, List.set_cons_zero, List.set_cons_succ, List.contains_cons, List.contains_nil, Nat.reduceBEq, Bool.or_false, Bool.false_or, Bool.or_true, Bool.true_or, Bool.or_self, cond_true, cond_false, true_and, and_true, or_true, true_or, true_implies, false_implies, not_true_eq_false, not_false_eq_true, List.length_cons, List.length_nil, Option.toList_some, Option.toList_none, List.cons_append, List.nil_append, ws_N_orbits_0, ws_N_orbits_1, ws_N_orbits_2, ws_N_orbits_5, ws_N_orbits_6, ws_N_orbits_7, ws_N_orbits_8, ws_N_orbits_9, ws_N_orbits_11, ws_N_orbits_12, ws_N_orbits_14, ws_N_orbits_16, ws_N_orbits_17, ws_N_orbits_20, ws_N_orbits_23, ws_N_orbits_25, ws_N_orbits_27, ws_N_orbits_30, ws_N_orbits_33, ws_N_orbits_36, ws_N_orbits_38, ws_N_orbits_39, ws_N_orbits_42, ws_N_orbits_43, ws_N_orbits_45, ws_N_orbits_46, ws_N_orbits_49, ws_N_orbits_50, ws_N_orbits_52, ws_N_orbits_55, ws_N_orbits_58, ws_N_orbits_59, tm_up_s, tm_up_n, tm_up_up, nI_leI, nI_ltI, nI_eq, nI_cl, nI_in', ix_1shl, ix_or, ix_xor, nI_1, bI_0, bI_1, bI_F, pk_us, pk_un, hp', Nat.le_refl]
        exact ⟨rfl, hX', fr⟩
      | succ l ih =>
        intro v s hh hv hX' fr hs hb
        have hlt : ¬ n ≤ v := by omega
        have hp' := (hX'.cnt hj).2
        rw [hnn] at hp'
        have gl : gLs2 (fun v => gMk (gCa n cc nb 0 v) n) (v + 1) = gLs2 (fun v => gMk (gCa n cc nb 0 v) n) v + (if gMk (gCa n cc nb 0 v) n % 2 ^ v == 0 then 1 else 0) := rfl
        apply tm_run [14] 80
        simp (disch := first | assumption | omega) only [↓reduceIte, tm_w_i, tm_w_0, Bool.false_eq_true, tm_gI_0, tm_gI_s, tm_gA_0, tm_gA_s, tm_fv_0, tm_fv_s, tm_p1_e, tm_pA_e, tm_pJ_e, tm_pV_i, tm_pV_r, tm_cI_e, tm_cZ_e, tm_cJ_e, tm_cQ_e, tm_cO_e, tm_rq_e, List.set_cons_zero, List.set_cons_succ, List.contains_cons, List.contains_nil, Nat.reduceBEq, Bool.or_false, Bool.false_or, Bool.or_true, Bool.true_or, Bool.or_self, cond_true, cond_false, true_and, and_true, or_true, true_or, true_implies, false_implies, not_true_eq_false, not_false_eq_true, List.length_cons, List.length_nil, Option.toList_some, Option.toList_none, List.cons_append, List.nil_append, ws_N_orbits_0, ws_N_orbits_1, ws_N_orbits_2, ws_N_orbits_5, ws_N_orbits_6, ws_N_orbits_7, ws_N_orbits_8, ws_N_orbits_9, ws_N_orbits_11, ws_N_orbits_12, ws_N_orbits_14, ws_N_orbits_16, ws_N_orbits_17, ws_N_orbits_20, ws_N_orbits_23, ws_N_orbits_25, ws_N_orbits_27, ws_N_orbits_30, ws_N_orbits_33, ws_N_orbits_36, ws_N_orbits_38, ws_N_orbits_39, ws_N_orbits_42, ws_N_orbits_43, ws_N_orbits_45, ws_N_orbits_46, ws_N_orbits_49, ws_N_orbits_50, ws_N_orbits_52, ws_N_orbits_55, ws_N_orbits_58, ws_N_orbits_59, tm_up_s, tm_up_n, tm_up_up, nI_leI, nI_ltI, nI_eq, nI_cl, nI_in', ix_1shl, ix_or, ix_xor, nI_1, bI_0, bI_1, bI_F, pk_us, pk_un, hp', hlt]
        refine kd_N_orbits_27 (Nat.le_of_ble_eq_true rfl) (by omega) (by omega) (c_N_contains (by omega) (by omega)) ?_
        cases b1 : s.testBit v with
        | true =>
          obtain ⟨w, w1, w2⟩ := (hb v (by omega)).mp b1
          have e9 : ¬ (gMk (gCa n cc nb 0 v) n % 2 ^ v == 0) = true := fun q => by
            have := (gOrb_least (by omega)).mp q w w1
            rw [w2] at this; cases this
          rw [if_neg e9, Nat.add_zero] at gl
          have := ih (v + 1) s hh (by omega) hX' fr hs (fun x hx => ?_)
          · rw [gl] at this
            have e8 : ¬ bI true = 0 := by decide
            apply tm_run [14] 80
            simp (disch := first | assumption | omega) only [↓reduceIte, tm_w_i, tm_w_0, Bool.false_eq_true, tm_gI_0, tm_gI_s, tm_gA_0, tm_gA_s, tm_fv_0, tm_fv_s, tm_p1_e, tm_pA_e, tm_pJ_e, tm_pV_i, tm_pV_r, tm_cI_e, tm_cZ_e, tm_cJ_e, tm_cQ_e, tm_cO_e, tm_rq_e, List.set_cons_zero, List.set_cons_succ, List.contains_cons, List.contains_nil, Nat.reduceBEq, Bool.or_false, Bool.false_or, Bool.or_true, Bool.true_or, Bool.or_self, cond_true, cond_false, true_and, and_true, or_true, true_or, true_implies, false_implies, not_true_eq_false, not_false_eq_true, List.length_cons, List.length_nil, Option.toList_some, Option.toList_none, List.cons_append, List.nil_append, ws_N_orbits_0, ws_N_orbits_1, ws_N_orbits_2, ws_N_orbits_5, ws_N_orbits_6, ws_N_orbits_7, ws_N_orbits_8, ws_N_orbits_9, ws_N_orbits_11, ws_N_orbits_12, ws_N_orbits_14, ws_N_orbits_16, ws_N_orbits_17, ws_N_orbits_20, ws_N_orbits_23, ws_N_orbits_25, ws_N_orbits_27, ws_N_orbits_30, ws_N_orbits_33, ws_N_orbits_36, ws_N_orbits_38, ws_N_orbits_39, ws_N_orbits_42, ws_N_orbits_43, ws_N_orbits_45, ws_N_orbits_46, ws_N_orbits_49, ws_N_orbits_50, ws_N_orbits_52, ws_N_orbits_55, ws_N_orbits_58, ws_N_orbits_59, tm_up_s, tm_up_n, tm_up_up, nI_leI, nI_ltI, nI_eq, nI_cl, nI_in', ix_1shl, ix_or, ix_xor, nI_1, bI_0, bI_1, bI_F, pk_us, pk_un, e8]
            exact this
          · rw [hb x hx]
            constructor
            · rintro ⟨u, u1, u2⟩; exact ⟨u, by omega, u2⟩
            · rintro ⟨u, u1, u2⟩
              by_cases q : u = v
              · rw [q] at u2; exact ⟨w, w1, gCa_tr w2 u2⟩
              · exact ⟨u, by omega, u2⟩
        | false =>
          have e9 : (gMk (gCa n cc nb 0 v) n % 2 ^ v == 0) = true := (gOrb_least (by omega)).mpr (fun w hw => by
            cases q : gCa n cc nb 0 w v with
            | false => rfl
            | true => rw [(hb v (by omega)).mpr ⟨w, hw, q⟩] at b1; cases b1)
          rw [if_pos e9] at gl
          obtain ⟨l1, f, l2⟩ := hX'.2.2.2.2.2.1
          apply tm_run [14] 80
          simp (disch := first | assumption | omega) only [↓reduceIte, tm_w_i, tm_w_0, Bool.false_eq_true, tm_gI_0, tm_gI_s, tm_gA_0, tm_gA_s, tm_fv_0, tm_fv_s, tm_p1_e, tm_pA_e, tm_pJ_e, tm_pV_i, tm_pV_r, tm_cI_e, tm_cZ_e, tm_cJ_e, tm_cQ_e, tm_cO_e, tm_rq_e, List.set_cons_zero, List.set_cons_succ, List.contains_cons, List.contains_nil, Nat.reduceBEq, Bool.or_false, Bool.false_or, Bool.or_true, Bool.true_or, Bool.or_self, cond_true, cond_false, true_and, and_true, or_true, true_or, true_implies, false_implies, not_true_eq_false, not_false_eq_true, List.length_cons, List.length_nil, Option.toList_some, Option.toList_none, List.cons_append, List.nil_append, ws_N_orbits_0, ws_N_orbits_1, ws_N_orbits_2, ws_N_orbits_5, ws_N_orbits_6, ws_N_orbits_7, ws_N_orbits_8, ws_N_orbits_9, ws_N_orbits_11, ws_N_orbits_12, ws_N_orbits_14, ws_N_orbits_16, ws_N_orbits_17, ws_N_orbits_20, ws_N_orbits_23, ws_N_orbits_25, ws_N_orbits_27, ws_N_orbits_30, ws_N_orbits_33, ws_N_orbits_36, ws_N_orbits_38, ws_N_orbits_39, ws_N_orbits_42, ws_N_orbits_43, ws_N_orbits_45, ws_N_orbits_46, ws_N_orbits_49, ws_N_orbits_50, ws_N_orbits_52, ws_N_orbits_55, ws_N_orbits_58, ws_N_orbits_59, tm_up_s, tm_up_n, tm_up_up, nI_leI, nI_ltI, nI_eq, nI_cl, nI_in', ix_1shl, ix_or, ix_xor, nI_1, bI_0, bI_1, bI_F, pk_us, pk_un, bI_f, hX'.1.1, i_0]
          have hgr := hX'.2.1 j hj
          rw [hnn, hcc, hnb] at hgr
          refine kc_N_orbits_46 l1 (Nat.le_of_ble_eq_true rfl) (by omega) (by omega) (c_Y_reach hgr (by omega) (by omega) (by omega) (by omega) (by omega) l1 l2 (by omega) (by omega)) ?_ (fun k h1 ⟨e, _⟩ => nomatch e)
          intro v0 hh2 q
          obtain ⟨z1, z2, z3⟩ := hX'.lay q
          cases z1
          have := ih (v + 1) (s ||| gMk (gCa n cc nb 0 v) n) hh2 (by omega) z2 (fun k hk => (z3 k (by omega)).trans (fr k hk)) (Nat.or_lt_two_pow (n := 7) hs (gMk_lt' hn)) (fun x hx => ?_)
          · rw [gl] at this
            apply tm_run [14] 80
            simp (disch := first | assumption | omega) only [↓reduceIte, tm_w_i, tm_w_0, Bool.false_eq_true, tm_gI_0, tm_gI_s, tm_gA_0, tm_gA_s, tm_fv_0, tm_fv_s, tm_p1_e, tm_pA_e, tm_pJ_e, tm_pV_i, tm_pV_r, tm_cI_e, tm_cZ_e, tm_cJ_e, tm_cQ_e, tm_cO_e, tm_rq_e, List.set_cons_zero, List.set_cons_succ, List.contains_cons, List.contains_nil, Nat.reduceBEq, Bool.or_false, Bool.false_or, Bool.or_true, Bool.true_or, Bool.or_self, cond_true, cond_false, true_and, and_true, or_true, true_or, true_implies, false_implies, not_true_eq_false, not_false_eq_true, List.length_cons, List.length_nil, Option.toList_some, Option.toList_none, List.cons_append, List.nil_append, ws_N_orbits_0, ws_N_orbits_1, ws_N_orbits_2, ws_N_orbits_5, ws_N_orbits_6, ws_N_orbits_7, ws_N_orbits_8, ws_N_orbits_9, ws_N_orbits_11, ws_N_orbits_12, ws_N_orbits_14, ws_N_orbits_16, ws_N_orbits_17, ws_N_orbits_20, ws_N_orbits_23, ws_N_orbits_25, ws_N_orbits_27, ws_N_orbits_30, ws_N_orbits_33, ws_N_orbits_36, ws_N_orbits_38, ws_N_orbits_39, ws_N_orbits_42, ws_N_orbits_43, ws_N_orbits_45, ws_N_orbits_46, ws_N_orbits_49, ws_N_orbits_50, ws_N_orbits_52, ws_N_orbits_55, ws_N_orbits_58, ws_N_orbits_59, tm_up_s, tm_up_n, tm_up_up, nI_leI, nI_ltI, nI_eq, nI_cl, nI_in', ix_1shl, ix_or, ix_xor, nI_1, bI_0, bI_1, bI_F, pk_us, pk_un]
            exact this
          · rw [Nat.testBit_or, Bool.or_eq_true, hb x hx, gMk_bit]
            simp only [hx, decide_true, Bool.true_and]
            constructor
            · rintro (⟨u, u1, u2⟩ | u2)
              · exact ⟨u, by omega, u2⟩
              · exact ⟨v, by omega, u2⟩
            · rintro ⟨u, u1, u2⟩
              by_cases q : u = v
              · rw [q] at u2; exact Or.inr u2
              · exact Or.inl ⟨u, by omega, u2⟩
    exact key n 0 0 h (by omega) hX (fun _ _ => rfl) (by decide) (fun x hx => by rw [Nat.zero_testBit]; simp)
theorem c_P_findX {j : Nat} (hX : gX S h) (hj : j < 3) : tm_C M_P_find 4 0 [.ref 24, .ref (j + 2)] h (fun z hh => z = .inl none ∧ (∀ k, k < 24 ∨ 27 ≤ k → hh k = h k) ∧ gX S hh ∧ gPw (S.1 j) 24 25 26 (gCe (S.1 j) (S.2.1 j) (S.2.2 j)) hh) := by
  have hK : tm_K = 39 := rfl
  refine tm_C.mono ?_ (c_P_find (hX.2.1 j hj) hX.2.2.2.2.2.2 (by omega) (by omega) (by omega) (by omega) (by omega) (by omega) (by omega) (by omega) (by omega) (by omega) (by omega) (by omega) (by omega) (by omega))
  rintro z hh ⟨z1, z2, z3⟩
  have fr : ∀ k, k < 24 ∨ 27 ≤ k → hh k = h k := fun k hk => z2 k (by omega) (by omega) (by omega)
  refine ⟨z1, fr, ⟨hX.1.fr (fun k hk => fr k (by omega)), hX.2.1.fr (fun k _ _ _ => fr k (by omega)), hX.2.2.1.fr (fun k _ => fr k (by omega)), hX.2.2.2.1.fr (fun k _ _ => fr k (by omega)), hX.2.2.2.2.1.fr (fun k _ _ => fr k (by omega)), hX.2.2.2.2.2.1.fr (fun k _ => fr k (by omega)), ?_⟩, z3⟩
  obtain ⟨y1, y2, e1, e2, w1, w2, w3, w4, w5⟩ := z3
  exact ⟨y1, y2, e1, e2, w1, w2, w3, w4, fun i hi => absurd hi (Nat.not_lt_zero i)⟩
theorem gX.par (hX : gX S h) : ∃ fs, h 24 = tm_o 4 fs := by
  obtain ⟨y1, y2, e1, e2, w1, w2, w3, w4, w5⟩ := hX.2.2.2.2.2.2
  exact ⟨_, w2⟩
set_option maxRecDepth 20000 in
theorem c_N_cell {g v : Int32} (hX : gX S h) : tm_C M_N_cell 16 5 [.ref 0, .int g, .int v] h (gPo h (o_cell S g v)) := by
  refine tm_C.by (L := [some (.ref 0), some (.int g), some (.int v)]) rfl rfl rfl rfl rfl ?_
  apply tm_run [] 80
  simp (disch := first | assumption | omega) only [↓reduceIte, tm_w_i, tm_w_0, Bool.false_eq_true, tm_gI_0, tm_gI_s, tm_gA_0, tm_gA_s, tm_fv_0, tm_fv_s, tm_p1_e, tm_pA_e, tm_pJ_e, tm_pV_i, tm_pV_r, tm_cI_e, tm_cZ_e, tm_cJ_e, tm_cQ_e, tm_cO_e, tm_rq_e, List.set_cons_zero, List.set_cons_succ, List.contains_cons, List.contains_nil, Nat.reduceBEq, Bool.or_false, Bool.false_or, Bool.or_true, Bool.true_or, Bool.or_self, cond_true, cond_false, true_and, and_true, or_true, true_or, true_implies, false_implies, not_true_eq_false, not_false_eq_true, List.length_cons, List.length_nil, Option.toList_some, Option.toList_none, List.cons_append, List.nil_append, ws_N_cell_0, ws_N_cell_1, ws_N_cell_4, ws_N_cell_5, ws_N_cell_6, ws_N_cell_7, ws_N_cell_10, ws_N_cell_13, ws_N_cell_14, ws_N_cell_17, ws_N_cell_20, ws_N_cell_21, ws_N_cell_22, tm_up_s, tm_up_n, tm_up_up, nI_leI, nI_ltI, nI_eq, nI_cl, nI_in', ix_1shl, ix_or, ix_xor, nI_1, bI_0, bI_1, bI_F, pk_us, pk_un, hX.1.1]
  rcases gI_c (N := 3) (by decide) g with ⟨e, hg⟩ | ⟨j, hj, rfl, e⟩
  · simp only [o_cell, e]
    exact kc_N_cell_7 hX.1.1 (Nat.le_of_ble_eq_true rfl) (by omega) (by omega) (c_N_graphWith_n1 hX hg) (fun _ _ q => nomatch q.1) (fun k h1 q => tm_H_out (by decide +kernel) (by cases q.1; cases q.2; exact gPo.no hX))
  · obtain ⟨hn, hp⟩ := hX.cnt hj
    rcases gI_c (N := S.1 j) (by omega) v with ⟨e2, hv⟩ | ⟨v, hv, rfl, e2⟩
    · simp only [o_cell, e, e2]
      exact kc_N_cell_7 hX.1.1 (Nat.le_of_ble_eq_true rfl) (by omega) (by omega) (c_N_graphWith_n2 hX hj hv) (fun _ _ q => nomatch q.1) (fun k h1 q => tm_H_out (by decide +kernel) (by cases q.1; cases q.2; exact gPo.no hX))
    · simp only [o_cell, e, e2]
      refine kd_N_cell_7 hX.1.1 (Nat.le_of_ble_eq_true rfl) (by omega) (by omega) (c_N_graphWith_s hX hj hv) ?_
      apply tm_run [] 80
      simp (disch := first | assumption | omega) only [↓reduceIte, tm_w_i, tm_w_0, Bool.false_eq_true, tm_gI_0, tm_gI_s, tm_gA_0, tm_gA_s, tm_fv_0, tm_fv_s, tm_p1_e, tm_pA_e, tm_pJ_e, tm_pV_i, tm_pV_r, tm_cI_e, tm_cZ_e, tm_cJ_e, tm_cQ_e, tm_cO_e, tm_rq_e, List.set_cons_zero, List.set_cons_succ, List.contains_cons, List.contains_nil, Nat.reduceBEq, Bool.or_false, Bool.false_or, Bool.or_true, Bool.true_or, Bool.or_self, cond_true, cond_false, true_and, and_true, or_true, true_or, true_implies, false_implies, not_true_eq_false, not_false_eq_true, List.length_cons, List.length_nil, Option.toList_some, Option.toList_none, List.cons_append, List.nil_append, ws_N_cell_0, ws_N_cell_1, ws_N_cell_4, ws_N_cell_5, ws_N_cell_6, ws_N_cell_7, ws_N_cell_10, ws_N_cell_13, ws_N_cell_14, ws_N_cell_17, ws_N_cell_20, ws_N_cell_21, ws_N_cell_22, tm_up_s, tm_up_n, tm_up_up, nI_leI, nI_ltI, nI_eq, nI_cl, nI_in', ix_1shl, ix_or, ix_xor, nI_1, bI_0, bI_1, bI_F, pk_us, pk_un]
      obtain ⟨fs, hfs⟩ := hX.par
      refine kc_N_cell_10 hfs (Nat.le_of_ble_eq_true rfl) (by omega) (by omega) (c_P_findX hX hj) ?_ (fun k h1 ⟨e, _⟩ => nomatch e)
      rintro v0 hh ⟨z1, z2, z3, z4⟩
      cases z1
      obtain ⟨y1, y2, e1, e2, w1, w2, w3, w4, w5⟩ := z4
      apply tm_run [] 80
      simp (disch := first | assumption | omega) only [↓reduceIte, tm_w_i, tm_w_0, Bool.false_eq_true, tm_gI_0, tm_gI_s, tm_gA_0, tm_gA_s, tm_fv_0, tm_fv_s, tm_p1_e, tm_pA_e, tm_pJ_e, tm_pV_i, tm_pV_r, tm_cI_e, tm_cZ_e, tm_cJ_e, tm_cQ_e, tm_cO_e, tm_rq_e, List.set_cons_zero, List.set_cons_succ, List.contains_cons, List.contains_nil, Nat.reduceBEq, Bool.or_false, Bool.false_or, Bool.or_true, Bool.true_or, Bool.or_self, cond_true, cond_false, true_and, and_true, or_true, true_or, true_implies, false_implies, not_true_eq_false, not_false_eq_true, List.length_cons, List.length_nil, Option.toList_some, Option.toList_none, List.cons_append, List.nil_append, ws_N_cell_0, ws_N_cell_1, ws_N_cell_4, ws_N_cell_5, ws_N_cell_6, ws_N_cell_7, ws_N_cell_10, ws_N_cell_13, ws_N_cell_14, ws_N_cell_17, ws_N_cell_20, ws_N_cell_21, ws_N_cell_22, tm_up_s, tm_up_n, tm_up_up, nI_leI, nI_ltI, nI_eq, nI_cl, nI_in', ix_1shl, ix_or, ix_xor, nI_1, bI_0, bI_1, bI_F, pk_us, pk_un, z3.1.1, w2, w3, (w5 v hv).1]
      exact ⟨rfl, z3, fun k hk => z2 k (by omega)⟩
set_option maxRecDepth 20000 in
theorem c_N_cells {g : Int32} (hX : gX S h) : tm_C M_N_cells 16 5 [.ref 0, .int g] h (gPo h (o_cells S g)) := by
  refine tm_C.by (L := [some (.ref 0), some (.int g), none, none, none]) rfl rfl rfl rfl rfl ?_
  apply tm_run [19] 80
  simp (disch := first | assumption | omega) only [↓reduceIte, tm_w_i, tm_w_0, Bool.false_eq_true, tm_gI_0, tm_gI_s, tm_gA_0, tm_gA_s, tm_fv_0, tm_fv_s, tm_p1_e, tm_pA_e, tm_pJ_e, tm_pV_i, tm_pV_r, tm_cI_e, tm_cZ_e, tm_cJ_e, tm_cQ_e, tm_cO_e, tm_rq_e, List.set_cons_zero, List.set_cons_succ, List.contains_cons, List.contains_nil, Nat.reduceBEq, Bool.or_false, Bool.false_or, Bool.or_true, Bool.true_or, Bool.or_self, cond_true, cond_false, true_and, and_true, or_true, true_or, true_implies, false_implies, not_true_eq_false, not_false_eq_true, List.length_cons, List.length_nil, Option.toList_some, Option.toList_none, List.cons_append, List.nil_append, ws_N_cells_0, ws_N_cells_1, ws_N_cells_2, ws_N_cells_5, ws_N_cells_6, ws_N_cells_7, ws_N_cells_10, ws_N_cells_11, ws_N_cells_14, ws_N_cells_15, ws_N_cells_16, ws_N_cells_17, ws_N_cells_19, ws_N_cells_21, ws_N_cells_22, ws_N_cells_25, ws_N_cells_28, ws_N_cells_30, ws_N_cells_31, ws_N_cells_34, ws_N_cells_37, ws_N_cells_39, ws_N_cells_40, ws_N_cells_43, ws_N_cells_46, ws_N_cells_49, ws_N_cells_52, ws_N_cells_55, ws_N_cells_56, tm_up_s, tm_up_n, tm_up_up, nI_leI, nI_ltI, nI_eq, nI_cl, nI_in', ix_1shl, ix_or, ix_xor, nI_1, bI_0, bI_1, bI_F, pk_us, pk_un, hX.1.1]
  rcases gI_c (N := 3) (by decide) g with ⟨e, hg⟩ | ⟨j, hj, rfl, e⟩
  · simp only [o_cells, e]
    exact kc_N_cells_2 hX.1.1 (Nat.le_of_ble_eq_true rfl) (by omega) (by omega) (c_N_graphOf_n hg) (fun _ _ q => nomatch q.1) (fun k h1 q => tm_H_out (by decide +kernel) (by cases q.1; cases q.2; exact gPo.no hX))
  · simp only [o_cells, e]
    obtain ⟨hn, hp⟩ := hX.cnt hj
    refine kd_N_cells_2 hX.1.1 (Nat.le_of_ble_eq_true rfl) (by omega) (by omega) (c_N_graphOf_s hX.1 hj) ?_
    apply tm_run [19] 80
    simp (disch := first | assumption | omega) only [↓reduceIte, tm_w_i, tm_w_0, Bool.false_eq_true, tm_gI_0, tm_gI_s, tm_gA_0, tm_gA_s, tm_fv_0, tm_fv_s, tm_p1_e, tm_pA_e, tm_pJ_e, tm_pV_i, tm_pV_r, tm_cI_e, tm_cZ_e, tm_cJ_e, tm_cQ_e, tm_cO_e, tm_rq_e, List.set_cons_zero, List.set_cons_succ, List.contains_cons, List.contains_nil, Nat.reduceBEq, Bool.or_false, Bool.false_or, Bool.or_true, Bool.true_or, Bool.or_self, cond_true, cond_false, true_and, and_true, or_true, true_or, true_implies, false_implies, not_true_eq_false, not_false_eq_true, List.length_cons, List.length_nil, Option.toList_some, Option.toList_none, List.cons_append, List.nil_append, ws_N_cells_0, ws_N_cells_1, ws_N_cells_2, ws_N_cells_5, ws_N_cells_6, ws_N_cells_7, ws_N_cells_10, ws_N_cells_11, ws_N_cells_14, ws_N_cells_15, ws_N_cells_16, ws_N_cells_17, ws_N_cells_19, ws_N_cells_21, ws_N_cells_22, ws_N_cells_25, ws_N_cells_28, ws_N_cells_30, ws_N_cells_31, ws_N_cells_34, ws_N_cells_37, ws_N_cells_39, ws_N_cells_40, ws_N_cells_43, ws_N_cells_46, ws_N_cells_49, ws_N_cells_52, ws_N_cells_55, ws_N_cells_56, tm_up_s, tm_up_n, tm_up_up, nI_leI, nI_ltI, nI_eq, nI_cl, nI_in', ix_1shl, ix_or, ix_xor, nI_1, bI_0, bI_1, bI_F, pk_us, pk_un, hX.1.1]
    obtain ⟨fs, hfs⟩ := hX.par
    refine kc_N_cells_11 hfs (Nat.le_of_ble_eq_true rfl) (by omega) (by omega) (c_P_findX hX hj) ?_ (fun k h1 ⟨e, _⟩ => nomatch e)
    rintro v0 hh ⟨z1, z2, z3, z4⟩
    cases z1
    have z4' := z4
    obtain ⟨y1, y2, e1, e2, w1, w2, w3, w4, w5⟩ := z4
    have hp' := (z3.cnt hj).2
    apply tm_run [19] 80
    simp (disch := first | assumption | omega) only [↓reduceIte, tm_w_i, tm_w_0, Bool.false_eq_true, tm_gI_0, tm_gI_s, tm_gA_0, tm_gA_s, tm_fv_0, tm_fv_s, tm_p1_e, tm_pA_e, tm_pJ_e, tm_pV_i, tm_pV_r, tm_cI_e, tm_cZ_e, tm_cJ_e, tm_cQ_e, tm_cO_e, tm_rq_e, List.set_cons_zero, List.set_cons_succ, List.contains_cons, List.contains_nil, Nat.reduceBEq, Bool.or_false, Bool.false_or, Bool.or_true, Bool.true_or, Bool.or_self, cond_true, cond_false, true_and, and_true, or_true, true_or, true_implies, false_implies, not_true_eq_false, not_false_eq_true, List.length_cons, List.length_nil, Option.toList_some, Option.toList_none, List.cons_append, List.nil_append, ws_N_cells_0, ws_N_cells_1, ws_N_cells_2, ws_N_cells_5, ws_N_cells_6, ws_N_cells_7, ws_N_cells_10, ws_N_cells_11, ws_N_cells_14, ws_N_cells_15, ws_N_cells_16, ws_N_cells_17, ws_N_cells_19, ws_N_cells_21, ws_N_cells_22, ws_N_cells_25, ws_N_cells_28, ws_N_cells_30, ws_N_cells_31, ws_N_cells_34, ws_N_cells_37, ws_N_cells_39, ws_N_cells_40, ws_N_cells_43, ws_N_cells_46, ws_N_cells_49, ws_N_cells_52, ws_N_cells_55, ws_N_cells_56, tm_up_s, tm_up_n, tm_up_up, nI_leI, nI_ltI, nI_eq, nI_cl, nI_in', ix_1shl, ix_or, ix_xor, nI_1, bI_0, bI_1, bI_F, pk_us, pk_un]
    have key : ∀ l v, v + l = S.1 j → tm_T M_N_cells 16 5 (gPo h (.inl (nI (gLs2 (gCe (S.1 j) (S.2.1 j) (S.2.2 j)) (S.1 j))), S)) 1 19 [some (.ref 0), some (.int (nI j)), some (.ref (j + 2)), some (.int (nI (gLs2 (gCe (S.1 j) (S.2.1 j) (S.2.2 j)) v))), some (.int (nI v))] [] hh := by
      intro l
      induction l with
      | zero =>
        intro v hv
        obtain rfl : v = S.1 j := by omega
        apply tm_run [19] 80
        simp (disch := first | assumption | omega) only [↓reduceIte, tm_w_i, tm_w_0, Bool.false_eq_true, tm_gI_0, tm_gI_s, tm_gA_0, tm_gA_s, tm_fv_0, tm_fv_s, tm_p1_e, tm_pA_e, tm_pJ_e, tm_pV_i, tm_pV_r, tm_cI_e, tm_cZ_e, tm_cJ_e, tm_cQ_e, tm_cO_e, tm_rq_e, List.set_cons_zero, List.set_cons_succ, List.contains_cons, List.contains_nil, Nat.reduceBEq, Bool.or_false, Bool.false_or, Bool.or_true, Bool.true_or, Bool.or_self, cond_true, cond_false, true_and, and_true, or_true, true_or, true_implies, false_implies, not_true_eq_false, not_false_eq_true, List.length_cons, List.length_nil, Option.toList_some, Option.toList_none, List.cons_append, List.nil_append, ws_N_cells_0, ws_N_cells_1, ws_N_cells_2, ws_N_cells_5, ws_N_cells_6, ws_N_cells_7, ws_N_cells_10, ws_N_cells_11, ws_N_cells_14, ws_N_cells_15, ws_N_cells_16, ws_N_cells_17, ws_N_cells_19, ws_N_cells_21, ws_N_cells_22, ws_N_cells_25, ws_N_cells_28, ws_N_cells_30, ws_N_cells_31, ws_N_cells_34, ws_N_cells_37, ws_N_cells_39, ws_N_cells_40, ws_N_cells_43, ws_N_cells_46, ws_N_cells_49, ws_N_cells_52, ws_N_cells_55, ws_N_cells_56, tm_up_s, tm_up_n, tm_up_up, nI_leI, nI_ltI, nI_eq, nI_cl, nI_in', ix_1shl, ix_or, ix_xor, nI_1, bI_0, bI_1, bI_F, pk_us, pk_un, hp', Nat.le_refl]
        exact ⟨rfl, z3, fun k hk => z2 k (by omega)⟩
      | succ l ih =>
        intro v hv
        have hlt : ¬ S.1 j ≤ v := by omega
        obtain ⟨a1, a2⟩ := w5 v (by omega)
        have gl : gLs2 (gCe (S.1 j) (S.2.1 j) (S.2.2 j)) (v + 1) = gLs2 (gCe (S.1 j) (S.2.1 j) (S.2.2 j)) v + (if gCe (S.1 j) (S.2.1 j) (S.2.2 j) v % 2 ^ v == 0 then 1 else 0) := rfl
        have := ih (v + 1) (by omega)
        rw [gl] at this
        apply tm_run [19] 80
        simp (disch := first | assumption | omega) only [↓reduceIte, tm_w_i, tm_w_0, Bool.false_eq_true, tm_gI_0, tm_gI_s, tm_gA_0, tm_gA_s, tm_fv_0, tm_fv_s, tm_p1_e, tm_pA_e, tm_pJ_e, tm_pV_i, tm_pV_r, tm_cI_e, tm_cZ_e, tm_cJ_e, tm_cQ_e, tm_cO_e, tm_rq_e, List.set_cons_zero, List.set_cons_succ, List.contains_cons, List.contains_nil, Nat.reduceBEq, Bool.or_false, Bool.false_or, Bool.or_true, Bool.true_or, Bool.or_self, cond_true, cond_false, true_and, and_true, or_true, true_or, true_implies, false_implies, not_true_eq_false, not_false_eq_true, List.length_cons, List.length_nil, Option.toList_some, Option.toList_none, List.cons_append, List.nil_append, ws_N_cells_0, ws_N_cells_1, ws_N_cells_2, ws_N_cells_5, ws_N_cells_6, ws_N_cells_7, ws_N_cells_10, ws_N_cells_11, ws_N_cells_14, ws_N_cells_15, ws_N_cells_16, ws_N_cells_17, ws_N_cells_19, ws_N_cells_21, ws_N_cells_22, ws_N_cells_25, ws_N_cells_28, ws_N_cells_30, ws_N_cells_31, ws_N_cells_34, ws_N_cells_37, ws_N_cells_39, ws_N_cells_40, ws_N_cells_43, ws_N_cells_46, ws_N_cells_49, ws_N_cells_52, ws_N_cells_55, ws_N_cells_56, tm_up_s, tm_up_n, tm_up_up, nI_leI, nI_ltI, nI_eq, nI_cl, nI_in', ix_1shl, ix_or, ix_xor, nI_1, bI_0, bI_1, bI_F, pk_us, pk_un, hp', hlt, z3.1.1, w2, w3, a1]
        refine kd_N_cells_40 (Nat.le_of_ble_eq_true rfl) (by omega) (by omega) (c_N_isLeast (by omega) (by omega)) ?_
        cases b1 : (gCe (S.1 j) (S.2.1 j) (S.2.2 j) v % 2 ^ v == 0) with
        | false =>
          rw [b1, if_neg (by decide), Nat.add_zero] at this
          apply tm_run [19] 80
          simp (disch := first | assumption | omega) only [↓reduceIte, tm_w_i, tm_w_0, Bool.false_eq_true, tm_gI_0, tm_gI_s, tm_gA_0, tm_gA_s, tm_fv_0, tm_fv_s, tm_p1_e, tm_pA_e, tm_pJ_e, tm_pV_i, tm_pV_r, tm_cI_e, tm_cZ_e, tm_cJ_e, tm_cQ_e, tm_cO_e, tm_rq_e, List.set_cons_zero, List.set_cons_succ, List.contains_cons, List.contains_nil, Nat.reduceBEq, Bool.or_false, Bool.false_or, Bool.or_true, Bool.true_or, Bool.or_self, cond_true, cond_false, true_and, and_true, or_true, true_or, true_implies, false_implies, not_true_eq_false, not_false_eq_true, List.length_cons, List.length_nil, Option.toList_some, Option.toList_none, List.cons_append, List.nil_append, ws_N_cells_0, ws_N_cells_1, ws_N_cells_2, ws_N_cells_5, ws_N_cells_6, ws_N_cells_7, ws_N_cells_10, ws_N_cells_11, ws_N_cells_14, ws_N_cells_15, ws_N_cells_16, ws_N_cells_17, ws_N_cells_19, ws_N_cells_21, ws_N_cells_22, ws_N_cells_25, ws_N_cells_28, ws_N_cells_30, ws_N_cells_31, ws_N_cells_34, ws_N_cells_37, ws_N_cells_39, ws_N_cells_40, ws_N_cells_43, ws_N_cells_46, ws_N_cells_49, ws_N_cells_52, ws_N_cells_55, ws_N_cells_56, tm_up_s, tm_up_n, tm_up_up, nI_leI, nI_ltI, nI_eq, nI_cl, nI_in', ix_1shl, ix_or, ix_xor, nI_1, bI_0, bI_1, bI_F, pk_us, pk_un, bI_f]
          exact this
        | true =>
          rw [b1, if_pos rfl] at this
          have e8 : ¬ bI true = 0 := by decide
          apply tm_run [19] 80
          simp (disch := first | assumption | omega) only [↓reduceIte, tm_w_i, tm_w_0, Bool.false_eq_true, tm_gI_0, tm_gI_s, tm_gA_0, tm_gA_s, tm_fv_0, tm_fv_s, tm_p1_e, tm_pA_e, tm_pJ_e, tm_pV_i, tm_pV_r, tm_cI_e, tm_cZ_e, tm_cJ_e, tm_cQ_e, tm_cO_e, tm_rq_e, List.set_cons_zero, List.set_cons_succ, List.contains_cons, List.contains_nil, Nat.reduceBEq, Bool.or_false, Bool.false_or, Bool.or_true, Bool.true_or, Bool.or_self, cond_true, cond_false, true_and, and_true, or_true, true_or, true_implies, false_implies, not_true_eq_false, not_false_eq_true, List.length_cons, List.length_nil, Option.toList_some, Option.toList_none, List.cons_append, List.nil_append, ws_N_cells_0, ws_N_cells_1, ws_N_cells_2, ws_N_cells_5, ws_N_cells_6, ws_N_cells_7, ws_N_cells_10, ws_N_cells_11, ws_N_cells_14, ws_N_cells_15, ws_N_cells_16, ws_N_cells_17, ws_N_cells_19, ws_N_cells_21, ws_N_cells_22, ws_N_cells_25, ws_N_cells_28, ws_N_cells_30, ws_N_cells_31, ws_N_cells_34, ws_N_cells_37, ws_N_cells_39, ws_N_cells_40, ws_N_cells_43, ws_N_cells_46, ws_N_cells_49, ws_N_cells_52, ws_N_cells_55, ws_N_cells_56, tm_up_s, tm_up_n, tm_up_up, nI_leI, nI_ltI, nI_eq, nI_cl, nI_in', ix_1shl, ix_or, ix_xor, nI_1, bI_0, bI_1, bI_F, pk_us, pk_un, e8]
          exact this
    exact key (S.1 j) 0 (by omega)
end BW
