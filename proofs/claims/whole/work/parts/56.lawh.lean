section DA
theorem tw_lk0 : Jvm.Cond.classLink "GraphNamerLaw" 13 "java/util/NoSuchElementException" ∈ tm_ws := List.mem_filter.mpr ⟨List.mem_of_getElem? (i := 155) (by decide +kernel), by decide +kernel⟩
theorem tw_lk1 : Jvm.Cond.classLink "GraphNamerLaw" 15 "java/lang/IllegalArgumentException" ∈ tm_ws := List.mem_filter.mpr ⟨List.mem_of_getElem? (i := 156) (by decide +kernel), by decide +kernel⟩
theorem tw_lk2 : Jvm.Cond.classLink "GraphNamerLaw" 17 "java/lang/IllegalStateException" ∈ tm_ws := List.mem_filter.mpr ⟨List.mem_of_getElem? (i := 157) (by decide +kernel), by decide +kernel⟩
theorem tw_ca0 : Jvm.Cond.castable (tm_ex 0) "java/util/NoSuchElementException" ∈ tm_ws := List.mem_filter.mpr ⟨List.mem_of_getElem? (i := 168) (by decide +kernel), by decide +kernel⟩
theorem tw_ca1 : Jvm.Cond.castable (tm_ex 1) "java/lang/IllegalArgumentException" ∈ tm_ws := List.mem_filter.mpr ⟨List.mem_of_getElem? (i := 239) (by decide +kernel), by decide +kernel⟩
theorem tw_ca2 : Jvm.Cond.castable (tm_ex 2) "java/lang/IllegalStateException" ∈ tm_ws := List.mem_filter.mpr ⟨List.mem_of_getElem? (i := 255) (by decide +kernel), by decide +kernel⟩
theorem ct0 {pc a b hp : Nat} {t : List (Nat × Nat × Nat × Nat)} (h : a ≤ pc ∧ pc < b) : tm_ct "GraphNamerLaw" pc 0 ((a, b, hp, 13) :: t) hp := Or.inr ⟨h, (show (13 : Nat) ≠ 0 by decide), _, tw_lk0, Or.inl ⟨tw_ca0, rfl⟩⟩
theorem ct1 {pc a b hp a' b' hp' : Nat} {t : List (Nat × Nat × Nat × Nat)} (h : a ≤ pc ∧ pc < b) (h' : a' ≤ pc ∧ pc < b') : tm_ct "GraphNamerLaw" pc 1 ((a, b, hp, 13) :: (a', b', hp', 15) :: t) hp' := Or.inr ⟨h, (show (13 : Nat) ≠ 0 by decide), _, tw_lk0, Or.inr ⟨by decide +kernel, Or.inr ⟨h', (show (15 : Nat) ≠ 0 by decide), _, tw_lk1, Or.inl ⟨tw_ca1, rfl⟩⟩⟩⟩
theorem ct2 {pc a b hp a' b' hp' a'' b'' hp'' : Nat} {t : List (Nat × Nat × Nat × Nat)} (h : a ≤ pc ∧ pc < b) (h' : a' ≤ pc ∧ pc < b') (h'' : a'' ≤ pc ∧ pc < b'') : tm_ct "GraphNamerLaw" pc 2 ((a, b, hp, 13) :: (a', b', hp', 15) :: (a'', b'', hp'', 17) :: t) hp'' := Or.inr ⟨h, (show (13 : Nat) ≠ 0 by decide), _, tw_lk0, Or.inr ⟨by decide +kernel, Or.inr ⟨h', (show (15 : Nat) ≠ 0 by decide), _, tw_lk1, Or.inr ⟨by decide +kernel, Or.inr ⟨h'', (show (17 : Nat) ≠ 0 by decide), _, tw_lk2, Or.inl ⟨tw_ca2, rfl⟩⟩⟩⟩⟩⟩
variable {S : gSt} {h : tm_Hp} {f : Nat → Int64}
/-- what a helper of the law leaves -/
def gPl (h : tm_Hp) (q : gRs) : tm_O → tm_Hp → Prop := fun z hh => z = .inl (some (.int (gTh q.1))) ∧ gX q.2 hh ∧ (∀ k, 27 ≤ k → k ≠ 38 → hh k = h k) ∧ ∃ f : Nat → Int64, hh 38 = tm_j 1 f ∧ ∀ v, q.1 = .inl v → f 0 = v.toInt64
theorem gPl.yes {q : gRs} {x : Int32} {y : Int64} {hh : tm_Hp} (e : q.1 = .inl x) (z2 : gX q.2 hh) (z3 : ∀ k, 27 ≤ k → hh k = h k) (hy : y = x.toInt64) : gPl h q (.inl (some (.int 0))) (tm_up hh 38 (tm_j 1 (vp_updL f (Int32.toNatClampNeg 0) y))) := by
  refine ⟨by rw [e]; rfl, z2.fr (fun k hk => tm_up_n (by omega)), fun k h1 h2 => (tm_up_n h2).trans (z3 k h1), _, tm_up_s _ _ _, fun v hv => ?_⟩
  rw [e] at hv
  cases hv
  rw [hy]
  rfl
theorem gPl.no {q : gRs} {k : Nat} {hh : tm_Hp} (ho : h 38 = tm_j 1 f) (e : q.1 = .inr k) (z2 : gX q.2 hh) (z3 : ∀ k, 27 ≤ k → hh k = h k) : gPl h q (.inl (some (.int (nI (k + 1))))) hh :=
  ⟨by rw [e]; rfl, z2, fun k h1 _ => z3 k h1, f, (z3 38 (by decide)).trans ho, fun v hv => by rw [e] at hv; cases hv⟩
theorem gOc_l {q : Int32 ⊕ Nat} {v : Option Value} (h : (Sum.inl v : tm_O) = gOc q) : ∃ x, q = .inl x ∧ v = some (.int x) := by
  cases q with
  | inl x => exact ⟨x, rfl, by cases h; rfl⟩
  | inr k => cases h
theorem gOc_r {q : Int32 ⊕ Nat} {k : Nat} (h : (Sum.inr k : tm_O) = gOc q) : q = .inr k := by
  cases q with
  | inl x => cases h
  | inr k => cases h; rfl
theorem vp_in01 : vp_in 0 1 := nI_in' (n := 0) (by decide) (by decide)
theorem k_o_vertex {p0 p1 : Int32} {k : Nat} (e : (o_vertex S p0 p1).1 = .inr k) : k < 3 := by
  unfold o_vertex at e
  (repeat' split at e) <;> first | (cases e; decide) | cases e
set_option maxRecDepth 20000 in
theorem c_L_vertex {p0 p1 : Int32} (hX : gX S h) (ho : h 38 = tm_j 1 f) : tm_C M_L_vertex 17 5 [.ref 0, .int p0, .int p1, .ref 38] h (gPl h (o_vertex S p0 p1)) := by
  refine tm_C.by (L := [some (.ref 0), some (.int p0), some (.int p1), some (.ref 38), none]) rfl rfl rfl rfl rfl ?_
  apply tm_run [] 80
  simp (disch := first | assumption | omega) only [↓reduceIte, tm_w_i, tm_w_0, Bool.false_eq_true, tm_gI_0, tm_gI_s, tm_gA_0, tm_gA_s, tm_fv_0, tm_fv_s, tm_p1_e, tm_pA_e, tm_pJ_e, tm_pV_i, tm_pV_r, tm_cI_e, tm_cZ_e, tm_cJ_e, tm_cQ_e, tm_cO_e, tm_rq_e, List.set_cons_zero, List.set_cons_succ, List.contains_cons, List.contains_nil, Nat.reduceBEq, Bool.or_false, Bool.false_or, Bool.or_true, Bool.true_or, Bool.or_self, cond_true, cond_false, true_and, and_true, or_true, true_or, true_implies, false_implies, not_true_eq_false, not_false_eq_true, List.length_cons, List.length_nil, Option.toList_some, Option.toList_none, List.cons_append, List.nil_append, ws_L_vertex_0, ws_L_vertex_1, ws_L_vertex_2, ws_L_vertex_3, ws_L_vertex_4, ws_L_vertex_5, ws_L_vertex_8, ws_L_vertex_9, ws_L_vertex_10, ws_L_vertex_25, ws_L_vertex_26, tm_up_s, tm_up_n, tm_up_up, nI_leI, nI_ltI, nI_eq, nI_cl, nI_in', ix_1shl, ix_or, ix_xor, nI_1, bI_0, bI_1, bI_F, pk_us, pk_un]
  refine kc_L_vertex_5 hX.1.1 (Nat.le_of_ble_eq_true rfl) (by omega) (by omega) (c_N_vertex hX) ?_ ?_
  · rintro v hh ⟨z1, z2, z3⟩
    obtain ⟨x, e, rfl⟩ := gOc_l z1
    have ho2 := (z3 38 (by decide)).trans ho
    apply tm_run [] 80
    simp (disch := first | assumption | omega) only [↓reduceIte, tm_w_i, tm_w_0, Bool.false_eq_true, tm_gI_0, tm_gI_s, tm_gA_0, tm_gA_s, tm_fv_0, tm_fv_s, tm_p1_e, tm_pA_e, tm_pJ_e, tm_pV_i, tm_pV_r, tm_cI_e, tm_cZ_e, tm_cJ_e, tm_cQ_e, tm_cO_e, tm_rq_e, List.set_cons_zero, List.set_cons_succ, List.contains_cons, List.contains_nil, Nat.reduceBEq, Bool.or_false, Bool.false_or, Bool.or_true, Bool.true_or, Bool.or_self, cond_true, cond_false, true_and, and_true, or_true, true_or, true_implies, false_implies, not_true_eq_false, not_false_eq_true, List.length_cons, List.length_nil, Option.toList_some, Option.toList_none, List.cons_append, List.nil_append, ws_L_vertex_0, ws_L_vertex_1, ws_L_vertex_2, ws_L_vertex_3, ws_L_vertex_4, ws_L_vertex_5, ws_L_vertex_8, ws_L_vertex_9, ws_L_vertex_10, ws_L_vertex_25, ws_L_vertex_26, tm_up_s, tm_up_n, tm_up_up, nI_leI, nI_ltI, nI_eq, nI_cl, nI_in', ix_1shl, ix_or, ix_xor, nI_1, bI_0, bI_1, bI_F, pk_us, pk_un, ho2, vp_in01]
    exact gPl.yes e z2 z3 rfl
  · rintro k hh ⟨z1, z2, z3⟩
    have e := gOc_r z1
    have hk := k_o_vertex e
    have : k = 0 ∨ k = 1 ∨ k = 2 := by omega
    rcases this with rfl | rfl | rfl
    · exact tm_H_ret (hp := 13) (j := 4) (n := 1) (v := nI (0 + 1)) (ct0 (by decide)) (by decide) (Or.inl ⟨dd_L_vertex_13, dd_L_vertex_15, dd_L_vertex_16⟩) (by decide) rfl (gPl.no ho e z2 z3)
    · exact tm_H_ret (hp := 17) (j := 4) (n := 2) (v := nI (1 + 1)) (ct1 (by decide) (by decide)) (by decide) (Or.inl ⟨dd_L_vertex_17, dd_L_vertex_19, dd_L_vertex_20⟩) (by decide) rfl (gPl.no ho e z2 z3)
    · exact tm_H_ret (hp := 21) (j := 4) (n := 3) (v := nI (2 + 1)) (ct2 (by decide) (by decide) (by decide)) (by decide) (Or.inl ⟨dd_L_vertex_21, dd_L_vertex_23, dd_L_vertex_24⟩) (by decide) rfl (gPl.no ho e z2 z3)
theorem k_o_paint {p0 p1 p2 : Int32} {k : Nat} (e : (o_paint S p0 p1 p2).1 = .inr k) : k < 2 := by
  unfold o_paint at e
  (repeat' split at e) <;> first | (cases e; decide) | cases e
set_option maxRecDepth 20000 in
theorem c_L_paint {p0 p1 p2 : Int32} (hX : gX S h) (ho : h 38 = tm_j 1 f) : tm_C M_L_paint 17 5 [.ref 0, .int p0, .int p1, .int p2, .ref 38] h (gPl h (o_paint S p0 p1 p2)) := by
  refine tm_C.by (L := [some (.ref 0), some (.int p0), some (.int p1), some (.int p2), some (.ref 38), none]) rfl rfl rfl rfl rfl ?_
  apply tm_run [] 80
  simp (disch := first | assumption | omega) only [↓reduceIte, tm_w_i, tm_w_0, Bool.false_eq_true, tm_gI_0, tm_gI_s, tm_gA_0, tm_gA_s, tm_fv_0, tm_fv_s, tm_p1_e, tm_pA_e, tm_pJ_e, tm_pV_i, tm_pV_r, tm_cI_e, tm_cZ_e, tm_cJ_e, tm_cQ_e, tm_cO_e, tm_rq_e, List.set_cons_zero, List.set_cons_succ, List.contains_cons, List.contains_nil, Nat.reduceBEq, Bool.or_false, Bool.false_or, Bool.or_true, Bool.true_or, Bool.or_self, cond_true, cond_false, true_and, and_true, or_true, true_or, true_implies, false_implies, not_true_eq_false, not_false_eq_true, List.length_cons, List.length_nil, Option.toList_some, Option.toList_none, List.cons_append, List.nil_append, ws_L_paint_0, ws_L_paint_2, ws_L_paint_3, ws_L_paint_4, ws_L_paint_5, ws_L_paint_6, ws_L_paint_7, ws_L_paint_10, ws_L_paint_11, ws_L_paint_12, ws_L_paint_23, ws_L_paint_24, tm_up_s, tm_up_n, tm_up_up, nI_leI, nI_ltI, nI_eq, nI_cl, nI_in', ix_1shl, ix_or, ix_xor, nI_1, bI_0, bI_1, bI_F, pk_us, pk_un]
  refine kc_L_paint_7 hX.1.1 (Nat.le_of_ble_eq_true rfl) (by omega) (by omega) (c_N_paint hX) ?_ ?_
  · rintro v hh ⟨z1, z2, z3⟩
    obtain ⟨x, e, rfl⟩ := gOc_l z1
    have ho2 := (z3 38 (by decide)).trans ho
    apply tm_run [] 80
    simp (disch := first | assumption | omega) only [↓reduceIte, tm_w_i, tm_w_0, Bool.false_eq_true, tm_gI_0, tm_gI_s, tm_gA_0, tm_gA_s, tm_fv_0, tm_fv_s, tm_p1_e, tm_pA_e, tm_pJ_e, tm_pV_i, tm_pV_r, tm_cI_e, tm_cZ_e, tm_cJ_e, tm_cQ_e, tm_cO_e, tm_rq_e, List.set_cons_zero, List.set_cons_succ, List.contains_cons, List.contains_nil, Nat.reduceBEq, Bool.or_false, Bool.false_or, Bool.or_true, Bool.true_or, Bool.or_self, cond_true, cond_false, true_and, and_true, or_true, true_or, true_implies, false_implies, not_true_eq_false, not_false_eq_true, List.length_cons, List.length_nil, Option.toList_some, Option.toList_none, List.cons_append, List.nil_append, ws_L_paint_0, ws_L_paint_2, ws_L_paint_3, ws_L_paint_4, ws_L_paint_5, ws_L_paint_6, ws_L_paint_7, ws_L_paint_10, ws_L_paint_11, ws_L_paint_12, ws_L_paint_23, ws_L_paint_24, tm_up_s, tm_up_n, tm_up_up, nI_leI, nI_ltI, nI_eq, nI_cl, nI_in', ix_1shl, ix_or, ix_xor, nI_1, bI_0, bI_1, bI_F, pk_us, pk_un, ho2, vp_in01]
    exact gPl.yes e z2 z3 rfl
  · rintro k hh ⟨z1, z2, z3⟩
    have e := gOc_r z1
    have hk := k_o_paint e
    have : k = 0 ∨ k = 1 := by omega
    rcases this with rfl | rfl
    · exact tm_H_ret (hp := 15) (j := 5) (n := 1) (v := nI (0 + 1)) (ct0 (by decide)) (by decide) (Or.inl ⟨dd_L_paint_15, dd_L_paint_17, dd_L_paint_18⟩) (by decide) rfl (gPl.no ho e z2 z3)
    · exact tm_H_ret (hp := 19) (j := 5) (n := 2) (v := nI (1 + 1)) (ct1 (by decide) (by decide)) (by decide) (Or.inl ⟨dd_L_paint_19, dd_L_paint_21, dd_L_paint_22⟩) (by decide) rfl (gPl.no ho e z2 z3)
theorem k_o_edge {b : Bool} {p0 p1 p2 : Int32} {k : Nat} (e : (o_edge b S p0 p1 p2).1 = .inr k) : k < 3 := by
  unfold o_edge at e
  (repeat' split at e) <;> first | (cases e; decide) | cases e
set_option maxRecDepth 20000 in
theorem c_L_join {p0 p1 p2 : Int32} (hX : gX S h) (ho : h 38 = tm_j 1 f) : tm_C M_L_join 17 5 [.ref 0, .int p0, .int p1, .int p2, .ref 38] h (gPl h (o_edge true S p0 p1 p2)) := by
  refine tm_C.by (L := [some (.ref 0), some (.int p0), some (.int p1), some (.int p2), some (.ref 38), none]) rfl rfl rfl rfl rfl ?_
  apply tm_run [] 80
  simp (disch := first | assumption | omega) only [↓reduceIte, tm_w_i, tm_w_0, Bool.false_eq_true, tm_gI_0, tm_gI_s, tm_gA_0, tm_gA_s, tm_fv_0, tm_fv_s, tm_p1_e, tm_pA_e, tm_pJ_e, tm_pV_i, tm_pV_r, tm_cI_e, tm_cZ_e, tm_cJ_e, tm_cQ_e, tm_cO_e, tm_rq_e, List.set_cons_zero, List.set_cons_succ, List.contains_cons, List.contains_nil, Nat.reduceBEq, Bool.or_false, Bool.false_or, Bool.or_true, Bool.true_or, Bool.or_self, cond_true, cond_false, true_and, and_true, or_true, true_or, true_implies, false_implies, not_true_eq_false, not_false_eq_true, List.length_cons, List.length_nil, Option.toList_some, Option.toList_none, List.cons_append, List.nil_append, ws_L_join_0, ws_L_join_2, ws_L_join_3, ws_L_join_4, ws_L_join_5, ws_L_join_6, ws_L_join_7, ws_L_join_10, ws_L_join_11, ws_L_join_12, ws_L_join_27, ws_L_join_28, tm_up_s, tm_up_n, tm_up_up, nI_leI, nI_ltI, nI_eq, nI_cl, nI_in', ix_1shl, ix_or, ix_xor, nI_1, bI_0, bI_1, bI_F, pk_us, pk_un]
  refine kc_L_join_7 hX.1.1 (Nat.le_of_ble_eq_true rfl) (by omega) (by omega) (c_N_join hX) ?_ ?_
  · rintro v hh ⟨z1, z2, z3⟩
    obtain ⟨x, e, rfl⟩ := gOc_l z1
    have ho2 := (z3 38 (by decide)).trans ho
    apply tm_run [] 80
    simp (disch := first | assumption | omega) only [↓reduceIte, tm_w_i, tm_w_0, Bool.false_eq_true, tm_gI_0, tm_gI_s, tm_gA_0, tm_gA_s, tm_fv_0, tm_fv_s, tm_p1_e, tm_pA_e, tm_pJ_e, tm_pV_i, tm_pV_r, tm_cI_e, tm_cZ_e, tm_cJ_e, tm_cQ_e, tm_cO_e, tm_rq_e, List.set_cons_zero, List.set_cons_succ, List.contains_cons, List.contains_nil, Nat.reduceBEq, Bool.or_false, Bool.false_or, Bool.or_true, Bool.true_or, Bool.or_self, cond_true, cond_false, true_and, and_true, or_true, true_or, true_implies, false_implies, not_true_eq_false, not_false_eq_true, List.length_cons, List.length_nil, Option.toList_some, Option.toList_none, List.cons_append, List.nil_append, ws_L_join_0, ws_L_join_2, ws_L_join_3, ws_L_join_4, ws_L_join_5, ws_L_join_6, ws_L_join_7, ws_L_join_10, ws_L_join_11, ws_L_join_12, ws_L_join_27, ws_L_join_28, tm_up_s, tm_up_n, tm_up_up, nI_leI, nI_ltI, nI_eq, nI_cl, nI_in', ix_1shl, ix_or, ix_xor, nI_1, bI_0, bI_1, bI_F, pk_us, pk_un, ho2, vp_in01]
    exact gPl.yes e z2 z3 rfl
  · rintro k hh ⟨z1, z2, z3⟩
    have e := gOc_r z1
    have hk := k_o_edge e
    have : k = 0 ∨ k = 1 ∨ k = 2 := by omega
    rcases this with rfl | rfl | rfl
    · exact tm_H_ret (hp := 15) (j := 5) (n := 1) (v := nI (0 + 1)) (ct0 (by decide)) (by decide) (Or.inl ⟨dd_L_join_15, dd_L_join_17, dd_L_join_18⟩) (by decide) rfl (gPl.no ho e z2 z3)
    · exact tm_H_ret (hp := 19) (j := 5) (n := 2) (v := nI (1 + 1)) (ct1 (by decide) (by decide)) (by decide) (Or.inl ⟨dd_L_join_19, dd_L_join_21, dd_L_join_22⟩) (by decide) rfl (gPl.no ho e z2 z3)
    · exact tm_H_ret (hp := 23) (j := 5) (n := 3) (v := nI (2 + 1)) (ct2 (by decide) (by decide) (by decide)) (by decide) (Or.inl ⟨dd_L_join_23, dd_L_join_25, dd_L_join_26⟩) (by decide) rfl (gPl.no ho e z2 z3)
set_option maxRecDepth 20000 in
theorem c_L_part {p0 p1 p2 : Int32} (hX : gX S h) (ho : h 38 = tm_j 1 f) : tm_C M_L_part 17 5 [.ref 0, .int p0, .int p1, .int p2, .ref 38] h (gPl h (o_edge false S p0 p1 p2)) := by
  refine tm_C.by (L := [some (.ref 0), some (.int p0), some (.int p1), some (.int p2), some (.ref 38), none]) rfl rfl rfl rfl rfl ?_
  apply tm_run [] 80
  simp (disch := first | assumption | omega) only [↓reduceIte, tm_w_i, tm_w_0, Bool.false_eq_true, tm_gI_0, tm_gI_s, tm_gA_0, tm_gA_s, tm_fv_0, tm_fv_s, tm_p1_e, tm_pA_e, tm_pJ_e, tm_pV_i, tm_pV_r, tm_cI_e, tm_cZ_e, tm_cJ_e, tm_cQ_e, tm_cO_e, tm_rq_e, List.set_cons_zero, List.set_cons_succ, List.contains_cons, List.contains_nil, Nat.reduceBEq, Bool.or_false, Bool.false_or, Bool.or_true, Bool.true_or, Bool.or_self, cond_true, cond_false, true_and, and_true, or_true, true_or, true_implies, false_implies, not_true_eq_false, not_false_eq_true, List.length_cons, List.length_nil, Option.toList_some, Option.toList_none, List.cons_append, List.nil_append, ws_L_part_0, ws_L_part_2, ws_L_part_3, ws_L_part_4, ws_L_part_5, ws_L_part_6, ws_L_part_7, ws_L_part_10, ws_L_part_11, ws_L_part_12, ws_L_part_27, ws_L_part_28, tm_up_s, tm_up_n, tm_up_up, nI_leI, nI_ltI, nI_eq, nI_cl, nI_in', ix_1shl, ix_or, ix_xor, nI_1, bI_0, bI_1, bI_F, pk_us, pk_un]
  refine kc_L_part_7 hX.1.1 (Nat.le_of_ble_eq_true rfl) (by omega) (by omega) (c_N_part hX) ?_ ?_
  · rintro v hh ⟨z1, z2, z3⟩
    obtain ⟨x, e, rfl⟩ := gOc_l z1
    have ho2 := (z3 38 (by decide)).trans ho
    apply tm_run [] 80
    simp (disch := first | assumption | omega) only [↓reduceIte, tm_w_i, tm_w_0, Bool.false_eq_true, tm_gI_0, tm_gI_s, tm_gA_0, tm_gA_s, tm_fv_0, tm_fv_s, tm_p1_e, tm_pA_e, tm_pJ_e, tm_pV_i, tm_pV_r, tm_cI_e, tm_cZ_e, tm_cJ_e, tm_cQ_e, tm_cO_e, tm_rq_e, List.set_cons_zero, List.set_cons_succ, List.contains_cons, List.contains_nil, Nat.reduceBEq, Bool.or_false, Bool.false_or, Bool.or_true, Bool.true_or, Bool.or_self, cond_true, cond_false, true_and, and_true, or_true, true_or, true_implies, false_implies, not_true_eq_false, not_false_eq_true, List.length_cons, List.length_nil, Option.toList_some, Option.toList_none, List.cons_append, List.nil_append, ws_L_part_0, ws_L_part_2, ws_L_part_3, ws_L_part_4, ws_L_part_5, ws_L_part_6, ws_L_part_7, ws_L_part_10, ws_L_part_11, ws_L_part_12, ws_L_part_27, ws_L_part_28, tm_up_s, tm_up_n, tm_up_up, nI_leI, nI_ltI, nI_eq, nI_cl, nI_in', ix_1shl, ix_or, ix_xor, nI_1, bI_0, bI_1, bI_F, pk_us, pk_un, ho2, vp_in01]
    exact gPl.yes e z2 z3 rfl
  · rintro k hh ⟨z1, z2, z3⟩
    have e := gOc_r z1
    have hk := k_o_edge e
    have : k = 0 ∨ k = 1 ∨ k = 2 := by omega
    rcases this with rfl | rfl | rfl
    · exact tm_H_ret (hp := 15) (j := 5) (n := 1) (v := nI (0 + 1)) (ct0 (by decide)) (by decide) (Or.inl ⟨dd_L_part_15, dd_L_part_17, dd_L_part_18⟩) (by decide) rfl (gPl.no ho e z2 z3)
    · exact tm_H_ret (hp := 19) (j := 5) (n := 2) (v := nI (1 + 1)) (ct1 (by decide) (by decide)) (by decide) (Or.inl ⟨dd_L_part_19, dd_L_part_21, dd_L_part_22⟩) (by decide) rfl (gPl.no ho e z2 z3)
    · exact tm_H_ret (hp := 23) (j := 5) (n := 3) (v := nI (2 + 1)) (ct2 (by decide) (by decide) (by decide)) (by decide) (Or.inl ⟨dd_L_part_23, dd_L_part_25, dd_L_part_26⟩) (by decide) rfl (gPl.no ho e z2 z3)
theorem k_o_clear {p0 : Int32} {k : Nat} (e : (o_clear S p0).1 = .inr k) : k < 1 := by
  unfold o_clear at e
  (repeat' split at e) <;> first | (cases e; decide) | cases e
set_option maxRecDepth 20000 in
theorem c_L_clear {p0 : Int32} (hX : gX S h) (ho : h 38 = tm_j 1 f) : tm_C M_L_clear 17 5 [.ref 0, .int p0, .ref 38] h (gPl h (o_clear S p0)) := by
  refine tm_C.by (L := [some (.ref 0), some (.int p0), some (.ref 38), none]) rfl rfl rfl rfl rfl ?_
  apply tm_run [] 80
  simp (disch := first | assumption | omega) only [↓reduceIte, tm_w_i, tm_w_0, Bool.false_eq_true, tm_gI_0, tm_gI_s, tm_gA_0, tm_gA_s, tm_fv_0, tm_fv_s, tm_p1_e, tm_pA_e, tm_pJ_e, tm_pV_i, tm_pV_r, tm_cI_e, tm_cZ_e, tm_cJ_e, tm_cQ_e, tm_cO_e, tm_rq_e, List.set_cons_zero, List.set_cons_succ, List.contains_cons, List.contains_nil, Nat.reduceBEq, Bool.or_false, Bool.false_or, Bool.or_true, Bool.true_or, Bool.or_self, cond_true, cond_false, true_and, and_true, or_true, true_or, true_implies, false_implies, not_true_eq_false, not_false_eq_true, List.length_cons, List.length_nil, Option.toList_some, Option.toList_none, List.cons_append, List.nil_append, ws_L_clear_0, ws_L_clear_1, ws_L_clear_2, ws_L_clear_3, ws_L_clear_4, ws_L_clear_7, ws_L_clear_8, ws_L_clear_9, ws_L_clear_15, ws_L_clear_16, tm_up_s, tm_up_n, tm_up_up, nI_leI, nI_ltI, nI_eq, nI_cl, nI_in', ix_1shl, ix_or, ix_xor, nI_1, bI_0, bI_1, bI_F, pk_us, pk_un]
  refine kc_L_clear_4 hX.1.1 (Nat.le_of_ble_eq_true rfl) (by omega) (by omega) (c_N_clear hX) ?_ ?_
  · rintro v hh ⟨z1, z2, z3⟩
    obtain ⟨x, e, rfl⟩ := gOc_l z1
    have ho2 := (z3 38 (by decide)).trans ho
    apply tm_run [] 80
    simp (disch := first | assumption | omega) only [↓reduceIte, tm_w_i, tm_w_0, Bool.false_eq_true, tm_gI_0, tm_gI_s, tm_gA_0, tm_gA_s, tm_fv_0, tm_fv_s, tm_p1_e, tm_pA_e, tm_pJ_e, tm_pV_i, tm_pV_r, tm_cI_e, tm_cZ_e, tm_cJ_e, tm_cQ_e, tm_cO_e, tm_rq_e, List.set_cons_zero, List.set_cons_succ, List.contains_cons, List.contains_nil, Nat.reduceBEq, Bool.or_false, Bool.false_or, Bool.or_true, Bool.true_or, Bool.or_self, cond_true, cond_false, true_and, and_true, or_true, true_or, true_implies, false_implies, not_true_eq_false, not_false_eq_true, List.length_cons, List.length_nil, Option.toList_some, Option.toList_none, List.cons_append, List.nil_append, ws_L_clear_0, ws_L_clear_1, ws_L_clear_2, ws_L_clear_3, ws_L_clear_4, ws_L_clear_7, ws_L_clear_8, ws_L_clear_9, ws_L_clear_15, ws_L_clear_16, tm_up_s, tm_up_n, tm_up_up, nI_leI, nI_ltI, nI_eq, nI_cl, nI_in', ix_1shl, ix_or, ix_xor, nI_1, bI_0, bI_1, bI_F, pk_us, pk_un, ho2, vp_in01]
    exact gPl.yes e z2 z3 rfl
  · rintro k hh ⟨z1, z2, z3⟩
    have e := gOc_r z1
    have hk := k_o_clear e
    obtain rfl : k = 0 := by omega
    exact tm_H_ret (hp := 12) (j := 3) (n := 1) (v := nI (0 + 1)) (ct0 (by decide)) (by decide) (Or.inr ⟨3, rfl, dd_L_clear_12, dd_L_clear_13, dd_L_clear_14⟩) (by decide) rfl (gPl.no ho e z2 z3)
theorem k_o_copy {p0 p1 : Int32} {k : Nat} (e : (o_copy S p0 p1).1 = .inr k) : k < 1 := by
  unfold o_copy at e
  (repeat' split at e) <;> first | (cases e; decide) | cases e
set_option maxRecDepth 20000 in
theorem c_L_copy {p0 p1 : Int32} (hX : gX S h) (ho : h 38 = tm_j 1 f) : tm_C M_L_copy 17 5 [.ref 0, .int p0, .int p1, .ref 38] h (gPl h (o_copy S p0 p1)) := by
  refine tm_C.by (L := [some (.ref 0), some (.int p0), some (.int p1), some (.ref 38), none]) rfl rfl rfl rfl rfl ?_
  apply tm_run [] 80
  simp (disch := first | assumption | omega) only [↓reduceIte, tm_w_i, tm_w_0, Bool.false_eq_true, tm_gI_0, tm_gI_s, tm_gA_0, tm_gA_s, tm_fv_0, tm_fv_s, tm_p1_e, tm_pA_e, tm_pJ_e, tm_pV_i, tm_pV_r, tm_cI_e, tm_cZ_e, tm_cJ_e, tm_cQ_e, tm_cO_e, tm_rq_e, List.set_cons_zero, List.set_cons_succ, List.contains_cons, List.contains_nil, Nat.reduceBEq, Bool.or_false, Bool.false_or, Bool.or_true, Bool.true_or, Bool.or_self, cond_true, cond_false, true_and, and_true, or_true, true_or, true_implies, false_implies, not_true_eq_false, not_false_eq_true, List.length_cons, List.length_nil, Option.toList_some, Option.toList_none, List.cons_append, List.nil_append, ws_L_copy_0, ws_L_copy_1, ws_L_copy_2, ws_L_copy_3, ws_L_copy_4, ws_L_copy_5, ws_L_copy_8, ws_L_copy_9, ws_L_copy_10, ws_L_copy_17, ws_L_copy_18, tm_up_s, tm_up_n, tm_up_up, nI_leI, nI_ltI, nI_eq, nI_cl, nI_in', ix_1shl, ix_or, ix_xor, nI_1, bI_0, bI_1, bI_F, pk_us, pk_un]
  refine kc_L_copy_5 hX.1.1 (Nat.le_of_ble_eq_true rfl) (by omega) (by omega) (c_N_copy hX) ?_ ?_
  · rintro v hh ⟨z1, z2, z3⟩
    obtain ⟨x, e, rfl⟩ := gOc_l z1
    have ho2 := (z3 38 (by decide)).trans ho
    apply tm_run [] 80
    simp (disch := first | assumption | omega) only [↓reduceIte, tm_w_i, tm_w_0, Bool.false_eq_true, tm_gI_0, tm_gI_s, tm_gA_0, tm_gA_s, tm_fv_0, tm_fv_s, tm_p1_e, tm_pA_e, tm_pJ_e, tm_pV_i, tm_pV_r, tm_cI_e, tm_cZ_e, tm_cJ_e, tm_cQ_e, tm_cO_e, tm_rq_e, List.set_cons_zero, List.set_cons_succ, List.contains_cons, List.contains_nil, Nat.reduceBEq, Bool.or_false, Bool.false_or, Bool.or_true, Bool.true_or, Bool.or_self, cond_true, cond_false, true_and, and_true, or_true, true_or, true_implies, false_implies, not_true_eq_false, not_false_eq_true, List.length_cons, List.length_nil, Option.toList_some, Option.toList_none, List.cons_append, List.nil_append, ws_L_copy_0, ws_L_copy_1, ws_L_copy_2, ws_L_copy_3, ws_L_copy_4, ws_L_copy_5, ws_L_copy_8, ws_L_copy_9, ws_L_copy_10, ws_L_copy_17, ws_L_copy_18, tm_up_s, tm_up_n, tm_up_up, nI_leI, nI_ltI, nI_eq, nI_cl, nI_in', ix_1shl, ix_or, ix_xor, nI_1, bI_0, bI_1, bI_F, pk_us, pk_un, ho2, vp_in01]
    exact gPl.yes e z2 z3 rfl
  · rintro k hh ⟨z1, z2, z3⟩
    have e := gOc_r z1
    have hk := k_o_copy e
    obtain rfl : k = 0 := by omega
    exact tm_H_ret (hp := 13) (j := 4) (n := 1) (v := nI (0 + 1)) (ct0 (by decide)) (by decide) (Or.inl ⟨dd_L_copy_13, dd_L_copy_15, dd_L_copy_16⟩) (by decide) rfl (gPl.no ho e z2 z3)
theorem k_o_turn {p0 : Int32} {k : Nat} (e : (o_turn S p0).1 = .inr k) : k < 1 := by
  unfold o_turn at e
  (repeat' split at e) <;> first | (cases e; decide) | cases e
set_option maxRecDepth 20000 in
theorem c_L_turn {p0 : Int32} (hX : gX S h) (ho : h 38 = tm_j 1 f) : tm_C M_L_turn 17 5 [.ref 0, .int p0, .ref 38] h (gPl h (o_turn S p0)) := by
  refine tm_C.by (L := [some (.ref 0), some (.int p0), some (.ref 38), none]) rfl rfl rfl rfl rfl ?_
  apply tm_run [] 80
  simp (disch := first | assumption | omega) only [↓reduceIte, tm_w_i, tm_w_0, Bool.false_eq_true, tm_gI_0, tm_gI_s, tm_gA_0, tm_gA_s, tm_fv_0, tm_fv_s, tm_p1_e, tm_pA_e, tm_pJ_e, tm_pV_i, tm_pV_r, tm_cI_e, tm_cZ_e, tm_cJ_e, tm_cQ_e, tm_cO_e, tm_rq_e, List.set_cons_zero, List.set_cons_succ, List.contains_cons, List.contains_nil, Nat.reduceBEq, Bool.or_false, Bool.false_or, Bool.or_true, Bool.true_or, Bool.or_self, cond_true, cond_false, true_and, and_true, or_true, true_or, true_implies, false_implies, not_true_eq_false, not_false_eq_true, List.length_cons, List.length_nil, Option.toList_some, Option.toList_none, List.cons_append, List.nil_append, ws_L_turn_0, ws_L_turn_1, ws_L_turn_2, ws_L_turn_3, ws_L_turn_4, ws_L_turn_7, ws_L_turn_8, ws_L_turn_9, ws_L_turn_15, ws_L_turn_16, tm_up_s, tm_up_n, tm_up_up, nI_leI, nI_ltI, nI_eq, nI_cl, nI_in', ix_1shl, ix_or, ix_xor, nI_1, bI_0, bI_1, bI_F, pk_us, pk_un]
  refine kc_L_turn_4 hX.1.1 (Nat.le_of_ble_eq_true rfl) (by omega) (by omega) (c_N_turn hX) ?_ ?_
  · rintro v hh ⟨z1, z2, z3⟩
    obtain ⟨x, e, rfl⟩ := gOc_l z1
    have ho2 := (z3 38 (by decide)).trans ho
    apply tm_run [] 80
    simp (disch := first | assumption | omega) only [↓reduceIte, tm_w_i, tm_w_0, Bool.false_eq_true, tm_gI_0, tm_gI_s, tm_gA_0, tm_gA_s, tm_fv_0, tm_fv_s, tm_p1_e, tm_pA_e, tm_pJ_e, tm_pV_i, tm_pV_r, tm_cI_e, tm_cZ_e, tm_cJ_e, tm_cQ_e, tm_cO_e, tm_rq_e, List.set_cons_zero, List.set_cons_succ, List.contains_cons, List.contains_nil, Nat.reduceBEq, Bool.or_false, Bool.false_or, Bool.or_true, Bool.true_or, Bool.or_self, cond_true, cond_false, true_and, and_true, or_true, true_or, true_implies, false_implies, not_true_eq_false, not_false_eq_true, List.length_cons, List.length_nil, Option.toList_some, Option.toList_none, List.cons_append, List.nil_append, ws_L_turn_0, ws_L_turn_1, ws_L_turn_2, ws_L_turn_3, ws_L_turn_4, ws_L_turn_7, ws_L_turn_8, ws_L_turn_9, ws_L_turn_15, ws_L_turn_16, tm_up_s, tm_up_n, tm_up_up, nI_leI, nI_ltI, nI_eq, nI_cl, nI_in', ix_1shl, ix_or, ix_xor, nI_1, bI_0, bI_1, bI_F, pk_us, pk_un, ho2, vp_in01]
    exact gPl.yes e z2 z3 rfl
  · rintro k hh ⟨z1, z2, z3⟩
    have e := gOc_r z1
    have hk := k_o_turn e
    obtain rfl : k = 0 := by omega
    exact tm_H_ret (hp := 12) (j := 3) (n := 1) (v := nI (0 + 1)) (ct0 (by decide)) (by decide) (Or.inr ⟨3, rfl, dd_L_turn_12, dd_L_turn_13, dd_L_turn_14⟩) (by decide) rfl (gPl.no ho e z2 z3)
theorem k_o_settle {p0 : Int32} {k : Nat} (e : (o_settle S p0).1 = .inr k) : k < 1 := by
  unfold o_settle at e
  (repeat' split at e) <;> first | (cases e; decide) | cases e
set_option maxRecDepth 20000 in
theorem c_L_settle {p0 : Int32} (hX : gX S h) (ho : h 38 = tm_j 1 f) : tm_C M_L_settle 17 5 [.ref 0, .int p0, .ref 38] h (gPl h (o_settle S p0)) := by
  refine tm_C.by (L := [some (.ref 0), some (.int p0), some (.ref 38), none]) rfl rfl rfl rfl rfl ?_
  apply tm_run [] 80
  simp (disch := first | assumption | omega) only [↓reduceIte, tm_w_i, tm_w_0, Bool.false_eq_true, tm_gI_0, tm_gI_s, tm_gA_0, tm_gA_s, tm_fv_0, tm_fv_s, tm_p1_e, tm_pA_e, tm_pJ_e, tm_pV_i, tm_pV_r, tm_cI_e, tm_cZ_e, tm_cJ_e, tm_cQ_e, tm_cO_e, tm_rq_e, List.set_cons_zero, List.set_cons_succ, List.contains_cons, List.contains_nil, Nat.reduceBEq, Bool.or_false, Bool.false_or, Bool.or_true, Bool.true_or, Bool.or_self, cond_true, cond_false, true_and, and_true, or_true, true_or, true_implies, false_implies, not_true_eq_false, not_false_eq_true, List.length_cons, List.length_nil, Option.toList_some, Option.toList_none, List.cons_append, List.nil_append, ws_L_settle_0, ws_L_settle_1, ws_L_settle_2, ws_L_settle_3, ws_L_settle_4, ws_L_settle_7, ws_L_settle_8, ws_L_settle_9, ws_L_settle_15, ws_L_settle_16, tm_up_s, tm_up_n, tm_up_up, nI_leI, nI_ltI, nI_eq, nI_cl, nI_in', ix_1shl, ix_or, ix_xor, nI_1, bI_0, bI_1, bI_F, pk_us, pk_un]
  refine kc_L_settle_4 hX.1.1 (Nat.le_of_ble_eq_true rfl) (by omega) (by omega) (c_N_settle hX) ?_ ?_
  · rintro v hh ⟨z1, z2, z3⟩
    obtain ⟨x, e, rfl⟩ := gOc_l z1
    have ho2 := (z3 38 (by decide)).trans ho
    apply tm_run [] 80
    simp (disch := first | assumption | omega) only [↓reduceIte, tm_w_i, tm_w_0, Bool.false_eq_true, tm_gI_0, tm_gI_s, tm_gA_0, tm_gA_s, tm_fv_0, tm_fv_s, tm_p1_e, tm_pA_e, tm_pJ_e, tm_pV_i, tm_pV_r, tm_cI_e, tm_cZ_e, tm_cJ_e, tm_cQ_e, tm_cO_e, tm_rq_e, List.set_cons_zero, List.set_cons_succ, List.contains_cons, List.contains_nil, Nat.reduceBEq, Bool.or_false, Bool.false_or, Bool.or_true, Bool.true_or, Bool.or_self, cond_true, cond_false, true_and, and_true, or_true, true_or, true_implies, false_implies, not_true_eq_false, not_false_eq_true, List.length_cons, List.length_nil, Option.toList_some, Option.toList_none, List.cons_append, List.nil_append, ws_L_settle_0, ws_L_settle_1, ws_L_settle_2, ws_L_settle_3, ws_L_settle_4, ws_L_settle_7, ws_L_settle_8, ws_L_settle_9, ws_L_settle_15, ws_L_settle_16, tm_up_s, tm_up_n, tm_up_up, nI_leI, nI_ltI, nI_eq, nI_cl, nI_in', ix_1shl, ix_or, ix_xor, nI_1, bI_0, bI_1, bI_F, pk_us, pk_un, ho2, vp_in01]
    exact gPl.yes e z2 z3 rfl
  · rintro k hh ⟨z1, z2, z3⟩
    have e := gOc_r z1
    have hk := k_o_settle e
    obtain rfl : k = 0 := by omega
    exact tm_H_ret (hp := 12) (j := 3) (n := 1) (v := nI (0 + 1)) (ct0 (by decide)) (by decide) (Or.inr ⟨3, rfl, dd_L_settle_12, dd_L_settle_13, dd_L_settle_14⟩) (by decide) rfl (gPl.no ho e z2 z3)
theorem k_o_size {p0 : Int32} {k : Nat} (e : (o_size S p0).1 = .inr k) : k < 1 := by
  unfold o_size at e
  (repeat' split at e) <;> first | (cases e; decide) | cases e
set_option maxRecDepth 20000 in
theorem c_L_size {p0 : Int32} (hX : gX S h) (ho : h 38 = tm_j 1 f) : tm_C M_L_size 17 5 [.ref 0, .int p0, .ref 38] h (gPl h (o_size S p0)) := by
  refine tm_C.by (L := [some (.ref 0), some (.int p0), some (.ref 38), none]) rfl rfl rfl rfl rfl ?_
  apply tm_run [] 80
  simp (disch := first | assumption | omega) only [↓reduceIte, tm_w_i, tm_w_0, Bool.false_eq_true, tm_gI_0, tm_gI_s, tm_gA_0, tm_gA_s, tm_fv_0, tm_fv_s, tm_p1_e, tm_pA_e, tm_pJ_e, tm_pV_i, tm_pV_r, tm_cI_e, tm_cZ_e, tm_cJ_e, tm_cQ_e, tm_cO_e, tm_rq_e, List.set_cons_zero, List.set_cons_succ, List.contains_cons, List.contains_nil, Nat.reduceBEq, Bool.or_false, Bool.false_or, Bool.or_true, Bool.true_or, Bool.or_self, cond_true, cond_false, true_and, and_true, or_true, true_or, true_implies, false_implies, not_true_eq_false, not_false_eq_true, List.length_cons, List.length_nil, Option.toList_some, Option.toList_none, List.cons_append, List.nil_append, ws_L_size_0, ws_L_size_1, ws_L_size_2, ws_L_size_3, ws_L_size_4, ws_L_size_7, ws_L_size_8, ws_L_size_9, ws_L_size_15, ws_L_size_16, tm_up_s, tm_up_n, tm_up_up, nI_leI, nI_ltI, nI_eq, nI_cl, nI_in', ix_1shl, ix_or, ix_xor, nI_1, bI_0, bI_1, bI_F, pk_us, pk_un]
  refine kc_L_size_4 hX.1.1 (Nat.le_of_ble_eq_true rfl) (by omega) (by omega) (c_N_size hX) ?_ ?_
  · rintro v hh ⟨z1, z2, z3⟩
    obtain ⟨x, e, rfl⟩ := gOc_l z1
    have ho2 := (z3 38 (by decide)).trans ho
    apply tm_run [] 80
    simp (disch := first | assumption | omega) only [↓reduceIte, tm_w_i, tm_w_0, Bool.false_eq_true, tm_gI_0, tm_gI_s, tm_gA_0, tm_gA_s, tm_fv_0, tm_fv_s, tm_p1_e, tm_pA_e, tm_pJ_e, tm_pV_i, tm_pV_r, tm_cI_e, tm_cZ_e, tm_cJ_e, tm_cQ_e, tm_cO_e, tm_rq_e, List.set_cons_zero, List.set_cons_succ, List.contains_cons, List.contains_nil, Nat.reduceBEq, Bool.or_false, Bool.false_or, Bool.or_true, Bool.true_or, Bool.or_self, cond_true, cond_false, true_and, and_true, or_true, true_or, true_implies, false_implies, not_true_eq_false, not_false_eq_true, List.length_cons, List.length_nil, Option.toList_some, Option.toList_none, List.cons_append, List.nil_append, ws_L_size_0, ws_L_size_1, ws_L_size_2, ws_L_size_3, ws_L_size_4, ws_L_size_7, ws_L_size_8, ws_L_size_9, ws_L_size_15, ws_L_size_16, tm_up_s, tm_up_n, tm_up_up, nI_leI, nI_ltI, nI_eq, nI_cl, nI_in', ix_1shl, ix_or, ix_xor, nI_1, bI_0, bI_1, bI_F, pk_us, pk_un, ho2, vp_in01]
    exact gPl.yes e z2 z3 rfl
  · rintro k hh ⟨z1, z2, z3⟩
    have e := gOc_r z1
    have hk := k_o_size e
    obtain rfl : k = 0 := by omega
    exact tm_H_ret (hp := 12) (j := 3) (n := 1) (v := nI (0 + 1)) (ct0 (by decide)) (by decide) (Or.inr ⟨3, rfl, dd_L_size_12, dd_L_size_13, dd_L_size_14⟩) (by decide) rfl (gPl.no ho e z2 z3)
theorem k_o_beside {p0 p1 : Int32} {k : Nat} (e : (o_beside S p0 p1).1 = .inr k) : k < 1 := by
  unfold o_beside at e
  (repeat' split at e) <;> first | (cases e; decide) | cases e
set_option maxRecDepth 20000 in
theorem c_L_beside {p0 p1 : Int32} (hX : gX S h) (ho : h 38 = tm_j 1 f) : tm_C M_L_beside 17 5 [.ref 0, .int p0, .int p1, .ref 38] h (gPl h (o_beside S p0 p1)) := by
  refine tm_C.by (L := [some (.ref 0), some (.int p0), some (.int p1), some (.ref 38), none]) rfl rfl rfl rfl rfl ?_
  apply tm_run [] 80
  simp (disch := first | assumption | omega) only [↓reduceIte, tm_w_i, tm_w_0, Bool.false_eq_true, tm_gI_0, tm_gI_s, tm_gA_0, tm_gA_s, tm_fv_0, tm_fv_s, tm_p1_e, tm_pA_e, tm_pJ_e, tm_pV_i, tm_pV_r, tm_cI_e, tm_cZ_e, tm_cJ_e, tm_cQ_e, tm_cO_e, tm_rq_e, List.set_cons_zero, List.set_cons_succ, List.contains_cons, List.contains_nil, Nat.reduceBEq, Bool.or_false, Bool.false_or, Bool.or_true, Bool.true_or, Bool.or_self, cond_true, cond_false, true_and, and_true, or_true, true_or, true_implies, false_implies, not_true_eq_false, not_false_eq_true, List.length_cons, List.length_nil, Option.toList_some, Option.toList_none, List.cons_append, List.nil_append, ws_L_beside_0, ws_L_beside_1, ws_L_beside_2, ws_L_beside_3, ws_L_beside_4, ws_L_beside_5, ws_L_beside_8, ws_L_beside_9, ws_L_beside_10, ws_L_beside_17, ws_L_beside_18, tm_up_s, tm_up_n, tm_up_up, nI_leI, nI_ltI, nI_eq, nI_cl, nI_in', ix_1shl, ix_or, ix_xor, nI_1, bI_0, bI_1, bI_F, pk_us, pk_un]
  refine kc_L_beside_5 hX.1.1 (Nat.le_of_ble_eq_true rfl) (by omega) (by omega) (c_N_beside hX) ?_ ?_
  · rintro v hh ⟨z1, z2, z3⟩
    obtain ⟨x, e, rfl⟩ := gOc_l z1
    have ho2 := (z3 38 (by decide)).trans ho
    apply tm_run [] 80
    simp (disch := first | assumption | omega) only [↓reduceIte, tm_w_i, tm_w_0, Bool.false_eq_true, tm_gI_0, tm_gI_s, tm_gA_0, tm_gA_s, tm_fv_0, tm_fv_s, tm_p1_e, tm_pA_e, tm_pJ_e, tm_pV_i, tm_pV_r, tm_cI_e, tm_cZ_e, tm_cJ_e, tm_cQ_e, tm_cO_e, tm_rq_e, List.set_cons_zero, List.set_cons_succ, List.contains_cons, List.contains_nil, Nat.reduceBEq, Bool.or_false, Bool.false_or, Bool.or_true, Bool.true_or, Bool.or_self, cond_true, cond_false, true_and, and_true, or_true, true_or, true_implies, false_implies, not_true_eq_false, not_false_eq_true, List.length_cons, List.length_nil, Option.toList_some, Option.toList_none, List.cons_append, List.nil_append, ws_L_beside_0, ws_L_beside_1, ws_L_beside_2, ws_L_beside_3, ws_L_beside_4, ws_L_beside_5, ws_L_beside_8, ws_L_beside_9, ws_L_beside_10, ws_L_beside_17, ws_L_beside_18, tm_up_s, tm_up_n, tm_up_up, nI_leI, nI_ltI, nI_eq, nI_cl, nI_in', ix_1shl, ix_or, ix_xor, nI_1, bI_0, bI_1, bI_F, pk_us, pk_un, ho2, vp_in01]
    exact gPl.yes e z2 z3 rfl
  · rintro k hh ⟨z1, z2, z3⟩
    have e := gOc_r z1
    have hk := k_o_beside e
    obtain rfl : k = 0 := by omega
    exact tm_H_ret (hp := 13) (j := 4) (n := 1) (v := nI (0 + 1)) (ct0 (by decide)) (by decide) (Or.inl ⟨dd_L_beside_13, dd_L_beside_15, dd_L_beside_16⟩) (by decide) rfl (gPl.no ho e z2 z3)
theorem k_o_name {p0 : Int32} {k : Nat} (e : (o_name S p0).1 = .inr k) : k < 1 := by
  unfold o_name at e
  (repeat' split at e) <;> first | (cases e; decide) | cases e
set_option maxRecDepth 20000 in
theorem c_L_name {p0 : Int32} (hX : gX S h) (ho : h 38 = tm_j 1 f) : tm_C M_L_name 17 5 [.ref 0, .int p0, .ref 38] h (gPl h (o_name S p0)) := by
  refine tm_C.by (L := [some (.ref 0), some (.int p0), some (.ref 38), none]) rfl rfl rfl rfl rfl ?_
  apply tm_run [] 80
  simp (disch := first | assumption | omega) only [↓reduceIte, tm_w_i, tm_w_0, Bool.false_eq_true, tm_gI_0, tm_gI_s, tm_gA_0, tm_gA_s, tm_fv_0, tm_fv_s, tm_p1_e, tm_pA_e, tm_pJ_e, tm_pV_i, tm_pV_r, tm_cI_e, tm_cZ_e, tm_cJ_e, tm_cQ_e, tm_cO_e, tm_rq_e, List.set_cons_zero, List.set_cons_succ, List.contains_cons, List.contains_nil, Nat.reduceBEq, Bool.or_false, Bool.false_or, Bool.or_true, Bool.true_or, Bool.or_self, cond_true, cond_false, true_and, and_true, or_true, true_or, true_implies, false_implies, not_true_eq_false, not_false_eq_true, List.length_cons, List.length_nil, Option.toList_some, Option.toList_none, List.cons_append, List.nil_append, ws_L_name_0, ws_L_name_1, ws_L_name_2, ws_L_name_3, ws_L_name_4, ws_L_name_7, ws_L_name_8, ws_L_name_9, ws_L_name_15, ws_L_name_16, tm_up_s, tm_up_n, tm_up_up, nI_leI, nI_ltI, nI_eq, nI_cl, nI_in', ix_1shl, ix_or, ix_xor, nI_1, bI_0, bI_1, bI_F, pk_us, pk_un]
  refine kc_L_name_4 hX.1.1 (Nat.le_of_ble_eq_true rfl) (by omega) (by omega) (c_N_name hX) ?_ ?_
  · rintro v hh ⟨z1, z2, z3⟩
    obtain ⟨x, e, rfl⟩ := gOc_l z1
    have ho2 := (z3 38 (by decide)).trans ho
    apply tm_run [] 80
    simp (disch := first | assumption | omega) only [↓reduceIte, tm_w_i, tm_w_0, Bool.false_eq_true, tm_gI_0, tm_gI_s, tm_gA_0, tm_gA_s, tm_fv_0, tm_fv_s, tm_p1_e, tm_pA_e, tm_pJ_e, tm_pV_i, tm_pV_r, tm_cI_e, tm_cZ_e, tm_cJ_e, tm_cQ_e, tm_cO_e, tm_rq_e, List.set_cons_zero, List.set_cons_succ, List.contains_cons, List.contains_nil, Nat.reduceBEq, Bool.or_false, Bool.false_or, Bool.or_true, Bool.true_or, Bool.or_self, cond_true, cond_false, true_and, and_true, or_true, true_or, true_implies, false_implies, not_true_eq_false, not_false_eq_true, List.length_cons, List.length_nil, Option.toList_some, Option.toList_none, List.cons_append, List.nil_append, ws_L_name_0, ws_L_name_1, ws_L_name_2, ws_L_name_3, ws_L_name_4, ws_L_name_7, ws_L_name_8, ws_L_name_9, ws_L_name_15, ws_L_name_16, tm_up_s, tm_up_n, tm_up_up, nI_leI, nI_ltI, nI_eq, nI_cl, nI_in', ix_1shl, ix_or, ix_xor, nI_1, bI_0, bI_1, bI_F, pk_us, pk_un, ho2, vp_in01]
    exact gPl.yes e z2 z3 rfl
  · rintro k hh ⟨z1, z2, z3⟩
    have e := gOc_r z1
    have hk := k_o_name e
    obtain rfl : k = 0 := by omega
    exact tm_H_ret (hp := 12) (j := 3) (n := 1) (v := nI (0 + 1)) (ct0 (by decide)) (by decide) (Or.inr ⟨3, rfl, dd_L_name_12, dd_L_name_13, dd_L_name_14⟩) (by decide) rfl (gPl.no ho e z2 z3)
theorem k_o_place {p0 p1 : Int32} {k : Nat} (e : (o_place S p0 p1).1 = .inr k) : k < 1 := by
  unfold o_place at e
  (repeat' split at e) <;> first | (cases e; decide) | cases e
set_option maxRecDepth 20000 in
theorem c_L_place {p0 p1 : Int32} (hX : gX S h) (ho : h 38 = tm_j 1 f) : tm_C M_L_place 17 5 [.ref 0, .int p0, .int p1, .ref 38] h (gPl h (o_place S p0 p1)) := by
  refine tm_C.by (L := [some (.ref 0), some (.int p0), some (.int p1), some (.ref 38), none]) rfl rfl rfl rfl rfl ?_
  apply tm_run [] 80
  simp (disch := first | assumption | omega) only [↓reduceIte, tm_w_i, tm_w_0, Bool.false_eq_true, tm_gI_0, tm_gI_s, tm_gA_0, tm_gA_s, tm_fv_0, tm_fv_s, tm_p1_e, tm_pA_e, tm_pJ_e, tm_pV_i, tm_pV_r, tm_cI_e, tm_cZ_e, tm_cJ_e, tm_cQ_e, tm_cO_e, tm_rq_e, List.set_cons_zero, List.set_cons_succ, List.contains_cons, List.contains_nil, Nat.reduceBEq, Bool.or_false, Bool.false_or, Bool.or_true, Bool.true_or, Bool.or_self, cond_true, cond_false, true_and, and_true, or_true, true_or, true_implies, false_implies, not_true_eq_false, not_false_eq_true, List.length_cons, List.length_nil, Option.toList_some, Option.toList_none, List.cons_append, List.nil_append, ws_L_place_0, ws_L_place_1, ws_L_place_2, ws_L_place_3, ws_L_place_4, ws_L_place_5, ws_L_place_8, ws_L_place_9, ws_L_place_10, ws_L_place_17, ws_L_place_18, tm_up_s, tm_up_n, tm_up_up, nI_leI, nI_ltI, nI_eq, nI_cl, nI_in', ix_1shl, ix_or, ix_xor, nI_1, bI_0, bI_1, bI_F, pk_us, pk_un]
  refine kc_L_place_5 hX.1.1 (Nat.le_of_ble_eq_true rfl) (by omega) (by omega) (c_N_place hX) ?_ ?_
  · rintro v hh ⟨z1, z2, z3⟩
    obtain ⟨x, e, rfl⟩ := gOc_l z1
    have ho2 := (z3 38 (by decide)).trans ho
    apply tm_run [] 80
    simp (disch := first | assumption | omega) only [↓reduceIte, tm_w_i, tm_w_0, Bool.false_eq_true, tm_gI_0, tm_gI_s, tm_gA_0, tm_gA_s, tm_fv_0, tm_fv_s, tm_p1_e, tm_pA_e, tm_pJ_e, tm_pV_i, tm_pV_r, tm_cI_e, tm_cZ_e, tm_cJ_e, tm_cQ_e, tm_cO_e, tm_rq_e, List.set_cons_zero, List.set_cons_succ, List.contains_cons, List.contains_nil, Nat.reduceBEq, Bool.or_false, Bool.false_or, Bool.or_true, Bool.true_or, Bool.or_self, cond_true, cond_false, true_and, and_true, or_true, true_or, true_implies, false_implies, not_true_eq_false, not_false_eq_true, List.length_cons, List.length_nil, Option.toList_some, Option.toList_none, List.cons_append, List.nil_append, ws_L_place_0, ws_L_place_1, ws_L_place_2, ws_L_place_3, ws_L_place_4, ws_L_place_5, ws_L_place_8, ws_L_place_9, ws_L_place_10, ws_L_place_17, ws_L_place_18, tm_up_s, tm_up_n, tm_up_up, nI_leI, nI_ltI, nI_eq, nI_cl, nI_in', ix_1shl, ix_or, ix_xor, nI_1, bI_0, bI_1, bI_F, pk_us, pk_un, ho2, vp_in01]
    exact gPl.yes e z2 z3 rfl
  · rintro k hh ⟨z1, z2, z3⟩
    have e := gOc_r z1
    have hk := k_o_place e
    obtain rfl : k = 0 := by omega
    exact tm_H_ret (hp := 13) (j := 4) (n := 1) (v := nI (0 + 1)) (ct0 (by decide)) (by decide) (Or.inl ⟨dd_L_place_13, dd_L_place_15, dd_L_place_16⟩) (by decide) rfl (gPl.no ho e z2 z3)
theorem k_o_automorphisms {p0 : Int32} {k : Nat} (e : (o_automorphisms S p0).1 = .inr k) : k < 1 := by
  unfold o_automorphisms at e
  (repeat' split at e) <;> first | (cases e; decide) | cases e
set_option maxRecDepth 20000 in
theorem c_L_automorphisms {p0 : Int32} (hX : gX S h) (ho : h 38 = tm_j 1 f) : tm_C M_L_automorphisms 17 5 [.ref 0, .int p0, .ref 38] h (gPl h (o_automorphisms S p0)) := by
  refine tm_C.by (L := [some (.ref 0), some (.int p0), some (.ref 38), none]) rfl rfl rfl rfl rfl ?_
  apply tm_run [] 80
  simp (disch := first | assumption | omega) only [↓reduceIte, tm_w_i, tm_w_0, Bool.false_eq_true, tm_gI_0, tm_gI_s, tm_gA_0, tm_gA_s, tm_fv_0, tm_fv_s, tm_p1_e, tm_pA_e, tm_pJ_e, tm_pV_i, tm_pV_r, tm_cI_e, tm_cZ_e, tm_cJ_e, tm_cQ_e, tm_cO_e, tm_rq_e, List.set_cons_zero, List.set_cons_succ, List.contains_cons, List.contains_nil, Nat.reduceBEq, Bool.or_false, Bool.false_or, Bool.or_true, Bool.true_or, Bool.or_self, cond_true, cond_false, true_and, and_true, or_true, true_or, true_implies, false_implies, not_true_eq_false, not_false_eq_true, List.length_cons, List.length_nil, Option.toList_some, Option.toList_none, List.cons_append, List.nil_append, ws_L_automorphisms_0, ws_L_automorphisms_1, ws_L_automorphisms_2, ws_L_automorphisms_3, ws_L_automorphisms_4, ws_L_automorphisms_7, ws_L_automorphisms_8, ws_L_automorphisms_9, ws_L_automorphisms_15, ws_L_automorphisms_16, tm_up_s, tm_up_n, tm_up_up, nI_leI, nI_ltI, nI_eq, nI_cl, nI_in', ix_1shl, ix_or, ix_xor, nI_1, bI_0, bI_1, bI_F, pk_us, pk_un]
  refine kc_L_automorphisms_4 hX.1.1 (Nat.le_of_ble_eq_true rfl) (by omega) (by omega) (c_N_automorphisms hX) ?_ ?_
  · rintro v hh ⟨z1, z2, z3⟩
    obtain ⟨x, e, rfl⟩ := gOc_l z1
    have ho2 := (z3 38 (by decide)).trans ho
    apply tm_run [] 80
    simp (disch := first | assumption | omega) only [↓reduceIte, tm_w_i, tm_w_0, Bool.false_eq_true, tm_gI_0, tm_gI_s, tm_gA_0, tm_gA_s, tm_fv_0, tm_fv_s, tm_p1_e, tm_pA_e, tm_pJ_e, tm_pV_i, tm_pV_r, tm_cI_e, tm_cZ_e, tm_cJ_e, tm_cQ_e, tm_cO_e, tm_rq_e, List.set_cons_zero, List.set_cons_succ, List.contains_cons, List.contains_nil, Nat.reduceBEq, Bool.or_false, Bool.false_or, Bool.or_true, Bool.true_or, Bool.or_self, cond_true, cond_false, true_and, and_true, or_true, true_or, true_implies, false_implies, not_true_eq_false, not_false_eq_true, List.length_cons, List.length_nil, Option.toList_some, Option.toList_none, List.cons_append, List.nil_append, ws_L_automorphisms_0, ws_L_automorphisms_1, ws_L_automorphisms_2, ws_L_automorphisms_3, ws_L_automorphisms_4, ws_L_automorphisms_7, ws_L_automorphisms_8, ws_L_automorphisms_9, ws_L_automorphisms_15, ws_L_automorphisms_16, tm_up_s, tm_up_n, tm_up_up, nI_leI, nI_ltI, nI_eq, nI_cl, nI_in', ix_1shl, ix_or, ix_xor, nI_1, bI_0, bI_1, bI_F, pk_us, pk_un, ho2, vp_in01]
    exact gPl.yes e z2 z3 rfl
  · rintro k hh ⟨z1, z2, z3⟩
    have e := gOc_r z1
    have hk := k_o_automorphisms e
    obtain rfl : k = 0 := by omega
    exact tm_H_ret (hp := 12) (j := 3) (n := 1) (v := nI (0 + 1)) (ct0 (by decide)) (by decide) (Or.inr ⟨3, rfl, dd_L_automorphisms_12, dd_L_automorphisms_13, dd_L_automorphisms_14⟩) (by decide) rfl (gPl.no ho e z2 z3)
theorem k_o_fixing {p0 p1 : Int32} {k : Nat} (e : (o_fixing S p0 p1).1 = .inr k) : k < 1 := by
  unfold o_fixing at e
  (repeat' split at e) <;> first | (cases e; decide) | cases e
set_option maxRecDepth 20000 in
theorem c_L_fixing {p0 p1 : Int32} (hX : gX S h) (ho : h 38 = tm_j 1 f) : tm_C M_L_fixing 17 5 [.ref 0, .int p0, .int p1, .ref 38] h (gPl h (o_fixing S p0 p1)) := by
  refine tm_C.by (L := [some (.ref 0), some (.int p0), some (.int p1), some (.ref 38), none]) rfl rfl rfl rfl rfl ?_
  apply tm_run [] 80
  simp (disch := first | assumption | omega) only [↓reduceIte, tm_w_i, tm_w_0, Bool.false_eq_true, tm_gI_0, tm_gI_s, tm_gA_0, tm_gA_s, tm_fv_0, tm_fv_s, tm_p1_e, tm_pA_e, tm_pJ_e, tm_pV_i, tm_pV_r, tm_cI_e, tm_cZ_e, tm_cJ_e, tm_cQ_e, tm_cO_e, tm_rq_e, List.set_cons_zero, List.set_cons_succ, List.contains_cons, List.contains_nil, Nat.reduceBEq, Bool.or_false, Bool.false_or, Bool.or_true, Bool.true_or, Bool.or_self, cond_true, cond_false, true_and, and_true, or_true, true_or, true_implies, false_implies, not_true_eq_false, not_false_eq_true, List.length_cons, List.length_nil, Option.toList_some, Option.toList_none, List.cons_append, List.nil_append, ws_L_fixing_0, ws_L_fixing_1, ws_L_fixing_2, ws_L_fixing_3, ws_L_fixing_4, ws_L_fixing_5, ws_L_fixing_8, ws_L_fixing_9, ws_L_fixing_10, ws_L_fixing_17, ws_L_fixing_18, tm_up_s, tm_up_n, tm_up_up, nI_leI, nI_ltI, nI_eq, nI_cl, nI_in', ix_1shl, ix_or, ix_xor, nI_1, bI_0, bI_1, bI_F, pk_us, pk_un]
  refine kc_L_fixing_5 hX.1.1 (Nat.le_of_ble_eq_true rfl) (by omega) (by omega) (c_N_fixing hX) ?_ ?_
  · rintro v hh ⟨z1, z2, z3⟩
    obtain ⟨x, e, rfl⟩ := gOc_l z1
    have ho2 := (z3 38 (by decide)).trans ho
    apply tm_run [] 80
    simp (disch := first | assumption | omega) only [↓reduceIte, tm_w_i, tm_w_0, Bool.false_eq_true, tm_gI_0, tm_gI_s, tm_gA_0, tm_gA_s, tm_fv_0, tm_fv_s, tm_p1_e, tm_pA_e, tm_pJ_e, tm_pV_i, tm_pV_r, tm_cI_e, tm_cZ_e, tm_cJ_e, tm_cQ_e, tm_cO_e, tm_rq_e, List.set_cons_zero, List.set_cons_succ, List.contains_cons, List.contains_nil, Nat.reduceBEq, Bool.or_false, Bool.false_or, Bool.or_true, Bool.true_or, Bool.or_self, cond_true, cond_false, true_and, and_true, or_true, true_or, true_implies, false_implies, not_true_eq_false, not_false_eq_true, List.length_cons, List.length_nil, Option.toList_some, Option.toList_none, List.cons_append, List.nil_append, ws_L_fixing_0, ws_L_fixing_1, ws_L_fixing_2, ws_L_fixing_3, ws_L_fixing_4, ws_L_fixing_5, ws_L_fixing_8, ws_L_fixing_9, ws_L_fixing_10, ws_L_fixing_17, ws_L_fixing_18, tm_up_s, tm_up_n, tm_up_up, nI_leI, nI_ltI, nI_eq, nI_cl, nI_in', ix_1shl, ix_or, ix_xor, nI_1, bI_0, bI_1, bI_F, pk_us, pk_un, ho2, vp_in01]
    exact gPl.yes e z2 z3 rfl
  · rintro k hh ⟨z1, z2, z3⟩
    have e := gOc_r z1
    have hk := k_o_fixing e
    obtain rfl : k = 0 := by omega
    exact tm_H_ret (hp := 13) (j := 4) (n := 1) (v := nI (0 + 1)) (ct0 (by decide)) (by decide) (Or.inl ⟨dd_L_fixing_13, dd_L_fixing_15, dd_L_fixing_16⟩) (by decide) rfl (gPl.no ho e z2 z3)
theorem k_o_orbit {p0 p1 : Int32} {k : Nat} (e : (o_orbit S p0 p1).1 = .inr k) : k < 1 := by
  unfold o_orbit at e
  (repeat' split at e) <;> first | (cases e; decide) | cases e
set_option maxRecDepth 20000 in
theorem c_L_orbit {p0 p1 : Int32} (hX : gX S h) (ho : h 38 = tm_j 1 f) : tm_C M_L_orbit 17 5 [.ref 0, .int p0, .int p1, .ref 38] h (gPl h (o_orbit S p0 p1)) := by
  refine tm_C.by (L := [some (.ref 0), some (.int p0), some (.int p1), some (.ref 38), none]) rfl rfl rfl rfl rfl ?_
  apply tm_run [] 80
  simp (disch := first | assumption | omega) only [↓reduceIte, tm_w_i, tm_w_0, Bool.false_eq_true, tm_gI_0, tm_gI_s, tm_gA_0, tm_gA_s, tm_fv_0, tm_fv_s, tm_p1_e, tm_pA_e, tm_pJ_e, tm_pV_i, tm_pV_r, tm_cI_e, tm_cZ_e, tm_cJ_e, tm_cQ_e, tm_cO_e, tm_rq_e, List.set_cons_zero, List.set_cons_succ, List.contains_cons, List.contains_nil, Nat.reduceBEq, Bool.or_false, Bool.false_or, Bool.or_true, Bool.true_or, Bool.or_self, cond_true, cond_false, true_and, and_true, or_true, true_or, true_implies, false_implies, not_true_eq_false, not_false_eq_true, List.length_cons, List.length_nil, Option.toList_some, Option.toList_none, List.cons_append, List.nil_append, ws_L_orbit_0, ws_L_orbit_1, ws_L_orbit_2, ws_L_orbit_3, ws_L_orbit_4, ws_L_orbit_5, ws_L_orbit_8, ws_L_orbit_9, ws_L_orbit_10, ws_L_orbit_17, ws_L_orbit_18, tm_up_s, tm_up_n, tm_up_up, nI_leI, nI_ltI, nI_eq, nI_cl, nI_in', ix_1shl, ix_or, ix_xor, nI_1, bI_0, bI_1, bI_F, pk_us, pk_un]
  refine kc_L_orbit_5 hX.1.1 (Nat.le_of_ble_eq_true rfl) (by omega) (by omega) (c_N_orbit hX) ?_ ?_
  · rintro v hh ⟨z1, z2, z3⟩
    obtain ⟨x, e, rfl⟩ := gOc_l z1
    have ho2 := (z3 38 (by decide)).trans ho
    apply tm_run [] 80
    simp (disch := first | assumption | omega) only [↓reduceIte, tm_w_i, tm_w_0, Bool.false_eq_true, tm_gI_0, tm_gI_s, tm_gA_0, tm_gA_s, tm_fv_0, tm_fv_s, tm_p1_e, tm_pA_e, tm_pJ_e, tm_pV_i, tm_pV_r, tm_cI_e, tm_cZ_e, tm_cJ_e, tm_cQ_e, tm_cO_e, tm_rq_e, List.set_cons_zero, List.set_cons_succ, List.contains_cons, List.contains_nil, Nat.reduceBEq, Bool.or_false, Bool.false_or, Bool.or_true, Bool.true_or, Bool.or_self, cond_true, cond_false, true_and, and_true, or_true, true_or, true_implies, false_implies, not_true_eq_false, not_false_eq_true, List.length_cons, List.length_nil, Option.toList_some, Option.toList_none, List.cons_append, List.nil_append, ws_L_orbit_0, ws_L_orbit_1, ws_L_orbit_2, ws_L_orbit_3, ws_L_orbit_4, ws_L_orbit_5, ws_L_orbit_8, ws_L_orbit_9, ws_L_orbit_10, ws_L_orbit_17, ws_L_orbit_18, tm_up_s, tm_up_n, tm_up_up, nI_leI, nI_ltI, nI_eq, nI_cl, nI_in', ix_1shl, ix_or, ix_xor, nI_1, bI_0, bI_1, bI_F, pk_us, pk_un, ho2, vp_in01]
    exact gPl.yes e z2 z3 rfl
  · rintro k hh ⟨z1, z2, z3⟩
    have e := gOc_r z1
    have hk := k_o_orbit e
    obtain rfl : k = 0 := by omega
    exact tm_H_ret (hp := 13) (j := 4) (n := 1) (v := nI (0 + 1)) (ct0 (by decide)) (by decide) (Or.inl ⟨dd_L_orbit_13, dd_L_orbit_15, dd_L_orbit_16⟩) (by decide) rfl (gPl.no ho e z2 z3)
theorem k_o_orbits {p0 : Int32} {k : Nat} (e : (o_orbits S p0).1 = .inr k) : k < 1 := by
  unfold o_orbits at e
  (repeat' split at e) <;> first | (cases e; decide) | cases e
set_option maxRecDepth 20000 in
theorem c_L_orbits {p0 : Int32} (hX : gX S h) (ho : h 38 = tm_j 1 f) : tm_C M_L_orbits 17 5 [.ref 0, .int p0, .ref 38] h (gPl h (o_orbits S p0)) := by
  refine tm_C.by (L := [some (.ref 0), some (.int p0), some (.ref 38), none]) rfl rfl rfl rfl rfl ?_
  apply tm_run [] 80
  simp (disch := first | assumption | omega) only [↓reduceIte, tm_w_i, tm_w_0, Bool.false_eq_true, tm_gI_0, tm_gI_s, tm_gA_0, tm_gA_s, tm_fv_0, tm_fv_s, tm_p1_e, tm_pA_e, tm_pJ_e, tm_pV_i, tm_pV_r, tm_cI_e, tm_cZ_e, tm_cJ_e, tm_cQ_e, tm_cO_e, tm_rq_e, List.set_cons_zero, List.set_cons_succ, List.contains_cons, List.contains_nil, Nat.reduceBEq, Bool.or_false, Bool.false_or, Bool.or_true, Bool.true_or, Bool.or_self, cond_true, cond_false, true_and, and_true, or_true, true_or, true_implies, false_implies, not_true_eq_false, not_false_eq_true, List.length_cons, List.length_nil, Option.toList_some, Option.toList_none, List.cons_append, List.nil_append, ws_L_orbits_0, ws_L_orbits_1, ws_L_orbits_2, ws_L_orbits_3, ws_L_orbits_4, ws_L_orbits_7, ws_L_orbits_8, ws_L_orbits_9, ws_L_orbits_15, ws_L_orbits_16, tm_up_s, tm_up_n, tm_up_up, nI_leI, nI_ltI, nI_eq, nI_cl, nI_in', ix_1shl, ix_or, ix_xor, nI_1, bI_0, bI_1, bI_F, pk_us, pk_un]
  refine kc_L_orbits_4 hX.1.1 (Nat.le_of_ble_eq_true rfl) (by omega) (by omega) (c_N_orbits hX) ?_ ?_
  · rintro v hh ⟨z1, z2, z3⟩
    obtain ⟨x, e, rfl⟩ := gOc_l z1
    have ho2 := (z3 38 (by decide)).trans ho
    apply tm_run [] 80
    simp (disch := first | assumption | omega) only [↓reduceIte, tm_w_i, tm_w_0, Bool.false_eq_true, tm_gI_0, tm_gI_s, tm_gA_0, tm_gA_s, tm_fv_0, tm_fv_s, tm_p1_e, tm_pA_e, tm_pJ_e, tm_pV_i, tm_pV_r, tm_cI_e, tm_cZ_e, tm_cJ_e, tm_cQ_e, tm_cO_e, tm_rq_e, List.set_cons_zero, List.set_cons_succ, List.contains_cons, List.contains_nil, Nat.reduceBEq, Bool.or_false, Bool.false_or, Bool.or_true, Bool.true_or, Bool.or_self, cond_true, cond_false, true_and, and_true, or_true, true_or, true_implies, false_implies, not_true_eq_false, not_false_eq_true, List.length_cons, List.length_nil, Option.toList_some, Option.toList_none, List.cons_append, List.nil_append, ws_L_orbits_0, ws_L_orbits_1, ws_L_orbits_2, ws_L_orbits_3, ws_L_orbits_4, ws_L_orbits_7, ws_L_orbits_8, ws_L_orbits_9, ws_L_orbits_15, ws_L_orbits_16, tm_up_s, tm_up_n, tm_up_up, nI_leI, nI_ltI, nI_eq, nI_cl, nI_in', ix_1shl, ix_or, ix_xor, nI_1, bI_0, bI_1, bI_F, pk_us, pk_un, ho2, vp_in01]
    exact gPl.yes e z2 z3 rfl
  · rintro k hh ⟨z1, z2, z3⟩
    have e := gOc_r z1
    have hk := k_o_orbits e
    obtain rfl : k = 0 := by omega
    exact tm_H_ret (hp := 12) (j := 3) (n := 1) (v := nI (0 + 1)) (ct0 (by decide)) (by decide) (Or.inr ⟨3, rfl, dd_L_orbits_12, dd_L_orbits_13, dd_L_orbits_14⟩) (by decide) rfl (gPl.no ho e z2 z3)
theorem k_o_cell {p0 p1 : Int32} {k : Nat} (e : (o_cell S p0 p1).1 = .inr k) : k < 1 := by
  unfold o_cell at e
  (repeat' split at e) <;> first | (cases e; decide) | cases e
set_option maxRecDepth 20000 in
theorem c_L_cell {p0 p1 : Int32} (hX : gX S h) (ho : h 38 = tm_j 1 f) : tm_C M_L_cell 17 5 [.ref 0, .int p0, .int p1, .ref 38] h (gPl h (o_cell S p0 p1)) := by
  refine tm_C.by (L := [some (.ref 0), some (.int p0), some (.int p1), some (.ref 38), none]) rfl rfl rfl rfl rfl ?_
  apply tm_run [] 80
  simp (disch := first | assumption | omega) only [↓reduceIte, tm_w_i, tm_w_0, Bool.false_eq_true, tm_gI_0, tm_gI_s, tm_gA_0, tm_gA_s, tm_fv_0, tm_fv_s, tm_p1_e, tm_pA_e, tm_pJ_e, tm_pV_i, tm_pV_r, tm_cI_e, tm_cZ_e, tm_cJ_e, tm_cQ_e, tm_cO_e, tm_rq_e, List.set_cons_zero, List.set_cons_succ, List.contains_cons, List.contains_nil, Nat.reduceBEq, Bool.or_false, Bool.false_or, Bool.or_true, Bool.true_or, Bool.or_self, cond_true, cond_false, true_and, and_true, or_true, true_or, true_implies, false_implies, not_true_eq_false, not_false_eq_true, List.length_cons, List.length_nil, Option.toList_some, Option.toList_none, List.cons_append, List.nil_append, ws_L_cell_0, ws_L_cell_1, ws_L_cell_2, ws_L_cell_3, ws_L_cell_4, ws_L_cell_5, ws_L_cell_8, ws_L_cell_9, ws_L_cell_10, ws_L_cell_17, ws_L_cell_18, tm_up_s, tm_up_n, tm_up_up, nI_leI, nI_ltI, nI_eq, nI_cl, nI_in', ix_1shl, ix_or, ix_xor, nI_1, bI_0, bI_1, bI_F, pk_us, pk_un]
  refine kc_L_cell_5 hX.1.1 (Nat.le_of_ble_eq_true rfl) (by omega) (by omega) (c_N_cell hX) ?_ ?_
  · rintro v hh ⟨z1, z2, z3⟩
    obtain ⟨x, e, rfl⟩ := gOc_l z1
    have ho2 := (z3 38 (by decide)).trans ho
    apply tm_run [] 80
    simp (disch := first | assumption | omega) only [↓reduceIte, tm_w_i, tm_w_0, Bool.false_eq_true, tm_gI_0, tm_gI_s, tm_gA_0, tm_gA_s, tm_fv_0, tm_fv_s, tm_p1_e, tm_pA_e, tm_pJ_e, tm_pV_i, tm_pV_r, tm_cI_e, tm_cZ_e, tm_cJ_e, tm_cQ_e, tm_cO_e, tm_rq_e, List.set_cons_zero, List.set_cons_succ, List.contains_cons, List.contains_nil, Nat.reduceBEq, Bool.or_false, Bool.false_or, Bool.or_true, Bool.true_or, Bool.or_self, cond_true, cond_false, true_and, and_true, or_true, true_or, true_implies, false_implies, not_true_eq_false, not_false_eq_true, List.length_cons, List.length_nil, Option.toList_some, Option.toList_none, List.cons_append, List.nil_append, ws_L_cell_0, ws_L_cell_1, ws_L_cell_2, ws_L_cell_3, ws_L_cell_4, ws_L_cell_5, ws_L_cell_8, ws_L_cell_9, ws_L_cell_10, ws_L_cell_17, ws_L_cell_18, tm_up_s, tm_up_n, tm_up_up, nI_leI, nI_ltI, nI_eq, nI_cl, nI_in', ix_1shl, ix_or, ix_xor, nI_1, bI_0, bI_1, bI_F, pk_us, pk_un, ho2, vp_in01]
    exact gPl.yes e z2 z3 rfl
  · rintro k hh ⟨z1, z2, z3⟩
    have e := gOc_r z1
    have hk := k_o_cell e
    obtain rfl : k = 0 := by omega
    exact tm_H_ret (hp := 13) (j := 4) (n := 1) (v := nI (0 + 1)) (ct0 (by decide)) (by decide) (Or.inl ⟨dd_L_cell_13, dd_L_cell_15, dd_L_cell_16⟩) (by decide) rfl (gPl.no ho e z2 z3)
theorem k_o_cells {p0 : Int32} {k : Nat} (e : (o_cells S p0).1 = .inr k) : k < 1 := by
  unfold o_cells at e
  (repeat' split at e) <;> first | (cases e; decide) | cases e
set_option maxRecDepth 20000 in
theorem c_L_cells {p0 : Int32} (hX : gX S h) (ho : h 38 = tm_j 1 f) : tm_C M_L_cells 17 5 [.ref 0, .int p0, .ref 38] h (gPl h (o_cells S p0)) := by
  refine tm_C.by (L := [some (.ref 0), some (.int p0), some (.ref 38), none]) rfl rfl rfl rfl rfl ?_
  apply tm_run [] 80
  simp (disch := first | assumption | omega) only [↓reduceIte, tm_w_i, tm_w_0, Bool.false_eq_true, tm_gI_0, tm_gI_s, tm_gA_0, tm_gA_s, tm_fv_0, tm_fv_s, tm_p1_e, tm_pA_e, tm_pJ_e, tm_pV_i, tm_pV_r, tm_cI_e, tm_cZ_e, tm_cJ_e, tm_cQ_e, tm_cO_e, tm_rq_e, List.set_cons_zero, List.set_cons_succ, List.contains_cons, List.contains_nil, Nat.reduceBEq, Bool.or_false, Bool.false_or, Bool.or_true, Bool.true_or, Bool.or_self, cond_true, cond_false, true_and, and_true, or_true, true_or, true_implies, false_implies, not_true_eq_false, not_false_eq_true, List.length_cons, List.length_nil, Option.toList_some, Option.toList_none, List.cons_append, List.nil_append, ws_L_cells_0, ws_L_cells_1, ws_L_cells_2, ws_L_cells_3, ws_L_cells_4, ws_L_cells_7, ws_L_cells_8, ws_L_cells_9, ws_L_cells_15, ws_L_cells_16, tm_up_s, tm_up_n, tm_up_up, nI_leI, nI_ltI, nI_eq, nI_cl, nI_in', ix_1shl, ix_or, ix_xor, nI_1, bI_0, bI_1, bI_F, pk_us, pk_un]
  refine kc_L_cells_4 hX.1.1 (Nat.le_of_ble_eq_true rfl) (by omega) (by omega) (c_N_cells hX) ?_ ?_
  · rintro v hh ⟨z1, z2, z3⟩
    obtain ⟨x, e, rfl⟩ := gOc_l z1
    have ho2 := (z3 38 (by decide)).trans ho
    apply tm_run [] 80
    simp (disch := first | assumption | omega) only [↓reduceIte, tm_w_i, tm_w_0, Bool.false_eq_true, tm_gI_0, tm_gI_s, tm_gA_0, tm_gA_s, tm_fv_0, tm_fv_s, tm_p1_e, tm_pA_e, tm_pJ_e, tm_pV_i, tm_pV_r, tm_cI_e, tm_cZ_e, tm_cJ_e, tm_cQ_e, tm_cO_e, tm_rq_e, List.set_cons_zero, List.set_cons_succ, List.contains_cons, List.contains_nil, Nat.reduceBEq, Bool.or_false, Bool.false_or, Bool.or_true, Bool.true_or, Bool.or_self, cond_true, cond_false, true_and, and_true, or_true, true_or, true_implies, false_implies, not_true_eq_false, not_false_eq_true, List.length_cons, List.length_nil, Option.toList_some, Option.toList_none, List.cons_append, List.nil_append, ws_L_cells_0, ws_L_cells_1, ws_L_cells_2, ws_L_cells_3, ws_L_cells_4, ws_L_cells_7, ws_L_cells_8, ws_L_cells_9, ws_L_cells_15, ws_L_cells_16, tm_up_s, tm_up_n, tm_up_up, nI_leI, nI_ltI, nI_eq, nI_cl, nI_in', ix_1shl, ix_or, ix_xor, nI_1, bI_0, bI_1, bI_F, pk_us, pk_un, ho2, vp_in01]
    exact gPl.yes e z2 z3 rfl
  · rintro k hh ⟨z1, z2, z3⟩
    have e := gOc_r z1
    have hk := k_o_cells e
    obtain rfl : k = 0 := by omega
    exact tm_H_ret (hp := 12) (j := 3) (n := 1) (v := nI (0 + 1)) (ct0 (by decide)) (by decide) (Or.inr ⟨3, rfl, dd_L_cells_12, dd_L_cells_13, dd_L_cells_14⟩) (by decide) rfl (gPl.no ho e z2 z3)
theorem k_o_same {p0 p1 : Int32} {k : Nat} (e : (o_same S p0 p1).1 = .inr k) : k < 1 := by
  unfold o_same at e
  (repeat' split at e) <;> first | (cases e; decide) | cases e
theorem b_o_same {p0 p1 : Int32} {x : Int32} (e : (o_same S p0 p1).1 = .inl x) : ∃ b, x = bI b := by
  unfold o_same at e
  (repeat' split at e) <;> first | (cases e; exact ⟨_, rfl⟩) | cases e
set_option maxRecDepth 20000 in
theorem c_L_same {p0 p1 : Int32} (hX : gX S h) (ho : h 38 = tm_j 1 f) : tm_C M_L_same 17 5 [.ref 0, .int p0, .int p1, .ref 38] h (gPl h (o_same S p0 p1)) := by
  refine tm_C.by (L := [some (.ref 0), some (.int p0), some (.int p1), some (.ref 38), none]) rfl rfl rfl rfl rfl ?_
  apply tm_run [] 80
  simp (disch := first | assumption | omega) only [↓reduceIte, tm_w_i, tm_w_0, Bool.false_eq_true, tm_gI_0, tm_gI_s, tm_gA_0, tm_gA_s, tm_fv_0, tm_fv_s, tm_p1_e, tm_pA_e, tm_pJ_e, tm_pV_i, tm_pV_r, tm_cI_e, tm_cZ_e, tm_cJ_e, tm_cQ_e, tm_cO_e, tm_rq_e, List.set_cons_zero, List.set_cons_succ, List.contains_cons, List.contains_nil, Nat.reduceBEq, Bool.or_false, Bool.false_or, Bool.or_true, Bool.true_or, Bool.or_self, cond_true, cond_false, true_and, and_true, or_true, true_or, true_implies, false_implies, not_true_eq_false, not_false_eq_true, List.length_cons, List.length_nil, Option.toList_some, Option.toList_none, List.cons_append, List.nil_append, ws_L_same_0, ws_L_same_1, ws_L_same_2, ws_L_same_3, ws_L_same_4, ws_L_same_5, ws_L_same_8, ws_L_same_11, ws_L_same_12, ws_L_same_15, ws_L_same_16, ws_L_same_17, ws_L_same_24, ws_L_same_25, tm_up_s, tm_up_n, tm_up_up, nI_leI, nI_ltI, nI_eq, nI_cl, nI_in', ix_1shl, ix_or, ix_xor, nI_1, bI_0, bI_1, bI_F, pk_us, pk_un]
  refine kc_L_same_5 hX.1.1 (Nat.le_of_ble_eq_true rfl) (by omega) (by omega) (c_N_same hX) ?_ ?_
  · rintro v hh ⟨z1, z2, z3⟩
    obtain ⟨x, e, rfl⟩ := gOc_l z1
    have ho2 := (z3 38 (by decide)).trans ho
    obtain ⟨b, rfl⟩ := b_o_same e
    have e8 : ¬ bI true = 0 := by decide
    cases b with
    | false =>
      apply tm_run [] 80
      simp (disch := first | assumption | omega) only [↓reduceIte, tm_w_i, tm_w_0, Bool.false_eq_true, tm_gI_0, tm_gI_s, tm_gA_0, tm_gA_s, tm_fv_0, tm_fv_s, tm_p1_e, tm_pA_e, tm_pJ_e, tm_pV_i, tm_pV_r, tm_cI_e, tm_cZ_e, tm_cJ_e, tm_cQ_e, tm_cO_e, tm_rq_e, List.set_cons_zero, List.set_cons_succ, List.contains_cons, List.contains_nil, Nat.reduceBEq, Bool.or_false, Bool.false_or, Bool.or_true, Bool.true_or, Bool.or_self, cond_true, cond_false, true_and, and_true, or_true, true_or, true_implies, false_implies, not_true_eq_false, not_false_eq_true, List.length_cons, List.length_nil, Option.toList_some, Option.toList_none, List.cons_append, List.nil_append, ws_L_same_0, ws_L_same_1, ws_L_same_2, ws_L_same_3, ws_L_same_4, ws_L_same_5, ws_L_same_8, ws_L_same_11, ws_L_same_12, ws_L_same_15, ws_L_same_16, ws_L_same_17, ws_L_same_24, ws_L_same_25, tm_up_s, tm_up_n, tm_up_up, nI_leI, nI_ltI, nI_eq, nI_cl, nI_in', ix_1shl, ix_or, ix_xor, nI_1, bI_0, bI_1, bI_F, pk_us, pk_un, bI_f, ho2, vp_in01]
      exact gPl.yes e z2 z3 (by decide)
    | true =>
      apply tm_run [] 80
      simp (disch := first | assumption | omega) only [↓reduceIte, tm_w_i, tm_w_0, Bool.false_eq_true, tm_gI_0, tm_gI_s, tm_gA_0, tm_gA_s, tm_fv_0, tm_fv_s, tm_p1_e, tm_pA_e, tm_pJ_e, tm_pV_i, tm_pV_r, tm_cI_e, tm_cZ_e, tm_cJ_e, tm_cQ_e, tm_cO_e, tm_rq_e, List.set_cons_zero, List.set_cons_succ, List.contains_cons, List.contains_nil, Nat.reduceBEq, Bool.or_false, Bool.false_or, Bool.or_true, Bool.true_or, Bool.or_self, cond_true, cond_false, true_and, and_true, or_true, true_or, true_implies, false_implies, not_true_eq_false, not_false_eq_true, List.length_cons, List.length_nil, Option.toList_some, Option.toList_none, List.cons_append, List.nil_append, ws_L_same_0, ws_L_same_1, ws_L_same_2, ws_L_same_3, ws_L_same_4, ws_L_same_5, ws_L_same_8, ws_L_same_11, ws_L_same_12, ws_L_same_15, ws_L_same_16, ws_L_same_17, ws_L_same_24, ws_L_same_25, tm_up_s, tm_up_n, tm_up_up, nI_leI, nI_ltI, nI_eq, nI_cl, nI_in', ix_1shl, ix_or, ix_xor, nI_1, bI_0, bI_1, bI_F, pk_us, pk_un, e8, ho2, vp_in01]
      exact gPl.yes e z2 z3 (by decide)
  · rintro k hh ⟨z1, z2, z3⟩
    have e := gOc_r z1
    have hk := k_o_same e
    obtain rfl : k = 0 := by omega
    exact tm_H_ret (hp := 20) (j := 4) (n := 1) (v := nI (0 + 1)) (ct0 (by decide)) (by decide) (Or.inl ⟨dd_L_same_20, dd_L_same_22, dd_L_same_23⟩) (by decide) rfl (gPl.no ho e z2 z3)
theorem k_o_match {p0 p1 p2 : Int32} {k : Nat} (e : (o_match S p0 p1 p2).1 = .inr k) : k < 1 := by
  unfold o_match at e
  (repeat' split at e) <;> first | (cases e; decide) | cases e
set_option maxRecDepth 20000 in
theorem c_L_match {p0 p1 p2 : Int32} (hX : gX S h) (ho : h 38 = tm_j 1 f) : tm_C M_L_match 17 5 [.ref 0, .int p0, .int p1, .int p2, .ref 38] h (gPl h (o_match S p0 p1 p2)) := by
  refine tm_C.by (L := [some (.ref 0), some (.int p0), some (.int p1), some (.int p2), some (.ref 38), none]) rfl rfl rfl rfl rfl ?_
  apply tm_run [] 80
  simp (disch := first | assumption | omega) only [↓reduceIte, tm_w_i, tm_w_0, Bool.false_eq_true, tm_gI_0, tm_gI_s, tm_gA_0, tm_gA_s, tm_fv_0, tm_fv_s, tm_p1_e, tm_pA_e, tm_pJ_e, tm_pV_i, tm_pV_r, tm_cI_e, tm_cZ_e, tm_cJ_e, tm_cQ_e, tm_cO_e, tm_rq_e, List.set_cons_zero, List.set_cons_succ, List.contains_cons, List.contains_nil, Nat.reduceBEq, Bool.or_false, Bool.false_or, Bool.or_true, Bool.true_or, Bool.or_self, cond_true, cond_false, true_and, and_true, or_true, true_or, true_implies, false_implies, not_true_eq_false, not_false_eq_true, List.length_cons, List.length_nil, Option.toList_some, Option.toList_none, List.cons_append, List.nil_append, ws_L_match_0, ws_L_match_2, ws_L_match_3, ws_L_match_4, ws_L_match_5, ws_L_match_6, ws_L_match_7, ws_L_match_10, ws_L_match_11, ws_L_match_12, ws_L_match_19, ws_L_match_20, tm_up_s, tm_up_n, tm_up_up, nI_leI, nI_ltI, nI_eq, nI_cl, nI_in', ix_1shl, ix_or, ix_xor, nI_1, bI_0, bI_1, bI_F, pk_us, pk_un]
  refine kc_L_match_7 hX.1.1 (Nat.le_of_ble_eq_true rfl) (by omega) (by omega) (c_N_match hX) ?_ ?_
  · rintro v hh ⟨z1, z2, z3⟩
    obtain ⟨x, e, rfl⟩ := gOc_l z1
    have ho2 := (z3 38 (by decide)).trans ho
    apply tm_run [] 80
    simp (disch := first | assumption | omega) only [↓reduceIte, tm_w_i, tm_w_0, Bool.false_eq_true, tm_gI_0, tm_gI_s, tm_gA_0, tm_gA_s, tm_fv_0, tm_fv_s, tm_p1_e, tm_pA_e, tm_pJ_e, tm_pV_i, tm_pV_r, tm_cI_e, tm_cZ_e, tm_cJ_e, tm_cQ_e, tm_cO_e, tm_rq_e, List.set_cons_zero, List.set_cons_succ, List.contains_cons, List.contains_nil, Nat.reduceBEq, Bool.or_false, Bool.false_or, Bool.or_true, Bool.true_or, Bool.or_self, cond_true, cond_false, true_and, and_true, or_true, true_or, true_implies, false_implies, not_true_eq_false, not_false_eq_true, List.length_cons, List.length_nil, Option.toList_some, Option.toList_none, List.cons_append, List.nil_append, ws_L_match_0, ws_L_match_2, ws_L_match_3, ws_L_match_4, ws_L_match_5, ws_L_match_6, ws_L_match_7, ws_L_match_10, ws_L_match_11, ws_L_match_12, ws_L_match_19, ws_L_match_20, tm_up_s, tm_up_n, tm_up_up, nI_leI, nI_ltI, nI_eq, nI_cl, nI_in', ix_1shl, ix_or, ix_xor, nI_1, bI_0, bI_1, bI_F, pk_us, pk_un, ho2, vp_in01]
    exact gPl.yes e z2 z3 rfl
  · rintro k hh ⟨z1, z2, z3⟩
    have e := gOc_r z1
    have hk := k_o_match e
    obtain rfl : k = 0 := by omega
    exact tm_H_ret (hp := 15) (j := 5) (n := 1) (v := nI (0 + 1)) (ct0 (by decide)) (by decide) (Or.inl ⟨dd_L_match_15, dd_L_match_17, dd_L_match_18⟩) (by decide) rfl (gPl.no ho e z2 z3)
theorem k_o_moves {p0 p1 p2 p3 : Int32} {k : Nat} (e : (o_moves S p0 p1 p2 p3).1 = .inr k) : k < 1 := by
  unfold o_moves at e
  (repeat' split at e) <;> first | (cases e; decide) | cases e
theorem b_o_moves {p0 p1 p2 p3 : Int32} {x : Int32} (e : (o_moves S p0 p1 p2 p3).1 = .inl x) : ∃ b, x = bI b := by
  unfold o_moves at e
  (repeat' split at e) <;> first | (cases e; exact ⟨_, rfl⟩) | cases e
set_option maxRecDepth 20000 in
theorem c_L_moves {p0 p1 p2 p3 : Int32} (hX : gX S h) (ho : h 38 = tm_j 1 f) : tm_C M_L_moves 17 5 [.ref 0, .int p0, .int p1, .int p2, .int p3, .ref 38] h (gPl h (o_moves S p0 p1 p2 p3)) := by
  refine tm_C.by (L := [some (.ref 0), some (.int p0), some (.int p1), some (.int p2), some (.int p3), some (.ref 38), none]) rfl rfl rfl rfl rfl ?_
  apply tm_run [] 80
  simp (disch := first | assumption | omega) only [↓reduceIte, tm_w_i, tm_w_0, Bool.false_eq_true, tm_gI_0, tm_gI_s, tm_gA_0, tm_gA_s, tm_fv_0, tm_fv_s, tm_p1_e, tm_pA_e, tm_pJ_e, tm_pV_i, tm_pV_r, tm_cI_e, tm_cZ_e, tm_cJ_e, tm_cQ_e, tm_cO_e, tm_rq_e, List.set_cons_zero, List.set_cons_succ, List.contains_cons, List.contains_nil, Nat.reduceBEq, Bool.or_false, Bool.false_or, Bool.or_true, Bool.true_or, Bool.or_self, cond_true, cond_false, true_and, and_true, or_true, true_or, true_implies, false_implies, not_true_eq_false, not_false_eq_true, List.length_cons, List.length_nil, Option.toList_some, Option.toList_none, List.cons_append, List.nil_append, ws_L_moves_0, ws_L_moves_2, ws_L_moves_3, ws_L_moves_4, ws_L_moves_5, ws_L_moves_6, ws_L_moves_7, ws_L_moves_9, ws_L_moves_12, ws_L_moves_15, ws_L_moves_16, ws_L_moves_19, ws_L_moves_20, ws_L_moves_21, ws_L_moves_28, ws_L_moves_29, tm_up_s, tm_up_n, tm_up_up, nI_leI, nI_ltI, nI_eq, nI_cl, nI_in', ix_1shl, ix_or, ix_xor, nI_1, bI_0, bI_1, bI_F, pk_us, pk_un]
  refine kc_L_moves_9 hX.1.1 (Nat.le_of_ble_eq_true rfl) (by omega) (by omega) (c_N_moves hX) ?_ ?_
  · rintro v hh ⟨z1, z2, z3⟩
    obtain ⟨x, e, rfl⟩ := gOc_l z1
    have ho2 := (z3 38 (by decide)).trans ho
    obtain ⟨b, rfl⟩ := b_o_moves e
    have e8 : ¬ bI true = 0 := by decide
    cases b with
    | false =>
      apply tm_run [] 80
      simp (disch := first | assumption | omega) only [↓reduceIte, tm_w_i, tm_w_0, Bool.false_eq_true, tm_gI_0, tm_gI_s, tm_gA_0, tm_gA_s, tm_fv_0, tm_fv_s, tm_p1_e, tm_pA_e, tm_pJ_e, tm_pV_i, tm_pV_r, tm_cI_e, tm_cZ_e, tm_cJ_e, tm_cQ_e, tm_cO_e, tm_rq_e, List.set_cons_zero, List.set_cons_succ, List.contains_cons, List.contains_nil, Nat.reduceBEq, Bool.or_false, Bool.false_or, Bool.or_true, Bool.true_or, Bool.or_self, cond_true, cond_false, true_and, and_true, or_true, true_or, true_implies, false_implies, not_true_eq_false, not_false_eq_true, List.length_cons, List.length_nil, Option.toList_some, Option.toList_none, List.cons_append, List.nil_append, ws_L_moves_0, ws_L_moves_2, ws_L_moves_3, ws_L_moves_4, ws_L_moves_5, ws_L_moves_6, ws_L_moves_7, ws_L_moves_9, ws_L_moves_12, ws_L_moves_15, ws_L_moves_16, ws_L_moves_19, ws_L_moves_20, ws_L_moves_21, ws_L_moves_28, ws_L_moves_29, tm_up_s, tm_up_n, tm_up_up, nI_leI, nI_ltI, nI_eq, nI_cl, nI_in', ix_1shl, ix_or, ix_xor, nI_1, bI_0, bI_1, bI_F, pk_us, pk_un, bI_f, ho2, vp_in01]
      exact gPl.yes e z2 z3 (by decide)
    | true =>
      apply tm_run [] 80
      simp (disch := first | assumption | omega) only [↓reduceIte, tm_w_i, tm_w_0, Bool.false_eq_true, tm_gI_0, tm_gI_s, tm_gA_0, tm_gA_s, tm_fv_0, tm_fv_s, tm_p1_e, tm_pA_e, tm_pJ_e, tm_pV_i, tm_pV_r, tm_cI_e, tm_cZ_e, tm_cJ_e, tm_cQ_e, tm_cO_e, tm_rq_e, List.set_cons_zero, List.set_cons_succ, List.contains_cons, List.contains_nil, Nat.reduceBEq, Bool.or_false, Bool.false_or, Bool.or_true, Bool.true_or, Bool.or_self, cond_true, cond_false, true_and, and_true, or_true, true_or, true_implies, false_implies, not_true_eq_false, not_false_eq_true, List.length_cons, List.length_nil, Option.toList_some, Option.toList_none, List.cons_append, List.nil_append, ws_L_moves_0, ws_L_moves_2, ws_L_moves_3, ws_L_moves_4, ws_L_moves_5, ws_L_moves_6, ws_L_moves_7, ws_L_moves_9, ws_L_moves_12, ws_L_moves_15, ws_L_moves_16, ws_L_moves_19, ws_L_moves_20, ws_L_moves_21, ws_L_moves_28, ws_L_moves_29, tm_up_s, tm_up_n, tm_up_up, nI_leI, nI_ltI, nI_eq, nI_cl, nI_in', ix_1shl, ix_or, ix_xor, nI_1, bI_0, bI_1, bI_F, pk_us, pk_un, e8, ho2, vp_in01]
      exact gPl.yes e z2 z3 (by decide)
  · rintro k hh ⟨z1, z2, z3⟩
    have e := gOc_r z1
    have hk := k_o_moves e
    obtain rfl : k = 0 := by omega
    exact tm_H_ret (hp := 24) (j := 6) (n := 1) (v := nI (0 + 1)) (ct0 (by decide)) (by decide) (Or.inl ⟨dd_L_moves_24, dd_L_moves_26, dd_L_moves_27⟩) (by decide) rfl (gPl.no ho e z2 z3)
end DA
