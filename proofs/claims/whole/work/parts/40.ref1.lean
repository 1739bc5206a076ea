section CA
/-- the reference's data -/
def gYd (S : gSt) (h : tm_Hp) : Prop := ∃ sz co ed : Nat → Int32, h 28 = tm_i 3 sz ∧ h 29 = tm_i 21 co ∧ h 30 = tm_z 147 ed ∧ ∀ g, g < 3 → sz g = nI (S.1 g) ∧ gOk (S.1 g) (S.2.1 g) (S.2.2 g) ∧ (∀ v, v < S.1 g → co (7 * g + v) = nI (S.2.1 g v)) ∧ ∀ v w, v < S.1 g → w < S.1 g → ed (49 * g + 7 * v + w) = bI ((S.2.2 g v).testBit w)
def gYs (h : tm_Hp) : Prop := (∃ f, h 31 = tm_i 7 f) ∧ (∃ f, h 32 = tm_i 7 f) ∧ (∃ f, h 33 = tm_i 7 f) ∧ (∃ f, h 34 = tm_i 7 f) ∧ (∃ f, h 35 = tm_i 7 f) ∧ (∃ f, h 36 = tm_i 7 f) ∧ ∃ f, h 37 = tm_z 49 f
def gYq (S : gSt) (t : Int32) (h : tm_Hp) : Prop := (∃ l ol, h 27 = tm_o 5 [.int t, .ref 28, .ref 29, .ref 30, .ref 31, .ref 32, .int l, .ref 33, .int ol, .ref 34, .ref 35, .ref 36, .ref 37]) ∧ gYd S h ∧ gYs h
def gTh : Int32 ⊕ Nat → Int32
  | .inl _ => 0
  | .inr k => nI (k + 1)
def gPq (h : tm_Hp) (q : gRs) : tm_O → tm_Hp → Prop := fun z h' => ∃ b, z = .inl (some (.int b)) ∧ gYq q.2 (gTh q.1) h' ∧ (∀ k, k < 27 ∨ 38 ≤ k → h' k = h k) ∧ ∀ v, q.1 = .inl v → b = v
variable {S : gSt} {h : tm_Hp} {t l ol : Int32}
set_option maxRecDepth 20000 in
theorem c_R_thrown (h0 : h 27 = tm_o 5 [.int t, .ref 28, .ref 29, .ref 30, .ref 31, .ref 32, .int l, .ref 33, .int ol, .ref 34, .ref 35, .ref 36, .ref 37]) : tm_C M_R_thrown 0 0 [.ref 27] h (fun z k => z = .inl (some (.int t)) ∧ k = h) := by
  refine tm_C.by (L := [some (.ref 27)]) rfl rfl rfl rfl rfl ?_
  apply tm_run [] 80
  simp (disch := first | assumption | omega) only [↓reduceIte, tm_w_i, tm_w_0, Bool.false_eq_true, tm_gI_0, tm_gI_s, tm_gA_0, tm_gA_s, tm_fv_0, tm_fv_s, tm_p1_e, tm_pA_e, tm_pJ_e, tm_pV_i, tm_pV_r, tm_cI_e, tm_cZ_e, tm_cJ_e, tm_cQ_e, tm_cO_e, tm_rq_e, List.set_cons_zero, List.set_cons_succ, List.contains_cons, List.contains_nil, Nat.reduceBEq, Bool.or_false, Bool.false_or, Bool.or_true, Bool.true_or, Bool.or_self, cond_true, cond_false, true_and, and_true, or_true, true_or, true_implies, false_implies, not_true_eq_false, not_false_eq_true, List.length_cons, List.length_nil, Option.toList_some, Option.toList_none, List.cons_append, List.nil_append, ws_R_thrown_0, ws_R_thrown_1, ws_R_thrown_4, tm_up_s, tm_up_n, tm_up_up, nI_leI, nI_ltI, nI_eq, nI_cl, nI_in', ix_1shl, ix_or, ix_xor, nI_1, bI_0, bI_1, bI_F, pk_us, pk_un, h0]
set_option maxRecDepth 20000 in
theorem c_R_refused {x : Nat} (h0 : h 27 = tm_o 5 [.int t, .ref 28, .ref 29, .ref 30, .ref 31, .ref 32, .int l, .ref 33, .int ol, .ref 34, .ref 35, .ref 36, .ref 37]) (hx : x < 4) : tm_C M_R_refused 0 0 [.ref 27, .int (nI x)] h (fun z k => z = .inl (some (.int (bI (decide (0 < x))))) ∧ k = tm_up h 27 (tm_o 5 [.int (nI x), .ref 28, .ref 29, .ref 30, .ref 31, .ref 32, .int l, .ref 33, .int ol, .ref 34, .ref 35, .ref 36, .ref 37])) := by
  refine tm_C.by (L := [some (.ref 27), some (.int (nI x))]) rfl rfl rfl rfl rfl ?_
  have e : nI x ≤ 0 ↔ x ≤ 0 := by rw [i_0]; exact nI_leI (by omega) (by omega)
  apply tm_run [] 80
  simp (disch := first | assumption | omega) only [↓reduceIte, tm_w_i, tm_w_0, Bool.false_eq_true, tm_gI_0, tm_gI_s, tm_gA_0, tm_gA_s, tm_fv_0, tm_fv_s, tm_p1_e, tm_pA_e, tm_pJ_e, tm_pV_i, tm_pV_r, tm_cI_e, tm_cZ_e, tm_cJ_e, tm_cQ_e, tm_cO_e, tm_rq_e, List.set_cons_zero, List.set_cons_succ, List.contains_cons, List.contains_nil, Nat.reduceBEq, Bool.or_false, Bool.false_or, Bool.or_true, Bool.true_or, Bool.or_self, cond_true, cond_false, true_and, and_true, or_true, true_or, true_implies, false_implies, not_true_eq_false, not_false_eq_true, List.length_cons, List.length_nil, Option.toList_some, Option.toList_none, List.cons_append, List.nil_append, ws_R_refused_0, ws_R_refused_1, ws_R_refused_2, ws_R_refused_5, ws_R_refused_6, ws_R_refused_9, ws_R_refused_10, ws_R_refused_13, ws_R_refused_14, tm_up_s, tm_up_n, tm_up_up, nI_leI, nI_ltI, nI_eq, nI_cl, nI_in', ix_1shl, ix_or, ix_xor, nI_1, bI_0, bI_1, bI_F, pk_us, pk_un, h0, e]
  refine ⟨by decide, fun q => ?_, fun q => ?_⟩
  · have : decide (0 < x) = false := decide_eq_false (by omega)
    rw [this]; rfl
  · have : decide (0 < x) = true := decide_eq_true (by omega)
    rw [this]; rfl
set_option maxRecDepth 20000 in
theorem c_R_noGraph {x : Int32} : tm_C M_R_noGraph 0 0 [.int x] h (fun z k => z = .inl (some (.int (bI (gI 3 x).isNone))) ∧ k = h) := by
  refine tm_C.by (L := [some (.int x)]) rfl rfl rfl rfl rfl ?_
  rcases gI_c (N := 3) (by decide) x with ⟨e, hx | ⟨hx, hx2⟩⟩ | ⟨j, hj, rfl, e⟩
  · rw [e]
    apply tm_run [] 80
    simp (disch := first | assumption | omega) only [↓reduceIte, tm_w_i, tm_w_0, Bool.false_eq_true, tm_gI_0, tm_gI_s, tm_gA_0, tm_gA_s, tm_fv_0, tm_fv_s, tm_p1_e, tm_pA_e, tm_pJ_e, tm_pV_i, tm_pV_r, tm_cI_e, tm_cZ_e, tm_cJ_e, tm_cQ_e, tm_cO_e, tm_rq_e, List.set_cons_zero, List.set_cons_succ, List.contains_cons, List.contains_nil, Nat.reduceBEq, Bool.or_false, Bool.false_or, Bool.or_true, Bool.true_or, Bool.or_self, cond_true, cond_false, true_and, and_true, or_true, true_or, true_implies, false_implies, not_true_eq_false, not_false_eq_true, List.length_cons, List.length_nil, Option.toList_some, Option.toList_none, List.cons_append, List.nil_append, ws_R_noGraph_0, ws_R_noGraph_1, ws_R_noGraph_4, ws_R_noGraph_5, ws_R_noGraph_6, ws_R_noGraph_9, ws_R_noGraph_10, ws_R_noGraph_13, ws_R_noGraph_14, tm_up_s, tm_up_n, tm_up_up, nI_leI, nI_ltI, nI_eq, nI_cl, nI_in', ix_1shl, ix_or, ix_xor, nI_1, bI_0, bI_1, bI_F, pk_us, pk_un, hx]
    try rfl
  · rw [e]
    have h3 : ¬ x ≤ 2 := fun q => absurd (Int32.le_trans hx2 q) (by decide)
    apply tm_run [] 80
    simp (disch := first | assumption | omega) only [↓reduceIte, tm_w_i, tm_w_0, Bool.false_eq_true, tm_gI_0, tm_gI_s, tm_gA_0, tm_gA_s, tm_fv_0, tm_fv_s, tm_p1_e, tm_pA_e, tm_pJ_e, tm_pV_i, tm_pV_r, tm_cI_e, tm_cZ_e, tm_cJ_e, tm_cQ_e, tm_cO_e, tm_rq_e, List.set_cons_zero, List.set_cons_succ, List.contains_cons, List.contains_nil, Nat.reduceBEq, Bool.or_false, Bool.false_or, Bool.or_true, Bool.true_or, Bool.or_self, cond_true, cond_false, true_and, and_true, or_true, true_or, true_implies, false_implies, not_true_eq_false, not_false_eq_true, List.length_cons, List.length_nil, Option.toList_some, Option.toList_none, List.cons_append, List.nil_append, ws_R_noGraph_0, ws_R_noGraph_1, ws_R_noGraph_4, ws_R_noGraph_5, ws_R_noGraph_6, ws_R_noGraph_9, ws_R_noGraph_10, ws_R_noGraph_13, ws_R_noGraph_14, tm_up_s, tm_up_n, tm_up_up, nI_leI, nI_ltI, nI_eq, nI_cl, nI_in', ix_1shl, ix_or, ix_xor, nI_1, bI_0, bI_1, bI_F, pk_us, pk_un, hx, h3]
    try rfl
  · rw [e]
    have hp : ¬ nI j < 0 := nI_pos (by omega)
    have h2 : j ≤ 2 := by omega
    apply tm_run [] 80
    simp (disch := first | assumption | omega) only [↓reduceIte, tm_w_i, tm_w_0, Bool.false_eq_true, tm_gI_0, tm_gI_s, tm_gA_0, tm_gA_s, tm_fv_0, tm_fv_s, tm_p1_e, tm_pA_e, tm_pJ_e, tm_pV_i, tm_pV_r, tm_cI_e, tm_cZ_e, tm_cJ_e, tm_cQ_e, tm_cO_e, tm_rq_e, List.set_cons_zero, List.set_cons_succ, List.contains_cons, List.contains_nil, Nat.reduceBEq, Bool.or_false, Bool.false_or, Bool.or_true, Bool.true_or, Bool.or_self, cond_true, cond_false, true_and, and_true, or_true, true_or, true_implies, false_implies, not_true_eq_false, not_false_eq_true, List.length_cons, List.length_nil, Option.toList_some, Option.toList_none, List.cons_append, List.nil_append, ws_R_noGraph_0, ws_R_noGraph_1, ws_R_noGraph_4, ws_R_noGraph_5, ws_R_noGraph_6, ws_R_noGraph_9, ws_R_noGraph_10, ws_R_noGraph_13, ws_R_noGraph_14, tm_up_s, tm_up_n, tm_up_up, nI_leI, nI_ltI, nI_eq, nI_cl, nI_in', ix_1shl, ix_or, ix_xor, nI_1, bI_0, bI_1, bI_F, pk_us, pk_un, hp, i_2, h2]
    try rfl
theorem gYd.sz {j : Nat} (x : gYd S h) (hj : j < 3) : ∃ sz : Nat → Int32, h 28 = tm_i 3 sz ∧ sz j = nI (S.1 j) ∧ S.1 j ≤ 7 := by
  obtain ⟨sz, co, ed, a1, a2, a3, a4⟩ := x
  exact ⟨sz, a1, (a4 j hj).1, (a4 j hj).2.1.1⟩
/-- no vertex -/
def gNv (S : gSt) (g v : Int32) : Bool := match gI 3 g with
  | none => true
  | some j => (gI (S.1 j) v).isNone
set_option maxRecDepth 20000 in
theorem c_R_noVertex {g v : Int32} (h0 : h 27 = tm_o 5 [.int t, .ref 28, .ref 29, .ref 30, .ref 31, .ref 32, .int l, .ref 33, .int ol, .ref 34, .ref 35, .ref 36, .ref 37]) (hd : gYd S h) : tm_C M_R_noVertex 1 0 [.ref 27, .int g, .int v] h (fun z k => z = .inl (some (.int (bI (gNv S g v)))) ∧ k = h) := by
  refine tm_C.by (L := [some (.ref 27), some (.int g), some (.int v)]) rfl rfl rfl rfl rfl ?_
  have e8 : ¬ bI true = 0 := by decide
  apply tm_run [] 80
  simp (disch := first | assumption | omega) only [↓reduceIte, tm_w_i, tm_w_0, Bool.false_eq_true, tm_gI_0, tm_gI_s, tm_gA_0, tm_gA_s, tm_fv_0, tm_fv_s, tm_p1_e, tm_pA_e, tm_pJ_e, tm_pV_i, tm_pV_r, tm_cI_e, tm_cZ_e, tm_cJ_e, tm_cQ_e, tm_cO_e, tm_rq_e, List.set_cons_zero, List.set_cons_succ, List.contains_cons, List.contains_nil, Nat.reduceBEq, Bool.or_false, Bool.false_or, Bool.or_true, Bool.true_or, Bool.or_self, cond_true, cond_false, true_and, and_true, or_true, true_or, true_implies, false_implies, not_true_eq_false, not_false_eq_true, List.length_cons, List.length_nil, Option.toList_some, Option.toList_none, List.cons_append, List.nil_append, ws_R_noVertex_0, ws_R_noVertex_1, ws_R_noVertex_4, ws_R_noVertex_7, ws_R_noVertex_8, ws_R_noVertex_11, ws_R_noVertex_12, ws_R_noVertex_13, ws_R_noVertex_16, ws_R_noVertex_17, ws_R_noVertex_18, ws_R_noVertex_21, ws_R_noVertex_22, ws_R_noVertex_25, ws_R_noVertex_26, tm_up_s, tm_up_n, tm_up_up, nI_leI, nI_ltI, nI_eq, nI_cl, nI_in', ix_1shl, ix_or, ix_xor, nI_1, bI_0, bI_1, bI_F, pk_us, pk_un]
  refine kd_R_noVertex_1 (Nat.le_of_ble_eq_true rfl) (by omega) (by omega) c_R_noGraph ?_
  rcases gI_c (N := 3) (by decide) g with ⟨e, hx⟩ | ⟨j, hj, rfl, e⟩
  · have : gNv S g v = true := by simp only [gNv, e]
    rw [this, e]
    apply tm_run [] 80
    simp (disch := first | assumption | omega) only [↓reduceIte, tm_w_i, tm_w_0, Bool.false_eq_true, tm_gI_0, tm_gI_s, tm_gA_0, tm_gA_s, tm_fv_0, tm_fv_s, tm_p1_e, tm_pA_e, tm_pJ_e, tm_pV_i, tm_pV_r, tm_cI_e, tm_cZ_e, tm_cJ_e, tm_cQ_e, tm_cO_e, tm_rq_e, List.set_cons_zero, List.set_cons_succ, List.contains_cons, List.contains_nil, Nat.reduceBEq, Bool.or_false, Bool.false_or, Bool.or_true, Bool.true_or, Bool.or_self, cond_true, cond_false, true_and, and_true, or_true, true_or, true_implies, false_implies, not_true_eq_false, not_false_eq_true, List.length_cons, List.length_nil, Option.toList_some, Option.toList_none, List.cons_append, List.nil_append, ws_R_noVertex_0, ws_R_noVertex_1, ws_R_noVertex_4, ws_R_noVertex_7, ws_R_noVertex_8, ws_R_noVertex_11, ws_R_noVertex_12, ws_R_noVertex_13, ws_R_noVertex_16, ws_R_noVertex_17, ws_R_noVertex_18, ws_R_noVertex_21, ws_R_noVertex_22, ws_R_noVertex_25, ws_R_noVertex_26, tm_up_s, tm_up_n, tm_up_up, nI_leI, nI_ltI, nI_eq, nI_cl, nI_in', ix_1shl, ix_or, ix_xor, nI_1, bI_0, bI_1, bI_F, pk_us, pk_un, Option.isNone_none, e8]
    try rfl
  · obtain ⟨sz, a1, a2, a3⟩ := hd.sz hj
    have hgn : gNv S (nI j) v = (gI (S.1 j) v).isNone := by simp only [gNv, e]
    rw [hgn, e]
    rcases gI_c (N := S.1 j) (by omega) v with ⟨e2, hx | ⟨hx, hx2⟩⟩ | ⟨v, hv, rfl, e2⟩
    · rw [e2]
      apply tm_run [] 80
      simp (disch := first | assumption | omega) only [↓reduceIte, tm_w_i, tm_w_0, Bool.false_eq_true, tm_gI_0, tm_gI_s, tm_gA_0, tm_gA_s, tm_fv_0, tm_fv_s, tm_p1_e, tm_pA_e, tm_pJ_e, tm_pV_i, tm_pV_r, tm_cI_e, tm_cZ_e, tm_cJ_e, tm_cQ_e, tm_cO_e, tm_rq_e, List.set_cons_zero, List.set_cons_succ, List.contains_cons, List.contains_nil, Nat.reduceBEq, Bool.or_false, Bool.false_or, Bool.or_true, Bool.true_or, Bool.or_self, cond_true, cond_false, true_and, and_true, or_true, true_or, true_implies, false_implies, not_true_eq_false, not_false_eq_true, List.length_cons, List.length_nil, Option.toList_some, Option.toList_none, List.cons_append, List.nil_append, ws_R_noVertex_0, ws_R_noVertex_1, ws_R_noVertex_4, ws_R_noVertex_7, ws_R_noVertex_8, ws_R_noVertex_11, ws_R_noVertex_12, ws_R_noVertex_13, ws_R_noVertex_16, ws_R_noVertex_17, ws_R_noVertex_18, ws_R_noVertex_21, ws_R_noVertex_22, ws_R_noVertex_25, ws_R_noVertex_26, tm_up_s, tm_up_n, tm_up_up, nI_leI, nI_ltI, nI_eq, nI_cl, nI_in', ix_1shl, ix_or, ix_xor, nI_1, bI_0, bI_1, bI_F, pk_us, pk_un, Option.isNone_some, bI_f, hx]
      try rfl
    · rw [e2]
      have h3 : ¬ v < nI (S.1 j) := Int32.not_lt.mpr hx2
      apply tm_run [] 80
      simp (disch := first | assumption | omega) only [↓reduceIte, tm_w_i, tm_w_0, Bool.false_eq_true, tm_gI_0, tm_gI_s, tm_gA_0, tm_gA_s, tm_fv_0, tm_fv_s, tm_p1_e, tm_pA_e, tm_pJ_e, tm_pV_i, tm_pV_r, tm_cI_e, tm_cZ_e, tm_cJ_e, tm_cQ_e, tm_cO_e, tm_rq_e, List.set_cons_zero, List.set_cons_succ, List.contains_cons, List.contains_nil, Nat.reduceBEq, Bool.or_false, Bool.false_or, Bool.or_true, Bool.true_or, Bool.or_self, cond_true, cond_false, true_and, and_true, or_true, true_or, true_implies, false_implies, not_true_eq_false, not_false_eq_true, List.length_cons, List.length_nil, Option.toList_some, Option.toList_none, List.cons_append, List.nil_append, ws_R_noVertex_0, ws_R_noVertex_1, ws_R_noVertex_4, ws_R_noVertex_7, ws_R_noVertex_8, ws_R_noVertex_11, ws_R_noVertex_12, ws_R_noVertex_13, ws_R_noVertex_16, ws_R_noVertex_17, ws_R_noVertex_18, ws_R_noVertex_21, ws_R_noVertex_22, ws_R_noVertex_25, ws_R_noVertex_26, tm_up_s, tm_up_n, tm_up_up, nI_leI, nI_ltI, nI_eq, nI_cl, nI_in', ix_1shl, ix_or, ix_xor, nI_1, bI_0, bI_1, bI_F, pk_us, pk_un, Option.isNone_some, bI_f, hx, h0, a1, a2, h3]
      try rfl
    · rw [e2]
      have hp : ¬ nI v < 0 := nI_pos (by omega)
      apply tm_run [] 80
      simp (disch := first | assumption | omega) only [↓reduceIte, tm_w_i, tm_w_0, Bool.false_eq_true, tm_gI_0, tm_gI_s, tm_gA_0, tm_gA_s, tm_fv_0, tm_fv_s, tm_p1_e, tm_pA_e, tm_pJ_e, tm_pV_i, tm_pV_r, tm_cI_e, tm_cZ_e, tm_cJ_e, tm_cQ_e, tm_cO_e, tm_rq_e, List.set_cons_zero, List.set_cons_succ, List.contains_cons, List.contains_nil, Nat.reduceBEq, Bool.or_false, Bool.false_or, Bool.or_true, Bool.true_or, Bool.or_self, cond_true, cond_false, true_and, and_true, or_true, true_or, true_implies, false_implies, not_true_eq_false, not_false_eq_true, List.length_cons, List.length_nil, Option.toList_some, Option.toList_none, List.cons_append, List.nil_append, ws_R_noVertex_0, ws_R_noVertex_1, ws_R_noVertex_4, ws_R_noVertex_7, ws_R_noVertex_8, ws_R_noVertex_11, ws_R_noVertex_12, ws_R_noVertex_13, ws_R_noVertex_16, ws_R_noVertex_17, ws_R_noVertex_18, ws_R_noVertex_21, ws_R_noVertex_22, ws_R_noVertex_25, ws_R_noVertex_26, tm_up_s, tm_up_n, tm_up_up, nI_leI, nI_ltI, nI_eq, nI_cl, nI_in', ix_1shl, ix_or, ix_xor, nI_1, bI_0, bI_1, bI_F, pk_us, pk_un, Option.isNone_some, bI_f, hp, h0, a1, a2, hv]
      try rfl
/-- a set with a vertex that isn't there -/
def gNs (S : gSt) (g s : Int32) : Bool := match gI 3 g with
  | none => true
  | some j => (gI (2 ^ S.1 j) s).isNone
set_option maxRecDepth 20000 in
theorem c_R_strange {g v : Int32} (h0 : h 27 = tm_o 5 [.int t, .ref 28, .ref 29, .ref 30, .ref 31, .ref 32, .int l, .ref 33, .int ol, .ref 34, .ref 35, .ref 36, .ref 37]) (hd : gYd S h) : tm_C M_R_strange 1 0 [.ref 27, .int g, .int v] h (fun z k => z = .inl (some (.int (bI (gNs S g v)))) ∧ k = h) := by
  refine tm_C.by (L := [some (.ref 27), some (.int g), some (.int v)]) rfl rfl rfl rfl rfl ?_
  have e8 : ¬ bI true = 0 := by decide
  apply tm_run [] 80
  simp (disch := first | assumption | omega) only [↓reduceIte, tm_w_i, tm_w_0, Bool.false_eq_true, tm_gI_0, tm_gI_s, tm_gA_0, tm_gA_s, tm_fv_0, tm_fv_s, tm_p1_e, tm_pA_e, tm_pJ_e, tm_pV_i, tm_pV_r, tm_cI_e, tm_cZ_e, tm_cJ_e, tm_cQ_e, tm_cO_e, tm_rq_e, List.set_cons_zero, List.set_cons_succ, List.contains_cons, List.contains_nil, Nat.reduceBEq, Bool.or_false, Bool.false_or, Bool.or_true, Bool.true_or, Bool.or_self, cond_true, cond_false, true_and, and_true, or_true, true_or, true_implies, false_implies, not_true_eq_false, not_false_eq_true, List.length_cons, List.length_nil, Option.toList_some, Option.toList_none, List.cons_append, List.nil_append, ws_R_strange_0, ws_R_strange_1, ws_R_strange_4, ws_R_strange_7, ws_R_strange_8, ws_R_strange_11, ws_R_strange_12, ws_R_strange_13, ws_R_strange_14, ws_R_strange_17, ws_R_strange_18, ws_R_strange_19, ws_R_strange_20, ws_R_strange_23, ws_R_strange_24, ws_R_strange_27, ws_R_strange_28, tm_up_s, tm_up_n, tm_up_up, nI_leI, nI_ltI, nI_eq, nI_cl, nI_in', ix_1shl, ix_or, ix_xor, nI_1, bI_0, bI_1, bI_F, pk_us, pk_un]
  refine kd_R_strange_1 (Nat.le_of_ble_eq_true rfl) (by omega) (by omega) c_R_noGraph ?_
  rcases gI_c (N := 3) (by decide) g with ⟨e, hx⟩ | ⟨j, hj, rfl, e⟩
  · have : gNs S g v = true := by simp only [gNs, e]
    rw [this, e]
    apply tm_run [] 80
    simp (disch := first | assumption | omega) only [↓reduceIte, tm_w_i, tm_w_0, Bool.false_eq_true, tm_gI_0, tm_gI_s, tm_gA_0, tm_gA_s, tm_fv_0, tm_fv_s, tm_p1_e, tm_pA_e, tm_pJ_e, tm_pV_i, tm_pV_r, tm_cI_e, tm_cZ_e, tm_cJ_e, tm_cQ_e, tm_cO_e, tm_rq_e, List.set_cons_zero, List.set_cons_succ, List.contains_cons, List.contains_nil, Nat.reduceBEq, Bool.or_false, Bool.false_or, Bool.or_true, Bool.true_or, Bool.or_self, cond_true, cond_false, true_and, and_true, or_true, true_or, true_implies, false_implies, not_true_eq_false, not_false_eq_true, List.length_cons, List.length_nil, Option.toList_some, Option.toList_none, List.cons_append, List.nil_append, ws_R_strange_0, ws_R_strange_1, ws_R_strange_4, ws_R_strange_7, ws_R_strange_8, ws_R_strange_11, ws_R_strange_12, ws_R_strange_13, ws_R_strange_14, ws_R_strange_17, ws_R_strange_18, ws_R_strange_19, ws_R_strange_20, ws_R_strange_23, ws_R_strange_24, ws_R_strange_27, ws_R_strange_28, tm_up_s, tm_up_n, tm_up_up, nI_leI, nI_ltI, nI_eq, nI_cl, nI_in', ix_1shl, ix_or, ix_xor, nI_1, bI_0, bI_1, bI_F, pk_us, pk_un, Option.isNone_none, e8]
    try rfl
  · obtain ⟨sz, a1, a2, a3⟩ := hd.sz hj
    have hp2 : 2 ^ S.1 j ≤ 2 ^ 7 := Nat.pow_le_pow_right (by decide) a3
    have hgn : gNs S (nI j) v = (gI (2 ^ S.1 j) v).isNone := by simp only [gNs, e]
    rw [hgn, e]
    rcases gI_c (N := 2 ^ S.1 j) (by omega) v with ⟨e2, hx | ⟨hx, hx2⟩⟩ | ⟨v, hv, rfl, e2⟩
    · rw [e2]
      apply tm_run [] 80
      simp (disch := first | assumption | omega) only [↓reduceIte, tm_w_i, tm_w_0, Bool.false_eq_true, tm_gI_0, tm_gI_s, tm_gA_0, tm_gA_s, tm_fv_0, tm_fv_s, tm_p1_e, tm_pA_e, tm_pJ_e, tm_pV_i, tm_pV_r, tm_cI_e, tm_cZ_e, tm_cJ_e, tm_cQ_e, tm_cO_e, tm_rq_e, List.set_cons_zero, List.set_cons_succ, List.contains_cons, List.contains_nil, Nat.reduceBEq, Bool.or_false, Bool.false_or, Bool.or_true, Bool.true_or, Bool.or_self, cond_true, cond_false, true_and, and_true, or_true, true_or, true_implies, false_implies, not_true_eq_false, not_false_eq_true, List.length_cons, List.length_nil, Option.toList_some, Option.toList_none, List.cons_append, List.nil_append, ws_R_strange_0, ws_R_strange_1, ws_R_strange_4, ws_R_strange_7, ws_R_strange_8, ws_R_strange_11, ws_R_strange_12, ws_R_strange_13, ws_R_strange_14, ws_R_strange_17, ws_R_strange_18, ws_R_strange_19, ws_R_strange_20, ws_R_strange_23, ws_R_strange_24, ws_R_strange_27, ws_R_strange_28, tm_up_s, tm_up_n, tm_up_up, nI_leI, nI_ltI, nI_eq, nI_cl, nI_in', ix_1shl, ix_or, ix_xor, nI_1, bI_0, bI_1, bI_F, pk_us, pk_un, Option.isNone_some, bI_f, hx]
      try rfl
    · rw [e2]
      have h3 : ¬ v < nI (2 ^ S.1 j) := Int32.not_lt.mpr hx2
      apply tm_run [] 80
      simp (disch := first | assumption | omega) only [↓reduceIte, tm_w_i, tm_w_0, Bool.false_eq_true, tm_gI_0, tm_gI_s, tm_gA_0, tm_gA_s, tm_fv_0, tm_fv_s, tm_p1_e, tm_pA_e, tm_pJ_e, tm_pV_i, tm_pV_r, tm_cI_e, tm_cZ_e, tm_cJ_e, tm_cQ_e, tm_cO_e, tm_rq_e, List.set_cons_zero, List.set_cons_succ, List.contains_cons, List.contains_nil, Nat.reduceBEq, Bool.or_false, Bool.false_or, Bool.or_true, Bool.true_or, Bool.or_self, cond_true, cond_false, true_and, and_true, or_true, true_or, true_implies, false_implies, not_true_eq_false, not_false_eq_true, List.length_cons, List.length_nil, Option.toList_some, Option.toList_none, List.cons_append, List.nil_append, ws_R_strange_0, ws_R_strange_1, ws_R_strange_4, ws_R_strange_7, ws_R_strange_8, ws_R_strange_11, ws_R_strange_12, ws_R_strange_13, ws_R_strange_14, ws_R_strange_17, ws_R_strange_18, ws_R_strange_19, ws_R_strange_20, ws_R_strange_23, ws_R_strange_24, ws_R_strange_27, ws_R_strange_28, tm_up_s, tm_up_n, tm_up_up, nI_leI, nI_ltI, nI_eq, nI_cl, nI_in', ix_1shl, ix_or, ix_xor, nI_1, bI_0, bI_1, bI_F, pk_us, pk_un, Option.isNone_some, bI_f, hx, h0, a1, a2, h3]
      try rfl
    · rw [e2]
      have hp : ¬ nI v < 0 := nI_pos (by omega)
      apply tm_run [] 80
      simp (disch := first | assumption | omega) only [↓reduceIte, tm_w_i, tm_w_0, Bool.false_eq_true, tm_gI_0, tm_gI_s, tm_gA_0, tm_gA_s, tm_fv_0, tm_fv_s, tm_p1_e, tm_pA_e, tm_pJ_e, tm_pV_i, tm_pV_r, tm_cI_e, tm_cZ_e, tm_cJ_e, tm_cQ_e, tm_cO_e, tm_rq_e, List.set_cons_zero, List.set_cons_succ, List.contains_cons, List.contains_nil, Nat.reduceBEq, Bool.or_false, Bool.false_or, Bool.or_true, Bool.true_or, Bool.or_self, cond_true, cond_false, true_and, and_true, or_true, true_or, true_implies, false_implies, not_true_eq_false, not_false_eq_true, List.length_cons, List.length_nil, Option.toList_some, Option.toList_none, List.cons_append, List.nil_append, ws_R_strange_0, ws_R_strange_1, ws_R_strange_4, ws_R_strange_7, ws_R_strange_8, ws_R_strange_11, ws_R_strange_12, ws_R_strange_13, ws_R_strange_14, ws_R_strange_17, ws_R_strange_18, ws_R_strange_19, ws_R_strange_20, ws_R_strange_23, ws_R_strange_24, ws_R_strange_27, ws_R_strange_28, tm_up_s, tm_up_n, tm_up_up, nI_leI, nI_ltI, nI_eq, nI_cl, nI_in', ix_1shl, ix_or, ix_xor, nI_1, bI_0, bI_1, bI_F, pk_us, pk_un, Option.isNone_some, bI_f, hp, h0, a1, a2, hv]
      try rfl
set_option maxRecDepth 20000 in
theorem c_R_colourOf {g v : Nat} (h0 : h 27 = tm_o 5 [.int t, .ref 28, .ref 29, .ref 30, .ref 31, .ref 32, .int l, .ref 33, .int ol, .ref 34, .ref 35, .ref 36, .ref 37]) (hd : gYd S h) (hg : g < 3) (hv : v < S.1 g) : tm_C M_R_colourOf 0 0 [.ref 27, .int (nI g), .int (nI v)] h (fun z k => z = .inl (some (.int (nI (S.2.1 g v)))) ∧ k = h) := by
  refine tm_C.by (L := [some (.ref 27), some (.int (nI g)), some (.int (nI v))]) rfl rfl rfl rfl rfl ?_
  obtain ⟨sz, co, ed, a1, a2, a3, a4⟩ := hd
  obtain ⟨b1, b2, b3, b4⟩ := a4 g hg
  have := b2.1
  apply tm_run [] 80
  simp (disch := first | assumption | omega) only [↓reduceIte, tm_w_i, tm_w_0, Bool.false_eq_true, tm_gI_0, tm_gI_s, tm_gA_0, tm_gA_s, tm_fv_0, tm_fv_s, tm_p1_e, tm_pA_e, tm_pJ_e, tm_pV_i, tm_pV_r, tm_cI_e, tm_cZ_e, tm_cJ_e, tm_cQ_e, tm_cO_e, tm_rq_e, List.set_cons_zero, List.set_cons_succ, List.contains_cons, List.contains_nil, Nat.reduceBEq, Bool.or_false, Bool.false_or, Bool.or_true, Bool.true_or, Bool.or_self, cond_true, cond_false, true_and, and_true, or_true, true_or, true_implies, false_implies, not_true_eq_false, not_false_eq_true, List.length_cons, List.length_nil, Option.toList_some, Option.toList_none, List.cons_append, List.nil_append, ws_R_colourOf_0, ws_R_colourOf_1, ws_R_colourOf_4, ws_R_colourOf_6, ws_R_colourOf_7, ws_R_colourOf_8, ws_R_colourOf_9, ws_R_colourOf_10, ws_R_colourOf_11, tm_up_s, tm_up_n, tm_up_up, nI_leI, nI_ltI, nI_eq, nI_cl, nI_in', ix_1shl, ix_or, ix_xor, nI_1, bI_0, bI_1, bI_F, pk_us, pk_un, h0, a2, i_7, pk_mul, nI_add, b3 v hv]
set_option maxRecDepth 20000 in
theorem c_R_isEdge {g v w : Nat} (h0 : h 27 = tm_o 5 [.int t, .ref 28, .ref 29, .ref 30, .ref 31, .ref 32, .int l, .ref 33, .int ol, .ref 34, .ref 35, .ref 36, .ref 37]) (hd : gYd S h) (hg : g < 3) (hv : v < S.1 g) (hw : w < S.1 g) : tm_C M_R_isEdge 0 0 [.ref 27, .int (nI g), .int (nI v), .int (nI w)] h (fun z k => z = .inl (some (.int (bI ((S.2.2 g v).testBit w)))) ∧ k = h) := by
  refine tm_C.by (L := [some (.ref 27), some (.int (nI g)), some (.int (nI v)), some (.int (nI w))]) rfl rfl rfl rfl rfl ?_
  obtain ⟨sz, co, ed, a1, a2, a3, a4⟩ := hd
  obtain ⟨b1, b2, b3, b4⟩ := a4 g hg
  have := b2.1
  apply tm_run [] 80
  simp (disch := first | assumption | omega) only [↓reduceIte, tm_w_i, tm_w_0, Bool.false_eq_true, tm_gI_0, tm_gI_s, tm_gA_0, tm_gA_s, tm_fv_0, tm_fv_s, tm_p1_e, tm_pA_e, tm_pJ_e, tm_pV_i, tm_pV_r, tm_cI_e, tm_cZ_e, tm_cJ_e, tm_cQ_e, tm_cO_e, tm_rq_e, List.set_cons_zero, List.set_cons_succ, List.contains_cons, List.contains_nil, Nat.reduceBEq, Bool.or_false, Bool.false_or, Bool.or_true, Bool.true_or, Bool.or_self, cond_true, cond_false, true_and, and_true, or_true, true_or, true_implies, false_implies, not_true_eq_false, not_false_eq_true, List.length_cons, List.length_nil, Option.toList_some, Option.toList_none, List.cons_append, List.nil_append, ws_R_isEdge_0, ws_R_isEdge_1, ws_R_isEdge_4, ws_R_isEdge_6, ws_R_isEdge_7, ws_R_isEdge_8, ws_R_isEdge_10, ws_R_isEdge_11, ws_R_isEdge_12, ws_R_isEdge_13, ws_R_isEdge_14, ws_R_isEdge_15, ws_R_isEdge_16, tm_up_s, tm_up_n, tm_up_up, nI_leI, nI_ltI, nI_eq, nI_cl, nI_in', ix_1shl, ix_or, ix_xor, nI_1, bI_0, bI_1, bI_F, pk_us, pk_un, h0, a3, i_7, i_49, pk_mul, nI_add, b4 v w hv hw]
theorem vn_b (b : Bool) : vp_nar .boolean (bI b) = bI b := by cases b <;> decide +kernel
set_option maxRecDepth 20000 in
theorem c_R_set {g v w : Nat} {b : Bool} {ed : Nat → Int32} (h0 : h 27 = tm_o 5 [.int t, .ref 28, .ref 29, .ref 30, .ref 31, .ref 32, .int l, .ref 33, .int ol, .ref 34, .ref 35, .ref 36, .ref 37]) (a3 : h 30 = tm_z 147 ed) (hg : g < 3) (hv : v < 7) (hw : w < 7) : tm_C M_R_set 0 0 [.ref 27, .int (nI g), .int (nI v), .int (nI w), .int (bI b)] h (fun z k => z = .inl none ∧ k = tm_up h 30 (tm_z 147 (upd (upd ed (49 * g + 7 * v + w) (bI b)) (49 * g + 7 * w + v) (bI b)))) := by
  refine tm_C.by (L := [some (.ref 27), some (.int (nI g)), some (.int (nI v)), some (.int (nI w)), some (.int (bI b))]) rfl rfl rfl rfl rfl ?_
  apply tm_run [] 80
  simp (disch := first | assumption | omega) only [↓reduceIte, tm_w_i, tm_w_0, Bool.false_eq_true, tm_gI_0, tm_gI_s, tm_gA_0, tm_gA_s, tm_fv_0, tm_fv_s, tm_p1_e, tm_pA_e, tm_pJ_e, tm_pV_i, tm_pV_r, tm_cI_e, tm_cZ_e, tm_cJ_e, tm_cQ_e, tm_cO_e, tm_rq_e, List.set_cons_zero, List.set_cons_succ, List.contains_cons, List.contains_nil, Nat.reduceBEq, Bool.or_false, Bool.false_or, Bool.or_true, Bool.true_or, Bool.or_self, cond_true, cond_false, true_and, and_true, or_true, true_or, true_implies, false_implies, not_true_eq_false, not_false_eq_true, List.length_cons, List.length_nil, Option.toList_some, Option.toList_none, List.cons_append, List.nil_append, ws_R_set_0, ws_R_set_1, ws_R_set_4, ws_R_set_6, ws_R_set_7, ws_R_set_8, ws_R_set_10, ws_R_set_11, ws_R_set_12, ws_R_set_13, ws_R_set_14, ws_R_set_15, ws_R_set_17, ws_R_set_18, ws_R_set_19, ws_R_set_22, ws_R_set_24, ws_R_set_25, ws_R_set_26, ws_R_set_28, ws_R_set_29, ws_R_set_30, ws_R_set_31, ws_R_set_32, ws_R_set_33, ws_R_set_35, ws_R_set_36, tm_up_s, tm_up_n, tm_up_up, nI_leI, nI_ltI, nI_eq, nI_cl, nI_in', ix_1shl, ix_or, ix_xor, nI_1, bI_0, bI_1, bI_F, pk_us, pk_un, h0, a3, i_7, i_49, pk_mul, nI_add, vn_b]
end CA
