section BS
/-! what the calls answer, and the state after them -/
def o_vertex (S : gSt) (g c : Int32) : gRs := match gI 3 g with
  | none => (.inr 0, S)
  | some j => match gI 4 c with
    | none => (.inr 1, S)
    | some x => if S.1 j = 7 then (.inr 2, S) else (.inl (nI (S.1 j)), gPut S j (S.1 j + 1) (gUd (S.2.1 j) (S.1 j) x) (gUd (S.2.2 j) (S.1 j) 0))
def o_paint (S : gSt) (g v c : Int32) : gRs := match gI 3 g with
  | none => (.inr 0, S)
  | some j => match gI (S.1 j) v with
    | none => (.inr 0, S)
    | some v => match gI 4 c with
      | none => (.inr 1, S)
      | some x => (.inl (nI (S.2.1 j v)), gPut S j (S.1 j) (gUd (S.2.1 j) v x) (S.2.2 j))
def gFlp (nb : Nat → Nat) (v w : Nat) : Nat → Nat := gUd (gUd nb v (nb v ^^^ 2 ^ w)) w (nb w ^^^ 2 ^ v)
def gEd (n : Nat) (nb : Nat → Nat) : Nat := gS (fun i => gpc (nb i)) n / 2
def o_edge (b : Bool) (S : gSt) (g v w : Int32) : gRs := match gI 3 g with
  | none => (.inr 0, S)
  | some j => match gI (S.1 j) v with
    | none => (.inr 0, S)
    | some v => match gI (S.1 j) w with
      | none => (.inr 0, S)
      | some w => if v = w then (.inr 1, S) else if (S.2.2 j v).testBit w = b then (.inr 2, S) else (.inl (nI (gEd (S.1 j) (gFlp (S.2.2 j) v w))), gPut S j (S.1 j) (S.2.1 j) (gFlp (S.2.2 j) v w))
def o_clear (S : gSt) (g : Int32) : gRs := match gI 3 g with
  | none => (.inr 0, S)
  | some j => (.inl (nI (S.1 j)), gPut S j 0 (S.2.1 j) (S.2.2 j))
def o_copy (S : gSt) (g g' : Int32) : gRs := match gI 3 g with
  | none => (.inr 0, S)
  | some j => match gI 3 g' with
    | none => (.inr 0, S)
    | some k => (.inl (nI (S.1 k)), gPut S j (S.1 k) (S.2.1 k) (S.2.2 k))
def gTn (n : Nat) (nb : Nat → Nat) : Nat → Nat := fun i => nb i ^^^ ((2 ^ n - 1) ^^^ 2 ^ i)
def o_turn (S : gSt) (g : Int32) : gRs := match gI 3 g with
  | none => (.inr 0, S)
  | some j => (.inl (nI (gEd (S.1 j) (gTn (S.1 j) (S.2.2 j)))), gPut S j (S.1 j) (S.2.1 j) (gTn (S.1 j) (S.2.2 j)))
def o_size (S : gSt) (g : Int32) : gRs := match gI 3 g with
  | none => (.inr 0, S)
  | some j => (.inl (nI (S.1 j)), S)
def o_beside (S : gSt) (g v : Int32) : gRs := match gI 3 g with
  | none => (.inr 0, S)
  | some j => match gI (S.1 j) v with
    | none => (.inr 0, S)
    | some v => (.inl (nI (S.2.2 j v)), S)
/-! graphs stay graphs -/
theorem gOk_add {n x : Nat} {cc nb : Nat → Nat} (h : gOk n cc nb) (hn : n < 7) (hx : x < 4) : gOk (n + 1) (gUd cc n x) (gUd nb n 0) := by
  have hp : 2 ^ n ≤ 2 ^ (n + 1) := Nat.pow_le_pow_right (by decide) (by omega)
  have hp0 : 0 < 2 ^ (n + 1) := Nat.two_pow_pos _
  have far : ∀ i, i < n → (nb i).testBit n = false := fun i hi => Nat.testBit_lt_two_pow (h.2 i hi).2.1
  refine ⟨hn, fun i hi => ?_⟩
  by_cases e : i = n
  · subst e
    rw [gUd_s, gUd_s]
    refine ⟨hx, hp0, Nat.zero_testBit _, fun j hj => ?_⟩
    rw [Nat.zero_testBit]
    by_cases e2 : j = i
    · rw [e2, gUd_s, Nat.zero_testBit]
    · rw [gUd_n e2, far j (by omega)]
  · obtain ⟨h1, h2, h3, h4⟩ := h.2 i (by omega)
    rw [gUd_n e, gUd_n e]
    refine ⟨h1, by omega, h3, fun j hj => ?_⟩
    by_cases e2 : j = n
    · rw [e2, gUd_s, Nat.zero_testBit, far i (by omega)]
    · rw [gUd_n e2]; exact h4 j (by omega)
theorem gOk_col {n v x : Nat} {cc nb : Nat → Nat} (h : gOk n cc nb) (hx : x < 4) : gOk n (gUd cc v x) nb := by
  refine ⟨h.1, fun i hi => ?_⟩
  obtain ⟨h1, h2⟩ := h.2 i hi
  refine ⟨?_, h2⟩
  by_cases e : i = v
  · rw [e, gUd_s]; exact hx
  · rw [gUd_n e]; exact h1
theorem gOk_0 {cc nb : Nat → Nat} : gOk 0 cc nb := ⟨by decide, fun i hi => absurd hi (Nat.not_lt_zero i)⟩
theorem gFlp_bit {nb : Nat → Nat} {v w i j : Nat} (hvw : v ≠ w) : (gFlp nb v w i).testBit j = ((nb i).testBit j ^^ (decide (i = v ∧ j = w) || decide (i = w ∧ j = v))) := by
  unfold gFlp
  by_cases e : i = w
  · subst e
    rw [gUd_s, Nat.testBit_xor, Nat.testBit_two_pow]
    by_cases e2 : v = j
    · subst e2; simp [hvw]
    · have e2' : ¬ j = v := fun q => e2 q.symm
      have e3' : ¬ i = v := fun q => hvw q.symm
      simp [e2, e2', e3']
  · rw [gUd_n e]
    by_cases e2 : i = v
    · subst e2
      rw [gUd_s, Nat.testBit_xor, Nat.testBit_two_pow]
      by_cases e3 : w = j
      · subst e3; simp
      · have e3' : ¬ j = w := fun q => e3 q.symm
        simp [e, e3, e3']
    · rw [gUd_n e2]; simp [e, e2]
theorem gOk_flp {n v w : Nat} {cc nb : Nat → Nat} (h : gOk n cc nb) (hv : v < n) (hw : w < n) (hvw : v ≠ w) : gOk n cc (gFlp nb v w) := by
  refine ⟨h.1, fun i hi => ?_⟩
  obtain ⟨h1, h2, h3, h4⟩ := h.2 i hi
  refine ⟨h1, ?_, ?_, fun j hj => ?_⟩
  · unfold gFlp
    by_cases e : i = w
    · rw [e, gUd_s]; exact Nat.xor_lt_two_pow (h.2 w hw).2.1 (Nat.pow_lt_pow_right (by decide) hv)
    · rw [gUd_n e]
      by_cases e2 : i = v
      · rw [e2, gUd_s]; exact Nat.xor_lt_two_pow (h.2 v hv).2.1 (Nat.pow_lt_pow_right (by decide) hw)
      · rw [gUd_n e2]; exact h2
  · rw [gFlp_bit hvw, h3]
    have e1 : ¬ (i = v ∧ i = w) := fun q => hvw (q.1.symm.trans q.2)
    have e2 : ¬ (i = w ∧ i = v) := fun q => hvw (q.2.symm.trans q.1)
    simp [e1, e2]
  · rw [gFlp_bit hvw, gFlp_bit hvw, h4 j hj, Bool.or_comm]
    congr 1
    congr 1
    · exact decide_eq_decide.mpr ⟨fun q => ⟨q.2, q.1⟩, fun q => ⟨q.2, q.1⟩⟩
    · exact decide_eq_decide.mpr ⟨fun q => ⟨q.2, q.1⟩, fun q => ⟨q.2, q.1⟩⟩
theorem gTn_bit {n i j : Nat} {nb : Nat → Nat} (hj : j < n) : (gTn n nb i).testBit j = ((nb i).testBit j ^^ !decide (i = j)) := by
  unfold gTn
  rw [Nat.testBit_xor, Nat.testBit_xor, Nat.testBit_two_pow_sub_one, Nat.testBit_two_pow]
  simp [hj]
theorem gOk_tn {n : Nat} {cc nb : Nat → Nat} (h : gOk n cc nb) : gOk n cc (gTn n nb) := by
  refine ⟨h.1, fun i hi => ?_⟩
  obtain ⟨h1, h2, h3, h4⟩ := h.2 i hi
  refine ⟨h1, ?_, ?_, fun j hj => ?_⟩
  · have : 0 < 2 ^ n := Nat.two_pow_pos n
    exact Nat.xor_lt_two_pow h2 (Nat.xor_lt_two_pow (by omega) (Nat.pow_lt_pow_right (by decide) hi))
  · rw [gTn_bit hi, h3]; simp
  · rw [gTn_bit hj, gTn_bit hi, h4 j hj]
    congr 2
    exact decide_eq_decide.mpr ⟨Eq.symm, Eq.symm⟩
theorem gOk_or {n : Nat} {cc nb r : Nat → Nat} (h : gOk n cc nb) (hr : gp_pm n r) : gOk n (fun i => cc (r i)) (gOr nb r n) := by
  have hb : ∀ i j, j < n → (gOr nb r n i).testBit j = (nb (r i)).testBit (r j) := fun i j hj => by unfold gOr; rw [gMk_bit]; simp [hj]
  refine ⟨h.1, fun i hi => ?_⟩
  obtain ⟨h1, h2, h3, h4⟩ := h.2 (r i) (hr.1 i hi)
  refine ⟨h1, gMk_lt _ n, ?_, fun j hj => ?_⟩
  · rw [hb i i hi, h3]
  · rw [hb i j hj, hb j i hi, h4 _ (hr.1 j hj)]
end BS
section BT
variable {S : gSt} {h : tm_Hp}
set_option maxRecDepth 20000 in
theorem c_N_vertex {g c : Int32} (hX : gX S h) : tm_C M_N_vertex 16 5 [.ref 0, .int g, .int c] h (gPo h (o_vertex S g c)) := by
  refine tm_C.by (L := [some (.ref 0), some (.int g), some (.int c), none]) rfl rfl rfl rfl rfl ?_
  apply tm_run [] 80
  simp (disch := first | assumption | omega) only [↓reduceIte, tm_w_i, tm_w_0, Bool.false_eq_true, tm_gI_0, tm_gI_s, tm_gA_0, tm_gA_s, tm_fv_0, tm_fv_s, tm_p1_e, tm_pA_e, tm_pJ_e, tm_pV_i, tm_pV_r, tm_cI_e, tm_cZ_e, tm_cJ_e, tm_cQ_e, tm_cO_e, tm_rq_e, List.set_cons_zero, List.set_cons_succ, List.contains_cons, List.contains_nil, Nat.reduceBEq, Bool.or_false, Bool.false_or, Bool.or_true, Bool.true_or, Bool.or_self, cond_true, cond_false, true_and, and_true, or_true, true_or, true_implies, false_implies, not_true_eq_false, not_false_eq_true, List.length_cons, List.length_nil, Option.toList_some, Option.toList_none, List.cons_append, List.nil_append, ws_N_vertex_0, ws_N_vertex_1, ws_N_vertex_2, ws_N_vertex_5, ws_N_vertex_6, ws_N_vertex_7, ws_N_vertex_10, ws_N_vertex_11, ws_N_vertex_14, ws_N_vertex_16, ws_N_vertex_19, ws_N_vertex_29, ws_N_vertex_30, ws_N_vertex_31, ws_N_vertex_34, tm_up_s, tm_up_n, tm_up_up, nI_leI, nI_ltI, nI_eq, nI_cl, nI_in', ix_1shl, ix_or, ix_xor, nI_1, bI_0, bI_1, bI_F, pk_us, pk_un]
  rcases gI_c (N := 3) (by decide) g with ⟨e, hg⟩ | ⟨j, hj, rfl, e⟩
  · simp only [o_vertex, e]
    exact kc_N_vertex_2 hX.1.1 (Nat.le_of_ble_eq_true rfl) (by omega) (by omega) (c_N_graphOf_n hg) (fun _ _ q => nomatch q.1) (fun k h1 q => tm_H_out (by decide +kernel) (by cases q.1; cases q.2; exact gPo.no hX))
  · obtain ⟨hn, hp⟩ := hX.cnt hj
    refine kd_N_vertex_2 hX.1.1 (Nat.le_of_ble_eq_true rfl) (by omega) (by omega) (c_N_graphOf_s hX.1 hj) ?_
    apply tm_run [] 80
    simp (disch := first | assumption | omega) only [↓reduceIte, tm_w_i, tm_w_0, Bool.false_eq_true, tm_gI_0, tm_gI_s, tm_gA_0, tm_gA_s, tm_fv_0, tm_fv_s, tm_p1_e, tm_pA_e, tm_pJ_e, tm_pV_i, tm_pV_r, tm_cI_e, tm_cZ_e, tm_cJ_e, tm_cQ_e, tm_cO_e, tm_rq_e, List.set_cons_zero, List.set_cons_succ, List.contains_cons, List.contains_nil, Nat.reduceBEq, Bool.or_false, Bool.false_or, Bool.or_true, Bool.true_or, Bool.or_self, cond_true, cond_false, true_and, and_true, or_true, true_or, true_implies, false_implies, not_true_eq_false, not_false_eq_true, List.length_cons, List.length_nil, Option.toList_some, Option.toList_none, List.cons_append, List.nil_append, ws_N_vertex_0, ws_N_vertex_1, ws_N_vertex_2, ws_N_vertex_5, ws_N_vertex_6, ws_N_vertex_7, ws_N_vertex_10, ws_N_vertex_11, ws_N_vertex_14, ws_N_vertex_16, ws_N_vertex_19, ws_N_vertex_29, ws_N_vertex_30, ws_N_vertex_31, ws_N_vertex_34, tm_up_s, tm_up_n, tm_up_up, nI_leI, nI_ltI, nI_eq, nI_cl, nI_in', ix_1shl, ix_or, ix_xor, nI_1, bI_0, bI_1, bI_F, pk_us, pk_un]
    rcases gI_c (N := 4) (by decide) c with ⟨e2, hc⟩ | ⟨x, hx, rfl, e2⟩
    · simp only [o_vertex, e, e2]
      exact kc_N_vertex_7 (Nat.le_of_ble_eq_true rfl) (by omega) (by omega) (c_N_needColour_n hc) (fun _ _ q => nomatch q.1) (fun k h1 q => tm_H_out (by decide +kernel) (by cases q.1; cases q.2; exact gPo.no hX))
    · simp only [o_vertex, e, e2]
      refine kd_N_vertex_7 (Nat.le_of_ble_eq_true rfl) (by omega) (by omega) (c_N_needColour_s hx) ?_
      by_cases e7 : S.1 j = 7
      · rw [if_pos e7]
        have : ¬ S.1 j < 7 := by omega
        apply tm_run [] 80
        simp (disch := first | assumption | omega) only [↓reduceIte, tm_w_i, tm_w_0, Bool.false_eq_true, tm_gI_0, tm_gI_s, tm_gA_0, tm_gA_s, tm_fv_0, tm_fv_s, tm_p1_e, tm_pA_e, tm_pJ_e, tm_pV_i, tm_pV_r, tm_cI_e, tm_cZ_e, tm_cJ_e, tm_cQ_e, tm_cO_e, tm_rq_e, List.set_cons_zero, List.set_cons_succ, List.contains_cons, List.contains_nil, Nat.reduceBEq, Bool.or_false, Bool.false_or, Bool.or_true, Bool.true_or, Bool.or_self, cond_true, cond_false, true_and, and_true, or_true, true_or, true_implies, false_implies, not_true_eq_false, not_false_eq_true, List.length_cons, List.length_nil, Option.toList_some, Option.toList_none, List.cons_append, List.nil_append, ws_N_vertex_0, ws_N_vertex_1, ws_N_vertex_2, ws_N_vertex_5, ws_N_vertex_6, ws_N_vertex_7, ws_N_vertex_10, ws_N_vertex_11, ws_N_vertex_14, ws_N_vertex_16, ws_N_vertex_19, ws_N_vertex_29, ws_N_vertex_30, ws_N_vertex_31, ws_N_vertex_34, tm_up_s, tm_up_n, tm_up_up, nI_leI, nI_ltI, nI_eq, nI_cl, nI_in', ix_1shl, ix_or, ix_xor, nI_1, bI_0, bI_1, bI_F, pk_us, pk_un, hp, i_7, this]
        exact th_N_vertex_19 (by decide) (by decide) (gPo.no hX)
      · rw [if_neg e7]
        have : S.1 j < 7 := by omega
        apply tm_run [] 80
        simp (disch := first | assumption | omega) only [↓reduceIte, tm_w_i, tm_w_0, Bool.false_eq_true, tm_gI_0, tm_gI_s, tm_gA_0, tm_gA_s, tm_fv_0, tm_fv_s, tm_p1_e, tm_pA_e, tm_pJ_e, tm_pV_i, tm_pV_r, tm_cI_e, tm_cZ_e, tm_cJ_e, tm_cQ_e, tm_cO_e, tm_rq_e, List.set_cons_zero, List.set_cons_succ, List.contains_cons, List.contains_nil, Nat.reduceBEq, Bool.or_false, Bool.false_or, Bool.or_true, Bool.true_or, Bool.or_self, cond_true, cond_false, true_and, and_true, or_true, true_or, true_implies, false_implies, not_true_eq_false, not_false_eq_true, List.length_cons, List.length_nil, Option.toList_some, Option.toList_none, List.cons_append, List.nil_append, ws_N_vertex_0, ws_N_vertex_1, ws_N_vertex_2, ws_N_vertex_5, ws_N_vertex_6, ws_N_vertex_7, ws_N_vertex_10, ws_N_vertex_11, ws_N_vertex_14, ws_N_vertex_16, ws_N_vertex_19, ws_N_vertex_29, ws_N_vertex_30, ws_N_vertex_31, ws_N_vertex_34, tm_up_s, tm_up_n, tm_up_up, nI_leI, nI_ltI, nI_eq, nI_cl, nI_in', ix_1shl, ix_or, ix_xor, nI_1, bI_0, bI_1, bI_F, pk_us, pk_un, hp, i_7, this]
        obtain ⟨cf, f, h1, h2, h3, h4, h5, h6⟩ := hX.2.1 j hj
        have hK : tm_K = 39 := rfl
        refine kd_N_vertex_31 hp (Nat.le_of_ble_eq_true rfl) (by omega) (by omega) (c_G_addVertex h1 h2 h3 this (by omega) (by omega) (by omega) (by omega) (by omega)) ?_
        apply tm_run [] 80
        simp (disch := first | assumption | omega) only [↓reduceIte, tm_w_i, tm_w_0, Bool.false_eq_true, tm_gI_0, tm_gI_s, tm_gA_0, tm_gA_s, tm_fv_0, tm_fv_s, tm_p1_e, tm_pA_e, tm_pJ_e, tm_pV_i, tm_pV_r, tm_cI_e, tm_cZ_e, tm_cJ_e, tm_cQ_e, tm_cO_e, tm_rq_e, List.set_cons_zero, List.set_cons_succ, List.contains_cons, List.contains_nil, Nat.reduceBEq, Bool.or_false, Bool.false_or, Bool.or_true, Bool.true_or, Bool.or_self, cond_true, cond_false, true_and, and_true, or_true, true_or, true_implies, false_implies, not_true_eq_false, not_false_eq_true, List.length_cons, List.length_nil, Option.toList_some, Option.toList_none, List.cons_append, List.nil_append, ws_N_vertex_0, ws_N_vertex_1, ws_N_vertex_2, ws_N_vertex_5, ws_N_vertex_6, ws_N_vertex_7, ws_N_vertex_10, ws_N_vertex_11, ws_N_vertex_14, ws_N_vertex_16, ws_N_vertex_19, ws_N_vertex_29, ws_N_vertex_30, ws_N_vertex_31, ws_N_vertex_34, tm_up_s, tm_up_n, tm_up_up, nI_leI, nI_ltI, nI_eq, nI_cl, nI_in', ix_1shl, ix_or, ix_xor, nI_1, bI_0, bI_1, bI_F, pk_us, pk_un]
        refine ⟨rfl, hX.put hj (fun k a1 a2 a3 => by rw [tm_up_n a1, tm_up_n a3, tm_up_n a2]) ⟨upd cf (S.1 j) (nI x), upd f (S.1 j) 0, tm_up_s _ _ _, ?_, ?_, fun i hi => ?_, fun i hi => ?_, gOk_add h6 this hx⟩, fun k hk => by rw [tm_up_n (by omega), tm_up_n (by omega), tm_up_n (by omega)]⟩
        · rw [tm_up_n (by omega), tm_up_n (by omega), tm_up_s]
        · rw [tm_up_n (by omega), tm_up_s]
        · by_cases q : i = S.1 j
          · rw [q, pk_us, gUd_s]; exact ⟨rfl, hx⟩
          · rw [pk_un q, gUd_n q]; exact h4 i (by omega)
        · by_cases q : i = S.1 j
          · rw [q, pk_us, gUd_s]; exact ⟨rfl, by decide⟩
          · rw [pk_un q, gUd_n q]; exact h5 i (by omega)
set_option maxRecDepth 20000 in
theorem c_N_paint {g v c : Int32} (hX : gX S h) : tm_C M_N_paint 16 5 [.ref 0, .int g, .int v, .int c] h (gPo h (o_paint S g v c)) := by
  refine tm_C.by (L := [some (.ref 0), some (.int g), some (.int v), some (.int c), none, none]) rfl rfl rfl rfl rfl ?_
  apply tm_run [] 80
  simp (disch := first | assumption | omega) only [↓reduceIte, tm_w_i, tm_w_0, Bool.false_eq_true, tm_gI_0, tm_gI_s, tm_gA_0, tm_gA_s, tm_fv_0, tm_fv_s, tm_p1_e, tm_pA_e, tm_pJ_e, tm_pV_i, tm_pV_r, tm_cI_e, tm_cZ_e, tm_cJ_e, tm_cQ_e, tm_cO_e, tm_rq_e, List.set_cons_zero, List.set_cons_succ, List.contains_cons, List.contains_nil, Nat.reduceBEq, Bool.or_false, Bool.false_or, Bool.or_true, Bool.true_or, Bool.or_self, cond_true, cond_false, true_and, and_true, or_true, true_or, true_implies, false_implies, not_true_eq_false, not_false_eq_true, List.length_cons, List.length_nil, Option.toList_some, Option.toList_none, List.cons_append, List.nil_append, ws_N_paint_0, ws_N_paint_1, ws_N_paint_2, ws_N_paint_3, ws_N_paint_6, ws_N_paint_8, ws_N_paint_9, ws_N_paint_12, ws_N_paint_14, ws_N_paint_17, ws_N_paint_18, ws_N_paint_19, ws_N_paint_21, ws_N_paint_23, ws_N_paint_26, ws_N_paint_27, ws_N_paint_28, ws_N_paint_29, ws_N_paint_31, tm_up_s, tm_up_n, tm_up_up, nI_leI, nI_ltI, nI_eq, nI_cl, nI_in', ix_1shl, ix_or, ix_xor, nI_1, bI_0, bI_1, bI_F, pk_us, pk_un]
  rcases gI_c (N := 3) (by decide) g with ⟨e, hg⟩ | ⟨j, hj, rfl, e⟩
  · simp only [o_paint, e]
    exact kc_N_paint_3 hX.1.1 (Nat.le_of_ble_eq_true rfl) (by omega) (by omega) (c_N_graphWith_n1 hX hg) (fun _ _ q => nomatch q.1) (fun k h1 q => tm_H_out (by decide +kernel) (by cases q.1; cases q.2; exact gPo.no hX))
  · obtain ⟨hn, hp⟩ := hX.cnt hj
    rcases gI_c (N := S.1 j) (by omega) v with ⟨e2, hv⟩ | ⟨v, hv, rfl, e2⟩
    · simp only [o_paint, e, e2]
      exact kc_N_paint_3 hX.1.1 (Nat.le_of_ble_eq_true rfl) (by omega) (by omega) (c_N_graphWith_n2 hX hj hv) (fun _ _ q => nomatch q.1) (fun k h1 q => tm_H_out (by decide +kernel) (by cases q.1; cases q.2; exact gPo.no hX))
    · refine kd_N_paint_3 hX.1.1 (Nat.le_of_ble_eq_true rfl) (by omega) (by omega) (c_N_graphWith_s hX hj hv) ?_
      apply tm_run [] 80
      simp (disch := first | assumption | omega) only [↓reduceIte, tm_w_i, tm_w_0, Bool.false_eq_true, tm_gI_0, tm_gI_s, tm_gA_0, tm_gA_s, tm_fv_0, tm_fv_s, tm_p1_e, tm_pA_e, tm_pJ_e, tm_pV_i, tm_pV_r, tm_cI_e, tm_cZ_e, tm_cJ_e, tm_cQ_e, tm_cO_e, tm_rq_e, List.set_cons_zero, List.set_cons_succ, List.contains_cons, List.contains_nil, Nat.reduceBEq, Bool.or_false, Bool.false_or, Bool.or_true, Bool.true_or, Bool.or_self, cond_true, cond_false, true_and, and_true, or_true, true_or, true_implies, false_implies, not_true_eq_false, not_false_eq_true, List.length_cons, List.length_nil, Option.toList_some, Option.toList_none, List.cons_append, List.nil_append, ws_N_paint_0, ws_N_paint_1, ws_N_paint_2, ws_N_paint_3, ws_N_paint_6, ws_N_paint_8, ws_N_paint_9, ws_N_paint_12, ws_N_paint_14, ws_N_paint_17, ws_N_paint_18, ws_N_paint_19, ws_N_paint_21, ws_N_paint_23, ws_N_paint_26, ws_N_paint_27, ws_N_paint_28, ws_N_paint_29, ws_N_paint_31, tm_up_s, tm_up_n, tm_up_up, nI_leI, nI_ltI, nI_eq, nI_cl, nI_in', ix_1shl, ix_or, ix_xor, nI_1, bI_0, bI_1, bI_F, pk_us, pk_un]
      rcases gI_c (N := 4) (by decide) c with ⟨e3, hc⟩ | ⟨x, hx, rfl, e3⟩
      · simp only [o_paint, e, e2, e3]
        exact kc_N_paint_9 (Nat.le_of_ble_eq_true rfl) (by omega) (by omega) (c_N_needColour_n hc) (fun _ _ q => nomatch q.1) (fun k h1 q => tm_H_out (by decide +kernel) (by cases q.1; cases q.2; exact gPo.no hX))
      · simp only [o_paint, e, e2, e3]
        refine kd_N_paint_9 (Nat.le_of_ble_eq_true rfl) (by omega) (by omega) (c_N_needColour_s hx) ?_
        obtain ⟨cf, f, h1, h2, h3, h4, h5, h6⟩ := hX.2.1 j hj
        have hK : 2 * j + 6 < tm_K := by show 2 * j + 6 < 39; omega
        apply tm_run [] 80
        simp (disch := first | assumption | omega) only [↓reduceIte, tm_w_i, tm_w_0, Bool.false_eq_true, tm_gI_0, tm_gI_s, tm_gA_0, tm_gA_s, tm_fv_0, tm_fv_s, tm_p1_e, tm_pA_e, tm_pJ_e, tm_pV_i, tm_pV_r, tm_cI_e, tm_cZ_e, tm_cJ_e, tm_cQ_e, tm_cO_e, tm_rq_e, List.set_cons_zero, List.set_cons_succ, List.contains_cons, List.contains_nil, Nat.reduceBEq, Bool.or_false, Bool.false_or, Bool.or_true, Bool.true_or, Bool.or_self, cond_true, cond_false, true_and, and_true, or_true, true_or, true_implies, false_implies, not_true_eq_false, not_false_eq_true, List.length_cons, List.length_nil, Option.toList_some, Option.toList_none, List.cons_append, List.nil_append, ws_N_paint_0, ws_N_paint_1, ws_N_paint_2, ws_N_paint_3, ws_N_paint_6, ws_N_paint_8, ws_N_paint_9, ws_N_paint_12, ws_N_paint_14, ws_N_paint_17, ws_N_paint_18, ws_N_paint_19, ws_N_paint_21, ws_N_paint_23, ws_N_paint_26, ws_N_paint_27, ws_N_paint_28, ws_N_paint_29, ws_N_paint_31, tm_up_s, tm_up_n, tm_up_up, nI_leI, nI_ltI, nI_eq, nI_cl, nI_in', ix_1shl, ix_or, ix_xor, nI_1, bI_0, bI_1, bI_F, pk_us, pk_un, hp, h2, (h4 v hv).1, hK]
        refine ⟨rfl, hX.put hj (fun k a1 a2 a3 => tm_up_n a2) ⟨upd cf v (nI x), f, (tm_up_n (by omega)).trans h1, tm_up_s _ _ _, (tm_up_n (by omega)).trans h3, fun i hi => ?_, h5, gOk_col h6 hx⟩, fun k hk => tm_up_n (by omega)⟩
        by_cases q : i = v
        · rw [q, pk_us, gUd_s]; exact ⟨rfl, hx⟩
        · rw [pk_un q, gUd_n q]; exact h4 i hi
set_option maxRecDepth 20000 in
theorem c_N_clear {g : Int32} (hX : gX S h) : tm_C M_N_clear 16 5 [.ref 0, .int g] h (gPo h (o_clear S g)) := by
  refine tm_C.by (L := [some (.ref 0), some (.int g), none, none]) rfl rfl rfl rfl rfl ?_
  apply tm_run [] 80
  simp (disch := first | assumption | omega) only [↓reduceIte, tm_w_i, tm_w_0, Bool.false_eq_true, tm_gI_0, tm_gI_s, tm_gA_0, tm_gA_s, tm_fv_0, tm_fv_s, tm_p1_e, tm_pA_e, tm_pJ_e, tm_pV_i, tm_pV_r, tm_cI_e, tm_cZ_e, tm_cJ_e, tm_cQ_e, tm_cO_e, tm_rq_e, List.set_cons_zero, List.set_cons_succ, List.contains_cons, List.contains_nil, Nat.reduceBEq, Bool.or_false, Bool.false_or, Bool.or_true, Bool.true_or, Bool.or_self, cond_true, cond_false, true_and, and_true, or_true, true_or, true_implies, false_implies, not_true_eq_false, not_false_eq_true, List.length_cons, List.length_nil, Option.toList_some, Option.toList_none, List.cons_append, List.nil_append, ws_N_clear_0, ws_N_clear_1, ws_N_clear_2, ws_N_clear_5, ws_N_clear_6, ws_N_clear_7, ws_N_clear_10, ws_N_clear_11, ws_N_clear_12, ws_N_clear_13, ws_N_clear_16, ws_N_clear_17, tm_up_s, tm_up_n, tm_up_up, nI_leI, nI_ltI, nI_eq, nI_cl, nI_in', ix_1shl, ix_or, ix_xor, nI_1, bI_0, bI_1, bI_F, pk_us, pk_un]
  rcases gI_c (N := 3) (by decide) g with ⟨e, hg⟩ | ⟨j, hj, rfl, e⟩
  · simp only [o_clear, e]
    exact kc_N_clear_2 hX.1.1 (Nat.le_of_ble_eq_true rfl) (by omega) (by omega) (c_N_graphOf_n hg) (fun _ _ q => nomatch q.1) (fun k h1 q => tm_H_out (by decide +kernel) (by cases q.1; cases q.2; exact gPo.no hX))
  · simp only [o_clear, e]
    refine kd_N_clear_2 hX.1.1 (Nat.le_of_ble_eq_true rfl) (by omega) (by omega) (c_N_graphOf_s hX.1 hj) ?_
    obtain ⟨cf, f, h1, h2, h3, h4, h5, h6⟩ := hX.2.1 j hj
    apply tm_run [] 80
    simp (disch := first | assumption | omega) only [↓reduceIte, tm_w_i, tm_w_0, Bool.false_eq_true, tm_gI_0, tm_gI_s, tm_gA_0, tm_gA_s, tm_fv_0, tm_fv_s, tm_p1_e, tm_pA_e, tm_pJ_e, tm_pV_i, tm_pV_r, tm_cI_e, tm_cZ_e, tm_cJ_e, tm_cQ_e, tm_cO_e, tm_rq_e, List.set_cons_zero, List.set_cons_succ, List.contains_cons, List.contains_nil, Nat.reduceBEq, Bool.or_false, Bool.false_or, Bool.or_true, Bool.true_or, Bool.or_self, cond_true, cond_false, true_and, and_true, or_true, true_or, true_implies, false_implies, not_true_eq_false, not_false_eq_true, List.length_cons, List.length_nil, Option.toList_some, Option.toList_none, List.cons_append, List.nil_append, ws_N_clear_0, ws_N_clear_1, ws_N_clear_2, ws_N_clear_5, ws_N_clear_6, ws_N_clear_7, ws_N_clear_10, ws_N_clear_11, ws_N_clear_12, ws_N_clear_13, ws_N_clear_16, ws_N_clear_17, tm_up_s, tm_up_n, tm_up_up, nI_leI, nI_ltI, nI_eq, nI_cl, nI_in', ix_1shl, ix_or, ix_xor, nI_1, bI_0, bI_1, bI_F, pk_us, pk_un, h1]
    refine ⟨by decide, rfl, hX.put hj (fun k a1 a2 a3 => tm_up_n a1) ⟨cf, f, tm_up_s _ _ _, (tm_up_n (by omega)).trans h2, (tm_up_n (by omega)).trans h3, fun i hi => absurd hi (Nat.not_lt_zero i), fun i hi => absurd hi (Nat.not_lt_zero i), gOk_0⟩, fun k hk => tm_up_n (by omega)⟩
set_option maxRecDepth 20000 in
theorem c_N_size {g : Int32} (hX : gX S h) : tm_C M_N_size 16 5 [.ref 0, .int g] h (gPo h (o_size S g)) := by
  refine tm_C.by (L := [some (.ref 0), some (.int g)]) rfl rfl rfl rfl rfl ?_
  apply tm_run [] 80
  simp (disch := first | assumption | omega) only [↓reduceIte, tm_w_i, tm_w_0, Bool.false_eq_true, tm_gI_0, tm_gI_s, tm_gA_0, tm_gA_s, tm_fv_0, tm_fv_s, tm_p1_e, tm_pA_e, tm_pJ_e, tm_pV_i, tm_pV_r, tm_cI_e, tm_cZ_e, tm_cJ_e, tm_cQ_e, tm_cO_e, tm_rq_e, List.set_cons_zero, List.set_cons_succ, List.contains_cons, List.contains_nil, Nat.reduceBEq, Bool.or_false, Bool.false_or, Bool.or_true, Bool.true_or, Bool.or_self, cond_true, cond_false, true_and, and_true, or_true, true_or, true_implies, false_implies, not_true_eq_false, not_false_eq_true, List.length_cons, List.length_nil, Option.toList_some, Option.toList_none, List.cons_append, List.nil_append, ws_N_size_0, ws_N_size_1, ws_N_size_2, ws_N_size_5, ws_N_size_8, tm_up_s, tm_up_n, tm_up_up, nI_leI, nI_ltI, nI_eq, nI_cl, nI_in', ix_1shl, ix_or, ix_xor, nI_1, bI_0, bI_1, bI_F, pk_us, pk_un]
  rcases gI_c (N := 3) (by decide) g with ⟨e, hg⟩ | ⟨j, hj, rfl, e⟩
  · simp only [o_size, e]
    exact kc_N_size_2 hX.1.1 (Nat.le_of_ble_eq_true rfl) (by omega) (by omega) (c_N_graphOf_n hg) (fun _ _ q => nomatch q.1) (fun k h1 q => tm_H_out (by decide +kernel) (by cases q.1; cases q.2; exact gPo.no hX))
  · simp only [o_size, e]
    obtain ⟨hn, hp⟩ := hX.cnt hj
    refine kd_N_size_2 hX.1.1 (Nat.le_of_ble_eq_true rfl) (by omega) (by omega) (c_N_graphOf_s hX.1 hj) ?_
    apply tm_run [] 80
    simp (disch := first | assumption | omega) only [↓reduceIte, tm_w_i, tm_w_0, Bool.false_eq_true, tm_gI_0, tm_gI_s, tm_gA_0, tm_gA_s, tm_fv_0, tm_fv_s, tm_p1_e, tm_pA_e, tm_pJ_e, tm_pV_i, tm_pV_r, tm_cI_e, tm_cZ_e, tm_cJ_e, tm_cQ_e, tm_cO_e, tm_rq_e, List.set_cons_zero, List.set_cons_succ, List.contains_cons, List.contains_nil, Nat.reduceBEq, Bool.or_false, Bool.false_or, Bool.or_true, Bool.true_or, Bool.or_self, cond_true, cond_false, true_and, and_true, or_true, true_or, true_implies, false_implies, not_true_eq_false, not_false_eq_true, List.length_cons, List.length_nil, Option.toList_some, Option.toList_none, List.cons_append, List.nil_append, ws_N_size_0, ws_N_size_1, ws_N_size_2, ws_N_size_5, ws_N_size_8, tm_up_s, tm_up_n, tm_up_up, nI_leI, nI_ltI, nI_eq, nI_cl, nI_in', ix_1shl, ix_or, ix_xor, nI_1, bI_0, bI_1, bI_F, pk_us, pk_un, hp]
    exact gPo.yes hX
set_option maxRecDepth 20000 in
theorem c_N_beside {g v : Int32} (hX : gX S h) : tm_C M_N_beside 16 5 [.ref 0, .int g, .int v] h (gPo h (o_beside S g v)) := by
  refine tm_C.by (L := [some (.ref 0), some (.int g), some (.int v)]) rfl rfl rfl rfl rfl ?_
  apply tm_run [] 80
  simp (disch := first | assumption | omega) only [↓reduceIte, tm_w_i, tm_w_0, Bool.false_eq_true, tm_gI_0, tm_gI_s, tm_gA_0, tm_gA_s, tm_fv_0, tm_fv_s, tm_p1_e, tm_pA_e, tm_pJ_e, tm_pV_i, tm_pV_r, tm_cI_e, tm_cZ_e, tm_cJ_e, tm_cQ_e, tm_cO_e, tm_rq_e, List.set_cons_zero, List.set_cons_succ, List.contains_cons, List.contains_nil, Nat.reduceBEq, Bool.or_false, Bool.false_or, Bool.or_true, Bool.true_or, Bool.or_self, cond_true, cond_false, true_and, and_true, or_true, true_or, true_implies, false_implies, not_true_eq_false, not_false_eq_true, List.length_cons, List.length_nil, Option.toList_some, Option.toList_none, List.cons_append, List.nil_append, ws_N_beside_0, ws_N_beside_1, ws_N_beside_2, ws_N_beside_3, ws_N_beside_6, ws_N_beside_9, ws_N_beside_10, ws_N_beside_11, tm_up_s, tm_up_n, tm_up_up, nI_leI, nI_ltI, nI_eq, nI_cl, nI_in', ix_1shl, ix_or, ix_xor, nI_1, bI_0, bI_1, bI_F, pk_us, pk_un]
  rcases gI_c (N := 3) (by decide) g with ⟨e, hg⟩ | ⟨j, hj, rfl, e⟩
  · simp only [o_beside, e]
    exact kc_N_beside_3 hX.1.1 (Nat.le_of_ble_eq_true rfl) (by omega) (by omega) (c_N_graphWith_n1 hX hg) (fun _ _ q => nomatch q.1) (fun k h1 q => tm_H_out (by decide +kernel) (by cases q.1; cases q.2; exact gPo.no hX))
  · obtain ⟨hn, hp⟩ := hX.cnt hj
    rcases gI_c (N := S.1 j) (by omega) v with ⟨e2, hv⟩ | ⟨v, hv, rfl, e2⟩
    · simp only [o_beside, e, e2]
      exact kc_N_beside_3 hX.1.1 (Nat.le_of_ble_eq_true rfl) (by omega) (by omega) (c_N_graphWith_n2 hX hj hv) (fun _ _ q => nomatch q.1) (fun k h1 q => tm_H_out (by decide +kernel) (by cases q.1; cases q.2; exact gPo.no hX))
    · simp only [o_beside, e, e2]
      refine kd_N_beside_3 hX.1.1 (Nat.le_of_ble_eq_true rfl) (by omega) (by omega) (c_N_graphWith_s hX hj hv) ?_
      obtain ⟨cf, f, h1, h2, h3, h4, h5, h6⟩ := hX.2.1 j hj
      apply tm_run [] 80
      simp (disch := first | assumption | omega) only [↓reduceIte, tm_w_i, tm_w_0, Bool.false_eq_true, tm_gI_0, tm_gI_s, tm_gA_0, tm_gA_s, tm_fv_0, tm_fv_s, tm_p1_e, tm_pA_e, tm_pJ_e, tm_pV_i, tm_pV_r, tm_cI_e, tm_cZ_e, tm_cJ_e, tm_cQ_e, tm_cO_e, tm_rq_e, List.set_cons_zero, List.set_cons_succ, List.contains_cons, List.contains_nil, Nat.reduceBEq, Bool.or_false, Bool.false_or, Bool.or_true, Bool.true_or, Bool.or_self, cond_true, cond_false, true_and, and_true, or_true, true_or, true_implies, false_implies, not_true_eq_false, not_false_eq_true, List.length_cons, List.length_nil, Option.toList_some, Option.toList_none, List.cons_append, List.nil_append, ws_N_beside_0, ws_N_beside_1, ws_N_beside_2, ws_N_beside_3, ws_N_beside_6, ws_N_beside_9, ws_N_beside_10, ws_N_beside_11, tm_up_s, tm_up_n, tm_up_up, nI_leI, nI_ltI, nI_eq, nI_cl, nI_in', ix_1shl, ix_or, ix_xor, nI_1, bI_0, bI_1, bI_F, pk_us, pk_un, hp, h3, (h5 v hv).1]
      exact gPo.yes hX
end BT
