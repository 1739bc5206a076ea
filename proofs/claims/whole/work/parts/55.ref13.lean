section CN
variable {S : gSt} {h : tm_Hp} {t l ol : Int32}
theorem gSpl.q {g : Nat} {hh : tm_Hp} (h0 : h 27 = tm_o 5 [.int t, .ref 28, .ref 29, .ref 30, .ref 31, .ref 32, .int l, .ref 33, .int ol, .ref 34, .ref 35, .ref 36, .ref 37]) (hd : gYd S h) (hs : gYs h) (k : gSpl S g h hh) : gYq S t hh ∧ (∀ k, k < 27 ∨ 38 ≤ k → hh k = h k) := by
  obtain ⟨⟨A, B, c, a1, a2, _⟩, fr⟩ := k
  obtain ⟨⟨f1, b1⟩, ⟨f2, b2⟩, ⟨f3, b3⟩, _, _, ⟨f6, b6⟩, ⟨f7, b7⟩⟩ := hs
  exact ⟨⟨⟨_, _, (fr 27 (by decide) (by decide)).trans h0⟩, hd.fr (fun k hk => fr k (by omega) (by omega)), ⟨f1, (fr 31 (by decide) (by decide)).trans b1⟩, ⟨f2, (fr 32 (by decide) (by decide)).trans b2⟩, ⟨f3, (fr 33 (by decide) (by decide)).trans b3⟩, ⟨A, a1⟩, ⟨B, a2⟩, ⟨f6, (fr 36 (by decide) (by decide)).trans b6⟩, ⟨f7, (fr 37 (by decide) (by decide)).trans b7⟩⟩, fun k hk => fr k (by omega) (by omega)⟩
set_option maxRecDepth 20000 in
theorem c_R_cell {g v : Int32} (hq : gYq S t h) : tm_C M_R_cell 20 0 [.ref 27, .int g, .int v] h (gPq h (o_cell S g v)) := by
  obtain ⟨⟨l, ol, h0⟩, hd, hs⟩ := hq
  refine tm_C.by (L := [some (.ref 27), some (.int g), some (.int v), none, none]) rfl rfl rfl rfl rfl ?_
  have e8 : ¬ bI true = 0 := by decide
  have e1 : ¬ (1 : Int32) = 0 := by decide
  apply tm_run [33] 80
  simp (disch := first | assumption | omega) only [↓reduceIte, tm_w_i, tm_w_0, Bool.false_eq_true, tm_gI_0, tm_gI_s, tm_gA_0, tm_gA_s, tm_fv_0, tm_fv_s, tm_p1_e, tm_pA_e, tm_pJ_e, tm_pV_i, tm_pV_r, tm_cI_e, tm_cZ_e, tm_cJ_e, tm_cQ_e, tm_cO_e, tm_rq_e, List.set_cons_zero, List.set_cons_succ, List.contains_cons, List.contains_nil, Nat.reduceBEq, Bool.or_false, Bool.false_or, Bool.or_true, Bool.true_or, Bool.or_self, cond_true, cond_false, true_and, and_true, or_true, true_or, true_implies, false_implies, not_true_eq_false, not_false_eq_true, List.length_cons, List.length_nil, Option.toList_some, Option.toList_none, List.cons_append, List.nil_append, ws_R_cell_0, ws_R_cell_1, ws_R_cell_2, ws_R_cell_3, ws_R_cell_4, ws_R_cell_7, ws_R_cell_10, ws_R_cell_11, ws_R_cell_14, ws_R_cell_15, ws_R_cell_18, ws_R_cell_21, ws_R_cell_22, ws_R_cell_23, ws_R_cell_24, ws_R_cell_25, ws_R_cell_28, ws_R_cell_29, ws_R_cell_30, ws_R_cell_31, ws_R_cell_33, ws_R_cell_35, ws_R_cell_36, ws_R_cell_39, ws_R_cell_40, ws_R_cell_41, ws_R_cell_44, ws_R_cell_45, ws_R_cell_48, ws_R_cell_50, ws_R_cell_51, ws_R_cell_52, ws_R_cell_55, ws_R_cell_56, ws_R_cell_57, ws_R_cell_60, ws_R_cell_61, ws_R_cell_62, ws_R_cell_64, ws_R_cell_65, ws_R_cell_66, ws_R_cell_69, ws_R_cell_70, ws_R_cell_71, ws_R_cell_74, ws_R_cell_77, ws_R_cell_78, tm_up_s, tm_up_n, tm_up_up, nI_leI, nI_ltI, nI_eq, nI_cl, nI_in', ix_1shl, ix_or, ix_xor, nI_1, bI_0, bI_1, bI_F, pk_us, pk_un]
  refine kd_R_cell_4 h0 (Nat.le_of_ble_eq_true rfl) (by omega) (by omega) (c_R_noVertex h0 hd) ?_
  rcases gNv_c (g := g) (v := v) hd with ⟨hb, hq⟩ | ⟨hb, j, v, hj, rfl, ej, hv, rfl, ev⟩
  · have : o_cell S g v = (.inr 0, S) := by
      rcases hq with e | ⟨j, e, e2⟩
      · simp only [o_cell, e]
      · simp only [o_cell, e, e2]
    rw [hb, this]
    apply tm_run [33] 80
    simp (disch := first | assumption | omega) only [↓reduceIte, tm_w_i, tm_w_0, Bool.false_eq_true, tm_gI_0, tm_gI_s, tm_gA_0, tm_gA_s, tm_fv_0, tm_fv_s, tm_p1_e, tm_pA_e, tm_pJ_e, tm_pV_i, tm_pV_r, tm_cI_e, tm_cZ_e, tm_cJ_e, tm_cQ_e, tm_cO_e, tm_rq_e, List.set_cons_zero, List.set_cons_succ, List.contains_cons, List.contains_nil, Nat.reduceBEq, Bool.or_false, Bool.false_or, Bool.or_true, Bool.true_or, Bool.or_self, cond_true, cond_false, true_and, and_true, or_true, true_or, true_implies, false_implies, not_true_eq_false, not_false_eq_true, List.length_cons, List.length_nil, Option.toList_some, Option.toList_none, List.cons_append, List.nil_append, ws_R_cell_0, ws_R_cell_1, ws_R_cell_2, ws_R_cell_3, ws_R_cell_4, ws_R_cell_7, ws_R_cell_10, ws_R_cell_11, ws_R_cell_14, ws_R_cell_15, ws_R_cell_18, ws_R_cell_21, ws_R_cell_22, ws_R_cell_23, ws_R_cell_24, ws_R_cell_25, ws_R_cell_28, ws_R_cell_29, ws_R_cell_30, ws_R_cell_31, ws_R_cell_33, ws_R_cell_35, ws_R_cell_36, ws_R_cell_39, ws_R_cell_40, ws_R_cell_41, ws_R_cell_44, ws_R_cell_45, ws_R_cell_48, ws_R_cell_50, ws_R_cell_51, ws_R_cell_52, ws_R_cell_55, ws_R_cell_56, ws_R_cell_57, ws_R_cell_60, ws_R_cell_61, ws_R_cell_62, ws_R_cell_64, ws_R_cell_65, ws_R_cell_66, ws_R_cell_69, ws_R_cell_70, ws_R_cell_71, ws_R_cell_74, ws_R_cell_77, ws_R_cell_78, tm_up_s, tm_up_n, tm_up_up, nI_leI, nI_ltI, nI_eq, nI_cl, nI_in', ix_1shl, ix_or, ix_xor, nI_1, bI_0, bI_1, bI_F, pk_us, pk_un, e8]
    refine kd_R_cell_15 h0 (Nat.le_of_ble_eq_true rfl) (by omega) (by omega) (c_R_refk (k := 0) h0 (by decide)) ?_
    apply tm_run [33] 80
    simp (disch := first | assumption | omega) only [↓reduceIte, tm_w_i, tm_w_0, Bool.false_eq_true, tm_gI_0, tm_gI_s, tm_gA_0, tm_gA_s, tm_fv_0, tm_fv_s, tm_p1_e, tm_pA_e, tm_pJ_e, tm_pV_i, tm_pV_r, tm_cI_e, tm_cZ_e, tm_cJ_e, tm_cQ_e, tm_cO_e, tm_rq_e, List.set_cons_zero, List.set_cons_succ, List.contains_cons, List.contains_nil, Nat.reduceBEq, Bool.or_false, Bool.false_or, Bool.or_true, Bool.true_or, Bool.or_self, cond_true, cond_false, true_and, and_true, or_true, true_or, true_implies, false_implies, not_true_eq_false, not_false_eq_true, List.length_cons, List.length_nil, Option.toList_some, Option.toList_none, List.cons_append, List.nil_append, ws_R_cell_0, ws_R_cell_1, ws_R_cell_2, ws_R_cell_3, ws_R_cell_4, ws_R_cell_7, ws_R_cell_10, ws_R_cell_11, ws_R_cell_14, ws_R_cell_15, ws_R_cell_18, ws_R_cell_21, ws_R_cell_22, ws_R_cell_23, ws_R_cell_24, ws_R_cell_25, ws_R_cell_28, ws_R_cell_29, ws_R_cell_30, ws_R_cell_31, ws_R_cell_33, ws_R_cell_35, ws_R_cell_36, ws_R_cell_39, ws_R_cell_40, ws_R_cell_41, ws_R_cell_44, ws_R_cell_45, ws_R_cell_48, ws_R_cell_50, ws_R_cell_51, ws_R_cell_52, ws_R_cell_55, ws_R_cell_56, ws_R_cell_57, ws_R_cell_60, ws_R_cell_61, ws_R_cell_62, ws_R_cell_64, ws_R_cell_65, ws_R_cell_66, ws_R_cell_69, ws_R_cell_70, ws_R_cell_71, ws_R_cell_74, ws_R_cell_77, ws_R_cell_78, tm_up_s, tm_up_n, tm_up_up, nI_leI, nI_ltI, nI_eq, nI_cl, nI_in', ix_1shl, ix_or, ix_xor, nI_1, bI_0, bI_1, bI_F, pk_us, pk_un, e1]
    exact gPq.no hd hs
  · simp only [o_cell, ej, ev]
    rw [hb]
    apply tm_run [33] 80
    simp (disch := first | assumption | omega) only [↓reduceIte, tm_w_i, tm_w_0, Bool.false_eq_true, tm_gI_0, tm_gI_s, tm_gA_0, tm_gA_s, tm_fv_0, tm_fv_s, tm_p1_e, tm_pA_e, tm_pJ_e, tm_pV_i, tm_pV_r, tm_cI_e, tm_cZ_e, tm_cJ_e, tm_cQ_e, tm_cO_e, tm_rq_e, List.set_cons_zero, List.set_cons_succ, List.contains_cons, List.contains_nil, Nat.reduceBEq, Bool.or_false, Bool.false_or, Bool.or_true, Bool.true_or, Bool.or_self, cond_true, cond_false, true_and, and_true, or_true, true_or, true_implies, false_implies, not_true_eq_false, not_false_eq_true, List.length_cons, List.length_nil, Option.toList_some, Option.toList_none, List.cons_append, List.nil_append, ws_R_cell_0, ws_R_cell_1, ws_R_cell_2, ws_R_cell_3, ws_R_cell_4, ws_R_cell_7, ws_R_cell_10, ws_R_cell_11, ws_R_cell_14, ws_R_cell_15, ws_R_cell_18, ws_R_cell_21, ws_R_cell_22, ws_R_cell_23, ws_R_cell_24, ws_R_cell_25, ws_R_cell_28, ws_R_cell_29, ws_R_cell_30, ws_R_cell_31, ws_R_cell_33, ws_R_cell_35, ws_R_cell_36, ws_R_cell_39, ws_R_cell_40, ws_R_cell_41, ws_R_cell_44, ws_R_cell_45, ws_R_cell_48, ws_R_cell_50, ws_R_cell_51, ws_R_cell_52, ws_R_cell_55, ws_R_cell_56, ws_R_cell_57, ws_R_cell_60, ws_R_cell_61, ws_R_cell_62, ws_R_cell_64, ws_R_cell_65, ws_R_cell_66, ws_R_cell_69, ws_R_cell_70, ws_R_cell_71, ws_R_cell_74, ws_R_cell_77, ws_R_cell_78, tm_up_s, tm_up_n, tm_up_up, nI_leI, nI_ltI, nI_eq, nI_cl, nI_in', ix_1shl, ix_or, ix_xor, nI_1, bI_0, bI_1, bI_F, pk_us, pk_un, bI_f]
    refine kd_R_cell_15 h0 (Nat.le_of_ble_eq_true rfl) (by omega) (by omega) (c_R_ref0 h0) ?_
    apply tm_run [33] 80
    simp (disch := first | assumption | omega) only [↓reduceIte, tm_w_i, tm_w_0, Bool.false_eq_true, tm_gI_0, tm_gI_s, tm_gA_0, tm_gA_s, tm_fv_0, tm_fv_s, tm_p1_e, tm_pA_e, tm_pJ_e, tm_pV_i, tm_pV_r, tm_cI_e, tm_cZ_e, tm_cJ_e, tm_cQ_e, tm_cO_e, tm_rq_e, List.set_cons_zero, List.set_cons_succ, List.contains_cons, List.contains_nil, Nat.reduceBEq, Bool.or_false, Bool.false_or, Bool.or_true, Bool.true_or, Bool.or_self, cond_true, cond_false, true_and, and_true, or_true, true_or, true_implies, false_implies, not_true_eq_false, not_false_eq_true, List.length_cons, List.length_nil, Option.toList_some, Option.toList_none, List.cons_append, List.nil_append, ws_R_cell_0, ws_R_cell_1, ws_R_cell_2, ws_R_cell_3, ws_R_cell_4, ws_R_cell_7, ws_R_cell_10, ws_R_cell_11, ws_R_cell_14, ws_R_cell_15, ws_R_cell_18, ws_R_cell_21, ws_R_cell_22, ws_R_cell_23, ws_R_cell_24, ws_R_cell_25, ws_R_cell_28, ws_R_cell_29, ws_R_cell_30, ws_R_cell_31, ws_R_cell_33, ws_R_cell_35, ws_R_cell_36, ws_R_cell_39, ws_R_cell_40, ws_R_cell_41, ws_R_cell_44, ws_R_cell_45, ws_R_cell_48, ws_R_cell_50, ws_R_cell_51, ws_R_cell_52, ws_R_cell_55, ws_R_cell_56, ws_R_cell_57, ws_R_cell_60, ws_R_cell_61, ws_R_cell_62, ws_R_cell_64, ws_R_cell_65, ws_R_cell_66, ws_R_cell_69, ws_R_cell_70, ws_R_cell_71, ws_R_cell_74, ws_R_cell_77, ws_R_cell_78, tm_up_s, tm_up_n, tm_up_up, nI_leI, nI_ltI, nI_eq, nI_cl, nI_in', ix_1shl, ix_or, ix_xor, nI_1, bI_0, bI_1, bI_F, pk_us, pk_un]
    refine kc_R_cell_25 (tm_up_s _ _ _) (Nat.le_of_ble_eq_true rfl) (by omega) (by omega) (c_R_split (tm_up_s _ _ _) hd.up hs.up hj) ?_ (fun k h1 ⟨e, _⟩ => nomatch e)
    rintro v0 hh ⟨z1, z2⟩
    cases z1
    obtain ⟨w1, w2⟩ := z2.q (tm_up_s _ _ _) hd.up hs.up
    have w1' := w1
    obtain ⟨⟨l', ol', H27⟩, d2, _⟩ := w1
    obtain ⟨sz, y1, y2, y3⟩ := d2.sz hj
    obtain ⟨⟨A, B, c, a1, a2, a3, a4⟩, _⟩ := z2
    have hpt := gCe_pt (S.1 j) (S.2.1 j) (S.2.2 j)
    have hc7 : ∀ w, w < S.1 j → c w < 7 := fun w hw => by have := (a4 w hw).1; omega
    have ev2 : gMk (fun w => c w == c v) (S.1 j) = gCe (S.1 j) (S.2.1 j) (S.2.2 j) v := by
      apply Nat.eq_of_testBit_eq
      intro i
      rw [gMk_bit]
      by_cases hi : i < S.1 j
      · apply Bool.eq_iff_iff.mpr
        rw [decide_eq_true hi, Bool.true_and, beq_iff_eq, gCl_eq hpt a4 hi hv, hpt.2 v i hv hi]
        exact ⟨Eq.symm, Eq.symm⟩
      · have : 2 ^ S.1 j ≤ 2 ^ i := Nat.pow_le_pow_right (by decide) (by omega)
        rw [Nat.testBit_lt_two_pow (Nat.lt_of_lt_of_le (hpt.1 v hv) this)]
        simp [hi]
    have k1 := a3 v hv
    have k2 := hc7 v hv
    apply tm_run [33] 80
    simp (disch := first | assumption | omega) only [↓reduceIte, tm_w_i, tm_w_0, Bool.false_eq_true, tm_gI_0, tm_gI_s, tm_gA_0, tm_gA_s, tm_fv_0, tm_fv_s, tm_p1_e, tm_pA_e, tm_pJ_e, tm_pV_i, tm_pV_r, tm_cI_e, tm_cZ_e, tm_cJ_e, tm_cQ_e, tm_cO_e, tm_rq_e, List.set_cons_zero, List.set_cons_succ, List.contains_cons, List.contains_nil, Nat.reduceBEq, Bool.or_false, Bool.false_or, Bool.or_true, Bool.true_or, Bool.or_self, cond_true, cond_false, true_and, and_true, or_true, true_or, true_implies, false_implies, not_true_eq_false, not_false_eq_true, List.length_cons, List.length_nil, Option.toList_some, Option.toList_none, List.cons_append, List.nil_append, ws_R_cell_0, ws_R_cell_1, ws_R_cell_2, ws_R_cell_3, ws_R_cell_4, ws_R_cell_7, ws_R_cell_10, ws_R_cell_11, ws_R_cell_14, ws_R_cell_15, ws_R_cell_18, ws_R_cell_21, ws_R_cell_22, ws_R_cell_23, ws_R_cell_24, ws_R_cell_25, ws_R_cell_28, ws_R_cell_29, ws_R_cell_30, ws_R_cell_31, ws_R_cell_33, ws_R_cell_35, ws_R_cell_36, ws_R_cell_39, ws_R_cell_40, ws_R_cell_41, ws_R_cell_44, ws_R_cell_45, ws_R_cell_48, ws_R_cell_50, ws_R_cell_51, ws_R_cell_52, ws_R_cell_55, ws_R_cell_56, ws_R_cell_57, ws_R_cell_60, ws_R_cell_61, ws_R_cell_62, ws_R_cell_64, ws_R_cell_65, ws_R_cell_66, ws_R_cell_69, ws_R_cell_70, ws_R_cell_71, ws_R_cell_74, ws_R_cell_77, ws_R_cell_78, tm_up_s, tm_up_n, tm_up_up, nI_leI, nI_ltI, nI_eq, nI_cl, nI_in', ix_1shl, ix_or, ix_xor, nI_1, bI_0, bI_1, bI_F, pk_us, pk_un]
    have key : ∀ m w, w + m = S.1 j → tm_T M_R_cell 20 0 (gPq h (.inl (nI (gCe (S.1 j) (S.2.1 j) (S.2.2 j) v)), S)) 0 33 [some (.ref 27), some (.int (nI j)), some (.int (nI v)), some (.int (nI (gMk (fun w => c w == c v) w))), some (.int (nI w))] [] hh := by
      intro m
      induction m with
      | zero =>
        intro w hw
        obtain rfl : w = S.1 j := by omega
        apply tm_run [33] 80
        simp (disch := first | assumption | omega) only [↓reduceIte, tm_w_i, tm_w_0, Bool.false_eq_true, tm_gI_0, tm_gI_s, tm_gA_0, tm_gA_s, tm_fv_0, tm_fv_s, tm_p1_e, tm_pA_e, tm_pJ_e, tm_pV_i, tm_pV_r, tm_cI_e, tm_cZ_e, tm_cJ_e, tm_cQ_e, tm_cO_e, tm_rq_e, List.set_cons_zero, List.set_cons_succ, List.contains_cons, List.contains_nil, Nat.reduceBEq, Bool.or_false, Bool.false_or, Bool.or_true, Bool.true_or, Bool.or_self, cond_true, cond_false, true_and, and_true, or_true, true_or, true_implies, false_implies, not_true_eq_false, not_false_eq_true, List.length_cons, List.length_nil, Option.toList_some, Option.toList_none, List.cons_append, List.nil_append, ws_R_cell_0, ws_R_cell_1, ws_R_cell_2, ws_R_cell_3, ws_R_cell_4, ws_R_cell_7, ws_R_cell_10, ws_R_cell_11, ws_R_cell_14, ws_R_cell_15, ws_R_cell_18, ws_R_cell_21, ws_R_cell_22, ws_R_cell_23, ws_R_cell_24, ws_R_cell_25, ws_R_cell_28, ws_R_cell_29, ws_R_cell_30, ws_R_cell_31, ws_R_cell_33, ws_R_cell_35, ws_R_cell_36, ws_R_cell_39, ws_R_cell_40, ws_R_cell_41, ws_R_cell_44, ws_R_cell_45, ws_R_cell_48, ws_R_cell_50, ws_R_cell_51, ws_R_cell_52, ws_R_cell_55, ws_R_cell_56, ws_R_cell_57, ws_R_cell_60, ws_R_cell_61, ws_R_cell_62, ws_R_cell_64, ws_R_cell_65, ws_R_cell_66, ws_R_cell_69, ws_R_cell_70, ws_R_cell_71, ws_R_cell_74, ws_R_cell_77, ws_R_cell_78, tm_up_s, tm_up_n, tm_up_up, nI_leI, nI_ltI, nI_eq, nI_cl, nI_in', ix_1shl, ix_or, ix_xor, nI_1, bI_0, bI_1, bI_F, pk_us, pk_un, H27, y1, y2, Nat.le_refl]
        rw [ev2]
        exact gPq.of w1' w2
      | succ m ih =>
        intro w hw
        have hlt : ¬ S.1 j ≤ w := by omega
        have k3 := a3 w (by omega)
        have k4 := hc7 w (by omega)
        have := ih (w + 1) (by omega)
        rw [gMk_step] at this
        apply tm_run [33] 80
        simp (disch := first | assumption | omega) only [↓reduceIte, tm_w_i, tm_w_0, Bool.false_eq_true, tm_gI_0, tm_gI_s, tm_gA_0, tm_gA_s, tm_fv_0, tm_fv_s, tm_p1_e, tm_pA_e, tm_pJ_e, tm_pV_i, tm_pV_r, tm_cI_e, tm_cZ_e, tm_cJ_e, tm_cQ_e, tm_cO_e, tm_rq_e, List.set_cons_zero, List.set_cons_succ, List.contains_cons, List.contains_nil, Nat.reduceBEq, Bool.or_false, Bool.false_or, Bool.or_true, Bool.true_or, Bool.or_self, cond_true, cond_false, true_and, and_true, or_true, true_or, true_implies, false_implies, not_true_eq_false, not_false_eq_true, List.length_cons, List.length_nil, Option.toList_some, Option.toList_none, List.cons_append, List.nil_append, ws_R_cell_0, ws_R_cell_1, ws_R_cell_2, ws_R_cell_3, ws_R_cell_4, ws_R_cell_7, ws_R_cell_10, ws_R_cell_11, ws_R_cell_14, ws_R_cell_15, ws_R_cell_18, ws_R_cell_21, ws_R_cell_22, ws_R_cell_23, ws_R_cell_24, ws_R_cell_25, ws_R_cell_28, ws_R_cell_29, ws_R_cell_30, ws_R_cell_31, ws_R_cell_33, ws_R_cell_35, ws_R_cell_36, ws_R_cell_39, ws_R_cell_40, ws_R_cell_41, ws_R_cell_44, ws_R_cell_45, ws_R_cell_48, ws_R_cell_50, ws_R_cell_51, ws_R_cell_52, ws_R_cell_55, ws_R_cell_56, ws_R_cell_57, ws_R_cell_60, ws_R_cell_61, ws_R_cell_62, ws_R_cell_64, ws_R_cell_65, ws_R_cell_66, ws_R_cell_69, ws_R_cell_70, ws_R_cell_71, ws_R_cell_74, ws_R_cell_77, ws_R_cell_78, tm_up_s, tm_up_n, tm_up_up, nI_leI, nI_ltI, nI_eq, nI_cl, nI_in', ix_1shl, ix_or, ix_xor, nI_1, bI_0, bI_1, bI_F, pk_us, pk_un, H27, y1, y2, hlt, a1, k1, k3]
        refine ⟨fun q => ?_, fun q => ?_⟩
        · have q' : (c w == c v) = false := by simpa using q
          rw [q'] at this
          exact this
        · have q' : (c w == c v) = true := by simpa using Classical.byContradiction q
          rw [q'] at this
          exact this
    exact key (S.1 j) 0 (by omega)
set_option maxRecDepth 20000 in
theorem c_R_cells {g : Int32} (hq : gYq S t h) : tm_C M_R_cells 20 0 [.ref 27, .int g] h (gPq h (o_cells S g)) := by
  obtain ⟨⟨l, ol, h0⟩, hd, hs⟩ := hq
  refine tm_C.by (L := [some (.ref 27), some (.int g), none, none]) rfl rfl rfl rfl rfl ?_
  have e8 : ¬ bI true = 0 := by decide
  have e1 : ¬ (1 : Int32) = 0 := by decide
  apply tm_run [30] 80
  simp (disch := first | assumption | omega) only [↓reduceIte, tm_w_i, tm_w_0, Bool.false_eq_true, tm_gI_0, tm_gI_s, tm_gA_0, tm_gA_s, tm_fv_0, tm_fv_s, tm_p1_e, tm_pA_e, tm_pJ_e, tm_pV_i, tm_pV_r, tm_cI_e, tm_cZ_e, tm_cJ_e, tm_cQ_e, tm_cO_e, tm_rq_e, List.set_cons_zero, List.set_cons_succ, List.contains_cons, List.contains_nil, Nat.reduceBEq, Bool.or_false, Bool.false_or, Bool.or_true, Bool.true_or, Bool.or_self, cond_true, cond_false, true_and, and_true, or_true, true_or, true_implies, false_implies, not_true_eq_false, not_false_eq_true, List.length_cons, List.length_nil, Option.toList_some, Option.toList_none, List.cons_append, List.nil_append, ws_R_cells_0, ws_R_cells_1, ws_R_cells_2, ws_R_cells_5, ws_R_cells_8, ws_R_cells_9, ws_R_cells_12, ws_R_cells_13, ws_R_cells_16, ws_R_cells_19, ws_R_cells_20, ws_R_cells_21, ws_R_cells_22, ws_R_cells_23, ws_R_cells_26, ws_R_cells_27, ws_R_cells_28, ws_R_cells_29, ws_R_cells_30, ws_R_cells_31, ws_R_cells_32, ws_R_cells_35, ws_R_cells_36, ws_R_cells_37, ws_R_cells_40, ws_R_cells_41, ws_R_cells_44, ws_R_cells_45, ws_R_cells_46, ws_R_cells_47, ws_R_cells_50, ws_R_cells_51, ws_R_cells_52, ws_R_cells_53, ws_R_cells_56, ws_R_cells_57, ws_R_cells_58, ws_R_cells_61, ws_R_cells_64, ws_R_cells_65, tm_up_s, tm_up_n, tm_up_up, nI_leI, nI_ltI, nI_eq, nI_cl, nI_in', ix_1shl, ix_or, ix_xor, nI_1, bI_0, bI_1, bI_F, pk_us, pk_un]
  refine kd_R_cells_2 (Nat.le_of_ble_eq_true rfl) (by omega) (by omega) c_R_noGraph ?_
  rcases gI_c (N := 3) (by decide) g with ⟨e, hx⟩ | ⟨j, hj, rfl, e⟩
  · simp only [o_cells, e]
    apply tm_run [30] 80
    simp (disch := first | assumption | omega) only [↓reduceIte, tm_w_i, tm_w_0, Bool.false_eq_true, tm_gI_0, tm_gI_s, tm_gA_0, tm_gA_s, tm_fv_0, tm_fv_s, tm_p1_e, tm_pA_e, tm_pJ_e, tm_pV_i, tm_pV_r, tm_cI_e, tm_cZ_e, tm_cJ_e, tm_cQ_e, tm_cO_e, tm_rq_e, List.set_cons_zero, List.set_cons_succ, List.contains_cons, List.contains_nil, Nat.reduceBEq, Bool.or_false, Bool.false_or, Bool.or_true, Bool.true_or, Bool.or_self, cond_true, cond_false, true_and, and_true, or_true, true_or, true_implies, false_implies, not_true_eq_false, not_false_eq_true, List.length_cons, List.length_nil, Option.toList_some, Option.toList_none, List.cons_append, List.nil_append, ws_R_cells_0, ws_R_cells_1, ws_R_cells_2, ws_R_cells_5, ws_R_cells_8, ws_R_cells_9, ws_R_cells_12, ws_R_cells_13, ws_R_cells_16, ws_R_cells_19, ws_R_cells_20, ws_R_cells_21, ws_R_cells_22, ws_R_cells_23, ws_R_cells_26, ws_R_cells_27, ws_R_cells_28, ws_R_cells_29, ws_R_cells_30, ws_R_cells_31, ws_R_cells_32, ws_R_cells_35, ws_R_cells_36, ws_R_cells_37, ws_R_cells_40, ws_R_cells_41, ws_R_cells_44, ws_R_cells_45, ws_R_cells_46, ws_R_cells_47, ws_R_cells_50, ws_R_cells_51, ws_R_cells_52, ws_R_cells_53, ws_R_cells_56, ws_R_cells_57, ws_R_cells_58, ws_R_cells_61, ws_R_cells_64, ws_R_cells_65, tm_up_s, tm_up_n, tm_up_up, nI_leI, nI_ltI, nI_eq, nI_cl, nI_in', ix_1shl, ix_or, ix_xor, nI_1, bI_0, bI_1, bI_F, pk_us, pk_un, Option.isNone_none, e8]
    refine kd_R_cells_13 h0 (Nat.le_of_ble_eq_true rfl) (by omega) (by omega) (c_R_refk (k := 0) h0 (by decide)) ?_
    apply tm_run [30] 80
    simp (disch := first | assumption | omega) only [↓reduceIte, tm_w_i, tm_w_0, Bool.false_eq_true, tm_gI_0, tm_gI_s, tm_gA_0, tm_gA_s, tm_fv_0, tm_fv_s, tm_p1_e, tm_pA_e, tm_pJ_e, tm_pV_i, tm_pV_r, tm_cI_e, tm_cZ_e, tm_cJ_e, tm_cQ_e, tm_cO_e, tm_rq_e, List.set_cons_zero, List.set_cons_succ, List.contains_cons, List.contains_nil, Nat.reduceBEq, Bool.or_false, Bool.false_or, Bool.or_true, Bool.true_or, Bool.or_self, cond_true, cond_false, true_and, and_true, or_true, true_or, true_implies, false_implies, not_true_eq_false, not_false_eq_true, List.length_cons, List.length_nil, Option.toList_some, Option.toList_none, List.cons_append, List.nil_append, ws_R_cells_0, ws_R_cells_1, ws_R_cells_2, ws_R_cells_5, ws_R_cells_8, ws_R_cells_9, ws_R_cells_12, ws_R_cells_13, ws_R_cells_16, ws_R_cells_19, ws_R_cells_20, ws_R_cells_21, ws_R_cells_22, ws_R_cells_23, ws_R_cells_26, ws_R_cells_27, ws_R_cells_28, ws_R_cells_29, ws_R_cells_30, ws_R_cells_31, ws_R_cells_32, ws_R_cells_35, ws_R_cells_36, ws_R_cells_37, ws_R_cells_40, ws_R_cells_41, ws_R_cells_44, ws_R_cells_45, ws_R_cells_46, ws_R_cells_47, ws_R_cells_50, ws_R_cells_51, ws_R_cells_52, ws_R_cells_53, ws_R_cells_56, ws_R_cells_57, ws_R_cells_58, ws_R_cells_61, ws_R_cells_64, ws_R_cells_65, tm_up_s, tm_up_n, tm_up_up, nI_leI, nI_ltI, nI_eq, nI_cl, nI_in', ix_1shl, ix_or, ix_xor, nI_1, bI_0, bI_1, bI_F, pk_us, pk_un, e1]
    exact gPq.no hd hs
  · simp only [o_cells, e]
    apply tm_run [30] 80
    simp (disch := first | assumption | omega) only [↓reduceIte, tm_w_i, tm_w_0, Bool.false_eq_true, tm_gI_0, tm_gI_s, tm_gA_0, tm_gA_s, tm_fv_0, tm_fv_s, tm_p1_e, tm_pA_e, tm_pJ_e, tm_pV_i, tm_pV_r, tm_cI_e, tm_cZ_e, tm_cJ_e, tm_cQ_e, tm_cO_e, tm_rq_e, List.set_cons_zero, List.set_cons_succ, List.contains_cons, List.contains_nil, Nat.reduceBEq, Bool.or_false, Bool.false_or, Bool.or_true, Bool.true_or, Bool.or_self, cond_true, cond_false, true_and, and_true, or_true, true_or, true_implies, false_implies, not_true_eq_false, not_false_eq_true, List.length_cons, List.length_nil, Option.toList_some, Option.toList_none, List.cons_append, List.nil_append, ws_R_cells_0, ws_R_cells_1, ws_R_cells_2, ws_R_cells_5, ws_R_cells_8, ws_R_cells_9, ws_R_cells_12, ws_R_cells_13, ws_R_cells_16, ws_R_cells_19, ws_R_cells_20, ws_R_cells_21, ws_R_cells_22, ws_R_cells_23, ws_R_cells_26, ws_R_cells_27, ws_R_cells_28, ws_R_cells_29, ws_R_cells_30, ws_R_cells_31, ws_R_cells_32, ws_R_cells_35, ws_R_cells_36, ws_R_cells_37, ws_R_cells_40, ws_R_cells_41, ws_R_cells_44, ws_R_cells_45, ws_R_cells_46, ws_R_cells_47, ws_R_cells_50, ws_R_cells_51, ws_R_cells_52, ws_R_cells_53, ws_R_cells_56, ws_R_cells_57, ws_R_cells_58, ws_R_cells_61, ws_R_cells_64, ws_R_cells_65, tm_up_s, tm_up_n, tm_up_up, nI_leI, nI_ltI, nI_eq, nI_cl, nI_in', ix_1shl, ix_or, ix_xor, nI_1, bI_0, bI_1, bI_F, pk_us, pk_un, Option.isNone_some, bI_f]
    refine kd_R_cells_13 h0 (Nat.le_of_ble_eq_true rfl) (by omega) (by omega) (c_R_ref0 h0) ?_
    apply tm_run [30] 80
    simp (disch := first | assumption | omega) only [↓reduceIte, tm_w_i, tm_w_0, Bool.false_eq_true, tm_gI_0, tm_gI_s, tm_gA_0, tm_gA_s, tm_fv_0, tm_fv_s, tm_p1_e, tm_pA_e, tm_pJ_e, tm_pV_i, tm_pV_r, tm_cI_e, tm_cZ_e, tm_cJ_e, tm_cQ_e, tm_cO_e, tm_rq_e, List.set_cons_zero, List.set_cons_succ, List.contains_cons, List.contains_nil, Nat.reduceBEq, Bool.or_false, Bool.false_or, Bool.or_true, Bool.true_or, Bool.or_self, cond_true, cond_false, true_and, and_true, or_true, true_or, true_implies, false_implies, not_true_eq_false, not_false_eq_true, List.length_cons, List.length_nil, Option.toList_some, Option.toList_none, List.cons_append, List.nil_append, ws_R_cells_0, ws_R_cells_1, ws_R_cells_2, ws_R_cells_5, ws_R_cells_8, ws_R_cells_9, ws_R_cells_12, ws_R_cells_13, ws_R_cells_16, ws_R_cells_19, ws_R_cells_20, ws_R_cells_21, ws_R_cells_22, ws_R_cells_23, ws_R_cells_26, ws_R_cells_27, ws_R_cells_28, ws_R_cells_29, ws_R_cells_30, ws_R_cells_31, ws_R_cells_32, ws_R_cells_35, ws_R_cells_36, ws_R_cells_37, ws_R_cells_40, ws_R_cells_41, ws_R_cells_44, ws_R_cells_45, ws_R_cells_46, ws_R_cells_47, ws_R_cells_50, ws_R_cells_51, ws_R_cells_52, ws_R_cells_53, ws_R_cells_56, ws_R_cells_57, ws_R_cells_58, ws_R_cells_61, ws_R_cells_64, ws_R_cells_65, tm_up_s, tm_up_n, tm_up_up, nI_leI, nI_ltI, nI_eq, nI_cl, nI_in', ix_1shl, ix_or, ix_xor, nI_1, bI_0, bI_1, bI_F, pk_us, pk_un]
    refine kc_R_cells_23 (tm_up_s _ _ _) (Nat.le_of_ble_eq_true rfl) (by omega) (by omega) (c_R_split (tm_up_s _ _ _) hd.up hs.up hj) ?_ (fun k h1 ⟨e, _⟩ => nomatch e)
    rintro v0 hh ⟨z1, z2⟩
    cases z1
    obtain ⟨w1, w2⟩ := z2.q (tm_up_s _ _ _) hd.up hs.up
    have w1' := w1
    obtain ⟨⟨l', ol', H27⟩, d2, _⟩ := w1
    obtain ⟨sz, y1, y2, y3⟩ := d2.sz hj
    obtain ⟨⟨A, B, c, a1, a2, a3, a4⟩, _⟩ := z2
    have hpt := gCe_pt (S.1 j) (S.2.1 j) (S.2.2 j)
    have hc7 : ∀ w, w < S.1 j → c w < 7 := fun w hw => by have := (a4 w hw).1; omega
    have hfix : ∀ v, v < S.1 j → (c v = v ↔ (gCe (S.1 j) (S.2.1 j) (S.2.2 j) v % 2 ^ v == 0) = true) := by
      intro v hv
      rw [gCl_fix hpt a4 hv, gRp_iff, beq_iff_eq, g_mod]
    apply tm_run [30] 80
    simp (disch := first | assumption | omega) only [↓reduceIte, tm_w_i, tm_w_0, Bool.false_eq_true, tm_gI_0, tm_gI_s, tm_gA_0, tm_gA_s, tm_fv_0, tm_fv_s, tm_p1_e, tm_pA_e, tm_pJ_e, tm_pV_i, tm_pV_r, tm_cI_e, tm_cZ_e, tm_cJ_e, tm_cQ_e, tm_cO_e, tm_rq_e, List.set_cons_zero, List.set_cons_succ, List.contains_cons, List.contains_nil, Nat.reduceBEq, Bool.or_false, Bool.false_or, Bool.or_true, Bool.true_or, Bool.or_self, cond_true, cond_false, true_and, and_true, or_true, true_or, true_implies, false_implies, not_true_eq_false, not_false_eq_true, List.length_cons, List.length_nil, Option.toList_some, Option.toList_none, List.cons_append, List.nil_append, ws_R_cells_0, ws_R_cells_1, ws_R_cells_2, ws_R_cells_5, ws_R_cells_8, ws_R_cells_9, ws_R_cells_12, ws_R_cells_13, ws_R_cells_16, ws_R_cells_19, ws_R_cells_20, ws_R_cells_21, ws_R_cells_22, ws_R_cells_23, ws_R_cells_26, ws_R_cells_27, ws_R_cells_28, ws_R_cells_29, ws_R_cells_30, ws_R_cells_31, ws_R_cells_32, ws_R_cells_35, ws_R_cells_36, ws_R_cells_37, ws_R_cells_40, ws_R_cells_41, ws_R_cells_44, ws_R_cells_45, ws_R_cells_46, ws_R_cells_47, ws_R_cells_50, ws_R_cells_51, ws_R_cells_52, ws_R_cells_53, ws_R_cells_56, ws_R_cells_57, ws_R_cells_58, ws_R_cells_61, ws_R_cells_64, ws_R_cells_65, tm_up_s, tm_up_n, tm_up_up, nI_leI, nI_ltI, nI_eq, nI_cl, nI_in', ix_1shl, ix_or, ix_xor, nI_1, bI_0, bI_1, bI_F, pk_us, pk_un]
    have key : ∀ m v, v + m = S.1 j → tm_T M_R_cells 20 0 (gPq h (.inl (nI (gLs2 (gCe (S.1 j) (S.2.1 j) (S.2.2 j)) (S.1 j))), S)) 0 30 [some (.ref 27), some (.int (nI j)), some (.int (nI (gLs2 (gCe (S.1 j) (S.2.1 j) (S.2.2 j)) v))), some (.int (nI v))] [] hh := by
      intro m
      induction m with
      | zero =>
        intro v hv
        obtain rfl : v = S.1 j := by omega
        apply tm_run [30] 80
        simp (disch := first | assumption | omega) only [↓reduceIte, tm_w_i, tm_w_0, Bool.false_eq_true, tm_gI_0, tm_gI_s, tm_gA_0, tm_gA_s, tm_fv_0, tm_fv_s, tm_p1_e, tm_pA_e, tm_pJ_e, tm_pV_i, tm_pV_r, tm_cI_e, tm_cZ_e, tm_cJ_e, tm_cQ_e, tm_cO_e, tm_rq_e, List.set_cons_zero, List.set_cons_succ, List.contains_cons, List.contains_nil, Nat.reduceBEq, Bool.or_false, Bool.false_or, Bool.or_true, Bool.true_or, Bool.or_self, cond_true, cond_false, true_and, and_true, or_true, true_or, true_implies, false_implies, not_true_eq_false, not_false_eq_true, List.length_cons, List.length_nil, Option.toList_some, Option.toList_none, List.cons_append, List.nil_append, ws_R_cells_0, ws_R_cells_1, ws_R_cells_2, ws_R_cells_5, ws_R_cells_8, ws_R_cells_9, ws_R_cells_12, ws_R_cells_13, ws_R_cells_16, ws_R_cells_19, ws_R_cells_20, ws_R_cells_21, ws_R_cells_22, ws_R_cells_23, ws_R_cells_26, ws_R_cells_27, ws_R_cells_28, ws_R_cells_29, ws_R_cells_30, ws_R_cells_31, ws_R_cells_32, ws_R_cells_35, ws_R_cells_36, ws_R_cells_37, ws_R_cells_40, ws_R_cells_41, ws_R_cells_44, ws_R_cells_45, ws_R_cells_46, ws_R_cells_47, ws_R_cells_50, ws_R_cells_51, ws_R_cells_52, ws_R_cells_53, ws_R_cells_56, ws_R_cells_57, ws_R_cells_58, ws_R_cells_61, ws_R_cells_64, ws_R_cells_65, tm_up_s, tm_up_n, tm_up_up, nI_leI, nI_ltI, nI_eq, nI_cl, nI_in', ix_1shl, ix_or, ix_xor, nI_1, bI_0, bI_1, bI_F, pk_us, pk_un, H27, y1, y2, Nat.le_refl]
        exact gPq.of w1' w2
      | succ m ih =>
        intro v hv
        have hlt : ¬ S.1 j ≤ v := by omega
        have k3 := a3 v (by omega)
        have k4 := hc7 v (by omega)
        have := ih (v + 1) (by omega)
        have gl : gLs2 (gCe (S.1 j) (S.2.1 j) (S.2.2 j)) (v + 1) = gLs2 (gCe (S.1 j) (S.2.1 j) (S.2.2 j)) v + (if gCe (S.1 j) (S.2.1 j) (S.2.2 j) v % 2 ^ v == 0 then 1 else 0) := rfl
        rw [gl] at this
        apply tm_run [30] 80
        simp (disch := first | assumption | omega) only [↓reduceIte, tm_w_i, tm_w_0, Bool.false_eq_true, tm_gI_0, tm_gI_s, tm_gA_0, tm_gA_s, tm_fv_0, tm_fv_s, tm_p1_e, tm_pA_e, tm_pJ_e, tm_pV_i, tm_pV_r, tm_cI_e, tm_cZ_e, tm_cJ_e, tm_cQ_e, tm_cO_e, tm_rq_e, List.set_cons_zero, List.set_cons_succ, List.contains_cons, List.contains_nil, Nat.reduceBEq, Bool.or_false, Bool.false_or, Bool.or_true, Bool.true_or, Bool.or_self, cond_true, cond_false, true_and, and_true, or_true, true_or, true_implies, false_implies, not_true_eq_false, not_false_eq_true, List.length_cons, List.length_nil, Option.toList_some, Option.toList_none, List.cons_append, List.nil_append, ws_R_cells_0, ws_R_cells_1, ws_R_cells_2, ws_R_cells_5, ws_R_cells_8, ws_R_cells_9, ws_R_cells_12, ws_R_cells_13, ws_R_cells_16, ws_R_cells_19, ws_R_cells_20, ws_R_cells_21, ws_R_cells_22, ws_R_cells_23, ws_R_cells_26, ws_R_cells_27, ws_R_cells_28, ws_R_cells_29, ws_R_cells_30, ws_R_cells_31, ws_R_cells_32, ws_R_cells_35, ws_R_cells_36, ws_R_cells_37, ws_R_cells_40, ws_R_cells_41, ws_R_cells_44, ws_R_cells_45, ws_R_cells_46, ws_R_cells_47, ws_R_cells_50, ws_R_cells_51, ws_R_cells_52, ws_R_cells_53, ws_R_cells_56, ws_R_cells_57, ws_R_cells_58, ws_R_cells_61, ws_R_cells_64, ws_R_cells_65, tm_up_s, tm_up_n, tm_up_up, nI_leI, nI_ltI, nI_eq, nI_cl, nI_in', ix_1shl, ix_or, ix_xor, nI_1, bI_0, bI_1, bI_F, pk_us, pk_un, H27, y1, y2, hlt, a1, k3]
        refine ⟨fun q => ?_, fun q => ?_⟩
        · rw [if_neg (fun z => q ((hfix v (by omega)).mpr z)), Nat.add_zero] at this
          exact this
        · rw [if_pos ((hfix v (by omega)).mp (Classical.byContradiction q))] at this
          exact this
    exact key (S.1 j) 0 (by omega)
end CN
