section CD
variable {S : gSt} {h h' : tm_Hp} {t l ol : Int32}
set_option maxRecDepth 20000 in
theorem c_R_copy {g g' : Int32} (hq : gYq S t h) : tm_C M_R_copy 20 0 [.ref 27, .int g, .int g'] h (gPq h (o_copy S g g')) := by
  obtain ⟨⟨l, ol, h0⟩, hd, hs⟩ := hq
  refine tm_C.by (L := [some (.ref 27), some (.int g), some (.int g'), none]) rfl rfl rfl rfl rfl ?_
  have e8 : ¬ bI true = 0 := by decide
  have e1 : ¬ (1 : Int32) = 0 := by decide
  apply tm_run [42, 78] 80
  simp (disch := first | assumption | omega) only [↓reduceIte, tm_w_i, tm_w_0, Bool.false_eq_true, tm_gI_0, tm_gI_s, tm_gA_0, tm_gA_s, tm_fv_0, tm_fv_s, tm_p1_e, tm_pA_e, tm_pJ_e, tm_pV_i, tm_pV_r, tm_cI_e, tm_cZ_e, tm_cJ_e, tm_cQ_e, tm_cO_e, tm_rq_e, List.set_cons_zero, List.set_cons_succ, List.contains_cons, List.contains_nil, Nat.reduceBEq, Bool.or_false, Bool.false_or, Bool.or_true, Bool.true_or, Bool.or_self, cond_true, cond_false, true_and, and_true, or_true, true_or, true_implies, false_implies, not_true_eq_false, not_false_eq_true, List.length_cons, List.length_nil, Option.toList_some, Option.toList_none, List.cons_append, List.nil_append, ws_R_copy_0, ws_R_copy_1, ws_R_copy_2, ws_R_copy_5, ws_R_copy_8, ws_R_copy_9, ws_R_copy_12, ws_R_copy_15, ws_R_copy_16, ws_R_copy_19, ws_R_copy_20, ws_R_copy_23, ws_R_copy_26, ws_R_copy_27, ws_R_copy_28, ws_R_copy_29, ws_R_copy_32, ws_R_copy_33, ws_R_copy_34, ws_R_copy_37, ws_R_copy_38, ws_R_copy_39, ws_R_copy_40, ws_R_copy_41, ws_R_copy_42, ws_R_copy_43, ws_R_copy_45, ws_R_copy_48, ws_R_copy_49, ws_R_copy_52, ws_R_copy_54, ws_R_copy_55, ws_R_copy_56, ws_R_copy_57, ws_R_copy_58, ws_R_copy_59, ws_R_copy_62, ws_R_copy_64, ws_R_copy_65, ws_R_copy_66, ws_R_copy_67, ws_R_copy_68, ws_R_copy_69, ws_R_copy_70, ws_R_copy_73, ws_R_copy_76, ws_R_copy_77, ws_R_copy_78, ws_R_copy_79, ws_R_copy_81, ws_R_copy_84, ws_R_copy_85, ws_R_copy_88, ws_R_copy_90, ws_R_copy_91, ws_R_copy_92, ws_R_copy_93, ws_R_copy_94, ws_R_copy_95, ws_R_copy_98, ws_R_copy_100, ws_R_copy_101, ws_R_copy_102, ws_R_copy_103, ws_R_copy_104, ws_R_copy_105, ws_R_copy_106, ws_R_copy_109, ws_R_copy_112, ws_R_copy_113, ws_R_copy_116, ws_R_copy_117, ws_R_copy_118, tm_up_s, tm_up_n, tm_up_up, nI_leI, nI_ltI, nI_eq, nI_cl, nI_in', ix_1shl, ix_or, ix_xor, nI_1, bI_0, bI_1, bI_F, pk_us, pk_un]
  refine kd_R_copy_2 (Nat.le_of_ble_eq_true rfl) (by omega) (by omega) c_R_noGraph ?_
  rcases gI_c (N := 3) (by decide) g with ⟨e, hx⟩ | ⟨j, hj, rfl, e⟩
  · simp only [o_copy, e]
    apply tm_run [42, 78] 80
    simp (disch := first | assumption | omega) only [↓reduceIte, tm_w_i, tm_w_0, Bool.false_eq_true, tm_gI_0, tm_gI_s, tm_gA_0, tm_gA_s, tm_fv_0, tm_fv_s, tm_p1_e, tm_pA_e, tm_pJ_e, tm_pV_i, tm_pV_r, tm_cI_e, tm_cZ_e, tm_cJ_e, tm_cQ_e, tm_cO_e, tm_rq_e, List.set_cons_zero, List.set_cons_succ, List.contains_cons, List.contains_nil, Nat.reduceBEq, Bool.or_false, Bool.false_or, Bool.or_true, Bool.true_or, Bool.or_self, cond_true, cond_false, true_and, and_true, or_true, true_or, true_implies, false_implies, not_true_eq_false, not_false_eq_true, List.length_cons, List.length_nil, Option.toList_some, Option.toList_none, List.cons_append, List.nil_append, ws_R_copy_0, ws_R_copy_1, ws_R_copy_2, ws_R_copy_5, ws_R_copy_8, ws_R_copy_9, ws_R_copy_12, ws_R_copy_15, ws_R_copy_16, ws_R_copy_19, ws_R_copy_20, ws_R_copy_23, ws_R_copy_26, ws_R_copy_27, ws_R_copy_28, ws_R_copy_29, ws_R_copy_32, ws_R_copy_33, ws_R_copy_34, ws_R_copy_37, ws_R_copy_38, ws_R_copy_39, ws_R_copy_40, ws_R_copy_41, ws_R_copy_42, ws_R_copy_43, ws_R_copy_45, ws_R_copy_48, ws_R_copy_49, ws_R_copy_52, ws_R_copy_54, ws_R_copy_55, ws_R_copy_56, ws_R_copy_57, ws_R_copy_58, ws_R_copy_59, ws_R_copy_62, ws_R_copy_64, ws_R_copy_65, ws_R_copy_66, ws_R_copy_67, ws_R_copy_68, ws_R_copy_69, ws_R_copy_70, ws_R_copy_73, ws_R_copy_76, ws_R_copy_77, ws_R_copy_78, ws_R_copy_79, ws_R_copy_81, ws_R_copy_84, ws_R_copy_85, ws_R_copy_88, ws_R_copy_90, ws_R_copy_91, ws_R_copy_92, ws_R_copy_93, ws_R_copy_94, ws_R_copy_95, ws_R_copy_98, ws_R_copy_100, ws_R_copy_101, ws_R_copy_102, ws_R_copy_103, ws_R_copy_104, ws_R_copy_105, ws_R_copy_106, ws_R_copy_109, ws_R_copy_112, ws_R_copy_113, ws_R_copy_116, ws_R_copy_117, ws_R_copy_118, tm_up_s, tm_up_n, tm_up_up, nI_leI, nI_ltI, nI_eq, nI_cl, nI_in', ix_1shl, ix_or, ix_xor, nI_1, bI_0, bI_1, bI_F, pk_us, pk_un, Option.isNone_none, e8]
    refine kd_R_copy_20 h0 (Nat.le_of_ble_eq_true rfl) (by omega) (by omega) (c_R_refk (k := 0) h0 (by decide)) ?_
    apply tm_run [42, 78] 80
    simp (disch := first | assumption | omega) only [↓reduceIte, tm_w_i, tm_w_0, Bool.false_eq_true, tm_gI_0, tm_gI_s, tm_gA_0, tm_gA_s, tm_fv_0, tm_fv_s, tm_p1_e, tm_pA_e, tm_pJ_e, tm_pV_i, tm_pV_r, tm_cI_e, tm_cZ_e, tm_cJ_e, tm_cQ_e, tm_cO_e, tm_rq_e, List.set_cons_zero, List.set_cons_succ, List.contains_cons, List.contains_nil, Nat.reduceBEq, Bool.or_false, Bool.false_or, Bool.or_true, Bool.true_or, Bool.or_self, cond_true, cond_false, true_and, and_true, or_true, true_or, true_implies, false_implies, not_true_eq_false, not_false_eq_true, List.length_cons, List.length_nil, Option.toList_some, Option.toList_none, List.cons_append, List.nil_append, ws_R_copy_0, ws_R_copy_1, ws_R_copy_2, ws_R_copy_5, ws_R_copy_8, ws_R_copy_9, ws_R_copy_12, ws_R_copy_15, ws_R_copy_16, ws_R_copy_19, ws_R_copy_20, ws_R_copy_23, ws_R_copy_26, ws_R_copy_27, ws_R_copy_28, ws_R_copy_29, ws_R_copy_32, ws_R_copy_33, ws_R_copy_34, ws_R_copy_37, ws_R_copy_38, ws_R_copy_39, ws_R_copy_40, ws_R_copy_41, ws_R_copy_42, ws_R_copy_43, ws_R_copy_45, ws_R_copy_48, ws_R_copy_49, ws_R_copy_52, ws_R_copy_54, ws_R_copy_55, ws_R_copy_56, ws_R_copy_57, ws_R_copy_58, ws_R_copy_59, ws_R_copy_62, ws_R_copy_64, ws_R_copy_65, ws_R_copy_66, ws_R_copy_67, ws_R_copy_68, ws_R_copy_69, ws_R_copy_70, ws_R_copy_73, ws_R_copy_76, ws_R_copy_77, ws_R_copy_78, ws_R_copy_79, ws_R_copy_81, ws_R_copy_84, ws_R_copy_85, ws_R_copy_88, ws_R_copy_90, ws_R_copy_91, ws_R_copy_92, ws_R_copy_93, ws_R_copy_94, ws_R_copy_95, ws_R_copy_98, ws_R_copy_100, ws_R_copy_101, ws_R_copy_102, ws_R_copy_103, ws_R_copy_104, ws_R_copy_105, ws_R_copy_106, ws_R_copy_109, ws_R_copy_112, ws_R_copy_113, ws_R_copy_116, ws_R_copy_117, ws_R_copy_118, tm_up_s, tm_up_n, tm_up_up, nI_leI, nI_ltI, nI_eq, nI_cl, nI_in', ix_1shl, ix_or, ix_xor, nI_1, bI_0, bI_1, bI_F, pk_us, pk_un, e1]
    exact gPq.no hd hs
  · rw [e]
    apply tm_run [42, 78] 80
    simp (disch := first | assumption | omega) only [↓reduceIte, tm_w_i, tm_w_0, Bool.false_eq_true, tm_gI_0, tm_gI_s, tm_gA_0, tm_gA_s, tm_fv_0, tm_fv_s, tm_p1_e, tm_pA_e, tm_pJ_e, tm_pV_i, tm_pV_r, tm_cI_e, tm_cZ_e, tm_cJ_e, tm_cQ_e, tm_cO_e, tm_rq_e, List.set_cons_zero, List.set_cons_succ, List.contains_cons, List.contains_nil, Nat.reduceBEq, Bool.or_false, Bool.false_or, Bool.or_true, Bool.true_or, Bool.or_self, cond_true, cond_false, true_and, and_true, or_true, true_or, true_implies, false_implies, not_true_eq_false, not_false_eq_true, List.length_cons, List.length_nil, Option.toList_some, Option.toList_none, List.cons_append, List.nil_append, ws_R_copy_0, ws_R_copy_1, ws_R_copy_2, ws_R_copy_5, ws_R_copy_8, ws_R_copy_9, ws_R_copy_12, ws_R_copy_15, ws_R_copy_16, ws_R_copy_19, ws_R_copy_20, ws_R_copy_23, ws_R_copy_26, ws_R_copy_27, ws_R_copy_28, ws_R_copy_29, ws_R_copy_32, ws_R_copy_33, ws_R_copy_34, ws_R_copy_37, ws_R_copy_38, ws_R_copy_39, ws_R_copy_40, ws_R_copy_41, ws_R_copy_42, ws_R_copy_43, ws_R_copy_45, ws_R_copy_48, ws_R_copy_49, ws_R_copy_52, ws_R_copy_54, ws_R_copy_55, ws_R_copy_56, ws_R_copy_57, ws_R_copy_58, ws_R_copy_59, ws_R_copy_62, ws_R_copy_64, ws_R_copy_65, ws_R_copy_66, ws_R_copy_67, ws_R_copy_68, ws_R_copy_69, ws_R_copy_70, ws_R_copy_73, ws_R_copy_76, ws_R_copy_77, ws_R_copy_78, ws_R_copy_79, ws_R_copy_81, ws_R_copy_84, ws_R_copy_85, ws_R_copy_88, ws_R_copy_90, ws_R_copy_91, ws_R_copy_92, ws_R_copy_93, ws_R_copy_94, ws_R_copy_95, ws_R_copy_98, ws_R_copy_100, ws_R_copy_101, ws_R_copy_102, ws_R_copy_103, ws_R_copy_104, ws_R_copy_105, ws_R_copy_106, ws_R_copy_109, ws_R_copy_112, ws_R_copy_113, ws_R_copy_116, ws_R_copy_117, ws_R_copy_118, tm_up_s, tm_up_n, tm_up_up, nI_leI, nI_ltI, nI_eq, nI_cl, nI_in', ix_1shl, ix_or, ix_xor, nI_1, bI_0, bI_1, bI_F, pk_us, pk_un, Option.isNone_some, bI_f]
    refine kd_R_copy_9 (Nat.le_of_ble_eq_true rfl) (by omega) (by omega) c_R_noGraph ?_
    rcases gI_c (N := 3) (by decide) g' with ⟨e2, hx⟩ | ⟨i, hi, rfl, e2⟩
    · simp only [o_copy, e, e2]
      apply tm_run [42, 78] 80
      simp (disch := first | assumption | omega) only [↓reduceIte, tm_w_i, tm_w_0, Bool.false_eq_true, tm_gI_0, tm_gI_s, tm_gA_0, tm_gA_s, tm_fv_0, tm_fv_s, tm_p1_e, tm_pA_e, tm_pJ_e, tm_pV_i, tm_pV_r, tm_cI_e, tm_cZ_e, tm_cJ_e, tm_cQ_e, tm_cO_e, tm_rq_e, List.set_cons_zero, List.set_cons_succ, List.contains_cons, List.contains_nil, Nat.reduceBEq, Bool.or_false, Bool.false_or, Bool.or_true, Bool.true_or, Bool.or_self, cond_true, cond_false, true_and, and_true, or_true, true_or, true_implies, false_implies, not_true_eq_false, not_false_eq_true, List.length_cons, List.length_nil, Option.toList_some, Option.toList_none, List.cons_append, List.nil_append, ws_R_copy_0, ws_R_copy_1, ws_R_copy_2, ws_R_copy_5, ws_R_copy_8, ws_R_copy_9, ws_R_copy_12, ws_R_copy_15, ws_R_copy_16, ws_R_copy_19, ws_R_copy_20, ws_R_copy_23, ws_R_copy_26, ws_R_copy_27, ws_R_copy_28, ws_R_copy_29, ws_R_copy_32, ws_R_copy_33, ws_R_copy_34, ws_R_copy_37, ws_R_copy_38, ws_R_copy_39, ws_R_copy_40, ws_R_copy_41, ws_R_copy_42, ws_R_copy_43, ws_R_copy_45, ws_R_copy_48, ws_R_copy_49, ws_R_copy_52, ws_R_copy_54, ws_R_copy_55, ws_R_copy_56, ws_R_copy_57, ws_R_copy_58, ws_R_copy_59, ws_R_copy_62, ws_R_copy_64, ws_R_copy_65, ws_R_copy_66, ws_R_copy_67, ws_R_copy_68, ws_R_copy_69, ws_R_copy_70, ws_R_copy_73, ws_R_copy_76, ws_R_copy_77, ws_R_copy_78, ws_R_copy_79, ws_R_copy_81, ws_R_copy_84, ws_R_copy_85, ws_R_copy_88, ws_R_copy_90, ws_R_copy_91, ws_R_copy_92, ws_R_copy_93, ws_R_copy_94, ws_R_copy_95, ws_R_copy_98, ws_R_copy_100, ws_R_copy_101, ws_R_copy_102, ws_R_copy_103, ws_R_copy_104, ws_R_copy_105, ws_R_copy_106, ws_R_copy_109, ws_R_copy_112, ws_R_copy_113, ws_R_copy_116, ws_R_copy_117, ws_R_copy_118, tm_up_s, tm_up_n, tm_up_up, nI_leI, nI_ltI, nI_eq, nI_cl, nI_in', ix_1shl, ix_or, ix_xor, nI_1, bI_0, bI_1, bI_F, pk_us, pk_un, Option.isNone_none, e8]
      refine kd_R_copy_20 h0 (Nat.le_of_ble_eq_true rfl) (by omega) (by omega) (c_R_refk (k := 0) h0 (by decide)) ?_
      apply tm_run [42, 78] 80
      simp (disch := first | assumption | omega) only [↓reduceIte, tm_w_i, tm_w_0, Bool.false_eq_true, tm_gI_0, tm_gI_s, tm_gA_0, tm_gA_s, tm_fv_0, tm_fv_s, tm_p1_e, tm_pA_e, tm_pJ_e, tm_pV_i, tm_pV_r, tm_cI_e, tm_cZ_e, tm_cJ_e, tm_cQ_e, tm_cO_e, tm_rq_e, List.set_cons_zero, List.set_cons_succ, List.contains_cons, List.contains_nil, Nat.reduceBEq, Bool.or_false, Bool.false_or, Bool.or_true, Bool.true_or, Bool.or_self, cond_true, cond_false, true_and, and_true, or_true, true_or, true_implies, false_implies, not_true_eq_false, not_false_eq_true, List.length_cons, List.length_nil, Option.toList_some, Option.toList_none, List.cons_append, List.nil_append, ws_R_copy_0, ws_R_copy_1, ws_R_copy_2, ws_R_copy_5, ws_R_copy_8, ws_R_copy_9, ws_R_copy_12, ws_R_copy_15, ws_R_copy_16, ws_R_copy_19, ws_R_copy_20, ws_R_copy_23, ws_R_copy_26, ws_R_copy_27, ws_R_copy_28, ws_R_copy_29, ws_R_copy_32, ws_R_copy_33, ws_R_copy_34, ws_R_copy_37, ws_R_copy_38, ws_R_copy_39, ws_R_copy_40, ws_R_copy_41, ws_R_copy_42, ws_R_copy_43, ws_R_copy_45, ws_R_copy_48, ws_R_copy_49, ws_R_copy_52, ws_R_copy_54, ws_R_copy_55, ws_R_copy_56, ws_R_copy_57, ws_R_copy_58, ws_R_copy_59, ws_R_copy_62, ws_R_copy_64, ws_R_copy_65, ws_R_copy_66, ws_R_copy_67, ws_R_copy_68, ws_R_copy_69, ws_R_copy_70, ws_R_copy_73, ws_R_copy_76, ws_R_copy_77, ws_R_copy_78, ws_R_copy_79, ws_R_copy_81, ws_R_copy_84, ws_R_copy_85, ws_R_copy_88, ws_R_copy_90, ws_R_copy_91, ws_R_copy_92, ws_R_copy_93, ws_R_copy_94, ws_R_copy_95, ws_R_copy_98, ws_R_copy_100, ws_R_copy_101, ws_R_copy_102, ws_R_copy_103, ws_R_copy_104, ws_R_copy_105, ws_R_copy_106, ws_R_copy_109, ws_R_copy_112, ws_R_copy_113, ws_R_copy_116, ws_R_copy_117, ws_R_copy_118, tm_up_s, tm_up_n, tm_up_up, nI_leI, nI_ltI, nI_eq, nI_cl, nI_in', ix_1shl, ix_or, ix_xor, nI_1, bI_0, bI_1, bI_F, pk_us, pk_un, e1]
      exact gPq.no hd hs
    · simp only [o_copy, e, e2]
      apply tm_run [42, 78] 80
      simp (disch := first | assumption | omega) only [↓reduceIte, tm_w_i, tm_w_0, Bool.false_eq_true, tm_gI_0, tm_gI_s, tm_gA_0, tm_gA_s, tm_fv_0, tm_fv_s, tm_p1_e, tm_pA_e, tm_pJ_e, tm_pV_i, tm_pV_r, tm_cI_e, tm_cZ_e, tm_cJ_e, tm_cQ_e, tm_cO_e, tm_rq_e, List.set_cons_zero, List.set_cons_succ, List.contains_cons, List.contains_nil, Nat.reduceBEq, Bool.or_false, Bool.false_or, Bool.or_true, Bool.true_or, Bool.or_self, cond_true, cond_false, true_and, and_true, or_true, true_or, true_implies, false_implies, not_true_eq_false, not_false_eq_true, List.length_cons, List.length_nil, Option.toList_some, Option.toList_none, List.cons_append, List.nil_append, ws_R_copy_0, ws_R_copy_1, ws_R_copy_2, ws_R_copy_5, ws_R_copy_8, ws_R_copy_9, ws_R_copy_12, ws_R_copy_15, ws_R_copy_16, ws_R_copy_19, ws_R_copy_20, ws_R_copy_23, ws_R_copy_26, ws_R_copy_27, ws_R_copy_28, ws_R_copy_29, ws_R_copy_32, ws_R_copy_33, ws_R_copy_34, ws_R_copy_37, ws_R_copy_38, ws_R_copy_39, ws_R_copy_40, ws_R_copy_41, ws_R_copy_42, ws_R_copy_43, ws_R_copy_45, ws_R_copy_48, ws_R_copy_49, ws_R_copy_52, ws_R_copy_54, ws_R_copy_55, ws_R_copy_56, ws_R_copy_57, ws_R_copy_58, ws_R_copy_59, ws_R_copy_62, ws_R_copy_64, ws_R_copy_65, ws_R_copy_66, ws_R_copy_67, ws_R_copy_68, ws_R_copy_69, ws_R_copy_70, ws_R_copy_73, ws_R_copy_76, ws_R_copy_77, ws_R_copy_78, ws_R_copy_79, ws_R_copy_81, ws_R_copy_84, ws_R_copy_85, ws_R_copy_88, ws_R_copy_90, ws_R_copy_91, ws_R_copy_92, ws_R_copy_93, ws_R_copy_94, ws_R_copy_95, ws_R_copy_98, ws_R_copy_100, ws_R_copy_101, ws_R_copy_102, ws_R_copy_103, ws_R_copy_104, ws_R_copy_105, ws_R_copy_106, ws_R_copy_109, ws_R_copy_112, ws_R_copy_113, ws_R_copy_116, ws_R_copy_117, ws_R_copy_118, tm_up_s, tm_up_n, tm_up_up, nI_leI, nI_ltI, nI_eq, nI_cl, nI_in', ix_1shl, ix_or, ix_xor, nI_1, bI_0, bI_1, bI_F, pk_us, pk_un, Option.isNone_some, bI_f]
      refine kd_R_copy_20 h0 (Nat.le_of_ble_eq_true rfl) (by omega) (by omega) (c_R_ref0 h0) ?_
      obtain ⟨sz, co, ed, a1, a2, a3, a4⟩ := hd
      obtain ⟨c1, c2, c3, c4⟩ := a4 i hi
      have hni := c2.1
      have hK9 : 29 < tm_K := by decide
      have hK8 : 28 < tm_K := by decide
      apply tm_run [42, 78] 80
      simp (disch := first | assumption | omega) only [↓reduceIte, tm_w_i, tm_w_0, Bool.false_eq_true, tm_gI_0, tm_gI_s, tm_gA_0, tm_gA_s, tm_fv_0, tm_fv_s, tm_p1_e, tm_pA_e, tm_pJ_e, tm_pV_i, tm_pV_r, tm_cI_e, tm_cZ_e, tm_cJ_e, tm_cQ_e, tm_cO_e, tm_rq_e, List.set_cons_zero, List.set_cons_succ, List.contains_cons, List.contains_nil, Nat.reduceBEq, Bool.or_false, Bool.false_or, Bool.or_true, Bool.true_or, Bool.or_self, cond_true, cond_false, true_and, and_true, or_true, true_or, true_implies, false_implies, not_true_eq_false, not_false_eq_true, List.length_cons, List.length_nil, Option.toList_some, Option.toList_none, List.cons_append, List.nil_append, ws_R_copy_0, ws_R_copy_1, ws_R_copy_2, ws_R_copy_5, ws_R_copy_8, ws_R_copy_9, ws_R_copy_12, ws_R_copy_15, ws_R_copy_16, ws_R_copy_19, ws_R_copy_20, ws_R_copy_23, ws_R_copy_26, ws_R_copy_27, ws_R_copy_28, ws_R_copy_29, ws_R_copy_32, ws_R_copy_33, ws_R_copy_34, ws_R_copy_37, ws_R_copy_38, ws_R_copy_39, ws_R_copy_40, ws_R_copy_41, ws_R_copy_42, ws_R_copy_43, ws_R_copy_45, ws_R_copy_48, ws_R_copy_49, ws_R_copy_52, ws_R_copy_54, ws_R_copy_55, ws_R_copy_56, ws_R_copy_57, ws_R_copy_58, ws_R_copy_59, ws_R_copy_62, ws_R_copy_64, ws_R_copy_65, ws_R_copy_66, ws_R_copy_67, ws_R_copy_68, ws_R_copy_69, ws_R_copy_70, ws_R_copy_73, ws_R_copy_76, ws_R_copy_77, ws_R_copy_78, ws_R_copy_79, ws_R_copy_81, ws_R_copy_84, ws_R_copy_85, ws_R_copy_88, ws_R_copy_90, ws_R_copy_91, ws_R_copy_92, ws_R_copy_93, ws_R_copy_94, ws_R_copy_95, ws_R_copy_98, ws_R_copy_100, ws_R_copy_101, ws_R_copy_102, ws_R_copy_103, ws_R_copy_104, ws_R_copy_105, ws_R_copy_106, ws_R_copy_109, ws_R_copy_112, ws_R_copy_113, ws_R_copy_116, ws_R_copy_117, ws_R_copy_118, tm_up_s, tm_up_n, tm_up_up, nI_leI, nI_ltI, nI_eq, nI_cl, nI_in', ix_1shl, ix_or, ix_xor, nI_1, bI_0, bI_1, bI_F, pk_us, pk_un, a1, c1, hK8]
      generalize hH : tm_up (tm_up h 27 (tm_o 5 [.int 0, .ref 28, .ref 29, .ref 30, .ref 31, .ref 32, .int l, .ref 33, .int ol, .ref 34, .ref 35, .ref 36, .ref 37])) 28 (tm_i 3 (upd sz j (nI (S.1 i)))) = H
      have H27 : H 27 = tm_o 5 [.int 0, .ref 28, .ref 29, .ref 30, .ref 31, .ref 32, .int l, .ref 33, .int ol, .ref 34, .ref 35, .ref 36, .ref 37] := by rw [← hH, tm_up_n (by decide), tm_up_s]
      have H28 : H 28 = tm_i 3 (upd sz j (nI (S.1 i))) := by rw [← hH, tm_up_s]
      have H29 : H 29 = tm_i 21 co := by rw [← hH, tm_up_n (by decide), tm_up_n (by decide)]; exact a2
      have H30 : H 30 = tm_z 147 ed := by rw [← hH, tm_up_n (by decide), tm_up_n (by decide)]; exact a3
      have Hx : ∀ k, k ≠ 27 → k ≠ 28 → H k = h k := fun k q1 q2 => by rw [← hH, tm_up_n q2, tm_up_n q1]
      have edge : ∀ (m k : Nat) (co' ed' : Nat → Int32), k + m = 49 → (∀ x, x < 7 → co' (7 * j + x) = co (7 * i + x)) → (∀ g x, g < 3 → x < 7 → g ≠ j → co' (7 * g + x) = co (7 * g + x)) → (∀ x, x < k → ed' (49 * j + x) = vp_nar .boolean (ed (49 * i + x))) → (∀ y, y < 147 → (y < 49 * j ∨ 49 * j + k ≤ y) → ed' y = ed y) →
          tm_T M_R_copy 20 0 (gPq h (.inl (nI (S.1 i)), gPut S j (S.1 i) (S.2.1 i) (S.2.2 i))) 0 78 [some (.ref 27), some (.int (nI j)), some (.int (nI i)), some (.int (nI k))] [] (tm_up (tm_up H 29 (tm_i 21 co')) 30 (tm_z 147 ed')) := by
        intro m
        induction m with
        | zero =>
          intro k co' ed' hk hco hco2 hed hed2
          obtain rfl : k = 49 := by omega
          apply tm_run [42, 78] 80
          simp (disch := first | assumption | omega) only [↓reduceIte, tm_w_i, tm_w_0, Bool.false_eq_true, tm_gI_0, tm_gI_s, tm_gA_0, tm_gA_s, tm_fv_0, tm_fv_s, tm_p1_e, tm_pA_e, tm_pJ_e, tm_pV_i, tm_pV_r, tm_cI_e, tm_cZ_e, tm_cJ_e, tm_cQ_e, tm_cO_e, tm_rq_e, List.set_cons_zero, List.set_cons_succ, List.contains_cons, List.contains_nil, Nat.reduceBEq, Bool.or_false, Bool.false_or, Bool.or_true, Bool.true_or, Bool.or_self, cond_true, cond_false, true_and, and_true, or_true, true_or, true_implies, false_implies, not_true_eq_false, not_false_eq_true, List.length_cons, List.length_nil, Option.toList_some, Option.toList_none, List.cons_append, List.nil_append, ws_R_copy_0, ws_R_copy_1, ws_R_copy_2, ws_R_copy_5, ws_R_copy_8, ws_R_copy_9, ws_R_copy_12, ws_R_copy_15, ws_R_copy_16, ws_R_copy_19, ws_R_copy_20, ws_R_copy_23, ws_R_copy_26, ws_R_copy_27, ws_R_copy_28, ws_R_copy_29, ws_R_copy_32, ws_R_copy_33, ws_R_copy_34, ws_R_copy_37, ws_R_copy_38, ws_R_copy_39, ws_R_copy_40, ws_R_copy_41, ws_R_copy_42, ws_R_copy_43, ws_R_copy_45, ws_R_copy_48, ws_R_copy_49, ws_R_copy_52, ws_R_copy_54, ws_R_copy_55, ws_R_copy_56, ws_R_copy_57, ws_R_copy_58, ws_R_copy_59, ws_R_copy_62, ws_R_copy_64, ws_R_copy_65, ws_R_copy_66, ws_R_copy_67, ws_R_copy_68, ws_R_copy_69, ws_R_copy_70, ws_R_copy_73, ws_R_copy_76, ws_R_copy_77, ws_R_copy_78, ws_R_copy_79, ws_R_copy_81, ws_R_copy_84, ws_R_copy_85, ws_R_copy_88, ws_R_copy_90, ws_R_copy_91, ws_R_copy_92, ws_R_copy_93, ws_R_copy_94, ws_R_copy_95, ws_R_copy_98, ws_R_copy_100, ws_R_copy_101, ws_R_copy_102, ws_R_copy_103, ws_R_copy_104, ws_R_copy_105, ws_R_copy_106, ws_R_copy_109, ws_R_copy_112, ws_R_copy_113, ws_R_copy_116, ws_R_copy_117, ws_R_copy_118, tm_up_s, tm_up_n, tm_up_up, nI_leI, nI_ltI, nI_eq, nI_cl, nI_in', ix_1shl, ix_or, ix_xor, nI_1, bI_0, bI_1, bI_F, pk_us, pk_un, H27, H28, i_49, Nat.le_refl]
          refine gPq.yes ⟨⟨l, ol, ?_⟩, ⟨upd sz j (nI (S.1 i)), co', ed', ?_, ?_, tm_up_s _ _ _, fun g hg => ?_⟩, hs.fr (fun k h1 h2 => ?_)⟩ (fun k hk => ?_)
          · rw [tm_up_n (by decide), tm_up_n (by decide)]; exact H27
          · rw [tm_up_n (by decide), tm_up_n (by decide)]; exact H28
          · rw [tm_up_n (by decide), tm_up_s]
          · obtain ⟨d1, d2, d3, d4⟩ := a4 g hg
            have := d2.1
            unfold gPut
            dsimp only
            by_cases q : g = j
            · subst q
              rw [if_pos rfl, if_pos rfl, if_pos rfl]
              refine ⟨pk_us, c2, fun v hv => by rw [hco v (by omega)]; exact c3 v hv, fun v w hv hw => ?_⟩
              have := hed (7 * v + w) (by omega)
              rw [← Nat.add_assoc, ← Nat.add_assoc] at this
              rw [this, c4 v w hv hw, vn_b]
            · rw [if_neg q, if_neg q, if_neg q]
              exact ⟨by rw [pk_un q]; exact d1, d2, fun v hv => by rw [hco2 g v hg (by omega) q]; exact d3 v hv, fun v w hv hw => by rw [hed2 _ (by omega) (by omega)]; exact d4 v w hv hw⟩
          · rw [tm_up_n (by omega), tm_up_n (by omega), Hx k (by omega) (by omega)]
          · rw [tm_up_n (by omega), tm_up_n (by omega), Hx k (by omega) (by omega)]
        | succ m ih =>
          intro k co' ed' hk hco hco2 hed hed2
          have hlt : ¬ 49 ≤ k := by omega
          have rd : ed' (49 * i + k) = ed (49 * i + k) := by
            by_cases q : i = j
            · rw [q]; exact hed2 _ (by omega) (by omega)
            · exact hed2 _ (by omega) (by omega)
          apply tm_run [42, 78] 80
          simp (disch := first | assumption | omega) only [↓reduceIte, tm_w_i, tm_w_0, Bool.false_eq_true, tm_gI_0, tm_gI_s, tm_gA_0, tm_gA_s, tm_fv_0, tm_fv_s, tm_p1_e, tm_pA_e, tm_pJ_e, tm_pV_i, tm_pV_r, tm_cI_e, tm_cZ_e, tm_cJ_e, tm_cQ_e, tm_cO_e, tm_rq_e, List.set_cons_zero, List.set_cons_succ, List.contains_cons, List.contains_nil, Nat.reduceBEq, Bool.or_false, Bool.false_or, Bool.or_true, Bool.true_or, Bool.or_self, cond_true, cond_false, true_and, and_true, or_true, true_or, true_implies, false_implies, not_true_eq_false, not_false_eq_true, List.length_cons, List.length_nil, Option.toList_some, Option.toList_none, List.cons_append, List.nil_append, ws_R_copy_0, ws_R_copy_1, ws_R_copy_2, ws_R_copy_5, ws_R_copy_8, ws_R_copy_9, ws_R_copy_12, ws_R_copy_15, ws_R_copy_16, ws_R_copy_19, ws_R_copy_20, ws_R_copy_23, ws_R_copy_26, ws_R_copy_27, ws_R_copy_28, ws_R_copy_29, ws_R_copy_32, ws_R_copy_33, ws_R_copy_34, ws_R_copy_37, ws_R_copy_38, ws_R_copy_39, ws_R_copy_40, ws_R_copy_41, ws_R_copy_42, ws_R_copy_43, ws_R_copy_45, ws_R_copy_48, ws_R_copy_49, ws_R_copy_52, ws_R_copy_54, ws_R_copy_55, ws_R_copy_56, ws_R_copy_57, ws_R_copy_58, ws_R_copy_59, ws_R_copy_62, ws_R_copy_64, ws_R_copy_65, ws_R_copy_66, ws_R_copy_67, ws_R_copy_68, ws_R_copy_69, ws_R_copy_70, ws_R_copy_73, ws_R_copy_76, ws_R_copy_77, ws_R_copy_78, ws_R_copy_79, ws_R_copy_81, ws_R_copy_84, ws_R_copy_85, ws_R_copy_88, ws_R_copy_90, ws_R_copy_91, ws_R_copy_92, ws_R_copy_93, ws_R_copy_94, ws_R_copy_95, ws_R_copy_98, ws_R_copy_100, ws_R_copy_101, ws_R_copy_102, ws_R_copy_103, ws_R_copy_104, ws_R_copy_105, ws_R_copy_106, ws_R_copy_109, ws_R_copy_112, ws_R_copy_113, ws_R_copy_116, ws_R_copy_117, ws_R_copy_118, tm_up_s, tm_up_n, tm_up_up, nI_leI, nI_ltI, nI_eq, nI_cl, nI_in', ix_1shl, ix_or, ix_xor, nI_1, bI_0, bI_1, bI_F, pk_us, pk_un, H27, i_49, hlt, pk_mul, nI_add]
          refine ih (k + 1) co' _ (by omega) hco hco2 (fun x hx => ?_) (fun y hy q => ?_)
          · by_cases q : x = k
            · rw [q, pk_us, rd]
            · rw [pk_un (by omega)]; exact hed x (by omega)
          · rw [pk_un (by omega)]; exact hed2 y hy (by omega)
      have col : ∀ (m k : Nat) (co' : Nat → Int32), k + m = 7 → (∀ x, x < k → co' (7 * j + x) = co (7 * i + x)) → (∀ y, y < 21 → (y < 7 * j ∨ 7 * j + k ≤ y) → co' y = co y) →
          tm_T M_R_copy 20 0 (gPq h (.inl (nI (S.1 i)), gPut S j (S.1 i) (S.2.1 i) (S.2.2 i))) 0 42 [some (.ref 27), some (.int (nI j)), some (.int (nI i)), some (.int (nI k))] [] (tm_up H 29 (tm_i 21 co')) := by
        intro m
        induction m with
        | zero =>
          intro k co' hk hco hco2
          obtain rfl : k = 7 := by omega
          apply tm_run [42, 78] 80
          simp (disch := first | assumption | omega) only [↓reduceIte, tm_w_i, tm_w_0, Bool.false_eq_true, tm_gI_0, tm_gI_s, tm_gA_0, tm_gA_s, tm_fv_0, tm_fv_s, tm_p1_e, tm_pA_e, tm_pJ_e, tm_pV_i, tm_pV_r, tm_cI_e, tm_cZ_e, tm_cJ_e, tm_cQ_e, tm_cO_e, tm_rq_e, List.set_cons_zero, List.set_cons_succ, List.contains_cons, List.contains_nil, Nat.reduceBEq, Bool.or_false, Bool.false_or, Bool.or_true, Bool.true_or, Bool.or_self, cond_true, cond_false, true_and, and_true, or_true, true_or, true_implies, false_implies, not_true_eq_false, not_false_eq_true, List.length_cons, List.length_nil, Option.toList_some, Option.toList_none, List.cons_append, List.nil_append, ws_R_copy_0, ws_R_copy_1, ws_R_copy_2, ws_R_copy_5, ws_R_copy_8, ws_R_copy_9, ws_R_copy_12, ws_R_copy_15, ws_R_copy_16, ws_R_copy_19, ws_R_copy_20, ws_R_copy_23, ws_R_copy_26, ws_R_copy_27, ws_R_copy_28, ws_R_copy_29, ws_R_copy_32, ws_R_copy_33, ws_R_copy_34, ws_R_copy_37, ws_R_copy_38, ws_R_copy_39, ws_R_copy_40, ws_R_copy_41, ws_R_copy_42, ws_R_copy_43, ws_R_copy_45, ws_R_copy_48, ws_R_copy_49, ws_R_copy_52, ws_R_copy_54, ws_R_copy_55, ws_R_copy_56, ws_R_copy_57, ws_R_copy_58, ws_R_copy_59, ws_R_copy_62, ws_R_copy_64, ws_R_copy_65, ws_R_copy_66, ws_R_copy_67, ws_R_copy_68, ws_R_copy_69, ws_R_copy_70, ws_R_copy_73, ws_R_copy_76, ws_R_copy_77, ws_R_copy_78, ws_R_copy_79, ws_R_copy_81, ws_R_copy_84, ws_R_copy_85, ws_R_copy_88, ws_R_copy_90, ws_R_copy_91, ws_R_copy_92, ws_R_copy_93, ws_R_copy_94, ws_R_copy_95, ws_R_copy_98, ws_R_copy_100, ws_R_copy_101, ws_R_copy_102, ws_R_copy_103, ws_R_copy_104, ws_R_copy_105, ws_R_copy_106, ws_R_copy_109, ws_R_copy_112, ws_R_copy_113, ws_R_copy_116, ws_R_copy_117, ws_R_copy_118, tm_up_s, tm_up_n, tm_up_up, nI_leI, nI_ltI, nI_eq, nI_cl, nI_in', ix_1shl, ix_or, ix_xor, nI_1, bI_0, bI_1, bI_F, pk_us, pk_un, i_7, Nat.le_refl]
          have := edge 49 0 co' ed (by omega) (fun x hx => hco x hx) (fun g x hg hx q => hco2 _ (by omega) (by omega)) (fun x hx => absurd hx (Nat.not_lt_zero x)) (fun _ _ _ => rfl)
          rw [tm_up_id ((tm_up_n (by decide)).trans H30)] at this
          exact this
        | succ m ih =>
          intro k co' hk hco hco2
          have hlt : ¬ 7 ≤ k := by omega
          have rd : co' (7 * i + k) = co (7 * i + k) := hco2 _ (by omega) (by omega)
          apply tm_run [42, 78] 80
          simp (disch := first | assumption | omega) only [↓reduceIte, tm_w_i, tm_w_0, Bool.false_eq_true, tm_gI_0, tm_gI_s, tm_gA_0, tm_gA_s, tm_fv_0, tm_fv_s, tm_p1_e, tm_pA_e, tm_pJ_e, tm_pV_i, tm_pV_r, tm_cI_e, tm_cZ_e, tm_cJ_e, tm_cQ_e, tm_cO_e, tm_rq_e, List.set_cons_zero, List.set_cons_succ, List.contains_cons, List.contains_nil, Nat.reduceBEq, Bool.or_false, Bool.false_or, Bool.or_true, Bool.true_or, Bool.or_self, cond_true, cond_false, true_and, and_true, or_true, true_or, true_implies, false_implies, not_true_eq_false, not_false_eq_true, List.length_cons, List.length_nil, Option.toList_some, Option.toList_none, List.cons_append, List.nil_append, ws_R_copy_0, ws_R_copy_1, ws_R_copy_2, ws_R_copy_5, ws_R_copy_8, ws_R_copy_9, ws_R_copy_12, ws_R_copy_15, ws_R_copy_16, ws_R_copy_19, ws_R_copy_20, ws_R_copy_23, ws_R_copy_26, ws_R_copy_27, ws_R_copy_28, ws_R_copy_29, ws_R_copy_32, ws_R_copy_33, ws_R_copy_34, ws_R_copy_37, ws_R_copy_38, ws_R_copy_39, ws_R_copy_40, ws_R_copy_41, ws_R_copy_42, ws_R_copy_43, ws_R_copy_45, ws_R_copy_48, ws_R_copy_49, ws_R_copy_52, ws_R_copy_54, ws_R_copy_55, ws_R_copy_56, ws_R_copy_57, ws_R_copy_58, ws_R_copy_59, ws_R_copy_62, ws_R_copy_64, ws_R_copy_65, ws_R_copy_66, ws_R_copy_67, ws_R_copy_68, ws_R_copy_69, ws_R_copy_70, ws_R_copy_73, ws_R_copy_76, ws_R_copy_77, ws_R_copy_78, ws_R_copy_79, ws_R_copy_81, ws_R_copy_84, ws_R_copy_85, ws_R_copy_88, ws_R_copy_90, ws_R_copy_91, ws_R_copy_92, ws_R_copy_93, ws_R_copy_94, ws_R_copy_95, ws_R_copy_98, ws_R_copy_100, ws_R_copy_101, ws_R_copy_102, ws_R_copy_103, ws_R_copy_104, ws_R_copy_105, ws_R_copy_106, ws_R_copy_109, ws_R_copy_112, ws_R_copy_113, ws_R_copy_116, ws_R_copy_117, ws_R_copy_118, tm_up_s, tm_up_n, tm_up_up, nI_leI, nI_ltI, nI_eq, nI_cl, nI_in', ix_1shl, ix_or, ix_xor, nI_1, bI_0, bI_1, bI_F, pk_us, pk_un, H27, i_7, hlt, pk_mul, nI_add, hK9]
          refine ih (k + 1) _ (by omega) (fun x hx => ?_) (fun y hy q => ?_)
          · by_cases q : x = k
            · rw [q, pk_us, rd]
            · rw [pk_un (by omega)]; exact hco x (by omega)
          · rw [pk_un (by omega)]; exact hco2 y hy (by omega)
      have := col 7 0 co (by omega) (fun x hx => absurd hx (Nat.not_lt_zero x)) (fun _ _ _ => rfl)
      rw [tm_up_id H29] at this
      exact this
/-! turning -/
def gTi (nb : Nat → Nat) (v : Nat) : Nat → Nat → Nat
  | 0 => nb
  | w + 1 => gFlp (gTi nb v w) v w
def gTo (nb : Nat → Nat) : Nat → Nat → Nat
  | 0 => nb
  | v + 1 => gTi (gTo nb v) v v
theorem gTi_bit {nb : Nat → Nat} {v a b : Nat} : ∀ {w : Nat}, w ≤ v → (gTi nb v w a).testBit b = ((nb a).testBit b ^^ (decide (a = v ∧ b < w) || decide (b = v ∧ a < w)))
  | 0, _ => by simp [gTi]
  | w + 1, hw => by
    have hvw : v ≠ w := by omega
    rw [gTi, gFlp_bit hvw, gTi_bit (by omega), Bool.xor_assoc]
    congr 1
    by_cases e1 : a = v
    · subst e1
      have e2 : ¬ a < w := by omega
      have e3 : ¬ a < w + 1 := by omega
      have e4 : ¬ a = w := by omega
      by_cases e5 : b = w
      · subst e5; simp
        omega
      · have : decide (b < w + 1) = decide (b < w) := decide_eq_decide.mpr (by omega)
        simp [e2, e3, e4, e5, this]
    · by_cases e6 : b = v
      · subst e6
        by_cases e5 : a = w
        · subst e5; simp [e1]
        · have : decide (a < w + 1) = decide (a < w) := decide_eq_decide.mpr (by omega)
          simp [e1, e5, this]
      · simp [e1, e6]
theorem gTo_bit {nb : Nat → Nat} {a b : Nat} : ∀ {v : Nat}, (gTo nb v a).testBit b = ((nb a).testBit b ^^ decide (a ≠ b ∧ a < v ∧ b < v))
  | 0 => by simp [gTo]
  | v + 1 => by
    rw [gTo, gTi_bit (Nat.le_refl v), gTo_bit (v := v), Bool.xor_assoc]
    congr 1
    by_cases e1 : a = v
    · subst e1
      by_cases e2 : b = a
      · subst e2; simp
      · have : decide (b < a + 1) = decide (b < a) := decide_eq_decide.mpr (by omega)
        have e3 : ¬ a = b := fun q => e2 q.symm
        simp [e2, e3, this]
    · by_cases e2 : b = v
      · subst e2
        have : decide (a < b + 1) = decide (a < b) := decide_eq_decide.mpr (by omega)
        simp [e1, this]
      · have h1 : decide (a < v + 1) = decide (a < v) := decide_eq_decide.mpr (by omega)
        have h2 : decide (b < v + 1) = decide (b < v) := decide_eq_decide.mpr (by omega)
        simp [e1, e2, h1, h2]
theorem gTi_ok {n v : Nat} {cc nb : Nat → Nat} (h : gOk n cc nb) (hv : v < n) : ∀ w, w ≤ v → gOk n cc (gTi nb v w)
  | 0, _ => h
  | w + 1, hw => gOk_flp (gTi_ok h hv w (by omega)) hv (by omega) (by omega)
theorem gTo_ok {n : Nat} {cc nb : Nat → Nat} (h : gOk n cc nb) : ∀ v, v ≤ n → gOk n cc (gTo nb v)
  | 0, _ => h
  | v + 1, hv => gTi_ok (gTo_ok h v (by omega)) (by omega) v (Nat.le_refl v)
theorem gTo_tn {n : Nat} {cc nb : Nat → Nat} (h : gOk n cc nb) {a : Nat} (ha : a < n) : gTo nb n a = gTn n nb a := by
  apply Nat.eq_of_testBit_eq
  intro b
  by_cases hb : b < n
  · rw [gTo_bit, gTn_bit hb]
    congr 1
    by_cases e : a = b
    · simp [e]
    · simp [e, ha, hb]
  · have : 2 ^ n ≤ 2 ^ b := Nat.pow_le_pow_right (by decide) (by omega)
    rw [Nat.testBit_lt_two_pow (Nat.lt_of_lt_of_le ((gTo_ok h n (Nat.le_refl n)).2 a ha).2.1 this), Nat.testBit_lt_two_pow (Nat.lt_of_lt_of_le ((gOk_tn h).2 a ha).2.1 this)]
/-- the data of a state that is the same as far as it matters -/
theorem gYd.eq {j n : Nat} {cc nb cc' nb' : Nat → Nat} (x : gYd (gPut S j n cc nb) h) (hj : j < 3) (e1 : ∀ v, v < n → cc v = cc' v) (e2 : ∀ v, v < n → nb v = nb' v) : gYd (gPut S j n cc' nb') h := by
  obtain ⟨sz, co, ed, a1, a2, a3, a4⟩ := x
  refine ⟨sz, co, ed, a1, a2, a3, fun g hg => ?_⟩
  have := a4 g hg
  unfold gPut at this ⊢
  dsimp only at this ⊢
  by_cases q : g = j
  · subst q
    rw [if_pos rfl, if_pos rfl, if_pos rfl] at this ⊢
    obtain ⟨b1, b2, b3, b4⟩ := this
    refine ⟨b1, ⟨b2.1, fun i hi => ?_⟩, fun v hv => by rw [b3 v hv, e1 v hv], fun v w hv hw => by rw [b4 v w hv hw, e2 v hv]⟩
    obtain ⟨c1, c2, c3, c4⟩ := b2.2 i hi
    rw [← e1 i hi, ← e2 i hi]
    exact ⟨c1, c2, c3, fun j hj => by rw [← e2 j hj]; exact c4 j hj⟩
  · rw [if_neg q, if_neg q, if_neg q] at this ⊢
    exact this
set_option maxRecDepth 20000 in
theorem c_R_turn {g : Int32} (hq : gYq S t h) : tm_C M_R_turn 20 0 [.ref 27, .int g] h (gPq h (o_turn S g)) := by
  obtain ⟨⟨l, ol, h0⟩, hd, hs⟩ := hq
  refine tm_C.by (L := [some (.ref 27), some (.int g), none, none]) rfl rfl rfl rfl rfl ?_
  have e8 : ¬ bI true = 0 := by decide
  have e1 : ¬ (1 : Int32) = 0 := by decide
  apply tm_run [23, 35] 80
  simp (disch := first | assumption | omega) only [↓reduceIte, tm_w_i, tm_w_0, Bool.false_eq_true, tm_gI_0, tm_gI_s, tm_gA_0, tm_gA_s, tm_fv_0, tm_fv_s, tm_p1_e, tm_pA_e, tm_pJ_e, tm_pV_i, tm_pV_r, tm_cI_e, tm_cZ_e, tm_cJ_e, tm_cQ_e, tm_cO_e, tm_rq_e, List.set_cons_zero, List.set_cons_succ, List.contains_cons, List.contains_nil, Nat.reduceBEq, Bool.or_false, Bool.false_or, Bool.or_true, Bool.true_or, Bool.or_self, cond_true, cond_false, true_and, and_true, or_true, true_or, true_implies, false_implies, not_true_eq_false, not_false_eq_true, List.length_cons, List.length_nil, Option.toList_some, Option.toList_none, List.cons_append, List.nil_append, ws_R_turn_0, ws_R_turn_1, ws_R_turn_2, ws_R_turn_5, ws_R_turn_8, ws_R_turn_9, ws_R_turn_12, ws_R_turn_13, ws_R_turn_16, ws_R_turn_19, ws_R_turn_20, ws_R_turn_21, ws_R_turn_22, ws_R_turn_23, ws_R_turn_24, ws_R_turn_25, ws_R_turn_28, ws_R_turn_29, ws_R_turn_30, ws_R_turn_33, ws_R_turn_34, ws_R_turn_35, ws_R_turn_36, ws_R_turn_37, ws_R_turn_40, ws_R_turn_41, ws_R_turn_42, ws_R_turn_43, ws_R_turn_44, ws_R_turn_45, ws_R_turn_46, ws_R_turn_47, ws_R_turn_48, ws_R_turn_51, ws_R_turn_54, ws_R_turn_55, ws_R_turn_58, ws_R_turn_59, ws_R_turn_62, ws_R_turn_65, ws_R_turn_68, ws_R_turn_71, ws_R_turn_74, ws_R_turn_75, ws_R_turn_76, ws_R_turn_79, tm_up_s, tm_up_n, tm_up_up, nI_leI, nI_ltI, nI_eq, nI_cl, nI_in', ix_1shl, ix_or, ix_xor, nI_1, bI_0, bI_1, bI_F, pk_us, pk_un]
  refine kd_R_turn_2 (Nat.le_of_ble_eq_true rfl) (by omega) (by omega) c_R_noGraph ?_
  rcases gI_c (N := 3) (by decide) g with ⟨e, hx⟩ | ⟨j, hj, rfl, e⟩
  · simp only [o_turn, e]
    apply tm_run [23, 35] 80
    simp (disch := first | assumption | omega) only [↓reduceIte, tm_w_i, tm_w_0, Bool.false_eq_true, tm_gI_0, tm_gI_s, tm_gA_0, tm_gA_s, tm_fv_0, tm_fv_s, tm_p1_e, tm_pA_e, tm_pJ_e, tm_pV_i, tm_pV_r, tm_cI_e, tm_cZ_e, tm_cJ_e, tm_cQ_e, tm_cO_e, tm_rq_e, List.set_cons_zero, List.set_cons_succ, List.contains_cons, List.contains_nil, Nat.reduceBEq, Bool.or_false, Bool.false_or, Bool.or_true, Bool.true_or, Bool.or_self, cond_true, cond_false, true_and, and_true, or_true, true_or, true_implies, false_implies, not_true_eq_false, not_false_eq_true, List.length_cons, List.length_nil, Option.toList_some, Option.toList_none, List.cons_append, List.nil_append, ws_R_turn_0, ws_R_turn_1, ws_R_turn_2, ws_R_turn_5, ws_R_turn_8, ws_R_turn_9, ws_R_turn_12, ws_R_turn_13, ws_R_turn_16, ws_R_turn_19, ws_R_turn_20, ws_R_turn_21, ws_R_turn_22, ws_R_turn_23, ws_R_turn_24, ws_R_turn_25, ws_R_turn_28, ws_R_turn_29, ws_R_turn_30, ws_R_turn_33, ws_R_turn_34, ws_R_turn_35, ws_R_turn_36, ws_R_turn_37, ws_R_turn_40, ws_R_turn_41, ws_R_turn_42, ws_R_turn_43, ws_R_turn_44, ws_R_turn_45, ws_R_turn_46, ws_R_turn_47, ws_R_turn_48, ws_R_turn_51, ws_R_turn_54, ws_R_turn_55, ws_R_turn_58, ws_R_turn_59, ws_R_turn_62, ws_R_turn_65, ws_R_turn_68, ws_R_turn_71, ws_R_turn_74, ws_R_turn_75, ws_R_turn_76, ws_R_turn_79, tm_up_s, tm_up_n, tm_up_up, nI_leI, nI_ltI, nI_eq, nI_cl, nI_in', ix_1shl, ix_or, ix_xor, nI_1, bI_0, bI_1, bI_F, pk_us, pk_un, Option.isNone_none, e8]
    refine kd_R_turn_13 h0 (Nat.le_of_ble_eq_true rfl) (by omega) (by omega) (c_R_refk (k := 0) h0 (by decide)) ?_
    apply tm_run [23, 35] 80
    simp (disch := first | assumption | omega) only [↓reduceIte, tm_w_i, tm_w_0, Bool.false_eq_true, tm_gI_0, tm_gI_s, tm_gA_0, tm_gA_s, tm_fv_0, tm_fv_s, tm_p1_e, tm_pA_e, tm_pJ_e, tm_pV_i, tm_pV_r, tm_cI_e, tm_cZ_e, tm_cJ_e, tm_cQ_e, tm_cO_e, tm_rq_e, List.set_cons_zero, List.set_cons_succ, List.contains_cons, List.contains_nil, Nat.reduceBEq, Bool.or_false, Bool.false_or, Bool.or_true, Bool.true_or, Bool.or_self, cond_true, cond_false, true_and, and_true, or_true, true_or, true_implies, false_implies, not_true_eq_false, not_false_eq_true, List.length_cons, List.length_nil, Option.toList_some, Option.toList_none, List.cons_append, List.nil_append, ws_R_turn_0, ws_R_turn_1, ws_R_turn_2, ws_R_turn_5, ws_R_turn_8, ws_R_turn_9, ws_R_turn_12, ws_R_turn_13, ws_R_turn_16, ws_R_turn_19, ws_R_turn_20, ws_R_turn_21, ws_R_turn_22, ws_R_turn_23, ws_R_turn_24, ws_R_turn_25, ws_R_turn_28, ws_R_turn_29, ws_R_turn_30, ws_R_turn_33, ws_R_turn_34, ws_R_turn_35, ws_R_turn_36, ws_R_turn_37, ws_R_turn_40, ws_R_turn_41, ws_R_turn_42, ws_R_turn_43, ws_R_turn_44, ws_R_turn_45, ws_R_turn_46, ws_R_turn_47, ws_R_turn_48, ws_R_turn_51, ws_R_turn_54, ws_R_turn_55, ws_R_turn_58, ws_R_turn_59, ws_R_turn_62, ws_R_turn_65, ws_R_turn_68, ws_R_turn_71, ws_R_turn_74, ws_R_turn_75, ws_R_turn_76, ws_R_turn_79, tm_up_s, tm_up_n, tm_up_up, nI_leI, nI_ltI, nI_eq, nI_cl, nI_in', ix_1shl, ix_or, ix_xor, nI_1, bI_0, bI_1, bI_F, pk_us, pk_un, e1]
    exact gPq.no hd hs
  · simp only [o_turn, e]
    apply tm_run [23, 35] 80
    simp (disch := first | assumption | omega) only [↓reduceIte, tm_w_i, tm_w_0, Bool.false_eq_true, tm_gI_0, tm_gI_s, tm_gA_0, tm_gA_s, tm_fv_0, tm_fv_s, tm_p1_e, tm_pA_e, tm_pJ_e, tm_pV_i, tm_pV_r, tm_cI_e, tm_cZ_e, tm_cJ_e, tm_cQ_e, tm_cO_e, tm_rq_e, List.set_cons_zero, List.set_cons_succ, List.contains_cons, List.contains_nil, Nat.reduceBEq, Bool.or_false, Bool.false_or, Bool.or_true, Bool.true_or, Bool.or_self, cond_true, cond_false, true_and, and_true, or_true, true_or, true_implies, false_implies, not_true_eq_false, not_false_eq_true, List.length_cons, List.length_nil, Option.toList_some, Option.toList_none, List.cons_append, List.nil_append, ws_R_turn_0, ws_R_turn_1, ws_R_turn_2, ws_R_turn_5, ws_R_turn_8, ws_R_turn_9, ws_R_turn_12, ws_R_turn_13, ws_R_turn_16, ws_R_turn_19, ws_R_turn_20, ws_R_turn_21, ws_R_turn_22, ws_R_turn_23, ws_R_turn_24, ws_R_turn_25, ws_R_turn_28, ws_R_turn_29, ws_R_turn_30, ws_R_turn_33, ws_R_turn_34, ws_R_turn_35, ws_R_turn_36, ws_R_turn_37, ws_R_turn_40, ws_R_turn_41, ws_R_turn_42, ws_R_turn_43, ws_R_turn_44, ws_R_turn_45, ws_R_turn_46, ws_R_turn_47, ws_R_turn_48, ws_R_turn_51, ws_R_turn_54, ws_R_turn_55, ws_R_turn_58, ws_R_turn_59, ws_R_turn_62, ws_R_turn_65, ws_R_turn_68, ws_R_turn_71, ws_R_turn_74, ws_R_turn_75, ws_R_turn_76, ws_R_turn_79, tm_up_s, tm_up_n, tm_up_up, nI_leI, nI_ltI, nI_eq, nI_cl, nI_in', ix_1shl, ix_or, ix_xor, nI_1, bI_0, bI_1, bI_F, pk_us, pk_un, Option.isNone_some, bI_f]
    refine kd_R_turn_13 h0 (Nat.le_of_ble_eq_true rfl) (by omega) (by omega) (c_R_ref0 h0) ?_
    apply tm_run [23, 35] 80
    simp (disch := first | assumption | omega) only [↓reduceIte, tm_w_i, tm_w_0, Bool.false_eq_true, tm_gI_0, tm_gI_s, tm_gA_0, tm_gA_s, tm_fv_0, tm_fv_s, tm_p1_e, tm_pA_e, tm_pJ_e, tm_pV_i, tm_pV_r, tm_cI_e, tm_cZ_e, tm_cJ_e, tm_cQ_e, tm_cO_e, tm_rq_e, List.set_cons_zero, List.set_cons_succ, List.contains_cons, List.contains_nil, Nat.reduceBEq, Bool.or_false, Bool.false_or, Bool.or_true, Bool.true_or, Bool.or_self, cond_true, cond_false, true_and, and_true, or_true, true_or, true_implies, false_implies, not_true_eq_false, not_false_eq_true, List.length_cons, List.length_nil, Option.toList_some, Option.toList_none, List.cons_append, List.nil_append, ws_R_turn_0, ws_R_turn_1, ws_R_turn_2, ws_R_turn_5, ws_R_turn_8, ws_R_turn_9, ws_R_turn_12, ws_R_turn_13, ws_R_turn_16, ws_R_turn_19, ws_R_turn_20, ws_R_turn_21, ws_R_turn_22, ws_R_turn_23, ws_R_turn_24, ws_R_turn_25, ws_R_turn_28, ws_R_turn_29, ws_R_turn_30, ws_R_turn_33, ws_R_turn_34, ws_R_turn_35, ws_R_turn_36, ws_R_turn_37, ws_R_turn_40, ws_R_turn_41, ws_R_turn_42, ws_R_turn_43, ws_R_turn_44, ws_R_turn_45, ws_R_turn_46, ws_R_turn_47, ws_R_turn_48, ws_R_turn_51, ws_R_turn_54, ws_R_turn_55, ws_R_turn_58, ws_R_turn_59, ws_R_turn_62, ws_R_turn_65, ws_R_turn_68, ws_R_turn_71, ws_R_turn_74, ws_R_turn_75, ws_R_turn_76, ws_R_turn_79, tm_up_s, tm_up_n, tm_up_up, nI_leI, nI_ltI, nI_eq, nI_cl, nI_in', ix_1shl, ix_or, ix_xor, nI_1, bI_0, bI_1, bI_F, pk_us, pk_un]
    have hok : gOk (S.1 j) (S.2.1 j) (S.2.2 j) := by obtain ⟨_, _, _, _, _, _, a4⟩ := hd; exact (a4 j hj).2.1
    have hn := hok.1
    have inner : ∀ (k v w : Nat) (nb : Nat → Nat) (H : tm_Hp), v < S.1 j → w + k = v → H 27 = tm_o 5 [.int 0, .ref 28, .ref 29, .ref 30, .ref 31, .ref 32, .int l, .ref 33, .int ol, .ref 34, .ref 35, .ref 36, .ref 37] → gYs H → (∀ k, k < 27 ∨ 38 ≤ k → H k = h k) → gYd (gPut S j (S.1 j) (S.2.1 j) (gTi nb v w)) H →
        (∀ H : tm_Hp, H 27 = tm_o 5 [.int 0, .ref 28, .ref 29, .ref 30, .ref 31, .ref 32, .int l, .ref 33, .int ol, .ref 34, .ref 35, .ref 36, .ref 37] → gYs H → (∀ k, k < 27 ∨ 38 ≤ k → H k = h k) → gYd (gPut S j (S.1 j) (S.2.1 j) (gTi nb v v)) H → tm_T M_R_turn 20 0 (gPq h (.inl (nI (gEd (S.1 j) (gTn (S.1 j) (S.2.2 j)))), gPut S j (S.1 j) (S.2.1 j) (gTn (S.1 j) (S.2.2 j)))) 0 23 [some (.ref 27), some (.int (nI j)), some (.int (nI (v + 1))), some (.int (nI v))] [] H) →
        tm_T M_R_turn 20 0 (gPq h (.inl (nI (gEd (S.1 j) (gTn (S.1 j) (S.2.2 j)))), gPut S j (S.1 j) (S.2.1 j) (gTn (S.1 j) (S.2.2 j)))) 0 35 [some (.ref 27), some (.int (nI j)), some (.int (nI v)), some (.int (nI w))] [] H := by
      intro k
      induction k with
      | zero =>
        intro v w nb H hv hw H27 Hs Hf Hd hT
        obtain rfl : w = v := by omega
        apply tm_run [23, 35] 80
        simp (disch := first | assumption | omega) only [↓reduceIte, tm_w_i, tm_w_0, Bool.false_eq_true, tm_gI_0, tm_gI_s, tm_gA_0, tm_gA_s, tm_fv_0, tm_fv_s, tm_p1_e, tm_pA_e, tm_pJ_e, tm_pV_i, tm_pV_r, tm_cI_e, tm_cZ_e, tm_cJ_e, tm_cQ_e, tm_cO_e, tm_rq_e, List.set_cons_zero, List.set_cons_succ, List.contains_cons, List.contains_nil, Nat.reduceBEq, Bool.or_false, Bool.false_or, Bool.or_true, Bool.true_or, Bool.or_self, cond_true, cond_false, true_and, and_true, or_true, true_or, true_implies, false_implies, not_true_eq_false, not_false_eq_true, List.length_cons, List.length_nil, Option.toList_some, Option.toList_none, List.cons_append, List.nil_append, ws_R_turn_0, ws_R_turn_1, ws_R_turn_2, ws_R_turn_5, ws_R_turn_8, ws_R_turn_9, ws_R_turn_12, ws_R_turn_13, ws_R_turn_16, ws_R_turn_19, ws_R_turn_20, ws_R_turn_21, ws_R_turn_22, ws_R_turn_23, ws_R_turn_24, ws_R_turn_25, ws_R_turn_28, ws_R_turn_29, ws_R_turn_30, ws_R_turn_33, ws_R_turn_34, ws_R_turn_35, ws_R_turn_36, ws_R_turn_37, ws_R_turn_40, ws_R_turn_41, ws_R_turn_42, ws_R_turn_43, ws_R_turn_44, ws_R_turn_45, ws_R_turn_46, ws_R_turn_47, ws_R_turn_48, ws_R_turn_51, ws_R_turn_54, ws_R_turn_55, ws_R_turn_58, ws_R_turn_59, ws_R_turn_62, ws_R_turn_65, ws_R_turn_68, ws_R_turn_71, ws_R_turn_74, ws_R_turn_75, ws_R_turn_76, ws_R_turn_79, tm_up_s, tm_up_n, tm_up_up, nI_leI, nI_ltI, nI_eq, nI_cl, nI_in', ix_1shl, ix_or, ix_xor, nI_1, bI_0, bI_1, bI_F, pk_us, pk_un, Nat.le_refl]
        exact hT H H27 Hs Hf Hd
      | succ k ih =>
        intro v w nb H hv hw H27 Hs Hf Hd hT
        have hlt : ¬ v ≤ w := by omega
        have hvw : v ≠ w := by omega
        have ie := c_R_isEdge (v := v) (w := w) (g := j) H27 Hd hj (by rw [gPut_1]; exact hv) (by rw [gPut_1]; omega)
        rw [gPut_3] at ie
        apply tm_run [23, 35] 80
        simp (disch := first | assumption | omega) only [↓reduceIte, tm_w_i, tm_w_0, Bool.false_eq_true, tm_gI_0, tm_gI_s, tm_gA_0, tm_gA_s, tm_fv_0, tm_fv_s, tm_p1_e, tm_pA_e, tm_pJ_e, tm_pV_i, tm_pV_r, tm_cI_e, tm_cZ_e, tm_cJ_e, tm_cQ_e, tm_cO_e, tm_rq_e, List.set_cons_zero, List.set_cons_succ, List.contains_cons, List.contains_nil, Nat.reduceBEq, Bool.or_false, Bool.false_or, Bool.or_true, Bool.true_or, Bool.or_self, cond_true, cond_false, true_and, and_true, or_true, true_or, true_implies, false_implies, not_true_eq_false, not_false_eq_true, List.length_cons, List.length_nil, Option.toList_some, Option.toList_none, List.cons_append, List.nil_append, ws_R_turn_0, ws_R_turn_1, ws_R_turn_2, ws_R_turn_5, ws_R_turn_8, ws_R_turn_9, ws_R_turn_12, ws_R_turn_13, ws_R_turn_16, ws_R_turn_19, ws_R_turn_20, ws_R_turn_21, ws_R_turn_22, ws_R_turn_23, ws_R_turn_24, ws_R_turn_25, ws_R_turn_28, ws_R_turn_29, ws_R_turn_30, ws_R_turn_33, ws_R_turn_34, ws_R_turn_35, ws_R_turn_36, ws_R_turn_37, ws_R_turn_40, ws_R_turn_41, ws_R_turn_42, ws_R_turn_43, ws_R_turn_44, ws_R_turn_45, ws_R_turn_46, ws_R_turn_47, ws_R_turn_48, ws_R_turn_51, ws_R_turn_54, ws_R_turn_55, ws_R_turn_58, ws_R_turn_59, ws_R_turn_62, ws_R_turn_65, ws_R_turn_68, ws_R_turn_71, ws_R_turn_74, ws_R_turn_75, ws_R_turn_76, ws_R_turn_79, tm_up_s, tm_up_n, tm_up_up, nI_leI, nI_ltI, nI_eq, nI_cl, nI_in', ix_1shl, ix_or, ix_xor, nI_1, bI_0, bI_1, bI_F, pk_us, pk_un, hlt]
        refine kd_R_turn_48 H27 (Nat.le_of_ble_eq_true rfl) (by omega) (by omega) ie ?_
        obtain ⟨sz, co, ed, a1, a2, a3, a4⟩ := Hd
        have fl := fun b hb => gYd_flp (S := gPut S j (S.1 j) (S.2.1 j) (gTi nb v w)) (h := H) (j := j) (v := v) (w := w) (b := b) (ed := ed) hj (by rw [gPut_1]; exact hv) (by rw [gPut_1]; omega) hvw hb a1 a2 a4
        rw [gPut_put, gPut_1, gPut_2, gPut_3] at fl
        have step : ∀ b, b = (!(gTi nb v w v).testBit w) → tm_T M_R_turn 20 0 (gPq h (.inl (nI (gEd (S.1 j) (gTn (S.1 j) (S.2.2 j)))), gPut S j (S.1 j) (S.2.1 j) (gTn (S.1 j) (S.2.2 j)))) 0 59 [some (.ref 27), some (.int (nI j)), some (.int (nI v)), some (.int (nI w))] [.int (bI b), .int (nI w), .int (nI v), .int (nI j), .ref 27] H := by
          intro b hb
          refine kd_R_turn_59 H27 (Nat.le_of_ble_eq_true rfl) (by omega) (by omega) (c_R_set H27 a3 hj (by omega) (by omega)) ?_
          apply tm_run [23, 35] 80
          simp (disch := first | assumption | omega) only [↓reduceIte, tm_w_i, tm_w_0, Bool.false_eq_true, tm_gI_0, tm_gI_s, tm_gA_0, tm_gA_s, tm_fv_0, tm_fv_s, tm_p1_e, tm_pA_e, tm_pJ_e, tm_pV_i, tm_pV_r, tm_cI_e, tm_cZ_e, tm_cJ_e, tm_cQ_e, tm_cO_e, tm_rq_e, List.set_cons_zero, List.set_cons_succ, List.contains_cons, List.contains_nil, Nat.reduceBEq, Bool.or_false, Bool.false_or, Bool.or_true, Bool.true_or, Bool.or_self, cond_true, cond_false, true_and, and_true, or_true, true_or, true_implies, false_implies, not_true_eq_false, not_false_eq_true, List.length_cons, List.length_nil, Option.toList_some, Option.toList_none, List.cons_append, List.nil_append, ws_R_turn_0, ws_R_turn_1, ws_R_turn_2, ws_R_turn_5, ws_R_turn_8, ws_R_turn_9, ws_R_turn_12, ws_R_turn_13, ws_R_turn_16, ws_R_turn_19, ws_R_turn_20, ws_R_turn_21, ws_R_turn_22, ws_R_turn_23, ws_R_turn_24, ws_R_turn_25, ws_R_turn_28, ws_R_turn_29, ws_R_turn_30, ws_R_turn_33, ws_R_turn_34, ws_R_turn_35, ws_R_turn_36, ws_R_turn_37, ws_R_turn_40, ws_R_turn_41, ws_R_turn_42, ws_R_turn_43, ws_R_turn_44, ws_R_turn_45, ws_R_turn_46, ws_R_turn_47, ws_R_turn_48, ws_R_turn_51, ws_R_turn_54, ws_R_turn_55, ws_R_turn_58, ws_R_turn_59, ws_R_turn_62, ws_R_turn_65, ws_R_turn_68, ws_R_turn_71, ws_R_turn_74, ws_R_turn_75, ws_R_turn_76, ws_R_turn_79, tm_up_s, tm_up_n, tm_up_up, nI_leI, nI_ltI, nI_eq, nI_cl, nI_in', ix_1shl, ix_or, ix_xor, nI_1, bI_0, bI_1, bI_F, pk_us, pk_un]
          exact ih v (w + 1) nb _ hv (by omega) ((tm_up_n (by decide)).trans H27) (Hs.fr (fun k h1 h2 => tm_up_n (by omega))) (fun k hk => (tm_up_n (by omega)).trans (Hf k hk)) (fl b hb) hT
        cases b1 : (gTi nb v w v).testBit w with
        | true =>
          have := step false (by rw [b1]; rfl)
          apply tm_run [23, 35] 80
          simp (disch := first | assumption | omega) only [↓reduceIte, tm_w_i, tm_w_0, Bool.false_eq_true, tm_gI_0, tm_gI_s, tm_gA_0, tm_gA_s, tm_fv_0, tm_fv_s, tm_p1_e, tm_pA_e, tm_pJ_e, tm_pV_i, tm_pV_r, tm_cI_e, tm_cZ_e, tm_cJ_e, tm_cQ_e, tm_cO_e, tm_rq_e, List.set_cons_zero, List.set_cons_succ, List.contains_cons, List.contains_nil, Nat.reduceBEq, Bool.or_false, Bool.false_or, Bool.or_true, Bool.true_or, Bool.or_self, cond_true, cond_false, true_and, and_true, or_true, true_or, true_implies, false_implies, not_true_eq_false, not_false_eq_true, List.length_cons, List.length_nil, Option.toList_some, Option.toList_none, List.cons_append, List.nil_append, ws_R_turn_0, ws_R_turn_1, ws_R_turn_2, ws_R_turn_5, ws_R_turn_8, ws_R_turn_9, ws_R_turn_12, ws_R_turn_13, ws_R_turn_16, ws_R_turn_19, ws_R_turn_20, ws_R_turn_21, ws_R_turn_22, ws_R_turn_23, ws_R_turn_24, ws_R_turn_25, ws_R_turn_28, ws_R_turn_29, ws_R_turn_30, ws_R_turn_33, ws_R_turn_34, ws_R_turn_35, ws_R_turn_36, ws_R_turn_37, ws_R_turn_40, ws_R_turn_41, ws_R_turn_42, ws_R_turn_43, ws_R_turn_44, ws_R_turn_45, ws_R_turn_46, ws_R_turn_47, ws_R_turn_48, ws_R_turn_51, ws_R_turn_54, ws_R_turn_55, ws_R_turn_58, ws_R_turn_59, ws_R_turn_62, ws_R_turn_65, ws_R_turn_68, ws_R_turn_71, ws_R_turn_74, ws_R_turn_75, ws_R_turn_76, ws_R_turn_79, tm_up_s, tm_up_n, tm_up_up, nI_leI, nI_ltI, nI_eq, nI_cl, nI_in', ix_1shl, ix_or, ix_xor, nI_1, bI_0, bI_1, bI_F, pk_us, pk_un, e8]
          exact this
        | false =>
          have := step true (by rw [b1]; rfl)
          apply tm_run [23, 35] 80
          simp (disch := first | assumption | omega) only [↓reduceIte, tm_w_i, tm_w_0, Bool.false_eq_true, tm_gI_0, tm_gI_s, tm_gA_0, tm_gA_s, tm_fv_0, tm_fv_s, tm_p1_e, tm_pA_e, tm_pJ_e, tm_pV_i, tm_pV_r, tm_cI_e, tm_cZ_e, tm_cJ_e, tm_cQ_e, tm_cO_e, tm_rq_e, List.set_cons_zero, List.set_cons_succ, List.contains_cons, List.contains_nil, Nat.reduceBEq, Bool.or_false, Bool.false_or, Bool.or_true, Bool.true_or, Bool.or_self, cond_true, cond_false, true_and, and_true, or_true, true_or, true_implies, false_implies, not_true_eq_false, not_false_eq_true, List.length_cons, List.length_nil, Option.toList_some, Option.toList_none, List.cons_append, List.nil_append, ws_R_turn_0, ws_R_turn_1, ws_R_turn_2, ws_R_turn_5, ws_R_turn_8, ws_R_turn_9, ws_R_turn_12, ws_R_turn_13, ws_R_turn_16, ws_R_turn_19, ws_R_turn_20, ws_R_turn_21, ws_R_turn_22, ws_R_turn_23, ws_R_turn_24, ws_R_turn_25, ws_R_turn_28, ws_R_turn_29, ws_R_turn_30, ws_R_turn_33, ws_R_turn_34, ws_R_turn_35, ws_R_turn_36, ws_R_turn_37, ws_R_turn_40, ws_R_turn_41, ws_R_turn_42, ws_R_turn_43, ws_R_turn_44, ws_R_turn_45, ws_R_turn_46, ws_R_turn_47, ws_R_turn_48, ws_R_turn_51, ws_R_turn_54, ws_R_turn_55, ws_R_turn_58, ws_R_turn_59, ws_R_turn_62, ws_R_turn_65, ws_R_turn_68, ws_R_turn_71, ws_R_turn_74, ws_R_turn_75, ws_R_turn_76, ws_R_turn_79, tm_up_s, tm_up_n, tm_up_up, nI_leI, nI_ltI, nI_eq, nI_cl, nI_in', ix_1shl, ix_or, ix_xor, nI_1, bI_0, bI_1, bI_F, pk_us, pk_un, bI_f]
          exact this
    have outer : ∀ (k v : Nat) (x : Option Value) (H : tm_Hp), v + k = S.1 j → H 27 = tm_o 5 [.int 0, .ref 28, .ref 29, .ref 30, .ref 31, .ref 32, .int l, .ref 33, .int ol, .ref 34, .ref 35, .ref 36, .ref 37] → gYs H → (∀ k, k < 27 ∨ 38 ≤ k → H k = h k) → gYd (gPut S j (S.1 j) (S.2.1 j) (gTo (S.2.2 j) v)) H →
        tm_T M_R_turn 20 0 (gPq h (.inl (nI (gEd (S.1 j) (gTn (S.1 j) (S.2.2 j)))), gPut S j (S.1 j) (S.2.1 j) (gTn (S.1 j) (S.2.2 j)))) 0 23 [some (.ref 27), some (.int (nI j)), some (.int (nI v)), x] [] H := by
      intro k
      induction k with
      | zero =>
        intro v x H hv H27 Hs Hf Hd
        obtain rfl : v = S.1 j := by omega
        have Hd2 := Hd.eq hj (cc' := S.2.1 j) (nb' := gTn (S.1 j) (S.2.2 j)) (fun _ _ => rfl) (fun v hv => gTo_tn hok hv)
        obtain ⟨sz, y1, y2, y3⟩ := Hd2.sz hj
        rw [gPut_1] at y2
        have hed := c_R_edges (g := j) H27 Hd2 hj
        rw [gPut_1, gPut_3] at hed
        apply tm_run [23, 35] 80
        simp (disch := first | assumption | omega) only [↓reduceIte, tm_w_i, tm_w_0, Bool.false_eq_true, tm_gI_0, tm_gI_s, tm_gA_0, tm_gA_s, tm_fv_0, tm_fv_s, tm_p1_e, tm_pA_e, tm_pJ_e, tm_pV_i, tm_pV_r, tm_cI_e, tm_cZ_e, tm_cJ_e, tm_cQ_e, tm_cO_e, tm_rq_e, List.set_cons_zero, List.set_cons_succ, List.contains_cons, List.contains_nil, Nat.reduceBEq, Bool.or_false, Bool.false_or, Bool.or_true, Bool.true_or, Bool.or_self, cond_true, cond_false, true_and, and_true, or_true, true_or, true_implies, false_implies, not_true_eq_false, not_false_eq_true, List.length_cons, List.length_nil, Option.toList_some, Option.toList_none, List.cons_append, List.nil_append, ws_R_turn_0, ws_R_turn_1, ws_R_turn_2, ws_R_turn_5, ws_R_turn_8, ws_R_turn_9, ws_R_turn_12, ws_R_turn_13, ws_R_turn_16, ws_R_turn_19, ws_R_turn_20, ws_R_turn_21, ws_R_turn_22, ws_R_turn_23, ws_R_turn_24, ws_R_turn_25, ws_R_turn_28, ws_R_turn_29, ws_R_turn_30, ws_R_turn_33, ws_R_turn_34, ws_R_turn_35, ws_R_turn_36, ws_R_turn_37, ws_R_turn_40, ws_R_turn_41, ws_R_turn_42, ws_R_turn_43, ws_R_turn_44, ws_R_turn_45, ws_R_turn_46, ws_R_turn_47, ws_R_turn_48, ws_R_turn_51, ws_R_turn_54, ws_R_turn_55, ws_R_turn_58, ws_R_turn_59, ws_R_turn_62, ws_R_turn_65, ws_R_turn_68, ws_R_turn_71, ws_R_turn_74, ws_R_turn_75, ws_R_turn_76, ws_R_turn_79, tm_up_s, tm_up_n, tm_up_up, nI_leI, nI_ltI, nI_eq, nI_cl, nI_in', ix_1shl, ix_or, ix_xor, nI_1, bI_0, bI_1, bI_F, pk_us, pk_un, H27, y1, y2, Nat.le_refl]
        refine kd_R_turn_76 H27 (Nat.le_of_ble_eq_true rfl) (by omega) (by omega) hed ?_
        apply tm_run [23, 35] 80
        simp (disch := first | assumption | omega) only [↓reduceIte, tm_w_i, tm_w_0, Bool.false_eq_true, tm_gI_0, tm_gI_s, tm_gA_0, tm_gA_s, tm_fv_0, tm_fv_s, tm_p1_e, tm_pA_e, tm_pJ_e, tm_pV_i, tm_pV_r, tm_cI_e, tm_cZ_e, tm_cJ_e, tm_cQ_e, tm_cO_e, tm_rq_e, List.set_cons_zero, List.set_cons_succ, List.contains_cons, List.contains_nil, Nat.reduceBEq, Bool.or_false, Bool.false_or, Bool.or_true, Bool.true_or, Bool.or_self, cond_true, cond_false, true_and, and_true, or_true, true_or, true_implies, false_implies, not_true_eq_false, not_false_eq_true, List.length_cons, List.length_nil, Option.toList_some, Option.toList_none, List.cons_append, List.nil_append, ws_R_turn_0, ws_R_turn_1, ws_R_turn_2, ws_R_turn_5, ws_R_turn_8, ws_R_turn_9, ws_R_turn_12, ws_R_turn_13, ws_R_turn_16, ws_R_turn_19, ws_R_turn_20, ws_R_turn_21, ws_R_turn_22, ws_R_turn_23, ws_R_turn_24, ws_R_turn_25, ws_R_turn_28, ws_R_turn_29, ws_R_turn_30, ws_R_turn_33, ws_R_turn_34, ws_R_turn_35, ws_R_turn_36, ws_R_turn_37, ws_R_turn_40, ws_R_turn_41, ws_R_turn_42, ws_R_turn_43, ws_R_turn_44, ws_R_turn_45, ws_R_turn_46, ws_R_turn_47, ws_R_turn_48, ws_R_turn_51, ws_R_turn_54, ws_R_turn_55, ws_R_turn_58, ws_R_turn_59, ws_R_turn_62, ws_R_turn_65, ws_R_turn_68, ws_R_turn_71, ws_R_turn_74, ws_R_turn_75, ws_R_turn_76, ws_R_turn_79, tm_up_s, tm_up_n, tm_up_up, nI_leI, nI_ltI, nI_eq, nI_cl, nI_in', ix_1shl, ix_or, ix_xor, nI_1, bI_0, bI_1, bI_F, pk_us, pk_un]
        exact gPq.yes ⟨⟨l, ol, H27⟩, Hd2, Hs⟩ Hf
      | succ k ih =>
        intro v x H hv H27 Hs Hf Hd
        have hlt : ¬ S.1 j ≤ v := by omega
        obtain ⟨sz, y1, y2, y3⟩ := Hd.sz hj
        rw [gPut_1] at y2
        apply tm_run [23, 35] 80
        simp (disch := first | assumption | omega) only [↓reduceIte, tm_w_i, tm_w_0, Bool.false_eq_true, tm_gI_0, tm_gI_s, tm_gA_0, tm_gA_s, tm_fv_0, tm_fv_s, tm_p1_e, tm_pA_e, tm_pJ_e, tm_pV_i, tm_pV_r, tm_cI_e, tm_cZ_e, tm_cJ_e, tm_cQ_e, tm_cO_e, tm_rq_e, List.set_cons_zero, List.set_cons_succ, List.contains_cons, List.contains_nil, Nat.reduceBEq, Bool.or_false, Bool.false_or, Bool.or_true, Bool.true_or, Bool.or_self, cond_true, cond_false, true_and, and_true, or_true, true_or, true_implies, false_implies, not_true_eq_false, not_false_eq_true, List.length_cons, List.length_nil, Option.toList_some, Option.toList_none, List.cons_append, List.nil_append, ws_R_turn_0, ws_R_turn_1, ws_R_turn_2, ws_R_turn_5, ws_R_turn_8, ws_R_turn_9, ws_R_turn_12, ws_R_turn_13, ws_R_turn_16, ws_R_turn_19, ws_R_turn_20, ws_R_turn_21, ws_R_turn_22, ws_R_turn_23, ws_R_turn_24, ws_R_turn_25, ws_R_turn_28, ws_R_turn_29, ws_R_turn_30, ws_R_turn_33, ws_R_turn_34, ws_R_turn_35, ws_R_turn_36, ws_R_turn_37, ws_R_turn_40, ws_R_turn_41, ws_R_turn_42, ws_R_turn_43, ws_R_turn_44, ws_R_turn_45, ws_R_turn_46, ws_R_turn_47, ws_R_turn_48, ws_R_turn_51, ws_R_turn_54, ws_R_turn_55, ws_R_turn_58, ws_R_turn_59, ws_R_turn_62, ws_R_turn_65, ws_R_turn_68, ws_R_turn_71, ws_R_turn_74, ws_R_turn_75, ws_R_turn_76, ws_R_turn_79, tm_up_s, tm_up_n, tm_up_up, nI_leI, nI_ltI, nI_eq, nI_cl, nI_in', ix_1shl, ix_or, ix_xor, nI_1, bI_0, bI_1, bI_F, pk_us, pk_un, H27, y1, y2, hlt]
        exact inner v v 0 (gTo (S.2.2 j) v) H (by omega) (by omega) H27 Hs Hf Hd (fun H H27 Hs Hf Hd => ih (v + 1) _ H (by omega) H27 Hs Hf Hd)
    refine outer (S.1 j) 0 none _ (by omega) (tm_up_s _ _ _) (hs.fr (fun k h1 h2 => tm_up_n (by omega))) (fun k hk => tm_up_n (by omega)) ?_
    rw [gTo, gPut_self]
    exact hd.fr (fun k hk => tm_up_n (by omega))
end CD
