section BL
variable {h : tm_Hp} {p a b n q x1 x2 : Nat} {cc nb C : Nat → Nat} {e1 e2 : Nat → Int32}
theorem g_and_lt {x y : Nat} (hx : x < 128) : x &&& y < 128 := Nat.lt_of_le_of_lt Nat.and_le_left hx
set_option maxRecDepth 20000 in
theorem l_P_agree {Q : tm_O → tm_Hp → Prop} {v w : Nat} (hg : gG h p a b n cc nb) (hq : h q = tm_o 4 [.ref x1, .ref x2]) (h1 : h x1 = tm_i 7 e1) (hC : gM n e1 C) (hv : v < n) (hw : w < n) (hQ : Q (.inl (some (.int (bI (gAg n nb C v w))))) h) :
    ∀ k u y1 y2, u + k = n → gAll (fun u => gpc (nb v &&& C u) == gpc (nb w &&& C u)) u = true → tm_T M_P_agree 1 0 Q 0 3 [some (.ref q), some (.ref p), some (.int (nI v)), some (.int (nI w)), some (.int (nI u)), y1, y2] [] h := by
  obtain ⟨c, f, hp, ha, hb, hc, hf, hok⟩ := hg
  have hn := hok.1
  intro k
  induction k with
  | zero =>
    intro u y1 y2 hu hi
    obtain rfl : u = n := by omega
    unfold gAg at hQ
    rw [hi] at hQ
    apply tm_run [3] 80
    simp (disch := first | assumption | omega) only [↓reduceIte, tm_w_i, tm_w_0, Bool.false_eq_true, tm_gI_0, tm_gI_s, tm_gA_0, tm_gA_s, tm_fv_0, tm_fv_s, tm_p1_e, tm_pA_e, tm_pJ_e, tm_pV_i, tm_pV_r, tm_cI_e, tm_cZ_e, tm_cJ_e, tm_cQ_e, tm_cO_e, tm_rq_e, List.set_cons_zero, List.set_cons_succ, List.contains_cons, List.contains_nil, Nat.reduceBEq, Bool.or_false, Bool.false_or, Bool.or_true, Bool.true_or, Bool.or_self, cond_true, cond_false, true_and, and_true, or_true, true_or, true_implies, false_implies, not_true_eq_false, not_false_eq_true, List.length_cons, List.length_nil, Option.toList_some, Option.toList_none, List.cons_append, List.nil_append, ws_P_agree_0, ws_P_agree_1, ws_P_agree_3, ws_P_agree_5, ws_P_agree_6, ws_P_agree_9, ws_P_agree_12, ws_P_agree_13, ws_P_agree_16, ws_P_agree_17, ws_P_agree_18, ws_P_agree_19, ws_P_agree_22, ws_P_agree_24, ws_P_agree_25, ws_P_agree_26, ws_P_agree_29, ws_P_agree_31, ws_P_agree_32, ws_P_agree_35, ws_P_agree_36, ws_P_agree_37, ws_P_agree_38, ws_P_agree_41, ws_P_agree_43, ws_P_agree_44, ws_P_agree_45, ws_P_agree_48, ws_P_agree_50, ws_P_agree_52, ws_P_agree_54, ws_P_agree_57, ws_P_agree_58, ws_P_agree_59, ws_P_agree_62, ws_P_agree_65, ws_P_agree_66, tm_up_s, tm_up_n, tm_up_up, nI_leI, nI_ltI, nI_eq, nI_cl, nI_in', ix_1shl, ix_or, ix_xor, nI_1, bI_0, bI_1, bI_F, pk_us, pk_un, hp, Nat.le_refl]
    exact hQ
  | succ k ih =>
    intro u y1 y2 hu hi
    have hlt : ¬ n ≤ u := by omega
    obtain ⟨a1, a2⟩ := hf v hv
    obtain ⟨a3, a4⟩ := hf w hw
    obtain ⟨a5, a6⟩ := hC u (by omega)
    apply tm_run [3] 80
    simp (disch := first | assumption | omega) only [↓reduceIte, tm_w_i, tm_w_0, Bool.false_eq_true, tm_gI_0, tm_gI_s, tm_gA_0, tm_gA_s, tm_fv_0, tm_fv_s, tm_p1_e, tm_pA_e, tm_pJ_e, tm_pV_i, tm_pV_r, tm_cI_e, tm_cZ_e, tm_cJ_e, tm_cQ_e, tm_cO_e, tm_rq_e, List.set_cons_zero, List.set_cons_succ, List.contains_cons, List.contains_nil, Nat.reduceBEq, Bool.or_false, Bool.false_or, Bool.or_true, Bool.true_or, Bool.or_self, cond_true, cond_false, true_and, and_true, or_true, true_or, true_implies, false_implies, not_true_eq_false, not_false_eq_true, List.length_cons, List.length_nil, Option.toList_some, Option.toList_none, List.cons_append, List.nil_append, ws_P_agree_0, ws_P_agree_1, ws_P_agree_3, ws_P_agree_5, ws_P_agree_6, ws_P_agree_9, ws_P_agree_12, ws_P_agree_13, ws_P_agree_16, ws_P_agree_17, ws_P_agree_18, ws_P_agree_19, ws_P_agree_22, ws_P_agree_24, ws_P_agree_25, ws_P_agree_26, ws_P_agree_29, ws_P_agree_31, ws_P_agree_32, ws_P_agree_35, ws_P_agree_36, ws_P_agree_37, ws_P_agree_38, ws_P_agree_41, ws_P_agree_43, ws_P_agree_44, ws_P_agree_45, ws_P_agree_48, ws_P_agree_50, ws_P_agree_52, ws_P_agree_54, ws_P_agree_57, ws_P_agree_58, ws_P_agree_59, ws_P_agree_62, ws_P_agree_65, ws_P_agree_66, tm_up_s, tm_up_n, tm_up_up, nI_leI, nI_ltI, nI_eq, nI_cl, nI_in', ix_1shl, ix_or, ix_xor, nI_1, bI_0, bI_1, bI_F, pk_us, pk_un, hp, hq, h1, hb, hlt, a1, a3, a5, ix_and]
    refine kd_P_agree_26 (Nat.le_of_ble_eq_true rfl) (by omega) (by omega) (c_I_bitCount (g_and_lt a2)) ?_
    apply tm_run [3] 80
    simp (disch := first | assumption | omega) only [↓reduceIte, tm_w_i, tm_w_0, Bool.false_eq_true, tm_gI_0, tm_gI_s, tm_gA_0, tm_gA_s, tm_fv_0, tm_fv_s, tm_p1_e, tm_pA_e, tm_pJ_e, tm_pV_i, tm_pV_r, tm_cI_e, tm_cZ_e, tm_cJ_e, tm_cQ_e, tm_cO_e, tm_rq_e, List.set_cons_zero, List.set_cons_succ, List.contains_cons, List.contains_nil, Nat.reduceBEq, Bool.or_false, Bool.false_or, Bool.or_true, Bool.true_or, Bool.or_self, cond_true, cond_false, true_and, and_true, or_true, true_or, true_implies, false_implies, not_true_eq_false, not_false_eq_true, List.length_cons, List.length_nil, Option.toList_some, Option.toList_none, List.cons_append, List.nil_append, ws_P_agree_0, ws_P_agree_1, ws_P_agree_3, ws_P_agree_5, ws_P_agree_6, ws_P_agree_9, ws_P_agree_12, ws_P_agree_13, ws_P_agree_16, ws_P_agree_17, ws_P_agree_18, ws_P_agree_19, ws_P_agree_22, ws_P_agree_24, ws_P_agree_25, ws_P_agree_26, ws_P_agree_29, ws_P_agree_31, ws_P_agree_32, ws_P_agree_35, ws_P_agree_36, ws_P_agree_37, ws_P_agree_38, ws_P_agree_41, ws_P_agree_43, ws_P_agree_44, ws_P_agree_45, ws_P_agree_48, ws_P_agree_50, ws_P_agree_52, ws_P_agree_54, ws_P_agree_57, ws_P_agree_58, ws_P_agree_59, ws_P_agree_62, ws_P_agree_65, ws_P_agree_66, tm_up_s, tm_up_n, tm_up_up, nI_leI, nI_ltI, nI_eq, nI_cl, nI_in', ix_1shl, ix_or, ix_xor, nI_1, bI_0, bI_1, bI_F, pk_us, pk_un, hp, hq, h1, hb, hlt, a1, a3, a5, ix_and]
    refine kd_P_agree_45 (Nat.le_of_ble_eq_true rfl) (by omega) (by omega) (c_I_bitCount (g_and_lt a4)) ?_
    have l1 := gpc_le (nb v &&& C u)
    have l2 := gpc_le (nb w &&& C u)
    apply tm_run [3] 80
    simp (disch := first | assumption | omega) only [↓reduceIte, tm_w_i, tm_w_0, Bool.false_eq_true, tm_gI_0, tm_gI_s, tm_gA_0, tm_gA_s, tm_fv_0, tm_fv_s, tm_p1_e, tm_pA_e, tm_pJ_e, tm_pV_i, tm_pV_r, tm_cI_e, tm_cZ_e, tm_cJ_e, tm_cQ_e, tm_cO_e, tm_rq_e, List.set_cons_zero, List.set_cons_succ, List.contains_cons, List.contains_nil, Nat.reduceBEq, Bool.or_false, Bool.false_or, Bool.or_true, Bool.true_or, Bool.or_self, cond_true, cond_false, true_and, and_true, or_true, true_or, true_implies, false_implies, not_true_eq_false, not_false_eq_true, List.length_cons, List.length_nil, Option.toList_some, Option.toList_none, List.cons_append, List.nil_append, ws_P_agree_0, ws_P_agree_1, ws_P_agree_3, ws_P_agree_5, ws_P_agree_6, ws_P_agree_9, ws_P_agree_12, ws_P_agree_13, ws_P_agree_16, ws_P_agree_17, ws_P_agree_18, ws_P_agree_19, ws_P_agree_22, ws_P_agree_24, ws_P_agree_25, ws_P_agree_26, ws_P_agree_29, ws_P_agree_31, ws_P_agree_32, ws_P_agree_35, ws_P_agree_36, ws_P_agree_37, ws_P_agree_38, ws_P_agree_41, ws_P_agree_43, ws_P_agree_44, ws_P_agree_45, ws_P_agree_48, ws_P_agree_50, ws_P_agree_52, ws_P_agree_54, ws_P_agree_57, ws_P_agree_58, ws_P_agree_59, ws_P_agree_62, ws_P_agree_65, ws_P_agree_66, tm_up_s, tm_up_n, tm_up_up, nI_leI, nI_ltI, nI_eq, nI_cl, nI_in', ix_1shl, ix_or, ix_xor, nI_1, bI_0, bI_1, bI_F, pk_us, pk_un, hp, hq, h1, hb, hlt, a1, a3, a5, ix_and]
    refine ⟨fun e => ih (u + 1) _ _ (by omega) ?_, fun e => ?_⟩
    · rw [gAll, hi]
      simp [e]
    · have : gAg n nb C v w = false := gAll_f (i := u) (by omega) (by simpa using e)
      rw [this] at hQ
      exact hQ
set_option maxRecDepth 20000 in
theorem c_P_agree {v w : Nat} (hg : gG h p a b n cc nb) (hq : h q = tm_o 4 [.ref x1, .ref x2]) (h1 : h x1 = tm_i 7 e1) (hC : gM n e1 C) (hv : v < n) (hw : w < n) :
    tm_C M_P_agree 1 0 [.ref q, .ref p, .int (nI v), .int (nI w)] h (fun z k => z = .inl (some (.int (bI (gAg n nb C v w)))) ∧ k = h) := by
  refine tm_C.by (L := [some (.ref q), some (.ref p), some (.int (nI v)), some (.int (nI w)), none, none, none]) rfl rfl rfl rfl rfl ?_
  apply tm_run [3] 80
  simp (disch := first | assumption | omega) only [↓reduceIte, tm_w_i, tm_w_0, Bool.false_eq_true, tm_gI_0, tm_gI_s, tm_gA_0, tm_gA_s, tm_fv_0, tm_fv_s, tm_p1_e, tm_pA_e, tm_pJ_e, tm_pV_i, tm_pV_r, tm_cI_e, tm_cZ_e, tm_cJ_e, tm_cQ_e, tm_cO_e, tm_rq_e, List.set_cons_zero, List.set_cons_succ, List.contains_cons, List.contains_nil, Nat.reduceBEq, Bool.or_false, Bool.false_or, Bool.or_true, Bool.true_or, Bool.or_self, cond_true, cond_false, true_and, and_true, or_true, true_or, true_implies, false_implies, not_true_eq_false, not_false_eq_true, List.length_cons, List.length_nil, Option.toList_some, Option.toList_none, List.cons_append, List.nil_append, ws_P_agree_0, ws_P_agree_1, ws_P_agree_3, ws_P_agree_5, ws_P_agree_6, ws_P_agree_9, ws_P_agree_12, ws_P_agree_13, ws_P_agree_16, ws_P_agree_17, ws_P_agree_18, ws_P_agree_19, ws_P_agree_22, ws_P_agree_24, ws_P_agree_25, ws_P_agree_26, ws_P_agree_29, ws_P_agree_31, ws_P_agree_32, ws_P_agree_35, ws_P_agree_36, ws_P_agree_37, ws_P_agree_38, ws_P_agree_41, ws_P_agree_43, ws_P_agree_44, ws_P_agree_45, ws_P_agree_48, ws_P_agree_50, ws_P_agree_52, ws_P_agree_54, ws_P_agree_57, ws_P_agree_58, ws_P_agree_59, ws_P_agree_62, ws_P_agree_65, ws_P_agree_66, tm_up_s, tm_up_n, tm_up_up, nI_leI, nI_ltI, nI_eq, nI_cl, nI_in', ix_1shl, ix_or, ix_xor, nI_1, bI_0, bI_1, bI_F, pk_us, pk_un]
  exact l_P_agree hg hq h1 hC hv hw ⟨rfl, rfl⟩ n 0 _ _ (by omega) rfl
set_option maxRecDepth 20000 in
theorem l_P_agreeing {Q : tm_O → tm_Hp → Prop} {v : Nat} (hg : gG h p a b n cc nb) (hq : h q = tm_o 4 [.ref x1, .ref x2]) (h1 : h x1 = tm_i 7 e1) (hC : gM n e1 C) (hv : v < n) (hQ : Q (.inl (some (.int (nI (gRf n nb C v))))) h) :
    ∀ k w, w + k = n → tm_T M_P_agreeing 2 0 Q 0 5 [some (.ref q), some (.ref p), some (.int (nI v)), some (.int (nI (gMk (fun w => (C v).testBit w && gAg n nb C v w) w))), some (.int (nI w))] [] h := by
  have hg0 := hg
  obtain ⟨c, f, hp, ha, hb, hc, hf, hok⟩ := hg
  have hn := hok.1
  intro k
  induction k with
  | zero =>
    intro w hw
    obtain rfl : w = n := by omega
    apply tm_run [5] 80
    simp (disch := first | assumption | omega) only [↓reduceIte, tm_w_i, tm_w_0, Bool.false_eq_true, tm_gI_0, tm_gI_s, tm_gA_0, tm_gA_s, tm_fv_0, tm_fv_s, tm_p1_e, tm_pA_e, tm_pJ_e, tm_pV_i, tm_pV_r, tm_cI_e, tm_cZ_e, tm_cJ_e, tm_cQ_e, tm_cO_e, tm_rq_e, List.set_cons_zero, List.set_cons_succ, List.contains_cons, List.contains_nil, Nat.reduceBEq, Bool.or_false, Bool.false_or, Bool.or_true, Bool.true_or, Bool.or_self, cond_true, cond_false, true_and, and_true, or_true, true_or, true_implies, false_implies, not_true_eq_false, not_false_eq_true, List.length_cons, List.length_nil, Option.toList_some, Option.toList_none, List.cons_append, List.nil_append, ws_P_agreeing_0, ws_P_agreeing_1, ws_P_agreeing_2, ws_P_agreeing_3, ws_P_agreeing_5, ws_P_agreeing_7, ws_P_agreeing_8, ws_P_agreeing_11, ws_P_agreeing_14, ws_P_agreeing_15, ws_P_agreeing_18, ws_P_agreeing_19, ws_P_agreeing_20, ws_P_agreeing_22, ws_P_agreeing_25, ws_P_agreeing_28, ws_P_agreeing_29, ws_P_agreeing_30, ws_P_agreeing_31, ws_P_agreeing_33, ws_P_agreeing_36, ws_P_agreeing_39, ws_P_agreeing_40, ws_P_agreeing_41, ws_P_agreeing_43, ws_P_agreeing_44, ws_P_agreeing_45, ws_P_agreeing_46, ws_P_agreeing_49, ws_P_agreeing_52, ws_P_agreeing_53, tm_up_s, tm_up_n, tm_up_up, nI_leI, nI_ltI, nI_eq, nI_cl, nI_in', ix_1shl, ix_or, ix_xor, nI_1, bI_0, bI_1, bI_F, pk_us, pk_un, hp, Nat.le_refl]
    exact hQ
  | succ k ih =>
    intro w hw
    have hlt : ¬ n ≤ w := by omega
    obtain ⟨a1, a2⟩ := hC v hv
    have := ih (w + 1) (by omega)
    rw [gMk_step] at this
    apply tm_run [5] 80
    simp (disch := first | assumption | omega) only [↓reduceIte, tm_w_i, tm_w_0, Bool.false_eq_true, tm_gI_0, tm_gI_s, tm_gA_0, tm_gA_s, tm_fv_0, tm_fv_s, tm_p1_e, tm_pA_e, tm_pJ_e, tm_pV_i, tm_pV_r, tm_cI_e, tm_cZ_e, tm_cJ_e, tm_cQ_e, tm_cO_e, tm_rq_e, List.set_cons_zero, List.set_cons_succ, List.contains_cons, List.contains_nil, Nat.reduceBEq, Bool.or_false, Bool.false_or, Bool.or_true, Bool.true_or, Bool.or_self, cond_true, cond_false, true_and, and_true, or_true, true_or, true_implies, false_implies, not_true_eq_false, not_false_eq_true, List.length_cons, List.length_nil, Option.toList_some, Option.toList_none, List.cons_append, List.nil_append, ws_P_agreeing_0, ws_P_agreeing_1, ws_P_agreeing_2, ws_P_agreeing_3, ws_P_agreeing_5, ws_P_agreeing_7, ws_P_agreeing_8, ws_P_agreeing_11, ws_P_agreeing_14, ws_P_agreeing_15, ws_P_agreeing_18, ws_P_agreeing_19, ws_P_agreeing_20, ws_P_agreeing_22, ws_P_agreeing_25, ws_P_agreeing_28, ws_P_agreeing_29, ws_P_agreeing_30, ws_P_agreeing_31, ws_P_agreeing_33, ws_P_agreeing_36, ws_P_agreeing_39, ws_P_agreeing_40, ws_P_agreeing_41, ws_P_agreeing_43, ws_P_agreeing_44, ws_P_agreeing_45, ws_P_agreeing_46, ws_P_agreeing_49, ws_P_agreeing_52, ws_P_agreeing_53, tm_up_s, tm_up_n, tm_up_up, nI_leI, nI_ltI, nI_eq, nI_cl, nI_in', ix_1shl, ix_or, ix_xor, nI_1, bI_0, bI_1, bI_F, pk_us, pk_un, hp, hq, h1, hlt, a1]
    refine kd_P_agreeing_22 (Nat.le_of_ble_eq_true rfl) (by omega) (by omega) (c_N_contains (by omega) (by omega)) ?_
    cases b1 : (C v).testBit w with
    | false =>
      rw [b1, Bool.false_and] at this
      apply tm_run [5] 80
      simp (disch := first | assumption | omega) only [↓reduceIte, tm_w_i, tm_w_0, Bool.false_eq_true, tm_gI_0, tm_gI_s, tm_gA_0, tm_gA_s, tm_fv_0, tm_fv_s, tm_p1_e, tm_pA_e, tm_pJ_e, tm_pV_i, tm_pV_r, tm_cI_e, tm_cZ_e, tm_cJ_e, tm_cQ_e, tm_cO_e, tm_rq_e, List.set_cons_zero, List.set_cons_succ, List.contains_cons, List.contains_nil, Nat.reduceBEq, Bool.or_false, Bool.false_or, Bool.or_true, Bool.true_or, Bool.or_self, cond_true, cond_false, true_and, and_true, or_true, true_or, true_implies, false_implies, not_true_eq_false, not_false_eq_true, List.length_cons, List.length_nil, Option.toList_some, Option.toList_none, List.cons_append, List.nil_append, ws_P_agreeing_0, ws_P_agreeing_1, ws_P_agreeing_2, ws_P_agreeing_3, ws_P_agreeing_5, ws_P_agreeing_7, ws_P_agreeing_8, ws_P_agreeing_11, ws_P_agreeing_14, ws_P_agreeing_15, ws_P_agreeing_18, ws_P_agreeing_19, ws_P_agreeing_20, ws_P_agreeing_22, ws_P_agreeing_25, ws_P_agreeing_28, ws_P_agreeing_29, ws_P_agreeing_30, ws_P_agreeing_31, ws_P_agreeing_33, ws_P_agreeing_36, ws_P_agreeing_39, ws_P_agreeing_40, ws_P_agreeing_41, ws_P_agreeing_43, ws_P_agreeing_44, ws_P_agreeing_45, ws_P_agreeing_46, ws_P_agreeing_49, ws_P_agreeing_52, ws_P_agreeing_53, tm_up_s, tm_up_n, tm_up_up, nI_leI, nI_ltI, nI_eq, nI_cl, nI_in', ix_1shl, ix_or, ix_xor, nI_1, bI_0, bI_1, bI_F, pk_us, pk_un, bI_f]
      exact this
    | true =>
      rw [b1, Bool.true_and] at this
      have e8 : ¬ bI true = 0 := by decide
      apply tm_run [5] 80
      simp (disch := first | assumption | omega) only [↓reduceIte, tm_w_i, tm_w_0, Bool.false_eq_true, tm_gI_0, tm_gI_s, tm_gA_0, tm_gA_s, tm_fv_0, tm_fv_s, tm_p1_e, tm_pA_e, tm_pJ_e, tm_pV_i, tm_pV_r, tm_cI_e, tm_cZ_e, tm_cJ_e, tm_cQ_e, tm_cO_e, tm_rq_e, List.set_cons_zero, List.set_cons_succ, List.contains_cons, List.contains_nil, Nat.reduceBEq, Bool.or_false, Bool.false_or, Bool.or_true, Bool.true_or, Bool.or_self, cond_true, cond_false, true_and, and_true, or_true, true_or, true_implies, false_implies, not_true_eq_false, not_false_eq_true, List.length_cons, List.length_nil, Option.toList_some, Option.toList_none, List.cons_append, List.nil_append, ws_P_agreeing_0, ws_P_agreeing_1, ws_P_agreeing_2, ws_P_agreeing_3, ws_P_agreeing_5, ws_P_agreeing_7, ws_P_agreeing_8, ws_P_agreeing_11, ws_P_agreeing_14, ws_P_agreeing_15, ws_P_agreeing_18, ws_P_agreeing_19, ws_P_agreeing_20, ws_P_agreeing_22, ws_P_agreeing_25, ws_P_agreeing_28, ws_P_agreeing_29, ws_P_agreeing_30, ws_P_agreeing_31, ws_P_agreeing_33, ws_P_agreeing_36, ws_P_agreeing_39, ws_P_agreeing_40, ws_P_agreeing_41, ws_P_agreeing_43, ws_P_agreeing_44, ws_P_agreeing_45, ws_P_agreeing_46, ws_P_agreeing_49, ws_P_agreeing_52, ws_P_agreeing_53, tm_up_s, tm_up_n, tm_up_up, nI_leI, nI_ltI, nI_eq, nI_cl, nI_in', ix_1shl, ix_or, ix_xor, nI_1, bI_0, bI_1, bI_F, pk_us, pk_un, e8]
      refine kd_P_agreeing_33 hq (Nat.le_of_ble_eq_true rfl) (by omega) (by omega) (c_P_agree hg0 hq h1 hC hv (by omega)) ?_
      cases b2 : gAg n nb C v w with
      | false =>
        rw [b2] at this
        apply tm_run [5] 80
        simp (disch := first | assumption | omega) only [↓reduceIte, tm_w_i, tm_w_0, Bool.false_eq_true, tm_gI_0, tm_gI_s, tm_gA_0, tm_gA_s, tm_fv_0, tm_fv_s, tm_p1_e, tm_pA_e, tm_pJ_e, tm_pV_i, tm_pV_r, tm_cI_e, tm_cZ_e, tm_cJ_e, tm_cQ_e, tm_cO_e, tm_rq_e, List.set_cons_zero, List.set_cons_succ, List.contains_cons, List.contains_nil, Nat.reduceBEq, Bool.or_false, Bool.false_or, Bool.or_true, Bool.true_or, Bool.or_self, cond_true, cond_false, true_and, and_true, or_true, true_or, true_implies, false_implies, not_true_eq_false, not_false_eq_true, List.length_cons, List.length_nil, Option.toList_some, Option.toList_none, List.cons_append, List.nil_append, ws_P_agreeing_0, ws_P_agreeing_1, ws_P_agreeing_2, ws_P_agreeing_3, ws_P_agreeing_5, ws_P_agreeing_7, ws_P_agreeing_8, ws_P_agreeing_11, ws_P_agreeing_14, ws_P_agreeing_15, ws_P_agreeing_18, ws_P_agreeing_19, ws_P_agreeing_20, ws_P_agreeing_22, ws_P_agreeing_25, ws_P_agreeing_28, ws_P_agreeing_29, ws_P_agreeing_30, ws_P_agreeing_31, ws_P_agreeing_33, ws_P_agreeing_36, ws_P_agreeing_39, ws_P_agreeing_40, ws_P_agreeing_41, ws_P_agreeing_43, ws_P_agreeing_44, ws_P_agreeing_45, ws_P_agreeing_46, ws_P_agreeing_49, ws_P_agreeing_52, ws_P_agreeing_53, tm_up_s, tm_up_n, tm_up_up, nI_leI, nI_ltI, nI_eq, nI_cl, nI_in', ix_1shl, ix_or, ix_xor, nI_1, bI_0, bI_1, bI_F, pk_us, pk_un, bI_f]
        exact this
      | true =>
        rw [b2] at this
        apply tm_run [5] 80
        simp (disch := first | assumption | omega) only [↓reduceIte, tm_w_i, tm_w_0, Bool.false_eq_true, tm_gI_0, tm_gI_s, tm_gA_0, tm_gA_s, tm_fv_0, tm_fv_s, tm_p1_e, tm_pA_e, tm_pJ_e, tm_pV_i, tm_pV_r, tm_cI_e, tm_cZ_e, tm_cJ_e, tm_cQ_e, tm_cO_e, tm_rq_e, List.set_cons_zero, List.set_cons_succ, List.contains_cons, List.contains_nil, Nat.reduceBEq, Bool.or_false, Bool.false_or, Bool.or_true, Bool.true_or, Bool.or_self, cond_true, cond_false, true_and, and_true, or_true, true_or, true_implies, false_implies, not_true_eq_false, not_false_eq_true, List.length_cons, List.length_nil, Option.toList_some, Option.toList_none, List.cons_append, List.nil_append, ws_P_agreeing_0, ws_P_agreeing_1, ws_P_agreeing_2, ws_P_agreeing_3, ws_P_agreeing_5, ws_P_agreeing_7, ws_P_agreeing_8, ws_P_agreeing_11, ws_P_agreeing_14, ws_P_agreeing_15, ws_P_agreeing_18, ws_P_agreeing_19, ws_P_agreeing_20, ws_P_agreeing_22, ws_P_agreeing_25, ws_P_agreeing_28, ws_P_agreeing_29, ws_P_agreeing_30, ws_P_agreeing_31, ws_P_agreeing_33, ws_P_agreeing_36, ws_P_agreeing_39, ws_P_agreeing_40, ws_P_agreeing_41, ws_P_agreeing_43, ws_P_agreeing_44, ws_P_agreeing_45, ws_P_agreeing_46, ws_P_agreeing_49, ws_P_agreeing_52, ws_P_agreeing_53, tm_up_s, tm_up_n, tm_up_up, nI_leI, nI_ltI, nI_eq, nI_cl, nI_in', ix_1shl, ix_or, ix_xor, nI_1, bI_0, bI_1, bI_F, pk_us, pk_un, e8]
        exact this
set_option maxRecDepth 20000 in
theorem c_P_agreeing {v : Nat} (hg : gG h p a b n cc nb) (hq : h q = tm_o 4 [.ref x1, .ref x2]) (h1 : h x1 = tm_i 7 e1) (hC : gM n e1 C) (hv : v < n) :
    tm_C M_P_agreeing 2 0 [.ref q, .ref p, .int (nI v)] h (fun z k => z = .inl (some (.int (nI (gRf n nb C v)))) ∧ k = h) := by
  refine tm_C.by (L := [some (.ref q), some (.ref p), some (.int (nI v)), none, none]) rfl rfl rfl rfl rfl ?_
  apply tm_run [5] 80
  simp (disch := first | assumption | omega) only [↓reduceIte, tm_w_i, tm_w_0, Bool.false_eq_true, tm_gI_0, tm_gI_s, tm_gA_0, tm_gA_s, tm_fv_0, tm_fv_s, tm_p1_e, tm_pA_e, tm_pJ_e, tm_pV_i, tm_pV_r, tm_cI_e, tm_cZ_e, tm_cJ_e, tm_cQ_e, tm_cO_e, tm_rq_e, List.set_cons_zero, List.set_cons_succ, List.contains_cons, List.contains_nil, Nat.reduceBEq, Bool.or_false, Bool.false_or, Bool.or_true, Bool.true_or, Bool.or_self, cond_true, cond_false, true_and, and_true, or_true, true_or, true_implies, false_implies, not_true_eq_false, not_false_eq_true, List.length_cons, List.length_nil, Option.toList_some, Option.toList_none, List.cons_append, List.nil_append, ws_P_agreeing_0, ws_P_agreeing_1, ws_P_agreeing_2, ws_P_agreeing_3, ws_P_agreeing_5, ws_P_agreeing_7, ws_P_agreeing_8, ws_P_agreeing_11, ws_P_agreeing_14, ws_P_agreeing_15, ws_P_agreeing_18, ws_P_agreeing_19, ws_P_agreeing_20, ws_P_agreeing_22, ws_P_agreeing_25, ws_P_agreeing_28, ws_P_agreeing_29, ws_P_agreeing_30, ws_P_agreeing_31, ws_P_agreeing_33, ws_P_agreeing_36, ws_P_agreeing_39, ws_P_agreeing_40, ws_P_agreeing_41, ws_P_agreeing_43, ws_P_agreeing_44, ws_P_agreeing_45, ws_P_agreeing_46, ws_P_agreeing_49, ws_P_agreeing_52, ws_P_agreeing_53, tm_up_s, tm_up_n, tm_up_up, nI_leI, nI_ltI, nI_eq, nI_cl, nI_in', ix_1shl, ix_or, ix_xor, nI_1, bI_0, bI_1, bI_F, pk_us, pk_un]
  exact l_P_agreeing hg hq h1 hC hv ⟨rfl, rfl⟩ n 0 (by omega)
theorem gRf_lt {v : Nat} (hn : n ≤ 7) : gRf n nb C v < 128 := gMk_lt' hn
set_option maxRecDepth 20000 in
theorem l_P_refine {Q : tm_O → tm_Hp → Prop} (hg : gG h p a b n cc nb) (hq : h q = tm_o 4 [.ref x1, .ref x2]) (h1 : h x1 = tm_i 7 e1) (hC : gM n e1 C) (hK : x2 < tm_K) (n1 : x2 ≠ p) (n2 : x2 ≠ a) (n3 : x2 ≠ b) (n4 : x2 ≠ q) (n5 : x2 ≠ x1)
    (hQ : Q (.inl (some (.int (bI (!gAll (fun v => gRf n nb C v == C v) n))))) (tm_up (tm_up h x2 (tm_i 7 (gPr (fun v => nI (gRf n nb C v)) e2 n))) q (tm_o 4 [.ref x2, .ref x1]))) :
    ∀ k v, v + k = n → tm_T M_P_refine 3 0 Q 0 4 [some (.ref q), some (.ref p), some (.int (bI (!gAll (fun v => gRf n nb C v == C v) v))), some (.int (nI v))] [] (tm_up h x2 (tm_i 7 (gPr (fun v => nI (gRf n nb C v)) e2 v))) := by
  have hg0 := hg
  obtain ⟨c, f, hp, ha, hb, hc, hf, hok⟩ := hg
  have hn := hok.1
  intro k
  induction k with
  | zero =>
    intro v hv
    obtain rfl : v = n := by omega
    apply tm_run [4] 80
    simp (disch := first | assumption | omega) only [↓reduceIte, tm_w_i, tm_w_0, Bool.false_eq_true, tm_gI_0, tm_gI_s, tm_gA_0, tm_gA_s, tm_fv_0, tm_fv_s, tm_p1_e, tm_pA_e, tm_pJ_e, tm_pV_i, tm_pV_r, tm_cI_e, tm_cZ_e, tm_cJ_e, tm_cQ_e, tm_cO_e, tm_rq_e, List.set_cons_zero, List.set_cons_succ, List.contains_cons, List.contains_nil, Nat.reduceBEq, Bool.or_false, Bool.false_or, Bool.or_true, Bool.true_or, Bool.or_self, cond_true, cond_false, true_and, and_true, or_true, true_or, true_implies, false_implies, not_true_eq_false, not_false_eq_true, List.length_cons, List.length_nil, Option.toList_some, Option.toList_none, List.cons_append, List.nil_append, ws_P_refine_0, ws_P_refine_1, ws_P_refine_2, ws_P_refine_3, ws_P_refine_4, ws_P_refine_5, ws_P_refine_6, ws_P_refine_9, ws_P_refine_12, ws_P_refine_13, ws_P_refine_16, ws_P_refine_17, ws_P_refine_18, ws_P_refine_19, ws_P_refine_20, ws_P_refine_23, ws_P_refine_24, ws_P_refine_25, ws_P_refine_28, ws_P_refine_29, ws_P_refine_30, ws_P_refine_31, ws_P_refine_34, ws_P_refine_35, ws_P_refine_36, ws_P_refine_39, ws_P_refine_40, ws_P_refine_41, ws_P_refine_44, ws_P_refine_47, ws_P_refine_48, ws_P_refine_51, ws_P_refine_52, ws_P_refine_53, ws_P_refine_54, ws_P_refine_57, ws_P_refine_60, ws_P_refine_61, ws_P_refine_62, ws_P_refine_65, ws_P_refine_66, tm_up_s, tm_up_n, tm_up_up, nI_leI, nI_ltI, nI_eq, nI_cl, nI_in', ix_1shl, ix_or, ix_xor, nI_1, bI_0, bI_1, bI_F, pk_us, pk_un, hp, hq, Nat.le_refl]
    first | exact hQ | exact ⟨by decide, hQ⟩ | exact ⟨by decide, by decide, hQ⟩
  | succ k ih =>
    intro v hv
    have hlt : ¬ n ≤ v := by omega
    obtain ⟨a1, a2⟩ := hC v (by omega)
    have a3 : gRf n nb C v < 128 := gRf_lt hn
    apply tm_run [4] 80
    simp (disch := first | assumption | omega) only [↓reduceIte, tm_w_i, tm_w_0, Bool.false_eq_true, tm_gI_0, tm_gI_s, tm_gA_0, tm_gA_s, tm_fv_0, tm_fv_s, tm_p1_e, tm_pA_e, tm_pJ_e, tm_pV_i, tm_pV_r, tm_cI_e, tm_cZ_e, tm_cJ_e, tm_cQ_e, tm_cO_e, tm_rq_e, List.set_cons_zero, List.set_cons_succ, List.contains_cons, List.contains_nil, Nat.reduceBEq, Bool.or_false, Bool.false_or, Bool.or_true, Bool.true_or, Bool.or_self, cond_true, cond_false, true_and, and_true, or_true, true_or, true_implies, false_implies, not_true_eq_false, not_false_eq_true, List.length_cons, List.length_nil, Option.toList_some, Option.toList_none, List.cons_append, List.nil_append, ws_P_refine_0, ws_P_refine_1, ws_P_refine_2, ws_P_refine_3, ws_P_refine_4, ws_P_refine_5, ws_P_refine_6, ws_P_refine_9, ws_P_refine_12, ws_P_refine_13, ws_P_refine_16, ws_P_refine_17, ws_P_refine_18, ws_P_refine_19, ws_P_refine_20, ws_P_refine_23, ws_P_refine_24, ws_P_refine_25, ws_P_refine_28, ws_P_refine_29, ws_P_refine_30, ws_P_refine_31, ws_P_refine_34, ws_P_refine_35, ws_P_refine_36, ws_P_refine_39, ws_P_refine_40, ws_P_refine_41, ws_P_refine_44, ws_P_refine_47, ws_P_refine_48, ws_P_refine_51, ws_P_refine_52, ws_P_refine_53, ws_P_refine_54, ws_P_refine_57, ws_P_refine_60, ws_P_refine_61, ws_P_refine_62, ws_P_refine_65, ws_P_refine_66, tm_up_s, tm_up_n, tm_up_up, nI_leI, nI_ltI, nI_eq, nI_cl, nI_in', ix_1shl, ix_or, ix_xor, nI_1, bI_0, bI_1, bI_F, pk_us, pk_un, hp, hq, hlt]
    refine kd_P_refine_20 (tm_up_n n4.symm |>.trans hq) (Nat.le_of_ble_eq_true rfl) (by omega) (by omega) (c_P_agreeing (hg0.up n1 n2 n3) (tm_up_n n4.symm |>.trans hq) (tm_up_n n5.symm |>.trans h1) hC (by omega)) ?_
    have := ih (v + 1) (by omega)
    rw [← gPr_upd] at this
    apply tm_run [4] 80
    simp (disch := first | assumption | omega) only [↓reduceIte, tm_w_i, tm_w_0, Bool.false_eq_true, tm_gI_0, tm_gI_s, tm_gA_0, tm_gA_s, tm_fv_0, tm_fv_s, tm_p1_e, tm_pA_e, tm_pJ_e, tm_pV_i, tm_pV_r, tm_cI_e, tm_cZ_e, tm_cJ_e, tm_cQ_e, tm_cO_e, tm_rq_e, List.set_cons_zero, List.set_cons_succ, List.contains_cons, List.contains_nil, Nat.reduceBEq, Bool.or_false, Bool.false_or, Bool.or_true, Bool.true_or, Bool.or_self, cond_true, cond_false, true_and, and_true, or_true, true_or, true_implies, false_implies, not_true_eq_false, not_false_eq_true, List.length_cons, List.length_nil, Option.toList_some, Option.toList_none, List.cons_append, List.nil_append, ws_P_refine_0, ws_P_refine_1, ws_P_refine_2, ws_P_refine_3, ws_P_refine_4, ws_P_refine_5, ws_P_refine_6, ws_P_refine_9, ws_P_refine_12, ws_P_refine_13, ws_P_refine_16, ws_P_refine_17, ws_P_refine_18, ws_P_refine_19, ws_P_refine_20, ws_P_refine_23, ws_P_refine_24, ws_P_refine_25, ws_P_refine_28, ws_P_refine_29, ws_P_refine_30, ws_P_refine_31, ws_P_refine_34, ws_P_refine_35, ws_P_refine_36, ws_P_refine_39, ws_P_refine_40, ws_P_refine_41, ws_P_refine_44, ws_P_refine_47, ws_P_refine_48, ws_P_refine_51, ws_P_refine_52, ws_P_refine_53, ws_P_refine_54, ws_P_refine_57, ws_P_refine_60, ws_P_refine_61, ws_P_refine_62, ws_P_refine_65, ws_P_refine_66, tm_up_s, tm_up_n, tm_up_up, nI_leI, nI_ltI, nI_eq, nI_cl, nI_in', ix_1shl, ix_or, ix_xor, nI_1, bI_0, bI_1, bI_F, pk_us, pk_un, hp, hq, h1, hlt, hK, a1]
    refine ⟨fun e => ?_, fun e => ?_⟩
    · have e' : (gRf n nb C v == C v) = true := by simpa using e
      rw [gAll, e', Bool.and_true] at this
      exact this
    · have e' : (gRf n nb C v == C v) = false := by simpa using e
      rw [gAll, e'] at this
      simpa [bI] using this
set_option maxRecDepth 20000 in
theorem c_P_refine (hg : gG h p a b n cc nb) (hq : h q = tm_o 4 [.ref x1, .ref x2]) (h1 : h x1 = tm_i 7 e1) (h2 : h x2 = tm_i 7 e2) (hC : gM n e1 C) (hK : x2 < tm_K) (n1 : x2 ≠ p) (n2 : x2 ≠ a) (n3 : x2 ≠ b) (n4 : x2 ≠ q) (n5 : x2 ≠ x1) :
    tm_C M_P_refine 3 0 [.ref q, .ref p] h (fun z k => z = .inl (some (.int (bI (!gAll (fun v => gRf n nb C v == C v) n)))) ∧ k = tm_up (tm_up h x2 (tm_i 7 (gPr (fun v => nI (gRf n nb C v)) e2 n))) q (tm_o 4 [.ref x2, .ref x1])) := by
  refine tm_C.by (L := [some (.ref q), some (.ref p), none, none]) rfl rfl rfl rfl rfl ?_
  apply tm_run [4] 80
  simp (disch := first | assumption | omega) only [↓reduceIte, tm_w_i, tm_w_0, Bool.false_eq_true, tm_gI_0, tm_gI_s, tm_gA_0, tm_gA_s, tm_fv_0, tm_fv_s, tm_p1_e, tm_pA_e, tm_pJ_e, tm_pV_i, tm_pV_r, tm_cI_e, tm_cZ_e, tm_cJ_e, tm_cQ_e, tm_cO_e, tm_rq_e, List.set_cons_zero, List.set_cons_succ, List.contains_cons, List.contains_nil, Nat.reduceBEq, Bool.or_false, Bool.false_or, Bool.or_true, Bool.true_or, Bool.or_self, cond_true, cond_false, true_and, and_true, or_true, true_or, true_implies, false_implies, not_true_eq_false, not_false_eq_true, List.length_cons, List.length_nil, Option.toList_some, Option.toList_none, List.cons_append, List.nil_append, ws_P_refine_0, ws_P_refine_1, ws_P_refine_2, ws_P_refine_3, ws_P_refine_4, ws_P_refine_5, ws_P_refine_6, ws_P_refine_9, ws_P_refine_12, ws_P_refine_13, ws_P_refine_16, ws_P_refine_17, ws_P_refine_18, ws_P_refine_19, ws_P_refine_20, ws_P_refine_23, ws_P_refine_24, ws_P_refine_25, ws_P_refine_28, ws_P_refine_29, ws_P_refine_30, ws_P_refine_31, ws_P_refine_34, ws_P_refine_35, ws_P_refine_36, ws_P_refine_39, ws_P_refine_40, ws_P_refine_41, ws_P_refine_44, ws_P_refine_47, ws_P_refine_48, ws_P_refine_51, ws_P_refine_52, ws_P_refine_53, ws_P_refine_54, ws_P_refine_57, ws_P_refine_60, ws_P_refine_61, ws_P_refine_62, ws_P_refine_65, ws_P_refine_66, tm_up_s, tm_up_n, tm_up_up, nI_leI, nI_ltI, nI_eq, nI_cl, nI_in', ix_1shl, ix_or, ix_xor, nI_1, bI_0, bI_1, bI_F, pk_us, pk_un]
  have := l_P_refine (e2 := e2) (Q := fun z k => z = .inl (some (.int (bI (!gAll (fun v => gRf n nb C v == C v) n)))) ∧ k = tm_up (tm_up h x2 (tm_i 7 (gPr (fun v => nI (gRf n nb C v)) e2 n))) q (tm_o 4 [.ref x2, .ref x1])) hg hq h1 hC hK n1 n2 n3 n4 n5 ⟨rfl, rfl⟩ n 0 (by omega)
  rw [gPr_0, tm_up_id h2] at this
  exact this
/-- what the parting holds: the masks C, whichever way its arrays stand -/
def gPw (n q x1 x2 : Nat) (C : Nat → Nat) (h : tm_Hp) : Prop := ∃ y1 y2 e1 e2, (y1 = x1 ∧ y2 = x2 ∨ y1 = x2 ∧ y2 = x1) ∧ h q = tm_o 4 [.ref y1, .ref y2] ∧ h y1 = tm_i 7 e1 ∧ h y2 = tm_i 7 e2 ∧ gM n e1 C
def gPf (q x1 x2 : Nat) (h0 h : tm_Hp) : Prop := ∀ k, k ≠ q → k ≠ x1 → k ≠ x2 → h k = h0 k
theorem gG.fr {h h' : tm_Hp} (hk : ∀ k, k = p ∨ k = a ∨ k = b → h' k = h k) (g : gG h p a b n cc nb) : gG h' p a b n cc nb := by
  obtain ⟨c, f, g1, g2, g3, g4⟩ := g
  exact ⟨c, f, (hk p (Or.inl rfl)).trans g1, (hk a (Or.inr (Or.inl rfl))).trans g2, (hk b (Or.inr (Or.inr rfl))).trans g3, g4⟩
set_option maxRecDepth 20000 in
theorem l_P_find2 {h0 : tm_Hp} (hg : gG h0 p a b n cc nb) (hK1 : x1 < tm_K) (hK2 : x2 < tm_K) (m1 : x1 ≠ p) (m2 : x1 ≠ a) (m3 : x1 ≠ b) (m4 : x1 ≠ q) (n1 : x2 ≠ p) (n2 : x2 ≠ a) (n3 : x2 ≠ b) (n4 : x2 ≠ q) (n5 : x1 ≠ x2) (n6 : q ≠ p) (n7 : q ≠ a) (n8 : q ≠ b) :
    ∀ k r (t : Bool) h, r + k = n → gPf q x1 x2 h0 h → gPw n q x1 x2 (gIt n cc nb r) h → (t = false → ∀ v, v < n → gIt n cc nb r v = gCe n cc nb v) →
      tm_T M_P_find 4 0 (fun z h => z = .inl none ∧ gPf q x1 x2 h0 h ∧ gPw n q x1 x2 (gCe n cc nb) h) 0 36 [some (.ref q), some (.ref p), some (.int (bI t)), some (.int (nI r))] [] h := by
  have hok : gOk n cc nb := by obtain ⟨_, _, _, _, _, _, _, q⟩ := hg; exact q
  have hn := hok.1
  have fin : ∀ r h, gPf q x1 x2 h0 h → gPw n q x1 x2 (gIt n cc nb r) h → (∀ v, v < n → gIt n cc nb r v = gCe n cc nb v) → gPf q x1 x2 h0 h ∧ gPw n q x1 x2 (gCe n cc nb) h := by
    rintro r h hf ⟨y1, y2, e1, e2, w1, w2, w3, w4, w5⟩ e
    exact ⟨hf, y1, y2, e1, e2, w1, w2, w3, w4, fun i hi => by rw [← e i hi]; exact w5 i hi⟩
  have hgg : ∀ h, gPf q x1 x2 h0 h → gG h p a b n cc nb := fun h hf => hg.fr (fun k hk => hf k (by omega) (by omega) (by omega))
  intro k
  induction k with
  | zero =>
    intro r t h hr hf hw ht
    obtain rfl : r = n := by omega
    obtain ⟨c, f, hp, ha, hb, _⟩ := hgg h hf
    have := fin r h hf hw (fun v hv => rfl)
    apply tm_run [36] 80
    simp (disch := first | assumption | omega) only [↓reduceIte, tm_w_i, tm_w_0, Bool.false_eq_true, tm_gI_0, tm_gI_s, tm_gA_0, tm_gA_s, tm_fv_0, tm_fv_s, tm_p1_e, tm_pA_e, tm_pJ_e, tm_pV_i, tm_pV_r, tm_cI_e, tm_cZ_e, tm_cJ_e, tm_cQ_e, tm_cO_e, tm_rq_e, List.set_cons_zero, List.set_cons_succ, List.contains_cons, List.contains_nil, Nat.reduceBEq, Bool.or_false, Bool.false_or, Bool.or_true, Bool.true_or, Bool.or_self, cond_true, cond_false, true_and, and_true, or_true, true_or, true_implies, false_implies, not_true_eq_false, not_false_eq_true, List.length_cons, List.length_nil, Option.toList_some, Option.toList_none, List.cons_append, List.nil_append, ws_P_find_0, ws_P_find_1, ws_P_find_2, ws_P_find_3, ws_P_find_4, ws_P_find_7, ws_P_find_10, ws_P_find_11, ws_P_find_14, ws_P_find_15, ws_P_find_16, ws_P_find_17, ws_P_find_20, ws_P_find_21, ws_P_find_22, ws_P_find_25, ws_P_find_26, ws_P_find_29, ws_P_find_32, ws_P_find_33, ws_P_find_34, ws_P_find_35, ws_P_find_36, ws_P_find_37, ws_P_find_40, ws_P_find_41, ws_P_find_42, ws_P_find_45, ws_P_find_48, ws_P_find_49, ws_P_find_50, ws_P_find_53, ws_P_find_54, ws_P_find_57, ws_P_find_60, tm_up_s, tm_up_n, tm_up_up, nI_leI, nI_ltI, nI_eq, nI_cl, nI_in', ix_1shl, ix_or, ix_xor, nI_1, bI_0, bI_1, bI_F, pk_us, pk_un, hp, Nat.le_refl]
    first | exact fun _ => this | exact this | exact ⟨fun _ => this, fun _ => this⟩
  | succ k ih =>
    intro r t h hr hf hw ht
    have hlt : ¬ n ≤ r := by omega
    have hgh := hgg h hf
    obtain ⟨c, f, hp, ha, hb, _⟩ := hgg h hf
    cases t with
    | false =>
      have := fin r h hf hw (ht rfl)
      apply tm_run [36] 80
      simp (disch := first | assumption | omega) only [↓reduceIte, tm_w_i, tm_w_0, Bool.false_eq_true, tm_gI_0, tm_gI_s, tm_gA_0, tm_gA_s, tm_fv_0, tm_fv_s, tm_p1_e, tm_pA_e, tm_pJ_e, tm_pV_i, tm_pV_r, tm_cI_e, tm_cZ_e, tm_cJ_e, tm_cQ_e, tm_cO_e, tm_rq_e, List.set_cons_zero, List.set_cons_succ, List.contains_cons, List.contains_nil, Nat.reduceBEq, Bool.or_false, Bool.false_or, Bool.or_true, Bool.true_or, Bool.or_self, cond_true, cond_false, true_and, and_true, or_true, true_or, true_implies, false_implies, not_true_eq_false, not_false_eq_true, List.length_cons, List.length_nil, Option.toList_some, Option.toList_none, List.cons_append, List.nil_append, ws_P_find_0, ws_P_find_1, ws_P_find_2, ws_P_find_3, ws_P_find_4, ws_P_find_7, ws_P_find_10, ws_P_find_11, ws_P_find_14, ws_P_find_15, ws_P_find_16, ws_P_find_17, ws_P_find_20, ws_P_find_21, ws_P_find_22, ws_P_find_25, ws_P_find_26, ws_P_find_29, ws_P_find_32, ws_P_find_33, ws_P_find_34, ws_P_find_35, ws_P_find_36, ws_P_find_37, ws_P_find_40, ws_P_find_41, ws_P_find_42, ws_P_find_45, ws_P_find_48, ws_P_find_49, ws_P_find_50, ws_P_find_53, ws_P_find_54, ws_P_find_57, ws_P_find_60, tm_up_s, tm_up_n, tm_up_up, nI_leI, nI_ltI, nI_eq, nI_cl, nI_in', ix_1shl, ix_or, ix_xor, nI_1, bI_0, bI_1, bI_F, pk_us, pk_un, bI_f]
      exact this
    | true =>
      have e8 : ¬ bI true = 0 := by decide
      obtain ⟨y1, y2, e1, e2, w1, w2, w3, w4, w5⟩ := hw
      apply tm_run [36] 80
      simp (disch := first | assumption | omega) only [↓reduceIte, tm_w_i, tm_w_0, Bool.false_eq_true, tm_gI_0, tm_gI_s, tm_gA_0, tm_gA_s, tm_fv_0, tm_fv_s, tm_p1_e, tm_pA_e, tm_pJ_e, tm_pV_i, tm_pV_r, tm_cI_e, tm_cZ_e, tm_cJ_e, tm_cQ_e, tm_cO_e, tm_rq_e, List.set_cons_zero, List.set_cons_succ, List.contains_cons, List.contains_nil, Nat.reduceBEq, Bool.or_false, Bool.false_or, Bool.or_true, Bool.true_or, Bool.or_self, cond_true, cond_false, true_and, and_true, or_true, true_or, true_implies, false_implies, not_true_eq_false, not_false_eq_true, List.length_cons, List.length_nil, Option.toList_some, Option.toList_none, List.cons_append, List.nil_append, ws_P_find_0, ws_P_find_1, ws_P_find_2, ws_P_find_3, ws_P_find_4, ws_P_find_7, ws_P_find_10, ws_P_find_11, ws_P_find_14, ws_P_find_15, ws_P_find_16, ws_P_find_17, ws_P_find_20, ws_P_find_21, ws_P_find_22, ws_P_find_25, ws_P_find_26, ws_P_find_29, ws_P_find_32, ws_P_find_33, ws_P_find_34, ws_P_find_35, ws_P_find_36, ws_P_find_37, ws_P_find_40, ws_P_find_41, ws_P_find_42, ws_P_find_45, ws_P_find_48, ws_P_find_49, ws_P_find_50, ws_P_find_53, ws_P_find_54, ws_P_find_57, ws_P_find_60, tm_up_s, tm_up_n, tm_up_up, nI_leI, nI_ltI, nI_eq, nI_cl, nI_in', ix_1shl, ix_or, ix_xor, nI_1, bI_0, bI_1, bI_F, pk_us, pk_un, e8, hp, hlt]
      refine kd_P_find_50 w2 (Nat.le_of_ble_eq_true rfl) (by omega) (by omega) (c_P_refine (e2 := e2) hgh w2 w3 w4 w5 (by omega) (by omega) (by omega) (by omega) (by omega) (by omega)) ?_
      apply tm_run [36] 80
      simp (disch := first | assumption | omega) only [↓reduceIte, tm_w_i, tm_w_0, Bool.false_eq_true, tm_gI_0, tm_gI_s, tm_gA_0, tm_gA_s, tm_fv_0, tm_fv_s, tm_p1_e, tm_pA_e, tm_pJ_e, tm_pV_i, tm_pV_r, tm_cI_e, tm_cZ_e, tm_cJ_e, tm_cQ_e, tm_cO_e, tm_rq_e, List.set_cons_zero, List.set_cons_succ, List.contains_cons, List.contains_nil, Nat.reduceBEq, Bool.or_false, Bool.false_or, Bool.or_true, Bool.true_or, Bool.or_self, cond_true, cond_false, true_and, and_true, or_true, true_or, true_implies, false_implies, not_true_eq_false, not_false_eq_true, List.length_cons, List.length_nil, Option.toList_some, Option.toList_none, List.cons_append, List.nil_append, ws_P_find_0, ws_P_find_1, ws_P_find_2, ws_P_find_3, ws_P_find_4, ws_P_find_7, ws_P_find_10, ws_P_find_11, ws_P_find_14, ws_P_find_15, ws_P_find_16, ws_P_find_17, ws_P_find_20, ws_P_find_21, ws_P_find_22, ws_P_find_25, ws_P_find_26, ws_P_find_29, ws_P_find_32, ws_P_find_33, ws_P_find_34, ws_P_find_35, ws_P_find_36, ws_P_find_37, ws_P_find_40, ws_P_find_41, ws_P_find_42, ws_P_find_45, ws_P_find_48, ws_P_find_49, ws_P_find_50, ws_P_find_53, ws_P_find_54, ws_P_find_57, ws_P_find_60, tm_up_s, tm_up_n, tm_up_up, nI_leI, nI_ltI, nI_eq, nI_cl, nI_in', ix_1shl, ix_or, ix_xor, nI_1, bI_0, bI_1, bI_F, pk_us, pk_un]
      refine ih (r + 1) _ _ (by omega) (fun k a1 a2 a3 => ?_) ⟨y2, y1, gPr (fun v => nI (gRf n nb (gIt n cc nb r) v)) e2 n, e1, by omega, tm_up_s _ _ _, ?_, ?_, fun i hi => ⟨gPr_in hi, gRf_lt hn⟩⟩ (fun q => ?_)
      · rw [tm_up_n a1, tm_up_n (by omega)]
        exact hf k a1 a2 a3
      · rw [tm_up_n (by omega), tm_up_s]
      · rw [tm_up_n (by omega), tm_up_n (by omega)]
        exact w3
      · have q' : gAll (fun v => gRf n nb (gIt n cc nb r) v == gIt n cc nb r v) n = true := by simpa using q
        have e : ∀ v, v < n → gIt n cc nb (r + 1) v = gIt n cc nb r v := fun v hv => beq_iff_eq.mp (gAll_iff.mp q' v hv)
        intro v hv
        rw [e v hv]
        exact gIt_ce e v hv
set_option maxRecDepth 20000 in
theorem c_P_find (hg : gG h p a b n cc nb) (hw : gPw 0 q x1 x2 C h) (hK1 : x1 < tm_K) (hK2 : x2 < tm_K) (m1 : x1 ≠ p) (m2 : x1 ≠ a) (m3 : x1 ≠ b) (m4 : x1 ≠ q) (n1 : x2 ≠ p) (n2 : x2 ≠ a) (n3 : x2 ≠ b) (n4 : x2 ≠ q) (n5 : x1 ≠ x2) (n6 : q ≠ p) (n7 : q ≠ a) (n8 : q ≠ b) :
    tm_C M_P_find 4 0 [.ref q, .ref p] h (fun z h' => z = .inl none ∧ gPf q x1 x2 h h' ∧ gPw n q x1 x2 (gCe n cc nb) h') := by
  refine tm_C.by (L := [some (.ref q), some (.ref p), none, none]) rfl rfl rfl rfl rfl ?_
  have hg0 := hg
  obtain ⟨c, f, hp, ha, hb, hc, hf, hok⟩ := hg
  have hn := hok.1
  obtain ⟨y1, y2, e1, e2, w1, w2, w3, w4, _⟩ := hw
  apply tm_run [2] 80
  simp (disch := first | assumption | omega) only [↓reduceIte, tm_w_i, tm_w_0, Bool.false_eq_true, tm_gI_0, tm_gI_s, tm_gA_0, tm_gA_s, tm_fv_0, tm_fv_s, tm_p1_e, tm_pA_e, tm_pJ_e, tm_pV_i, tm_pV_r, tm_cI_e, tm_cZ_e, tm_cJ_e, tm_cQ_e, tm_cO_e, tm_rq_e, List.set_cons_zero, List.set_cons_succ, List.contains_cons, List.contains_nil, Nat.reduceBEq, Bool.or_false, Bool.false_or, Bool.or_true, Bool.true_or, Bool.or_self, cond_true, cond_false, true_and, and_true, or_true, true_or, true_implies, false_implies, not_true_eq_false, not_false_eq_true, List.length_cons, List.length_nil, Option.toList_some, Option.toList_none, List.cons_append, List.nil_append, ws_P_find_0, ws_P_find_1, ws_P_find_2, ws_P_find_3, ws_P_find_4, ws_P_find_7, ws_P_find_10, ws_P_find_11, ws_P_find_14, ws_P_find_15, ws_P_find_16, ws_P_find_17, ws_P_find_20, ws_P_find_21, ws_P_find_22, ws_P_find_25, ws_P_find_26, ws_P_find_29, ws_P_find_32, ws_P_find_33, ws_P_find_34, ws_P_find_35, ws_P_find_36, ws_P_find_37, ws_P_find_40, ws_P_find_41, ws_P_find_42, ws_P_find_45, ws_P_find_48, ws_P_find_49, ws_P_find_50, ws_P_find_53, ws_P_find_54, ws_P_find_57, ws_P_find_60, tm_up_s, tm_up_n, tm_up_up, nI_leI, nI_ltI, nI_eq, nI_cl, nI_in', ix_1shl, ix_or, ix_xor, nI_1, bI_0, bI_1, bI_F, pk_us, pk_un]
  have key : ∀ k v, v + k = n → tm_T M_P_find 4 0 (fun z h' => z = .inl none ∧ gPf q x1 x2 h h' ∧ gPw n q x1 x2 (gCe n cc nb) h') 0 2 [some (.ref q), some (.ref p), some (.int (nI v)), none] [] (tm_up h y1 (tm_i 7 (gPr (fun v => nI (gC0 n cc v)) e1 v))) := by
    intro k
    induction k with
    | zero =>
      intro v hv
      obtain rfl : v = n := by omega
      have j1 : y1 ≠ p := by omega
      apply tm_run [2, 36] 80
      simp (disch := first | assumption | omega) only [↓reduceIte, tm_w_i, tm_w_0, Bool.false_eq_true, tm_gI_0, tm_gI_s, tm_gA_0, tm_gA_s, tm_fv_0, tm_fv_s, tm_p1_e, tm_pA_e, tm_pJ_e, tm_pV_i, tm_pV_r, tm_cI_e, tm_cZ_e, tm_cJ_e, tm_cQ_e, tm_cO_e, tm_rq_e, List.set_cons_zero, List.set_cons_succ, List.contains_cons, List.contains_nil, Nat.reduceBEq, Bool.or_false, Bool.false_or, Bool.or_true, Bool.true_or, Bool.or_self, cond_true, cond_false, true_and, and_true, or_true, true_or, true_implies, false_implies, not_true_eq_false, not_false_eq_true, List.length_cons, List.length_nil, Option.toList_some, Option.toList_none, List.cons_append, List.nil_append, ws_P_find_0, ws_P_find_1, ws_P_find_2, ws_P_find_3, ws_P_find_4, ws_P_find_7, ws_P_find_10, ws_P_find_11, ws_P_find_14, ws_P_find_15, ws_P_find_16, ws_P_find_17, ws_P_find_20, ws_P_find_21, ws_P_find_22, ws_P_find_25, ws_P_find_26, ws_P_find_29, ws_P_find_32, ws_P_find_33, ws_P_find_34, ws_P_find_35, ws_P_find_36, ws_P_find_37, ws_P_find_40, ws_P_find_41, ws_P_find_42, ws_P_find_45, ws_P_find_48, ws_P_find_49, ws_P_find_50, ws_P_find_53, ws_P_find_54, ws_P_find_57, ws_P_find_60, tm_up_s, tm_up_n, tm_up_up, nI_leI, nI_ltI, nI_eq, nI_cl, nI_in', ix_1shl, ix_or, ix_xor, nI_1, bI_0, bI_1, bI_F, pk_us, pk_un, hp, Nat.le_refl]
      refine l_P_find2 hg0 hK1 hK2 m1 m2 m3 m4 n1 n2 n3 n4 n5 n6 n7 n8 v 0 true _ (by omega) (fun k a1 a2 a3 => tm_up_n (by omega)) ⟨y1, y2, _, e2, w1, (tm_up_n (by omega)).trans w2, tm_up_s _ _ _, (tm_up_n (by omega)).trans w4, fun i hi => ⟨gPr_in hi, gIt_lt (k := 0) hn hi⟩⟩ (fun q => nomatch q)
    | succ k ih =>
      intro v hv
      have hlt : ¬ n ≤ v := by omega
      have j1 : y1 ≠ p := by omega
      have j2 : y1 ≠ a := by omega
      have j3 : y1 ≠ q := by omega
      have j4 : y1 < tm_K := by omega
      obtain ⟨a1, a2⟩ := hc v (by omega)
      apply tm_run [2, 36] 80
      simp (disch := first | assumption | omega) only [↓reduceIte, tm_w_i, tm_w_0, Bool.false_eq_true, tm_gI_0, tm_gI_s, tm_gA_0, tm_gA_s, tm_fv_0, tm_fv_s, tm_p1_e, tm_pA_e, tm_pJ_e, tm_pV_i, tm_pV_r, tm_cI_e, tm_cZ_e, tm_cJ_e, tm_cQ_e, tm_cO_e, tm_rq_e, List.set_cons_zero, List.set_cons_succ, List.contains_cons, List.contains_nil, Nat.reduceBEq, Bool.or_false, Bool.false_or, Bool.or_true, Bool.true_or, Bool.or_self, cond_true, cond_false, true_and, and_true, or_true, true_or, true_implies, false_implies, not_true_eq_false, not_false_eq_true, List.length_cons, List.length_nil, Option.toList_some, Option.toList_none, List.cons_append, List.nil_append, ws_P_find_0, ws_P_find_1, ws_P_find_2, ws_P_find_3, ws_P_find_4, ws_P_find_7, ws_P_find_10, ws_P_find_11, ws_P_find_14, ws_P_find_15, ws_P_find_16, ws_P_find_17, ws_P_find_20, ws_P_find_21, ws_P_find_22, ws_P_find_25, ws_P_find_26, ws_P_find_29, ws_P_find_32, ws_P_find_33, ws_P_find_34, ws_P_find_35, ws_P_find_36, ws_P_find_37, ws_P_find_40, ws_P_find_41, ws_P_find_42, ws_P_find_45, ws_P_find_48, ws_P_find_49, ws_P_find_50, ws_P_find_53, ws_P_find_54, ws_P_find_57, ws_P_find_60, tm_up_s, tm_up_n, tm_up_up, nI_leI, nI_ltI, nI_eq, nI_cl, nI_in', ix_1shl, ix_or, ix_xor, nI_1, bI_0, bI_1, bI_F, pk_us, pk_un, hp, w2, ha, hlt, a1]
      refine kd_P_find_22 (tm_up_n j1.symm |>.trans hp) (Nat.le_of_ble_eq_true rfl) (by omega) (by omega) (c_G_coloured (cc := cc) a2 (tm_up_n j1.symm |>.trans hp) (tm_up_n j2.symm |>.trans ha) hn hc) ?_
      have := ih (v + 1) (by omega)
      rw [← gPr_upd] at this
      apply tm_run [2, 36] 80
      simp (disch := first | assumption | omega) only [↓reduceIte, tm_w_i, tm_w_0, Bool.false_eq_true, tm_gI_0, tm_gI_s, tm_gA_0, tm_gA_s, tm_fv_0, tm_fv_s, tm_p1_e, tm_pA_e, tm_pJ_e, tm_pV_i, tm_pV_r, tm_cI_e, tm_cZ_e, tm_cJ_e, tm_cQ_e, tm_cO_e, tm_rq_e, List.set_cons_zero, List.set_cons_succ, List.contains_cons, List.contains_nil, Nat.reduceBEq, Bool.or_false, Bool.false_or, Bool.or_true, Bool.true_or, Bool.or_self, cond_true, cond_false, true_and, and_true, or_true, true_or, true_implies, false_implies, not_true_eq_false, not_false_eq_true, List.length_cons, List.length_nil, Option.toList_some, Option.toList_none, List.cons_append, List.nil_append, ws_P_find_0, ws_P_find_1, ws_P_find_2, ws_P_find_3, ws_P_find_4, ws_P_find_7, ws_P_find_10, ws_P_find_11, ws_P_find_14, ws_P_find_15, ws_P_find_16, ws_P_find_17, ws_P_find_20, ws_P_find_21, ws_P_find_22, ws_P_find_25, ws_P_find_26, ws_P_find_29, ws_P_find_32, ws_P_find_33, ws_P_find_34, ws_P_find_35, ws_P_find_36, ws_P_find_37, ws_P_find_40, ws_P_find_41, ws_P_find_42, ws_P_find_45, ws_P_find_48, ws_P_find_49, ws_P_find_50, ws_P_find_53, ws_P_find_54, ws_P_find_57, ws_P_find_60, tm_up_s, tm_up_n, tm_up_up, nI_leI, nI_ltI, nI_eq, nI_cl, nI_in', ix_1shl, ix_or, ix_xor, nI_1, bI_0, bI_1, bI_F, pk_us, pk_un, j4]
      exact this
  have := key n 0 (by omega)
  rw [gPr_0, tm_up_id w3] at this
  exact this
end BL
